set_option maxRecDepth 100000 in
noncomputable def zs_229 (n : Nat) : List zSh := [.inl (10, n), zo_0, zo_1, zo_2, zo_3, zo_4, zo_5, zo_6, zo_115, zo_33, zo_11, zo_10, zo_14, zo_13, zo_17, zo_16, zo_20, zo_19, zo_23, zo_22, zo_26, zo_25, zo_29, zo_28, zo_32, zo_31, zo_50, zo_35, zo_10, zo_37, zo_13, zo_39, zo_16, zo_41, zo_19, zo_43, zo_22, zo_45, zo_25, zo_47, zo_28, zo_49, zo_31, zo_67, zo_52, zo_10, zo_54, zo_13, zo_56, zo_16, zo_58, zo_19, zo_60, zo_22, zo_62, zo_25, zo_64, zo_28, zo_66, zo_31, zo_78, zo_71, zo_70, zo_74, zo_73, zo_77, zo_76, zo_86, zo_82, zo_81, zo_85, zo_84, zo_91, zo_88, zo_89, zo_90, zo_98, zo_95, zo_94, zo_97, zo_13, zo_105, zo_100, zo_102, zo_90, zo_104, zo_16, zo_108, zo_107, zo_107, zo_107, zo_107, zo_111, zo_110, zo_110, zo_114, zo_113, .inr (11, [.inl (some 98), .inl (some 99), .inl (some 100), .inl (some 101), .inl (some 102), .inl (some 103), .inl (some 104), .inr 0, .inl (some 105), .inl (some 106), .inr 0, .inl (some 107), .inr 0, .inr 0, .inl (some 108), .inl (some 109), .inr 0, .inl (some 110), .inr 0, .inr 0, .inr 2, .inr 0, .inr 1, .inr 1, .inl (some 111), .inl (some 112), .inl (some 113), .inl (some 114), .inr 0, .inl (some 115), .inr 0, .inr 0, .inr 0, .inr 0, .inr 0, .inl (some 116), .inl (some 117), .inl (some 118), .inl none, .inl none, .inl none, .inr 0, .inr 0, .inr 0, .inr 0]), zo_116, zo_117, zo_118, zo_119, zo_90, zo_90, zo_90, zo_120, zo_120, zo_120, zo_121, zo_122, zo_90, zo_123, zo_123, zo_123, zo_124, zo_90, zo_107, zo_107, zo_107]
set_option maxRecDepth 100000 in
noncomputable def zs_230 (n : Nat) : List zSh := [.inl (10, n), zo_0, zo_1, zo_2, zo_3, zo_4, zo_5, zo_6, zo_115, zo_33, zo_11, zo_10, zo_14, zo_13, zo_17, zo_16, zo_20, zo_19, zo_23, zo_22, zo_26, zo_25, zo_29, zo_28, zo_32, zo_31, zo_50, zo_35, zo_10, zo_37, zo_13, zo_39, zo_16, zo_41, zo_19, zo_43, zo_22, zo_45, zo_25, zo_47, zo_28, zo_49, zo_31, zo_67, zo_52, zo_10, zo_54, zo_13, zo_56, zo_16, zo_58, zo_19, zo_60, zo_22, zo_62, zo_25, zo_64, zo_28, zo_66, zo_31, zo_78, zo_71, zo_70, zo_74, zo_73, zo_77, zo_76, zo_86, zo_82, zo_81, zo_85, zo_84, zo_91, zo_88, zo_89, zo_90, zo_98, zo_95, zo_94, zo_97, zo_13, zo_105, zo_100, zo_102, zo_90, zo_104, zo_16, zo_108, zo_107, zo_107, zo_107, zo_107, zo_111, zo_110, zo_110, zo_114, zo_113, .inr (11, [.inl (some 98), .inl (some 99), .inl (some 100), .inl (some 101), .inl (some 102), .inl (some 103), .inl (some 104), .inr 0, .inl (some 105), .inl (some 106), .inr 0, .inl (some 107), .inr 0, .inr 0, .inl (some 108), .inl (some 109), .inr 0, .inl (some 110), .inr 0, .inr 0, .inr 2, .inr 0, .inr 1, .inr 1, .inl (some 111), .inl (some 112), .inl (some 113), .inl (some 114), .inr 0, .inl (some 115), .inr 0, .inr 0, .inr 0, .inr 0, .inr 0, .inl (some 116), .inl (some 117), .inl (some 118), .inl none, .inl none, .inl none, .inr 0, .inr 0, .inr 0, .inr 0]), zo_116, zo_117, zo_118, zo_119, zo_90, zo_90, zo_90, zo_120, zo_120, zo_120, zo_121, zo_122, zo_90, zo_123, zo_123, zo_123, zo_124, zo_90, zo_107, zo_107, zo_107, zo_125]
set_option maxRecDepth 100000 in
noncomputable def zs_231 (n : Nat) : List zSh := [.inl (10, n), zo_0, zo_1, zo_2, zo_3, zo_4, zo_5, zo_6, zo_115, zo_33, zo_11, zo_10, zo_14, zo_13, zo_17, zo_16, zo_20, zo_19, zo_23, zo_22, zo_26, zo_25, zo_29, zo_28, zo_32, zo_31, zo_50, zo_35, zo_10, zo_37, zo_13, zo_39, zo_16, zo_41, zo_19, zo_43, zo_22, zo_45, zo_25, zo_47, zo_28, zo_49, zo_31, zo_67, zo_52, zo_10, zo_54, zo_13, zo_56, zo_16, zo_58, zo_19, zo_60, zo_22, zo_62, zo_25, zo_64, zo_28, zo_66, zo_31, zo_78, zo_71, zo_70, zo_74, zo_73, zo_77, zo_76, zo_86, zo_82, zo_81, zo_85, zo_84, zo_91, zo_88, zo_89, zo_90, zo_98, zo_95, zo_94, zo_97, zo_13, zo_105, zo_100, zo_102, zo_90, zo_104, zo_16, zo_108, zo_107, zo_107, zo_107, zo_107, zo_111, zo_110, zo_110, zo_114, zo_113, .inr (11, [.inl (some 98), .inl (some 99), .inl (some 100), .inl (some 101), .inl (some 102), .inl (some 103), .inl (some 104), .inr 0, .inl (some 105), .inl (some 106), .inr 0, .inl (some 107), .inr 0, .inr 0, .inl (some 108), .inl (some 109), .inr 0, .inl (some 110), .inr 0, .inr 0, .inr 2, .inr 0, .inr 1, .inr 1, .inl (some 111), .inl (some 112), .inl (some 113), .inl (some 114), .inr 0, .inl (some 115), .inr 0, .inr 0, .inr 0, .inr 0, .inr 0, .inl (some 116), .inl (some 117), .inl (some 118), .inl (some 119), .inl none, .inl none, .inr 0, .inr 0, .inr 0, .inr 0]), zo_116, zo_117, zo_118, zo_119, zo_90, zo_90, zo_90, zo_120, zo_120, zo_120, zo_121, zo_122, zo_90, zo_123, zo_123, zo_123, zo_124, zo_90, zo_107, zo_107, zo_107, zo_125]
set_option maxRecDepth 100000 in
noncomputable def zs_232 (n : Nat) : List zSh := [.inl (10, n), zo_0, zo_1, zo_2, zo_3, zo_4, zo_5, zo_6, zo_115, zo_33, zo_11, zo_10, zo_14, zo_13, zo_17, zo_16, zo_20, zo_19, zo_23, zo_22, zo_26, zo_25, zo_29, zo_28, zo_32, zo_31, zo_50, zo_35, zo_10, zo_37, zo_13, zo_39, zo_16, zo_41, zo_19, zo_43, zo_22, zo_45, zo_25, zo_47, zo_28, zo_49, zo_31, zo_67, zo_52, zo_10, zo_54, zo_13, zo_56, zo_16, zo_58, zo_19, zo_60, zo_22, zo_62, zo_25, zo_64, zo_28, zo_66, zo_31, zo_78, zo_71, zo_70, zo_74, zo_73, zo_77, zo_76, zo_86, zo_82, zo_81, zo_85, zo_84, zo_91, zo_88, zo_89, zo_90, zo_98, zo_95, zo_94, zo_97, zo_13, zo_105, zo_100, zo_102, zo_90, zo_104, zo_16, zo_108, zo_107, zo_107, zo_107, zo_107, zo_111, zo_110, zo_110, zo_114, zo_113, .inr (11, [.inl (some 98), .inl (some 99), .inl (some 100), .inl (some 101), .inl (some 102), .inl (some 103), .inl (some 104), .inr 0, .inl (some 105), .inl (some 106), .inr 0, .inl (some 107), .inr 0, .inr 0, .inl (some 108), .inl (some 109), .inr 0, .inl (some 110), .inr 0, .inr 0, .inr 2, .inr 0, .inr 1, .inr 1, .inl (some 111), .inl (some 112), .inl (some 113), .inl (some 114), .inr 0, .inl (some 115), .inr 0, .inr 0, .inr 0, .inr 0, .inr 0, .inl (some 116), .inl (some 117), .inl (some 118), .inl (some 119), .inl none, .inl none, .inr 0, .inr 0, .inr 0, .inr 0]), zo_116, zo_117, zo_118, zo_119, zo_90, zo_90, zo_90, zo_120, zo_120, zo_120, zo_121, zo_122, zo_90, zo_123, zo_123, zo_123, zo_124, zo_90, zo_107, zo_107, zo_107, zo_125, zo_126]
set_option maxRecDepth 100000 in
noncomputable def zs_233 (n : Nat) : List zSh := [.inl (10, n), zo_0, zo_1, zo_2, zo_3, zo_4, zo_5, zo_6, zo_115, zo_33, zo_11, zo_10, zo_14, zo_13, zo_17, zo_16, zo_20, zo_19, zo_23, zo_22, zo_26, zo_25, zo_29, zo_28, zo_32, zo_31, zo_50, zo_35, zo_10, zo_37, zo_13, zo_39, zo_16, zo_41, zo_19, zo_43, zo_22, zo_45, zo_25, zo_47, zo_28, zo_49, zo_31, zo_67, zo_52, zo_10, zo_54, zo_13, zo_56, zo_16, zo_58, zo_19, zo_60, zo_22, zo_62, zo_25, zo_64, zo_28, zo_66, zo_31, zo_78, zo_71, zo_70, zo_74, zo_73, zo_77, zo_76, zo_86, zo_82, zo_81, zo_85, zo_84, zo_91, zo_88, zo_89, zo_90, zo_98, zo_95, zo_94, zo_97, zo_13, zo_105, zo_100, zo_102, zo_90, zo_104, zo_16, zo_108, zo_107, zo_107, zo_107, zo_107, zo_111, zo_110, zo_110, zo_114, zo_113, .inr (11, [.inl (some 98), .inl (some 99), .inl (some 100), .inl (some 101), .inl (some 102), .inl (some 103), .inl (some 104), .inr 0, .inl (some 105), .inl (some 106), .inr 0, .inl (some 107), .inr 0, .inr 0, .inl (some 108), .inl (some 109), .inr 0, .inl (some 110), .inr 0, .inr 0, .inr 2, .inr 0, .inr 1, .inr 1, .inl (some 111), .inl (some 112), .inl (some 113), .inl (some 114), .inr 0, .inl (some 115), .inr 0, .inr 0, .inr 0, .inr 0, .inr 0, .inl (some 116), .inl (some 117), .inl (some 118), .inl (some 119), .inl (some 120), .inl none, .inr 0, .inr 0, .inr 0, .inr 0]), zo_116, zo_117, zo_118, zo_119, zo_90, zo_90, zo_90, zo_120, zo_120, zo_120, zo_121, zo_122, zo_90, zo_123, zo_123, zo_123, zo_124, zo_90, zo_107, zo_107, zo_107, zo_125, zo_126]
set_option maxRecDepth 100000 in
noncomputable def zs_234 (n : Nat) : List zSh := [.inl (10, n), zo_0, zo_1, zo_2, zo_3, zo_4, zo_5, zo_6, zo_115, zo_33, zo_11, zo_10, zo_14, zo_13, zo_17, zo_16, zo_20, zo_19, zo_23, zo_22, zo_26, zo_25, zo_29, zo_28, zo_32, zo_31, zo_50, zo_35, zo_10, zo_37, zo_13, zo_39, zo_16, zo_41, zo_19, zo_43, zo_22, zo_45, zo_25, zo_47, zo_28, zo_49, zo_31, zo_67, zo_52, zo_10, zo_54, zo_13, zo_56, zo_16, zo_58, zo_19, zo_60, zo_22, zo_62, zo_25, zo_64, zo_28, zo_66, zo_31, zo_78, zo_71, zo_70, zo_74, zo_73, zo_77, zo_76, zo_86, zo_82, zo_81, zo_85, zo_84, zo_91, zo_88, zo_89, zo_90, zo_98, zo_95, zo_94, zo_97, zo_13, zo_105, zo_100, zo_102, zo_90, zo_104, zo_16, zo_108, zo_107, zo_107, zo_107, zo_107, zo_111, zo_110, zo_110, zo_114, zo_113, .inr (11, [.inl (some 98), .inl (some 99), .inl (some 100), .inl (some 101), .inl (some 102), .inl (some 103), .inl (some 104), .inr 0, .inl (some 105), .inl (some 106), .inr 0, .inl (some 107), .inr 0, .inr 0, .inl (some 108), .inl (some 109), .inr 0, .inl (some 110), .inr 0, .inr 0, .inr 2, .inr 0, .inr 1, .inr 1, .inl (some 111), .inl (some 112), .inl (some 113), .inl (some 114), .inr 0, .inl (some 115), .inr 0, .inr 0, .inr 0, .inr 0, .inr 0, .inl (some 116), .inl (some 117), .inl (some 118), .inl (some 119), .inl (some 120), .inl none, .inr 0, .inr 0, .inr 0, .inr 0]), zo_116, zo_117, zo_118, zo_119, zo_90, zo_90, zo_90, zo_120, zo_120, zo_120, zo_121, zo_122, zo_90, zo_123, zo_123, zo_123, zo_124, zo_90, zo_107, zo_107, zo_107, zo_125, zo_126, zo_126]
set_option maxRecDepth 100000 in
noncomputable def zs_235 (n : Nat) : List zSh := [.inl (10, n), zo_0, zo_1, zo_2, zo_3, zo_4, zo_5, zo_6, zo_115, zo_33, zo_11, zo_10, zo_14, zo_13, zo_17, zo_16, zo_20, zo_19, zo_23, zo_22, zo_26, zo_25, zo_29, zo_28, zo_32, zo_31, zo_50, zo_35, zo_10, zo_37, zo_13, zo_39, zo_16, zo_41, zo_19, zo_43, zo_22, zo_45, zo_25, zo_47, zo_28, zo_49, zo_31, zo_67, zo_52, zo_10, zo_54, zo_13, zo_56, zo_16, zo_58, zo_19, zo_60, zo_22, zo_62, zo_25, zo_64, zo_28, zo_66, zo_31, zo_78, zo_71, zo_70, zo_74, zo_73, zo_77, zo_76, zo_86, zo_82, zo_81, zo_85, zo_84, zo_91, zo_88, zo_89, zo_90, zo_98, zo_95, zo_94, zo_97, zo_13, zo_105, zo_100, zo_102, zo_90, zo_104, zo_16, zo_108, zo_107, zo_107, zo_107, zo_107, zo_111, zo_110, zo_110, zo_114, zo_113, .inr (11, [.inl (some 98), .inl (some 99), .inl (some 100), .inl (some 101), .inl (some 102), .inl (some 103), .inl (some 104), .inr 0, .inl (some 105), .inl (some 106), .inr 0, .inl (some 107), .inr 0, .inr 0, .inl (some 108), .inl (some 109), .inr 0, .inl (some 110), .inr 0, .inr 0, .inr 2, .inr 0, .inr 1, .inr 1, .inl (some 111), .inl (some 112), .inl (some 113), .inl (some 114), .inr 0, .inl (some 115), .inr 0, .inr 0, .inr 0, .inr 0, .inr 0, .inl (some 116), .inl (some 117), .inl (some 118), .inl (some 119), .inl (some 120), .inl (some 121), .inr 0, .inr 0, .inr 0, .inr 0]), zo_116, zo_117, zo_118, zo_119, zo_90, zo_90, zo_90, zo_120, zo_120, zo_120, zo_121, zo_122, zo_90, zo_123, zo_123, zo_123, zo_124, zo_90, zo_107, zo_107, zo_107, zo_125, zo_126, zo_126]
set_option maxRecDepth 100000 in
noncomputable def zl_84 : List (Nat × Nat × Int) := (98, 7, 30) :: zl_83
set_option maxRecDepth 100000 in
noncomputable def zl_85 : List (Nat × Nat × Int) := (98, 8, 20) :: zl_84
set_option maxRecDepth 100000 in
theorem qc_1 (n : Nat) (xs : Nat → Int32) {d : Nat} (hd : 1 ≤ d) : qR d 100 (0, zini [.inr (.inr (some 10)), .inl 14, .inl 4] 3, []) (zs_3 n, qml (zxc xs) zl_0, 0, 0) (fun r w' => r = none ∧ ∃ a b, w' = (zs_5 n, qml (zxc xs) zl_2, a, b)) := by
  have hz := zp_100
  have hd0 : 0 < d := by omega
  show qR d 100 (0, [.inr (.inr (some 10)), .inl 14, .inl 4], []) (zs_3 n, qml (zxc xs) zl_0, 0, 0) _
  refine qR_blk (c' := (13, [.inr (.inr (some 10)), .inl 14, .inl 4], [])) (w' := (zs_3 n, qml (zxc xs) zl_1, 0, 0)) 7 hd0 hz rfl ?_
  refine qR_blk (c' := (22, [.inr (.inr (some 10)), .inl 14, .inl 4], [])) (w' := (zs_3 n, qml (zxc xs) zl_2, 0, 0)) 5 hd0 hz rfl ?_
  refine qR_blk (c' := (34, [.inr (.inr (some 10)), .inl 14, .inl 4], [.inl 56, .inr (.inr (some 10))])) (w' := (zs_3 n, qml (zxc xs) zl_2, 0, 0)) 8 hd0 hz rfl ?_
  refine qR_z (c' := (36, [.inr (.inr (some 10)), .inl 14, .inl 4], [.inr (.inr (some 11)), .inr (.inr (some 10))])) (S' := zs_4 n) (r := 11) (a' := 1) (b' := 56) hd0 hz rfl rfl (fun j => qml_z rfl rfl) ?_
  refine qR_blk (c' := (39, [.inr (.inr (some 10)), .inl 14, .inl 4], [])) (w' := (zs_5 n, qml (zxc xs) zl_2, 1, 56)) 1 hd0 hz rfl ?_
  exact qR_ret hd0 hz rfl rfl ⟨rfl, _, _, rfl⟩
set_option maxRecDepth 100000 in
theorem qc_2 (n : Nat) (xs : Nat → Int32) {d : Nat} (hd : 1 ≤ d) : qR d 100 (0, zini [.inr (.inr (some 12)), .inl 20, .inl 3] 3, []) (zs_7 n, qml (zxc xs) zl_2, 0, 0) (fun r w' => r = none ∧ ∃ a b, w' = (zs_9 n, qml (zxc xs) zl_4, a, b)) := by
  have hz := zp_100
  have hd0 : 0 < d := by omega
  show qR d 100 (0, [.inr (.inr (some 12)), .inl 20, .inl 3], []) (zs_7 n, qml (zxc xs) zl_2, 0, 0) _
  refine qR_blk (c' := (13, [.inr (.inr (some 12)), .inl 20, .inl 3], [])) (w' := (zs_7 n, qml (zxc xs) zl_3, 0, 0)) 7 hd0 hz rfl ?_
  refine qR_blk (c' := (22, [.inr (.inr (some 12)), .inl 20, .inl 3], [])) (w' := (zs_7 n, qml (zxc xs) zl_4, 0, 0)) 5 hd0 hz rfl ?_
  refine qR_blk (c' := (34, [.inr (.inr (some 12)), .inl 20, .inl 3], [.inl 60, .inr (.inr (some 12))])) (w' := (zs_7 n, qml (zxc xs) zl_4, 0, 0)) 8 hd0 hz rfl ?_
  refine qR_z (c' := (36, [.inr (.inr (some 12)), .inl 20, .inl 3], [.inr (.inr (some 13)), .inr (.inr (some 12))])) (S' := zs_8 n) (r := 13) (a' := 1) (b' := 60) hd0 hz rfl rfl (fun j => qml_z rfl rfl) ?_
  refine qR_blk (c' := (39, [.inr (.inr (some 12)), .inl 20, .inl 3], [])) (w' := (zs_9 n, qml (zxc xs) zl_4, 1, 60)) 1 hd0 hz rfl ?_
  exact qR_ret hd0 hz rfl rfl ⟨rfl, _, _, rfl⟩
set_option maxRecDepth 100000 in
theorem qc_3 (n : Nat) (xs : Nat → Int32) {d : Nat} (hd : 1 ≤ d) : qR d 100 (0, zini [.inr (.inr (some 14)), .inl 4, .inl 2] 3, []) (zs_11 n, qml (zxc xs) zl_4, 0, 0) (fun r w' => r = none ∧ ∃ a b, w' = (zs_13 n, qml (zxc xs) zl_6, a, b)) := by
  have hz := zp_100
  have hd0 : 0 < d := by omega
  show qR d 100 (0, [.inr (.inr (some 14)), .inl 4, .inl 2], []) (zs_11 n, qml (zxc xs) zl_4, 0, 0) _
  refine qR_blk (c' := (13, [.inr (.inr (some 14)), .inl 4, .inl 2], [])) (w' := (zs_11 n, qml (zxc xs) zl_5, 0, 0)) 7 hd0 hz rfl ?_
  refine qR_blk (c' := (22, [.inr (.inr (some 14)), .inl 4, .inl 2], [])) (w' := (zs_11 n, qml (zxc xs) zl_6, 0, 0)) 5 hd0 hz rfl ?_
  refine qR_blk (c' := (34, [.inr (.inr (some 14)), .inl 4, .inl 2], [.inl 8, .inr (.inr (some 14))])) (w' := (zs_11 n, qml (zxc xs) zl_6, 0, 0)) 8 hd0 hz rfl ?_
  refine qR_z (c' := (36, [.inr (.inr (some 14)), .inl 4, .inl 2], [.inr (.inr (some 15)), .inr (.inr (some 14))])) (S' := zs_12 n) (r := 15) (a' := 1) (b' := 8) hd0 hz rfl rfl (fun j => qml_z rfl rfl) ?_
  refine qR_blk (c' := (39, [.inr (.inr (some 14)), .inl 4, .inl 2], [])) (w' := (zs_13 n, qml (zxc xs) zl_6, 1, 8)) 1 hd0 hz rfl ?_
  exact qR_ret hd0 hz rfl rfl ⟨rfl, _, _, rfl⟩
set_option maxRecDepth 100000 in
theorem qc_4 (n : Nat) (xs : Nat → Int32) {d : Nat} (hd : 1 ≤ d) : qR d 100 (0, zini [.inr (.inr (some 16)), .inl 40, .inl 5] 3, []) (zs_15 n, qml (zxc xs) zl_6, 0, 0) (fun r w' => r = none ∧ ∃ a b, w' = (zs_17 n, qml (zxc xs) zl_8, a, b)) := by
  have hz := zp_100
  have hd0 : 0 < d := by omega
  show qR d 100 (0, [.inr (.inr (some 16)), .inl 40, .inl 5], []) (zs_15 n, qml (zxc xs) zl_6, 0, 0) _
  refine qR_blk (c' := (13, [.inr (.inr (some 16)), .inl 40, .inl 5], [])) (w' := (zs_15 n, qml (zxc xs) zl_7, 0, 0)) 7 hd0 hz rfl ?_
  refine qR_blk (c' := (22, [.inr (.inr (some 16)), .inl 40, .inl 5], [])) (w' := (zs_15 n, qml (zxc xs) zl_8, 0, 0)) 5 hd0 hz rfl ?_
  refine qR_blk (c' := (34, [.inr (.inr (some 16)), .inl 40, .inl 5], [.inl 200, .inr (.inr (some 16))])) (w' := (zs_15 n, qml (zxc xs) zl_8, 0, 0)) 8 hd0 hz rfl ?_
  refine qR_z (c' := (36, [.inr (.inr (some 16)), .inl 40, .inl 5], [.inr (.inr (some 17)), .inr (.inr (some 16))])) (S' := zs_16 n) (r := 17) (a' := 1) (b' := 200) hd0 hz rfl rfl (fun j => qml_z rfl rfl) ?_
  refine qR_blk (c' := (39, [.inr (.inr (some 16)), .inl 40, .inl 5], [])) (w' := (zs_17 n, qml (zxc xs) zl_8, 1, 200)) 1 hd0 hz rfl ?_
  exact qR_ret hd0 hz rfl rfl ⟨rfl, _, _, rfl⟩
set_option maxRecDepth 100000 in
theorem qc_5 (n : Nat) (xs : Nat → Int32) {d : Nat} (hd : 1 ≤ d) : qR d 100 (0, zini [.inr (.inr (some 18)), .inl 250, .inl 11] 3, []) (zs_19 n, qml (zxc xs) zl_8, 0, 0) (fun r w' => r = none ∧ ∃ a b, w' = (zs_21 n, qml (zxc xs) zl_10, a, b)) := by
  have hz := zp_100
  have hd0 : 0 < d := by omega
  show qR d 100 (0, [.inr (.inr (some 18)), .inl 250, .inl 11], []) (zs_19 n, qml (zxc xs) zl_8, 0, 0) _
  refine qR_blk (c' := (13, [.inr (.inr (some 18)), .inl 250, .inl 11], [])) (w' := (zs_19 n, qml (zxc xs) zl_9, 0, 0)) 7 hd0 hz rfl ?_
  refine qR_blk (c' := (22, [.inr (.inr (some 18)), .inl 250, .inl 11], [])) (w' := (zs_19 n, qml (zxc xs) zl_10, 0, 0)) 5 hd0 hz rfl ?_
  refine qR_blk (c' := (34, [.inr (.inr (some 18)), .inl 250, .inl 11], [.inl 2750, .inr (.inr (some 18))])) (w' := (zs_19 n, qml (zxc xs) zl_10, 0, 0)) 8 hd0 hz rfl ?_
  refine qR_z (c' := (36, [.inr (.inr (some 18)), .inl 250, .inl 11], [.inr (.inr (some 19)), .inr (.inr (some 18))])) (S' := zs_20 n) (r := 19) (a' := 1) (b' := 2750) hd0 hz rfl rfl (fun j => qml_z rfl rfl) ?_
  refine qR_blk (c' := (39, [.inr (.inr (some 18)), .inl 250, .inl 11], [])) (w' := (zs_21 n, qml (zxc xs) zl_10, 1, 2750)) 1 hd0 hz rfl ?_
  exact qR_ret hd0 hz rfl rfl ⟨rfl, _, _, rfl⟩
set_option maxRecDepth 100000 in
theorem qc_6 (n : Nat) (xs : Nat → Int32) {d : Nat} (hd : 1 ≤ d) : qR d 100 (0, zini [.inr (.inr (some 20)), .inl 8, .inl 81] 3, []) (zs_23 n, qml (zxc xs) zl_10, 0, 0) (fun r w' => r = none ∧ ∃ a b, w' = (zs_25 n, qml (zxc xs) zl_12, a, b)) := by
  have hz := zp_100
  have hd0 : 0 < d := by omega
  show qR d 100 (0, [.inr (.inr (some 20)), .inl 8, .inl 81], []) (zs_23 n, qml (zxc xs) zl_10, 0, 0) _
  refine qR_blk (c' := (13, [.inr (.inr (some 20)), .inl 8, .inl 81], [])) (w' := (zs_23 n, qml (zxc xs) zl_11, 0, 0)) 7 hd0 hz rfl ?_
  refine qR_blk (c' := (22, [.inr (.inr (some 20)), .inl 8, .inl 81], [])) (w' := (zs_23 n, qml (zxc xs) zl_12, 0, 0)) 5 hd0 hz rfl ?_
  refine qR_blk (c' := (34, [.inr (.inr (some 20)), .inl 8, .inl 81], [.inl 648, .inr (.inr (some 20))])) (w' := (zs_23 n, qml (zxc xs) zl_12, 0, 0)) 8 hd0 hz rfl ?_
  refine qR_z (c' := (36, [.inr (.inr (some 20)), .inl 8, .inl 81], [.inr (.inr (some 21)), .inr (.inr (some 20))])) (S' := zs_24 n) (r := 21) (a' := 1) (b' := 648) hd0 hz rfl rfl (fun j => qml_z rfl rfl) ?_
  refine qR_blk (c' := (39, [.inr (.inr (some 20)), .inl 8, .inl 81], [])) (w' := (zs_25 n, qml (zxc xs) zl_12, 1, 648)) 1 hd0 hz rfl ?_
  exact qR_ret hd0 hz rfl rfl ⟨rfl, _, _, rfl⟩
set_option maxRecDepth 100000 in
theorem qc_7 (n : Nat) (xs : Nat → Int32) {d : Nat} (hd : 1 ≤ d) : qR d 100 (0, zini [.inr (.inr (some 22)), .inl 10, .inl 164] 3, []) (zs_27 n, qml (zxc xs) zl_12, 0, 0) (fun r w' => r = none ∧ ∃ a b, w' = (zs_29 n, qml (zxc xs) zl_14, a, b)) := by
  have hz := zp_100
  have hd0 : 0 < d := by omega
  show qR d 100 (0, [.inr (.inr (some 22)), .inl 10, .inl 164], []) (zs_27 n, qml (zxc xs) zl_12, 0, 0) _
  refine qR_blk (c' := (13, [.inr (.inr (some 22)), .inl 10, .inl 164], [])) (w' := (zs_27 n, qml (zxc xs) zl_13, 0, 0)) 7 hd0 hz rfl ?_
  refine qR_blk (c' := (22, [.inr (.inr (some 22)), .inl 10, .inl 164], [])) (w' := (zs_27 n, qml (zxc xs) zl_14, 0, 0)) 5 hd0 hz rfl ?_
  refine qR_blk (c' := (34, [.inr (.inr (some 22)), .inl 10, .inl 164], [.inl 1640, .inr (.inr (some 22))])) (w' := (zs_27 n, qml (zxc xs) zl_14, 0, 0)) 8 hd0 hz rfl ?_
  refine qR_z (c' := (36, [.inr (.inr (some 22)), .inl 10, .inl 164], [.inr (.inr (some 23)), .inr (.inr (some 22))])) (S' := zs_28 n) (r := 23) (a' := 1) (b' := 1640) hd0 hz rfl rfl (fun j => qml_z rfl rfl) ?_
  refine qR_blk (c' := (39, [.inr (.inr (some 22)), .inl 10, .inl 164], [])) (w' := (zs_29 n, qml (zxc xs) zl_14, 1, 1640)) 1 hd0 hz rfl ?_
  exact qR_ret hd0 hz rfl rfl ⟨rfl, _, _, rfl⟩
set_option maxRecDepth 100000 in
theorem qc_8 (n : Nat) (xs : Nat → Int32) {d : Nat} (hd : 1 ≤ d) : qR d 100 (0, zini [.inr (.inr (some 24)), .inl 12, .inl 2] 3, []) (zs_31 n, qml (zxc xs) zl_14, 0, 0) (fun r w' => r = none ∧ ∃ a b, w' = (zs_33 n, qml (zxc xs) zl_16, a, b)) := by
  have hz := zp_100
  have hd0 : 0 < d := by omega
  show qR d 100 (0, [.inr (.inr (some 24)), .inl 12, .inl 2], []) (zs_31 n, qml (zxc xs) zl_14, 0, 0) _
  refine qR_blk (c' := (13, [.inr (.inr (some 24)), .inl 12, .inl 2], [])) (w' := (zs_31 n, qml (zxc xs) zl_15, 0, 0)) 7 hd0 hz rfl ?_
  refine qR_blk (c' := (22, [.inr (.inr (some 24)), .inl 12, .inl 2], [])) (w' := (zs_31 n, qml (zxc xs) zl_16, 0, 0)) 5 hd0 hz rfl ?_
  refine qR_blk (c' := (34, [.inr (.inr (some 24)), .inl 12, .inl 2], [.inl 24, .inr (.inr (some 24))])) (w' := (zs_31 n, qml (zxc xs) zl_16, 0, 0)) 8 hd0 hz rfl ?_
  refine qR_z (c' := (36, [.inr (.inr (some 24)), .inl 12, .inl 2], [.inr (.inr (some 25)), .inr (.inr (some 24))])) (S' := zs_32 n) (r := 25) (a' := 1) (b' := 24) hd0 hz rfl rfl (fun j => qml_z rfl rfl) ?_
  refine qR_blk (c' := (39, [.inr (.inr (some 24)), .inl 12, .inl 2], [])) (w' := (zs_33 n, qml (zxc xs) zl_16, 1, 24)) 1 hd0 hz rfl ?_
  exact qR_ret hd0 hz rfl rfl ⟨rfl, _, _, rfl⟩
set_option maxRecDepth 100000 in
theorem qc_9 (n : Nat) (xs : Nat → Int32) {d : Nat} (hd : 2 ≤ d) : qR d 17 (0, zini [.inr (.inr (some 9))] 1, []) (zs_2 n, qml (zxc xs) zl_0, 0, 0) (fun r w' => r = none ∧ ∃ a b, w' = (zs_34 n, qml (zxc xs) zl_18, a, b)) := by
  have hz := zp_17
  have hd0 : 0 < d := by omega
  show qR d 17 (0, [.inr (.inr (some 9))], []) (zs_2 n, qml (zxc xs) zl_0, 0, 0) _
  refine qR_blk (c' := (5, [.inr (.inr (some 9))], [.inr (.inr (some 9))])) (w' := (zs_2 n, qml (zxc xs) zl_0, 0, 0)) 3 hd0 hz rfl ?_
  refine qR_z (c' := (8, [.inr (.inr (some 9))], [.inr (.inr (some 10)), .inr (.inr (some 9))])) (S' := zs_3 n) (r := 10) (a' := 1) (b' := 4) hd0 hz rfl rfl (fun j => qml_z rfl rfl) ?_
  refine qR_blk (c' := (12, [.inr (.inr (some 9))], [.inl 4, .inl 14, .inr (.inr (some 10)), .inr (.inr (some 10)), .inr (.inr (some 9))])) (w' := (zs_3 n, qml (zxc xs) zl_0, 1, 4)) 3 hd0 hz rfl ?_
  refine qR_call hd0 hz zp_100 rfl rfl (Nat.le_of_ble_eq_true rfl) ⟨by omega, by omega⟩ (qc_1 n xs (by omega)) (fun r w1 hr => ?_)
  obtain ⟨rfl, a9, b9, rfl⟩ := hr
  show qR d 17 (15, [.inr (.inr (some 9))], [.inr (.inr (some 10)), .inr (.inr (some 9))]) (zs_5 n, qml (zxc xs) zl_2, 2, 60004) _
  refine qR_blk (c' := (18, [.inr (.inr (some 9))], [])) (w' := (zs_6 n, qml (zxc xs) zl_2, 2, 60004)) 1 hd0 hz rfl ?_
  refine qR_blk (c' := (19, [.inr (.inr (some 9))], [.inr (.inr (some 9))])) (w' := (zs_6 n, qml (zxc xs) zl_2, 2, 60004)) 1 hd0 hz rfl ?_
  refine qR_z (c' := (22, [.inr (.inr (some 9))], [.inr (.inr (some 12)), .inr (.inr (some 9))])) (S' := zs_7 n) (r := 12) (a' := 3) (b' := 60008) hd0 hz rfl rfl (fun j => qml_z rfl rfl) ?_
  refine qR_blk (c' := (26, [.inr (.inr (some 9))], [.inl 3, .inl 20, .inr (.inr (some 12)), .inr (.inr (some 12)), .inr (.inr (some 9))])) (w' := (zs_7 n, qml (zxc xs) zl_2, 3, 60008)) 3 hd0 hz rfl ?_
  refine qR_call hd0 hz zp_100 rfl rfl (Nat.le_of_ble_eq_true rfl) ⟨by omega, by omega⟩ (qc_2 n xs (by omega)) (fun r w1 hr => ?_)
  obtain ⟨rfl, a9, b9, rfl⟩ := hr
  show qR d 17 (29, [.inr (.inr (some 9))], [.inr (.inr (some 12)), .inr (.inr (some 9))]) (zs_9 n, qml (zxc xs) zl_4, 4, 120008) _
  refine qR_blk (c' := (32, [.inr (.inr (some 9))], [])) (w' := (zs_10 n, qml (zxc xs) zl_4, 4, 120008)) 1 hd0 hz rfl ?_
  refine qR_blk (c' := (33, [.inr (.inr (some 9))], [.inr (.inr (some 9))])) (w' := (zs_10 n, qml (zxc xs) zl_4, 4, 120008)) 1 hd0 hz rfl ?_
  refine qR_z (c' := (36, [.inr (.inr (some 9))], [.inr (.inr (some 14)), .inr (.inr (some 9))])) (S' := zs_11 n) (r := 14) (a' := 5) (b' := 120012) hd0 hz rfl rfl (fun j => qml_z rfl rfl) ?_
  refine qR_blk (c' := (39, [.inr (.inr (some 9))], [.inl 2, .inl 4, .inr (.inr (some 14)), .inr (.inr (some 14)), .inr (.inr (some 9))])) (w' := (zs_11 n, qml (zxc xs) zl_4, 5, 120012)) 3 hd0 hz rfl ?_
  refine qR_call hd0 hz zp_100 rfl rfl (Nat.le_of_ble_eq_true rfl) ⟨by omega, by omega⟩ (qc_3 n xs (by omega)) (fun r w1 hr => ?_)
  obtain ⟨rfl, a9, b9, rfl⟩ := hr
  show qR d 17 (42, [.inr (.inr (some 9))], [.inr (.inr (some 14)), .inr (.inr (some 9))]) (zs_13 n, qml (zxc xs) zl_6, 6, 180012) _
  refine qR_blk (c' := (45, [.inr (.inr (some 9))], [])) (w' := (zs_14 n, qml (zxc xs) zl_6, 6, 180012)) 1 hd0 hz rfl ?_
  refine qR_blk (c' := (46, [.inr (.inr (some 9))], [.inr (.inr (some 9))])) (w' := (zs_14 n, qml (zxc xs) zl_6, 6, 180012)) 1 hd0 hz rfl ?_
  refine qR_z (c' := (49, [.inr (.inr (some 9))], [.inr (.inr (some 16)), .inr (.inr (some 9))])) (S' := zs_15 n) (r := 16) (a' := 7) (b' := 180016) hd0 hz rfl rfl (fun j => qml_z rfl rfl) ?_
  refine qR_blk (c' := (53, [.inr (.inr (some 9))], [.inl 5, .inl 40, .inr (.inr (some 16)), .inr (.inr (some 16)), .inr (.inr (some 9))])) (w' := (zs_15 n, qml (zxc xs) zl_6, 7, 180016)) 3 hd0 hz rfl ?_
  refine qR_call hd0 hz zp_100 rfl rfl (Nat.le_of_ble_eq_true rfl) ⟨by omega, by omega⟩ (qc_4 n xs (by omega)) (fun r w1 hr => ?_)
  obtain ⟨rfl, a9, b9, rfl⟩ := hr
  show qR d 17 (56, [.inr (.inr (some 9))], [.inr (.inr (some 16)), .inr (.inr (some 9))]) (zs_17 n, qml (zxc xs) zl_8, 8, 240016) _
  refine qR_blk (c' := (59, [.inr (.inr (some 9))], [])) (w' := (zs_18 n, qml (zxc xs) zl_8, 8, 240016)) 1 hd0 hz rfl ?_
  refine qR_blk (c' := (60, [.inr (.inr (some 9))], [.inr (.inr (some 9))])) (w' := (zs_18 n, qml (zxc xs) zl_8, 8, 240016)) 1 hd0 hz rfl ?_
  refine qR_z (c' := (63, [.inr (.inr (some 9))], [.inr (.inr (some 18)), .inr (.inr (some 9))])) (S' := zs_19 n) (r := 18) (a' := 9) (b' := 240020) hd0 hz rfl rfl (fun j => qml_z rfl rfl) ?_
  refine qR_blk (c' := (69, [.inr (.inr (some 9))], [.inl 11, .inl 250, .inr (.inr (some 18)), .inr (.inr (some 18)), .inr (.inr (some 9))])) (w' := (zs_19 n, qml (zxc xs) zl_8, 9, 240020)) 3 hd0 hz rfl ?_
  refine qR_call hd0 hz zp_100 rfl rfl (Nat.le_of_ble_eq_true rfl) ⟨by omega, by omega⟩ (qc_5 n xs (by omega)) (fun r w1 hr => ?_)
  obtain ⟨rfl, a9, b9, rfl⟩ := hr
  show qR d 17 (72, [.inr (.inr (some 9))], [.inr (.inr (some 18)), .inr (.inr (some 9))]) (zs_21 n, qml (zxc xs) zl_10, 10, 300020) _
  refine qR_blk (c' := (75, [.inr (.inr (some 9))], [])) (w' := (zs_22 n, qml (zxc xs) zl_10, 10, 300020)) 1 hd0 hz rfl ?_
  refine qR_blk (c' := (76, [.inr (.inr (some 9))], [.inr (.inr (some 9))])) (w' := (zs_22 n, qml (zxc xs) zl_10, 10, 300020)) 1 hd0 hz rfl ?_
  refine qR_z (c' := (79, [.inr (.inr (some 9))], [.inr (.inr (some 20)), .inr (.inr (some 9))])) (S' := zs_23 n) (r := 20) (a' := 11) (b' := 300024) hd0 hz rfl rfl (fun j => qml_z rfl rfl) ?_
  refine qR_blk (c' := (84, [.inr (.inr (some 9))], [.inl 81, .inl 8, .inr (.inr (some 20)), .inr (.inr (some 20)), .inr (.inr (some 9))])) (w' := (zs_23 n, qml (zxc xs) zl_10, 11, 300024)) 3 hd0 hz rfl ?_
  refine qR_call hd0 hz zp_100 rfl rfl (Nat.le_of_ble_eq_true rfl) ⟨by omega, by omega⟩ (qc_6 n xs (by omega)) (fun r w1 hr => ?_)
  obtain ⟨rfl, a9, b9, rfl⟩ := hr
  show qR d 17 (87, [.inr (.inr (some 9))], [.inr (.inr (some 20)), .inr (.inr (some 9))]) (zs_25 n, qml (zxc xs) zl_12, 12, 360024) _
  refine qR_blk (c' := (90, [.inr (.inr (some 9))], [])) (w' := (zs_26 n, qml (zxc xs) zl_12, 12, 360024)) 1 hd0 hz rfl ?_
  refine qR_blk (c' := (91, [.inr (.inr (some 9))], [.inr (.inr (some 9))])) (w' := (zs_26 n, qml (zxc xs) zl_12, 12, 360024)) 1 hd0 hz rfl ?_
  refine qR_z (c' := (94, [.inr (.inr (some 9))], [.inr (.inr (some 22)), .inr (.inr (some 9))])) (S' := zs_27 n) (r := 22) (a' := 13) (b' := 360028) hd0 hz rfl rfl (fun j => qml_z rfl rfl) ?_
  refine qR_blk (c' := (100, [.inr (.inr (some 9))], [.inl 164, .inl 10, .inr (.inr (some 22)), .inr (.inr (some 22)), .inr (.inr (some 9))])) (w' := (zs_27 n, qml (zxc xs) zl_12, 13, 360028)) 3 hd0 hz rfl ?_
  refine qR_call hd0 hz zp_100 rfl rfl (Nat.le_of_ble_eq_true rfl) ⟨by omega, by omega⟩ (qc_7 n xs (by omega)) (fun r w1 hr => ?_)
  obtain ⟨rfl, a9, b9, rfl⟩ := hr
  show qR d 17 (103, [.inr (.inr (some 9))], [.inr (.inr (some 22)), .inr (.inr (some 9))]) (zs_29 n, qml (zxc xs) zl_14, 14, 420028) _
  refine qR_blk (c' := (106, [.inr (.inr (some 9))], [])) (w' := (zs_30 n, qml (zxc xs) zl_14, 14, 420028)) 1 hd0 hz rfl ?_
  refine qR_blk (c' := (107, [.inr (.inr (some 9))], [.inr (.inr (some 9))])) (w' := (zs_30 n, qml (zxc xs) zl_14, 14, 420028)) 1 hd0 hz rfl ?_
  refine qR_z (c' := (110, [.inr (.inr (some 9))], [.inr (.inr (some 24)), .inr (.inr (some 9))])) (S' := zs_31 n) (r := 24) (a' := 15) (b' := 420032) hd0 hz rfl rfl (fun j => qml_z rfl rfl) ?_
  refine qR_blk (c' := (114, [.inr (.inr (some 9))], [.inl 2, .inl 12, .inr (.inr (some 24)), .inr (.inr (some 24)), .inr (.inr (some 9))])) (w' := (zs_31 n, qml (zxc xs) zl_14, 15, 420032)) 3 hd0 hz rfl ?_
  refine qR_call hd0 hz zp_100 rfl rfl (Nat.le_of_ble_eq_true rfl) ⟨by omega, by omega⟩ (qc_8 n xs (by omega)) (fun r w1 hr => ?_)
  obtain ⟨rfl, a9, b9, rfl⟩ := hr
  show qR d 17 (117, [.inr (.inr (some 9))], [.inr (.inr (some 24)), .inr (.inr (some 9))]) (zs_33 n, qml (zxc xs) zl_16, 16, 480032) _
  refine qR_blk (c' := (120, [.inr (.inr (some 9))], [])) (w' := (zs_34 n, qml (zxc xs) zl_16, 16, 480032)) 1 hd0 hz rfl ?_
  refine qR_blk (c' := (126, [.inr (.inr (some 9))], [])) (w' := (zs_34 n, qml (zxc xs) zl_17, 16, 480032)) 3 hd0 hz rfl ?_
  refine qR_blk (c' := (132, [.inr (.inr (some 9))], [])) (w' := (zs_34 n, qml (zxc xs) zl_18, 16, 480032)) 3 hd0 hz rfl ?_
  exact qR_ret hd0 hz rfl rfl ⟨rfl, _, _, rfl⟩
set_option maxRecDepth 100000 in
theorem qc_10 (n : Nat) (xs : Nat → Int32) {d : Nat} (hd : 1 ≤ d) : qR d 100 (0, zini [.inr (.inr (some 27)), .inl 14, .inl 4] 3, []) (zs_37 n, qml (zxc xs) zl_18, 0, 0) (fun r w' => r = none ∧ ∃ a b, w' = (zs_39 n, qml (zxc xs) zl_20, a, b)) := by
  have hz := zp_100
  have hd0 : 0 < d := by omega
  show qR d 100 (0, [.inr (.inr (some 27)), .inl 14, .inl 4], []) (zs_37 n, qml (zxc xs) zl_18, 0, 0) _
  refine qR_blk (c' := (13, [.inr (.inr (some 27)), .inl 14, .inl 4], [])) (w' := (zs_37 n, qml (zxc xs) zl_19, 0, 0)) 7 hd0 hz rfl ?_
  refine qR_blk (c' := (22, [.inr (.inr (some 27)), .inl 14, .inl 4], [])) (w' := (zs_37 n, qml (zxc xs) zl_20, 0, 0)) 5 hd0 hz rfl ?_
  refine qR_blk (c' := (34, [.inr (.inr (some 27)), .inl 14, .inl 4], [.inl 56, .inr (.inr (some 27))])) (w' := (zs_37 n, qml (zxc xs) zl_20, 0, 0)) 8 hd0 hz rfl ?_
  refine qR_z (c' := (36, [.inr (.inr (some 27)), .inl 14, .inl 4], [.inr (.inr (some 28)), .inr (.inr (some 27))])) (S' := zs_38 n) (r := 28) (a' := 1) (b' := 56) hd0 hz rfl rfl (fun j => qml_z rfl rfl) ?_
  refine qR_blk (c' := (39, [.inr (.inr (some 27)), .inl 14, .inl 4], [])) (w' := (zs_39 n, qml (zxc xs) zl_20, 1, 56)) 1 hd0 hz rfl ?_
  exact qR_ret hd0 hz rfl rfl ⟨rfl, _, _, rfl⟩
set_option maxRecDepth 100000 in
theorem qc_11 (n : Nat) (xs : Nat → Int32) {d : Nat} (hd : 1 ≤ d) : qR d 100 (0, zini [.inr (.inr (some 29)), .inl 20, .inl 3] 3, []) (zs_41 n, qml (zxc xs) zl_20, 0, 0) (fun r w' => r = none ∧ ∃ a b, w' = (zs_43 n, qml (zxc xs) zl_22, a, b)) := by
  have hz := zp_100
  have hd0 : 0 < d := by omega
  show qR d 100 (0, [.inr (.inr (some 29)), .inl 20, .inl 3], []) (zs_41 n, qml (zxc xs) zl_20, 0, 0) _
  refine qR_blk (c' := (13, [.inr (.inr (some 29)), .inl 20, .inl 3], [])) (w' := (zs_41 n, qml (zxc xs) zl_21, 0, 0)) 7 hd0 hz rfl ?_
  refine qR_blk (c' := (22, [.inr (.inr (some 29)), .inl 20, .inl 3], [])) (w' := (zs_41 n, qml (zxc xs) zl_22, 0, 0)) 5 hd0 hz rfl ?_
  refine qR_blk (c' := (34, [.inr (.inr (some 29)), .inl 20, .inl 3], [.inl 60, .inr (.inr (some 29))])) (w' := (zs_41 n, qml (zxc xs) zl_22, 0, 0)) 8 hd0 hz rfl ?_
  refine qR_z (c' := (36, [.inr (.inr (some 29)), .inl 20, .inl 3], [.inr (.inr (some 30)), .inr (.inr (some 29))])) (S' := zs_42 n) (r := 30) (a' := 1) (b' := 60) hd0 hz rfl rfl (fun j => qml_z rfl rfl) ?_
  refine qR_blk (c' := (39, [.inr (.inr (some 29)), .inl 20, .inl 3], [])) (w' := (zs_43 n, qml (zxc xs) zl_22, 1, 60)) 1 hd0 hz rfl ?_
  exact qR_ret hd0 hz rfl rfl ⟨rfl, _, _, rfl⟩
set_option maxRecDepth 100000 in
theorem qc_12 (n : Nat) (xs : Nat → Int32) {d : Nat} (hd : 1 ≤ d) : qR d 100 (0, zini [.inr (.inr (some 31)), .inl 4, .inl 2] 3, []) (zs_45 n, qml (zxc xs) zl_22, 0, 0) (fun r w' => r = none ∧ ∃ a b, w' = (zs_47 n, qml (zxc xs) zl_24, a, b)) := by
  have hz := zp_100
  have hd0 : 0 < d := by omega
  show qR d 100 (0, [.inr (.inr (some 31)), .inl 4, .inl 2], []) (zs_45 n, qml (zxc xs) zl_22, 0, 0) _
  refine qR_blk (c' := (13, [.inr (.inr (some 31)), .inl 4, .inl 2], [])) (w' := (zs_45 n, qml (zxc xs) zl_23, 0, 0)) 7 hd0 hz rfl ?_
  refine qR_blk (c' := (22, [.inr (.inr (some 31)), .inl 4, .inl 2], [])) (w' := (zs_45 n, qml (zxc xs) zl_24, 0, 0)) 5 hd0 hz rfl ?_
  refine qR_blk (c' := (34, [.inr (.inr (some 31)), .inl 4, .inl 2], [.inl 8, .inr (.inr (some 31))])) (w' := (zs_45 n, qml (zxc xs) zl_24, 0, 0)) 8 hd0 hz rfl ?_
  refine qR_z (c' := (36, [.inr (.inr (some 31)), .inl 4, .inl 2], [.inr (.inr (some 32)), .inr (.inr (some 31))])) (S' := zs_46 n) (r := 32) (a' := 1) (b' := 8) hd0 hz rfl rfl (fun j => qml_z rfl rfl) ?_
  refine qR_blk (c' := (39, [.inr (.inr (some 31)), .inl 4, .inl 2], [])) (w' := (zs_47 n, qml (zxc xs) zl_24, 1, 8)) 1 hd0 hz rfl ?_
  exact qR_ret hd0 hz rfl rfl ⟨rfl, _, _, rfl⟩
set_option maxRecDepth 100000 in
theorem qc_13 (n : Nat) (xs : Nat → Int32) {d : Nat} (hd : 1 ≤ d) : qR d 100 (0, zini [.inr (.inr (some 33)), .inl 40, .inl 5] 3, []) (zs_49 n, qml (zxc xs) zl_24, 0, 0) (fun r w' => r = none ∧ ∃ a b, w' = (zs_51 n, qml (zxc xs) zl_26, a, b)) := by
  have hz := zp_100
  have hd0 : 0 < d := by omega
  show qR d 100 (0, [.inr (.inr (some 33)), .inl 40, .inl 5], []) (zs_49 n, qml (zxc xs) zl_24, 0, 0) _
  refine qR_blk (c' := (13, [.inr (.inr (some 33)), .inl 40, .inl 5], [])) (w' := (zs_49 n, qml (zxc xs) zl_25, 0, 0)) 7 hd0 hz rfl ?_
  refine qR_blk (c' := (22, [.inr (.inr (some 33)), .inl 40, .inl 5], [])) (w' := (zs_49 n, qml (zxc xs) zl_26, 0, 0)) 5 hd0 hz rfl ?_
  refine qR_blk (c' := (34, [.inr (.inr (some 33)), .inl 40, .inl 5], [.inl 200, .inr (.inr (some 33))])) (w' := (zs_49 n, qml (zxc xs) zl_26, 0, 0)) 8 hd0 hz rfl ?_
  refine qR_z (c' := (36, [.inr (.inr (some 33)), .inl 40, .inl 5], [.inr (.inr (some 34)), .inr (.inr (some 33))])) (S' := zs_50 n) (r := 34) (a' := 1) (b' := 200) hd0 hz rfl rfl (fun j => qml_z rfl rfl) ?_
  refine qR_blk (c' := (39, [.inr (.inr (some 33)), .inl 40, .inl 5], [])) (w' := (zs_51 n, qml (zxc xs) zl_26, 1, 200)) 1 hd0 hz rfl ?_
  exact qR_ret hd0 hz rfl rfl ⟨rfl, _, _, rfl⟩
set_option maxRecDepth 100000 in
theorem qc_14 (n : Nat) (xs : Nat → Int32) {d : Nat} (hd : 1 ≤ d) : qR d 100 (0, zini [.inr (.inr (some 35)), .inl 250, .inl 11] 3, []) (zs_53 n, qml (zxc xs) zl_26, 0, 0) (fun r w' => r = none ∧ ∃ a b, w' = (zs_55 n, qml (zxc xs) zl_28, a, b)) := by
  have hz := zp_100
  have hd0 : 0 < d := by omega
  show qR d 100 (0, [.inr (.inr (some 35)), .inl 250, .inl 11], []) (zs_53 n, qml (zxc xs) zl_26, 0, 0) _
  refine qR_blk (c' := (13, [.inr (.inr (some 35)), .inl 250, .inl 11], [])) (w' := (zs_53 n, qml (zxc xs) zl_27, 0, 0)) 7 hd0 hz rfl ?_
  refine qR_blk (c' := (22, [.inr (.inr (some 35)), .inl 250, .inl 11], [])) (w' := (zs_53 n, qml (zxc xs) zl_28, 0, 0)) 5 hd0 hz rfl ?_
  refine qR_blk (c' := (34, [.inr (.inr (some 35)), .inl 250, .inl 11], [.inl 2750, .inr (.inr (some 35))])) (w' := (zs_53 n, qml (zxc xs) zl_28, 0, 0)) 8 hd0 hz rfl ?_
  refine qR_z (c' := (36, [.inr (.inr (some 35)), .inl 250, .inl 11], [.inr (.inr (some 36)), .inr (.inr (some 35))])) (S' := zs_54 n) (r := 36) (a' := 1) (b' := 2750) hd0 hz rfl rfl (fun j => qml_z rfl rfl) ?_
  refine qR_blk (c' := (39, [.inr (.inr (some 35)), .inl 250, .inl 11], [])) (w' := (zs_55 n, qml (zxc xs) zl_28, 1, 2750)) 1 hd0 hz rfl ?_
  exact qR_ret hd0 hz rfl rfl ⟨rfl, _, _, rfl⟩
set_option maxRecDepth 100000 in
theorem qc_15 (n : Nat) (xs : Nat → Int32) {d : Nat} (hd : 1 ≤ d) : qR d 100 (0, zini [.inr (.inr (some 37)), .inl 8, .inl 81] 3, []) (zs_57 n, qml (zxc xs) zl_28, 0, 0) (fun r w' => r = none ∧ ∃ a b, w' = (zs_59 n, qml (zxc xs) zl_30, a, b)) := by
  have hz := zp_100
  have hd0 : 0 < d := by omega
  show qR d 100 (0, [.inr (.inr (some 37)), .inl 8, .inl 81], []) (zs_57 n, qml (zxc xs) zl_28, 0, 0) _
  refine qR_blk (c' := (13, [.inr (.inr (some 37)), .inl 8, .inl 81], [])) (w' := (zs_57 n, qml (zxc xs) zl_29, 0, 0)) 7 hd0 hz rfl ?_
  refine qR_blk (c' := (22, [.inr (.inr (some 37)), .inl 8, .inl 81], [])) (w' := (zs_57 n, qml (zxc xs) zl_30, 0, 0)) 5 hd0 hz rfl ?_
  refine qR_blk (c' := (34, [.inr (.inr (some 37)), .inl 8, .inl 81], [.inl 648, .inr (.inr (some 37))])) (w' := (zs_57 n, qml (zxc xs) zl_30, 0, 0)) 8 hd0 hz rfl ?_
  refine qR_z (c' := (36, [.inr (.inr (some 37)), .inl 8, .inl 81], [.inr (.inr (some 38)), .inr (.inr (some 37))])) (S' := zs_58 n) (r := 38) (a' := 1) (b' := 648) hd0 hz rfl rfl (fun j => qml_z rfl rfl) ?_
  refine qR_blk (c' := (39, [.inr (.inr (some 37)), .inl 8, .inl 81], [])) (w' := (zs_59 n, qml (zxc xs) zl_30, 1, 648)) 1 hd0 hz rfl ?_
  exact qR_ret hd0 hz rfl rfl ⟨rfl, _, _, rfl⟩
set_option maxRecDepth 100000 in
theorem qc_16 (n : Nat) (xs : Nat → Int32) {d : Nat} (hd : 1 ≤ d) : qR d 100 (0, zini [.inr (.inr (some 39)), .inl 10, .inl 164] 3, []) (zs_61 n, qml (zxc xs) zl_30, 0, 0) (fun r w' => r = none ∧ ∃ a b, w' = (zs_63 n, qml (zxc xs) zl_32, a, b)) := by
  have hz := zp_100
  have hd0 : 0 < d := by omega
  show qR d 100 (0, [.inr (.inr (some 39)), .inl 10, .inl 164], []) (zs_61 n, qml (zxc xs) zl_30, 0, 0) _
  refine qR_blk (c' := (13, [.inr (.inr (some 39)), .inl 10, .inl 164], [])) (w' := (zs_61 n, qml (zxc xs) zl_31, 0, 0)) 7 hd0 hz rfl ?_
  refine qR_blk (c' := (22, [.inr (.inr (some 39)), .inl 10, .inl 164], [])) (w' := (zs_61 n, qml (zxc xs) zl_32, 0, 0)) 5 hd0 hz rfl ?_
  refine qR_blk (c' := (34, [.inr (.inr (some 39)), .inl 10, .inl 164], [.inl 1640, .inr (.inr (some 39))])) (w' := (zs_61 n, qml (zxc xs) zl_32, 0, 0)) 8 hd0 hz rfl ?_
  refine qR_z (c' := (36, [.inr (.inr (some 39)), .inl 10, .inl 164], [.inr (.inr (some 40)), .inr (.inr (some 39))])) (S' := zs_62 n) (r := 40) (a' := 1) (b' := 1640) hd0 hz rfl rfl (fun j => qml_z rfl rfl) ?_
  refine qR_blk (c' := (39, [.inr (.inr (some 39)), .inl 10, .inl 164], [])) (w' := (zs_63 n, qml (zxc xs) zl_32, 1, 1640)) 1 hd0 hz rfl ?_
  exact qR_ret hd0 hz rfl rfl ⟨rfl, _, _, rfl⟩
set_option maxRecDepth 100000 in
theorem qc_17 (n : Nat) (xs : Nat → Int32) {d : Nat} (hd : 1 ≤ d) : qR d 100 (0, zini [.inr (.inr (some 41)), .inl 12, .inl 2] 3, []) (zs_65 n, qml (zxc xs) zl_32, 0, 0) (fun r w' => r = none ∧ ∃ a b, w' = (zs_67 n, qml (zxc xs) zl_34, a, b)) := by
  have hz := zp_100
  have hd0 : 0 < d := by omega
  show qR d 100 (0, [.inr (.inr (some 41)), .inl 12, .inl 2], []) (zs_65 n, qml (zxc xs) zl_32, 0, 0) _
  refine qR_blk (c' := (13, [.inr (.inr (some 41)), .inl 12, .inl 2], [])) (w' := (zs_65 n, qml (zxc xs) zl_33, 0, 0)) 7 hd0 hz rfl ?_
  refine qR_blk (c' := (22, [.inr (.inr (some 41)), .inl 12, .inl 2], [])) (w' := (zs_65 n, qml (zxc xs) zl_34, 0, 0)) 5 hd0 hz rfl ?_
  refine qR_blk (c' := (34, [.inr (.inr (some 41)), .inl 12, .inl 2], [.inl 24, .inr (.inr (some 41))])) (w' := (zs_65 n, qml (zxc xs) zl_34, 0, 0)) 8 hd0 hz rfl ?_
  refine qR_z (c' := (36, [.inr (.inr (some 41)), .inl 12, .inl 2], [.inr (.inr (some 42)), .inr (.inr (some 41))])) (S' := zs_66 n) (r := 42) (a' := 1) (b' := 24) hd0 hz rfl rfl (fun j => qml_z rfl rfl) ?_
  refine qR_blk (c' := (39, [.inr (.inr (some 41)), .inl 12, .inl 2], [])) (w' := (zs_67 n, qml (zxc xs) zl_34, 1, 24)) 1 hd0 hz rfl ?_
  exact qR_ret hd0 hz rfl rfl ⟨rfl, _, _, rfl⟩
set_option maxRecDepth 100000 in
theorem qc_18 (n : Nat) (xs : Nat → Int32) {d : Nat} (hd : 2 ≤ d) : qR d 17 (0, zini [.inr (.inr (some 26))] 1, []) (zs_36 n, qml (zxc xs) zl_18, 0, 0) (fun r w' => r = none ∧ ∃ a b, w' = (zs_68 n, qml (zxc xs) zl_36, a, b)) := by
  have hz := zp_17
  have hd0 : 0 < d := by omega
  show qR d 17 (0, [.inr (.inr (some 26))], []) (zs_36 n, qml (zxc xs) zl_18, 0, 0) _
  refine qR_blk (c' := (5, [.inr (.inr (some 26))], [.inr (.inr (some 26))])) (w' := (zs_36 n, qml (zxc xs) zl_18, 0, 0)) 3 hd0 hz rfl ?_
  refine qR_z (c' := (8, [.inr (.inr (some 26))], [.inr (.inr (some 27)), .inr (.inr (some 26))])) (S' := zs_37 n) (r := 27) (a' := 1) (b' := 4) hd0 hz rfl rfl (fun j => qml_z rfl rfl) ?_
  refine qR_blk (c' := (12, [.inr (.inr (some 26))], [.inl 4, .inl 14, .inr (.inr (some 27)), .inr (.inr (some 27)), .inr (.inr (some 26))])) (w' := (zs_37 n, qml (zxc xs) zl_18, 1, 4)) 3 hd0 hz rfl ?_
  refine qR_call hd0 hz zp_100 rfl rfl (Nat.le_of_ble_eq_true rfl) ⟨by omega, by omega⟩ (qc_10 n xs (by omega)) (fun r w1 hr => ?_)
  obtain ⟨rfl, a9, b9, rfl⟩ := hr
  show qR d 17 (15, [.inr (.inr (some 26))], [.inr (.inr (some 27)), .inr (.inr (some 26))]) (zs_39 n, qml (zxc xs) zl_20, 2, 60004) _
  refine qR_blk (c' := (18, [.inr (.inr (some 26))], [])) (w' := (zs_40 n, qml (zxc xs) zl_20, 2, 60004)) 1 hd0 hz rfl ?_
  refine qR_blk (c' := (19, [.inr (.inr (some 26))], [.inr (.inr (some 26))])) (w' := (zs_40 n, qml (zxc xs) zl_20, 2, 60004)) 1 hd0 hz rfl ?_
  refine qR_z (c' := (22, [.inr (.inr (some 26))], [.inr (.inr (some 29)), .inr (.inr (some 26))])) (S' := zs_41 n) (r := 29) (a' := 3) (b' := 60008) hd0 hz rfl rfl (fun j => qml_z rfl rfl) ?_
  refine qR_blk (c' := (26, [.inr (.inr (some 26))], [.inl 3, .inl 20, .inr (.inr (some 29)), .inr (.inr (some 29)), .inr (.inr (some 26))])) (w' := (zs_41 n, qml (zxc xs) zl_20, 3, 60008)) 3 hd0 hz rfl ?_
  refine qR_call hd0 hz zp_100 rfl rfl (Nat.le_of_ble_eq_true rfl) ⟨by omega, by omega⟩ (qc_11 n xs (by omega)) (fun r w1 hr => ?_)
  obtain ⟨rfl, a9, b9, rfl⟩ := hr
  show qR d 17 (29, [.inr (.inr (some 26))], [.inr (.inr (some 29)), .inr (.inr (some 26))]) (zs_43 n, qml (zxc xs) zl_22, 4, 120008) _
  refine qR_blk (c' := (32, [.inr (.inr (some 26))], [])) (w' := (zs_44 n, qml (zxc xs) zl_22, 4, 120008)) 1 hd0 hz rfl ?_
  refine qR_blk (c' := (33, [.inr (.inr (some 26))], [.inr (.inr (some 26))])) (w' := (zs_44 n, qml (zxc xs) zl_22, 4, 120008)) 1 hd0 hz rfl ?_
  refine qR_z (c' := (36, [.inr (.inr (some 26))], [.inr (.inr (some 31)), .inr (.inr (some 26))])) (S' := zs_45 n) (r := 31) (a' := 5) (b' := 120012) hd0 hz rfl rfl (fun j => qml_z rfl rfl) ?_
  refine qR_blk (c' := (39, [.inr (.inr (some 26))], [.inl 2, .inl 4, .inr (.inr (some 31)), .inr (.inr (some 31)), .inr (.inr (some 26))])) (w' := (zs_45 n, qml (zxc xs) zl_22, 5, 120012)) 3 hd0 hz rfl ?_
  refine qR_call hd0 hz zp_100 rfl rfl (Nat.le_of_ble_eq_true rfl) ⟨by omega, by omega⟩ (qc_12 n xs (by omega)) (fun r w1 hr => ?_)
  obtain ⟨rfl, a9, b9, rfl⟩ := hr
  show qR d 17 (42, [.inr (.inr (some 26))], [.inr (.inr (some 31)), .inr (.inr (some 26))]) (zs_47 n, qml (zxc xs) zl_24, 6, 180012) _
  refine qR_blk (c' := (45, [.inr (.inr (some 26))], [])) (w' := (zs_48 n, qml (zxc xs) zl_24, 6, 180012)) 1 hd0 hz rfl ?_
  refine qR_blk (c' := (46, [.inr (.inr (some 26))], [.inr (.inr (some 26))])) (w' := (zs_48 n, qml (zxc xs) zl_24, 6, 180012)) 1 hd0 hz rfl ?_
  refine qR_z (c' := (49, [.inr (.inr (some 26))], [.inr (.inr (some 33)), .inr (.inr (some 26))])) (S' := zs_49 n) (r := 33) (a' := 7) (b' := 180016) hd0 hz rfl rfl (fun j => qml_z rfl rfl) ?_
  refine qR_blk (c' := (53, [.inr (.inr (some 26))], [.inl 5, .inl 40, .inr (.inr (some 33)), .inr (.inr (some 33)), .inr (.inr (some 26))])) (w' := (zs_49 n, qml (zxc xs) zl_24, 7, 180016)) 3 hd0 hz rfl ?_
  refine qR_call hd0 hz zp_100 rfl rfl (Nat.le_of_ble_eq_true rfl) ⟨by omega, by omega⟩ (qc_13 n xs (by omega)) (fun r w1 hr => ?_)
  obtain ⟨rfl, a9, b9, rfl⟩ := hr
  show qR d 17 (56, [.inr (.inr (some 26))], [.inr (.inr (some 33)), .inr (.inr (some 26))]) (zs_51 n, qml (zxc xs) zl_26, 8, 240016) _
  refine qR_blk (c' := (59, [.inr (.inr (some 26))], [])) (w' := (zs_52 n, qml (zxc xs) zl_26, 8, 240016)) 1 hd0 hz rfl ?_
  refine qR_blk (c' := (60, [.inr (.inr (some 26))], [.inr (.inr (some 26))])) (w' := (zs_52 n, qml (zxc xs) zl_26, 8, 240016)) 1 hd0 hz rfl ?_
  refine qR_z (c' := (63, [.inr (.inr (some 26))], [.inr (.inr (some 35)), .inr (.inr (some 26))])) (S' := zs_53 n) (r := 35) (a' := 9) (b' := 240020) hd0 hz rfl rfl (fun j => qml_z rfl rfl) ?_
  refine qR_blk (c' := (69, [.inr (.inr (some 26))], [.inl 11, .inl 250, .inr (.inr (some 35)), .inr (.inr (some 35)), .inr (.inr (some 26))])) (w' := (zs_53 n, qml (zxc xs) zl_26, 9, 240020)) 3 hd0 hz rfl ?_
  refine qR_call hd0 hz zp_100 rfl rfl (Nat.le_of_ble_eq_true rfl) ⟨by omega, by omega⟩ (qc_14 n xs (by omega)) (fun r w1 hr => ?_)
  obtain ⟨rfl, a9, b9, rfl⟩ := hr
  show qR d 17 (72, [.inr (.inr (some 26))], [.inr (.inr (some 35)), .inr (.inr (some 26))]) (zs_55 n, qml (zxc xs) zl_28, 10, 300020) _
  refine qR_blk (c' := (75, [.inr (.inr (some 26))], [])) (w' := (zs_56 n, qml (zxc xs) zl_28, 10, 300020)) 1 hd0 hz rfl ?_
  refine qR_blk (c' := (76, [.inr (.inr (some 26))], [.inr (.inr (some 26))])) (w' := (zs_56 n, qml (zxc xs) zl_28, 10, 300020)) 1 hd0 hz rfl ?_
  refine qR_z (c' := (79, [.inr (.inr (some 26))], [.inr (.inr (some 37)), .inr (.inr (some 26))])) (S' := zs_57 n) (r := 37) (a' := 11) (b' := 300024) hd0 hz rfl rfl (fun j => qml_z rfl rfl) ?_
  refine qR_blk (c' := (84, [.inr (.inr (some 26))], [.inl 81, .inl 8, .inr (.inr (some 37)), .inr (.inr (some 37)), .inr (.inr (some 26))])) (w' := (zs_57 n, qml (zxc xs) zl_28, 11, 300024)) 3 hd0 hz rfl ?_
  refine qR_call hd0 hz zp_100 rfl rfl (Nat.le_of_ble_eq_true rfl) ⟨by omega, by omega⟩ (qc_15 n xs (by omega)) (fun r w1 hr => ?_)
  obtain ⟨rfl, a9, b9, rfl⟩ := hr
  show qR d 17 (87, [.inr (.inr (some 26))], [.inr (.inr (some 37)), .inr (.inr (some 26))]) (zs_59 n, qml (zxc xs) zl_30, 12, 360024) _
  refine qR_blk (c' := (90, [.inr (.inr (some 26))], [])) (w' := (zs_60 n, qml (zxc xs) zl_30, 12, 360024)) 1 hd0 hz rfl ?_
  refine qR_blk (c' := (91, [.inr (.inr (some 26))], [.inr (.inr (some 26))])) (w' := (zs_60 n, qml (zxc xs) zl_30, 12, 360024)) 1 hd0 hz rfl ?_
  refine qR_z (c' := (94, [.inr (.inr (some 26))], [.inr (.inr (some 39)), .inr (.inr (some 26))])) (S' := zs_61 n) (r := 39) (a' := 13) (b' := 360028) hd0 hz rfl rfl (fun j => qml_z rfl rfl) ?_
  refine qR_blk (c' := (100, [.inr (.inr (some 26))], [.inl 164, .inl 10, .inr (.inr (some 39)), .inr (.inr (some 39)), .inr (.inr (some 26))])) (w' := (zs_61 n, qml (zxc xs) zl_30, 13, 360028)) 3 hd0 hz rfl ?_
  refine qR_call hd0 hz zp_100 rfl rfl (Nat.le_of_ble_eq_true rfl) ⟨by omega, by omega⟩ (qc_16 n xs (by omega)) (fun r w1 hr => ?_)
  obtain ⟨rfl, a9, b9, rfl⟩ := hr
  show qR d 17 (103, [.inr (.inr (some 26))], [.inr (.inr (some 39)), .inr (.inr (some 26))]) (zs_63 n, qml (zxc xs) zl_32, 14, 420028) _
  refine qR_blk (c' := (106, [.inr (.inr (some 26))], [])) (w' := (zs_64 n, qml (zxc xs) zl_32, 14, 420028)) 1 hd0 hz rfl ?_
  refine qR_blk (c' := (107, [.inr (.inr (some 26))], [.inr (.inr (some 26))])) (w' := (zs_64 n, qml (zxc xs) zl_32, 14, 420028)) 1 hd0 hz rfl ?_
  refine qR_z (c' := (110, [.inr (.inr (some 26))], [.inr (.inr (some 41)), .inr (.inr (some 26))])) (S' := zs_65 n) (r := 41) (a' := 15) (b' := 420032) hd0 hz rfl rfl (fun j => qml_z rfl rfl) ?_
  refine qR_blk (c' := (114, [.inr (.inr (some 26))], [.inl 2, .inl 12, .inr (.inr (some 41)), .inr (.inr (some 41)), .inr (.inr (some 26))])) (w' := (zs_65 n, qml (zxc xs) zl_32, 15, 420032)) 3 hd0 hz rfl ?_
  refine qR_call hd0 hz zp_100 rfl rfl (Nat.le_of_ble_eq_true rfl) ⟨by omega, by omega⟩ (qc_17 n xs (by omega)) (fun r w1 hr => ?_)
  obtain ⟨rfl, a9, b9, rfl⟩ := hr
  show qR d 17 (117, [.inr (.inr (some 26))], [.inr (.inr (some 41)), .inr (.inr (some 26))]) (zs_67 n, qml (zxc xs) zl_34, 16, 480032) _
  refine qR_blk (c' := (120, [.inr (.inr (some 26))], [])) (w' := (zs_68 n, qml (zxc xs) zl_34, 16, 480032)) 1 hd0 hz rfl ?_
  refine qR_blk (c' := (126, [.inr (.inr (some 26))], [])) (w' := (zs_68 n, qml (zxc xs) zl_35, 16, 480032)) 3 hd0 hz rfl ?_
  refine qR_blk (c' := (132, [.inr (.inr (some 26))], [])) (w' := (zs_68 n, qml (zxc xs) zl_36, 16, 480032)) 3 hd0 hz rfl ?_
  exact qR_ret hd0 hz rfl rfl ⟨rfl, _, _, rfl⟩
set_option maxRecDepth 100000 in
theorem qc_19 (n : Nat) (xs : Nat → Int32) {d : Nat} (hd : 1 ≤ d) : qR d 100 (0, zini [.inr (.inr (some 44)), .inl 14, .inl 4] 3, []) (zs_71 n, qml (zxc xs) zl_36, 0, 0) (fun r w' => r = none ∧ ∃ a b, w' = (zs_73 n, qml (zxc xs) zl_38, a, b)) := by
  have hz := zp_100
  have hd0 : 0 < d := by omega
  show qR d 100 (0, [.inr (.inr (some 44)), .inl 14, .inl 4], []) (zs_71 n, qml (zxc xs) zl_36, 0, 0) _
  refine qR_blk (c' := (13, [.inr (.inr (some 44)), .inl 14, .inl 4], [])) (w' := (zs_71 n, qml (zxc xs) zl_37, 0, 0)) 7 hd0 hz rfl ?_
  refine qR_blk (c' := (22, [.inr (.inr (some 44)), .inl 14, .inl 4], [])) (w' := (zs_71 n, qml (zxc xs) zl_38, 0, 0)) 5 hd0 hz rfl ?_
  refine qR_blk (c' := (34, [.inr (.inr (some 44)), .inl 14, .inl 4], [.inl 56, .inr (.inr (some 44))])) (w' := (zs_71 n, qml (zxc xs) zl_38, 0, 0)) 8 hd0 hz rfl ?_
  refine qR_z (c' := (36, [.inr (.inr (some 44)), .inl 14, .inl 4], [.inr (.inr (some 45)), .inr (.inr (some 44))])) (S' := zs_72 n) (r := 45) (a' := 1) (b' := 56) hd0 hz rfl rfl (fun j => qml_z rfl rfl) ?_
  refine qR_blk (c' := (39, [.inr (.inr (some 44)), .inl 14, .inl 4], [])) (w' := (zs_73 n, qml (zxc xs) zl_38, 1, 56)) 1 hd0 hz rfl ?_
  exact qR_ret hd0 hz rfl rfl ⟨rfl, _, _, rfl⟩
set_option maxRecDepth 100000 in
theorem qc_20 (n : Nat) (xs : Nat → Int32) {d : Nat} (hd : 1 ≤ d) : qR d 100 (0, zini [.inr (.inr (some 46)), .inl 20, .inl 3] 3, []) (zs_75 n, qml (zxc xs) zl_38, 0, 0) (fun r w' => r = none ∧ ∃ a b, w' = (zs_77 n, qml (zxc xs) zl_40, a, b)) := by
  have hz := zp_100
  have hd0 : 0 < d := by omega
  show qR d 100 (0, [.inr (.inr (some 46)), .inl 20, .inl 3], []) (zs_75 n, qml (zxc xs) zl_38, 0, 0) _
  refine qR_blk (c' := (13, [.inr (.inr (some 46)), .inl 20, .inl 3], [])) (w' := (zs_75 n, qml (zxc xs) zl_39, 0, 0)) 7 hd0 hz rfl ?_
  refine qR_blk (c' := (22, [.inr (.inr (some 46)), .inl 20, .inl 3], [])) (w' := (zs_75 n, qml (zxc xs) zl_40, 0, 0)) 5 hd0 hz rfl ?_
  refine qR_blk (c' := (34, [.inr (.inr (some 46)), .inl 20, .inl 3], [.inl 60, .inr (.inr (some 46))])) (w' := (zs_75 n, qml (zxc xs) zl_40, 0, 0)) 8 hd0 hz rfl ?_
  refine qR_z (c' := (36, [.inr (.inr (some 46)), .inl 20, .inl 3], [.inr (.inr (some 47)), .inr (.inr (some 46))])) (S' := zs_76 n) (r := 47) (a' := 1) (b' := 60) hd0 hz rfl rfl (fun j => qml_z rfl rfl) ?_
  refine qR_blk (c' := (39, [.inr (.inr (some 46)), .inl 20, .inl 3], [])) (w' := (zs_77 n, qml (zxc xs) zl_40, 1, 60)) 1 hd0 hz rfl ?_
  exact qR_ret hd0 hz rfl rfl ⟨rfl, _, _, rfl⟩
set_option maxRecDepth 100000 in
theorem qc_21 (n : Nat) (xs : Nat → Int32) {d : Nat} (hd : 1 ≤ d) : qR d 100 (0, zini [.inr (.inr (some 48)), .inl 4, .inl 2] 3, []) (zs_79 n, qml (zxc xs) zl_40, 0, 0) (fun r w' => r = none ∧ ∃ a b, w' = (zs_81 n, qml (zxc xs) zl_42, a, b)) := by
  have hz := zp_100
  have hd0 : 0 < d := by omega
  show qR d 100 (0, [.inr (.inr (some 48)), .inl 4, .inl 2], []) (zs_79 n, qml (zxc xs) zl_40, 0, 0) _
  refine qR_blk (c' := (13, [.inr (.inr (some 48)), .inl 4, .inl 2], [])) (w' := (zs_79 n, qml (zxc xs) zl_41, 0, 0)) 7 hd0 hz rfl ?_
  refine qR_blk (c' := (22, [.inr (.inr (some 48)), .inl 4, .inl 2], [])) (w' := (zs_79 n, qml (zxc xs) zl_42, 0, 0)) 5 hd0 hz rfl ?_
  refine qR_blk (c' := (34, [.inr (.inr (some 48)), .inl 4, .inl 2], [.inl 8, .inr (.inr (some 48))])) (w' := (zs_79 n, qml (zxc xs) zl_42, 0, 0)) 8 hd0 hz rfl ?_
  refine qR_z (c' := (36, [.inr (.inr (some 48)), .inl 4, .inl 2], [.inr (.inr (some 49)), .inr (.inr (some 48))])) (S' := zs_80 n) (r := 49) (a' := 1) (b' := 8) hd0 hz rfl rfl (fun j => qml_z rfl rfl) ?_
  refine qR_blk (c' := (39, [.inr (.inr (some 48)), .inl 4, .inl 2], [])) (w' := (zs_81 n, qml (zxc xs) zl_42, 1, 8)) 1 hd0 hz rfl ?_
  exact qR_ret hd0 hz rfl rfl ⟨rfl, _, _, rfl⟩
set_option maxRecDepth 100000 in
theorem qc_22 (n : Nat) (xs : Nat → Int32) {d : Nat} (hd : 1 ≤ d) : qR d 100 (0, zini [.inr (.inr (some 50)), .inl 40, .inl 5] 3, []) (zs_83 n, qml (zxc xs) zl_42, 0, 0) (fun r w' => r = none ∧ ∃ a b, w' = (zs_85 n, qml (zxc xs) zl_44, a, b)) := by
  have hz := zp_100
  have hd0 : 0 < d := by omega
  show qR d 100 (0, [.inr (.inr (some 50)), .inl 40, .inl 5], []) (zs_83 n, qml (zxc xs) zl_42, 0, 0) _
  refine qR_blk (c' := (13, [.inr (.inr (some 50)), .inl 40, .inl 5], [])) (w' := (zs_83 n, qml (zxc xs) zl_43, 0, 0)) 7 hd0 hz rfl ?_
  refine qR_blk (c' := (22, [.inr (.inr (some 50)), .inl 40, .inl 5], [])) (w' := (zs_83 n, qml (zxc xs) zl_44, 0, 0)) 5 hd0 hz rfl ?_
  refine qR_blk (c' := (34, [.inr (.inr (some 50)), .inl 40, .inl 5], [.inl 200, .inr (.inr (some 50))])) (w' := (zs_83 n, qml (zxc xs) zl_44, 0, 0)) 8 hd0 hz rfl ?_
  refine qR_z (c' := (36, [.inr (.inr (some 50)), .inl 40, .inl 5], [.inr (.inr (some 51)), .inr (.inr (some 50))])) (S' := zs_84 n) (r := 51) (a' := 1) (b' := 200) hd0 hz rfl rfl (fun j => qml_z rfl rfl) ?_
  refine qR_blk (c' := (39, [.inr (.inr (some 50)), .inl 40, .inl 5], [])) (w' := (zs_85 n, qml (zxc xs) zl_44, 1, 200)) 1 hd0 hz rfl ?_
  exact qR_ret hd0 hz rfl rfl ⟨rfl, _, _, rfl⟩
set_option maxRecDepth 100000 in
theorem qc_23 (n : Nat) (xs : Nat → Int32) {d : Nat} (hd : 1 ≤ d) : qR d 100 (0, zini [.inr (.inr (some 52)), .inl 250, .inl 11] 3, []) (zs_87 n, qml (zxc xs) zl_44, 0, 0) (fun r w' => r = none ∧ ∃ a b, w' = (zs_89 n, qml (zxc xs) zl_46, a, b)) := by
  have hz := zp_100
  have hd0 : 0 < d := by omega
  show qR d 100 (0, [.inr (.inr (some 52)), .inl 250, .inl 11], []) (zs_87 n, qml (zxc xs) zl_44, 0, 0) _
  refine qR_blk (c' := (13, [.inr (.inr (some 52)), .inl 250, .inl 11], [])) (w' := (zs_87 n, qml (zxc xs) zl_45, 0, 0)) 7 hd0 hz rfl ?_
  refine qR_blk (c' := (22, [.inr (.inr (some 52)), .inl 250, .inl 11], [])) (w' := (zs_87 n, qml (zxc xs) zl_46, 0, 0)) 5 hd0 hz rfl ?_
  refine qR_blk (c' := (34, [.inr (.inr (some 52)), .inl 250, .inl 11], [.inl 2750, .inr (.inr (some 52))])) (w' := (zs_87 n, qml (zxc xs) zl_46, 0, 0)) 8 hd0 hz rfl ?_
  refine qR_z (c' := (36, [.inr (.inr (some 52)), .inl 250, .inl 11], [.inr (.inr (some 53)), .inr (.inr (some 52))])) (S' := zs_88 n) (r := 53) (a' := 1) (b' := 2750) hd0 hz rfl rfl (fun j => qml_z rfl rfl) ?_
  refine qR_blk (c' := (39, [.inr (.inr (some 52)), .inl 250, .inl 11], [])) (w' := (zs_89 n, qml (zxc xs) zl_46, 1, 2750)) 1 hd0 hz rfl ?_
  exact qR_ret hd0 hz rfl rfl ⟨rfl, _, _, rfl⟩
set_option maxRecDepth 100000 in
theorem qc_24 (n : Nat) (xs : Nat → Int32) {d : Nat} (hd : 1 ≤ d) : qR d 100 (0, zini [.inr (.inr (some 54)), .inl 8, .inl 81] 3, []) (zs_91 n, qml (zxc xs) zl_46, 0, 0) (fun r w' => r = none ∧ ∃ a b, w' = (zs_93 n, qml (zxc xs) zl_48, a, b)) := by
  have hz := zp_100
  have hd0 : 0 < d := by omega
  show qR d 100 (0, [.inr (.inr (some 54)), .inl 8, .inl 81], []) (zs_91 n, qml (zxc xs) zl_46, 0, 0) _
  refine qR_blk (c' := (13, [.inr (.inr (some 54)), .inl 8, .inl 81], [])) (w' := (zs_91 n, qml (zxc xs) zl_47, 0, 0)) 7 hd0 hz rfl ?_
  refine qR_blk (c' := (22, [.inr (.inr (some 54)), .inl 8, .inl 81], [])) (w' := (zs_91 n, qml (zxc xs) zl_48, 0, 0)) 5 hd0 hz rfl ?_
  refine qR_blk (c' := (34, [.inr (.inr (some 54)), .inl 8, .inl 81], [.inl 648, .inr (.inr (some 54))])) (w' := (zs_91 n, qml (zxc xs) zl_48, 0, 0)) 8 hd0 hz rfl ?_
  refine qR_z (c' := (36, [.inr (.inr (some 54)), .inl 8, .inl 81], [.inr (.inr (some 55)), .inr (.inr (some 54))])) (S' := zs_92 n) (r := 55) (a' := 1) (b' := 648) hd0 hz rfl rfl (fun j => qml_z rfl rfl) ?_
  refine qR_blk (c' := (39, [.inr (.inr (some 54)), .inl 8, .inl 81], [])) (w' := (zs_93 n, qml (zxc xs) zl_48, 1, 648)) 1 hd0 hz rfl ?_
  exact qR_ret hd0 hz rfl rfl ⟨rfl, _, _, rfl⟩
set_option maxRecDepth 100000 in
theorem qc_25 (n : Nat) (xs : Nat → Int32) {d : Nat} (hd : 1 ≤ d) : qR d 100 (0, zini [.inr (.inr (some 56)), .inl 10, .inl 164] 3, []) (zs_95 n, qml (zxc xs) zl_48, 0, 0) (fun r w' => r = none ∧ ∃ a b, w' = (zs_97 n, qml (zxc xs) zl_50, a, b)) := by
  have hz := zp_100
  have hd0 : 0 < d := by omega
  show qR d 100 (0, [.inr (.inr (some 56)), .inl 10, .inl 164], []) (zs_95 n, qml (zxc xs) zl_48, 0, 0) _
  refine qR_blk (c' := (13, [.inr (.inr (some 56)), .inl 10, .inl 164], [])) (w' := (zs_95 n, qml (zxc xs) zl_49, 0, 0)) 7 hd0 hz rfl ?_
  refine qR_blk (c' := (22, [.inr (.inr (some 56)), .inl 10, .inl 164], [])) (w' := (zs_95 n, qml (zxc xs) zl_50, 0, 0)) 5 hd0 hz rfl ?_
  refine qR_blk (c' := (34, [.inr (.inr (some 56)), .inl 10, .inl 164], [.inl 1640, .inr (.inr (some 56))])) (w' := (zs_95 n, qml (zxc xs) zl_50, 0, 0)) 8 hd0 hz rfl ?_
  refine qR_z (c' := (36, [.inr (.inr (some 56)), .inl 10, .inl 164], [.inr (.inr (some 57)), .inr (.inr (some 56))])) (S' := zs_96 n) (r := 57) (a' := 1) (b' := 1640) hd0 hz rfl rfl (fun j => qml_z rfl rfl) ?_
  refine qR_blk (c' := (39, [.inr (.inr (some 56)), .inl 10, .inl 164], [])) (w' := (zs_97 n, qml (zxc xs) zl_50, 1, 1640)) 1 hd0 hz rfl ?_
  exact qR_ret hd0 hz rfl rfl ⟨rfl, _, _, rfl⟩
set_option maxRecDepth 100000 in
theorem qc_26 (n : Nat) (xs : Nat → Int32) {d : Nat} (hd : 1 ≤ d) : qR d 100 (0, zini [.inr (.inr (some 58)), .inl 12, .inl 2] 3, []) (zs_99 n, qml (zxc xs) zl_50, 0, 0) (fun r w' => r = none ∧ ∃ a b, w' = (zs_101 n, qml (zxc xs) zl_52, a, b)) := by
  have hz := zp_100
  have hd0 : 0 < d := by omega
  show qR d 100 (0, [.inr (.inr (some 58)), .inl 12, .inl 2], []) (zs_99 n, qml (zxc xs) zl_50, 0, 0) _
  refine qR_blk (c' := (13, [.inr (.inr (some 58)), .inl 12, .inl 2], [])) (w' := (zs_99 n, qml (zxc xs) zl_51, 0, 0)) 7 hd0 hz rfl ?_
  refine qR_blk (c' := (22, [.inr (.inr (some 58)), .inl 12, .inl 2], [])) (w' := (zs_99 n, qml (zxc xs) zl_52, 0, 0)) 5 hd0 hz rfl ?_
  refine qR_blk (c' := (34, [.inr (.inr (some 58)), .inl 12, .inl 2], [.inl 24, .inr (.inr (some 58))])) (w' := (zs_99 n, qml (zxc xs) zl_52, 0, 0)) 8 hd0 hz rfl ?_
  refine qR_z (c' := (36, [.inr (.inr (some 58)), .inl 12, .inl 2], [.inr (.inr (some 59)), .inr (.inr (some 58))])) (S' := zs_100 n) (r := 59) (a' := 1) (b' := 24) hd0 hz rfl rfl (fun j => qml_z rfl rfl) ?_
  refine qR_blk (c' := (39, [.inr (.inr (some 58)), .inl 12, .inl 2], [])) (w' := (zs_101 n, qml (zxc xs) zl_52, 1, 24)) 1 hd0 hz rfl ?_
  exact qR_ret hd0 hz rfl rfl ⟨rfl, _, _, rfl⟩
set_option maxRecDepth 100000 in
theorem qc_27 (n : Nat) (xs : Nat → Int32) {d : Nat} (hd : 2 ≤ d) : qR d 17 (0, zini [.inr (.inr (some 43))] 1, []) (zs_70 n, qml (zxc xs) zl_36, 0, 0) (fun r w' => r = none ∧ ∃ a b, w' = (zs_102 n, qml (zxc xs) zl_54, a, b)) := by
  have hz := zp_17
  have hd0 : 0 < d := by omega
  show qR d 17 (0, [.inr (.inr (some 43))], []) (zs_70 n, qml (zxc xs) zl_36, 0, 0) _
  refine qR_blk (c' := (5, [.inr (.inr (some 43))], [.inr (.inr (some 43))])) (w' := (zs_70 n, qml (zxc xs) zl_36, 0, 0)) 3 hd0 hz rfl ?_
  refine qR_z (c' := (8, [.inr (.inr (some 43))], [.inr (.inr (some 44)), .inr (.inr (some 43))])) (S' := zs_71 n) (r := 44) (a' := 1) (b' := 4) hd0 hz rfl rfl (fun j => qml_z rfl rfl) ?_
  refine qR_blk (c' := (12, [.inr (.inr (some 43))], [.inl 4, .inl 14, .inr (.inr (some 44)), .inr (.inr (some 44)), .inr (.inr (some 43))])) (w' := (zs_71 n, qml (zxc xs) zl_36, 1, 4)) 3 hd0 hz rfl ?_
  refine qR_call hd0 hz zp_100 rfl rfl (Nat.le_of_ble_eq_true rfl) ⟨by omega, by omega⟩ (qc_19 n xs (by omega)) (fun r w1 hr => ?_)
  obtain ⟨rfl, a9, b9, rfl⟩ := hr
  show qR d 17 (15, [.inr (.inr (some 43))], [.inr (.inr (some 44)), .inr (.inr (some 43))]) (zs_73 n, qml (zxc xs) zl_38, 2, 60004) _
  refine qR_blk (c' := (18, [.inr (.inr (some 43))], [])) (w' := (zs_74 n, qml (zxc xs) zl_38, 2, 60004)) 1 hd0 hz rfl ?_
  refine qR_blk (c' := (19, [.inr (.inr (some 43))], [.inr (.inr (some 43))])) (w' := (zs_74 n, qml (zxc xs) zl_38, 2, 60004)) 1 hd0 hz rfl ?_
  refine qR_z (c' := (22, [.inr (.inr (some 43))], [.inr (.inr (some 46)), .inr (.inr (some 43))])) (S' := zs_75 n) (r := 46) (a' := 3) (b' := 60008) hd0 hz rfl rfl (fun j => qml_z rfl rfl) ?_
  refine qR_blk (c' := (26, [.inr (.inr (some 43))], [.inl 3, .inl 20, .inr (.inr (some 46)), .inr (.inr (some 46)), .inr (.inr (some 43))])) (w' := (zs_75 n, qml (zxc xs) zl_38, 3, 60008)) 3 hd0 hz rfl ?_
  refine qR_call hd0 hz zp_100 rfl rfl (Nat.le_of_ble_eq_true rfl) ⟨by omega, by omega⟩ (qc_20 n xs (by omega)) (fun r w1 hr => ?_)
  obtain ⟨rfl, a9, b9, rfl⟩ := hr
  show qR d 17 (29, [.inr (.inr (some 43))], [.inr (.inr (some 46)), .inr (.inr (some 43))]) (zs_77 n, qml (zxc xs) zl_40, 4, 120008) _
  refine qR_blk (c' := (32, [.inr (.inr (some 43))], [])) (w' := (zs_78 n, qml (zxc xs) zl_40, 4, 120008)) 1 hd0 hz rfl ?_
  refine qR_blk (c' := (33, [.inr (.inr (some 43))], [.inr (.inr (some 43))])) (w' := (zs_78 n, qml (zxc xs) zl_40, 4, 120008)) 1 hd0 hz rfl ?_
  refine qR_z (c' := (36, [.inr (.inr (some 43))], [.inr (.inr (some 48)), .inr (.inr (some 43))])) (S' := zs_79 n) (r := 48) (a' := 5) (b' := 120012) hd0 hz rfl rfl (fun j => qml_z rfl rfl) ?_
  refine qR_blk (c' := (39, [.inr (.inr (some 43))], [.inl 2, .inl 4, .inr (.inr (some 48)), .inr (.inr (some 48)), .inr (.inr (some 43))])) (w' := (zs_79 n, qml (zxc xs) zl_40, 5, 120012)) 3 hd0 hz rfl ?_
  refine qR_call hd0 hz zp_100 rfl rfl (Nat.le_of_ble_eq_true rfl) ⟨by omega, by omega⟩ (qc_21 n xs (by omega)) (fun r w1 hr => ?_)
  obtain ⟨rfl, a9, b9, rfl⟩ := hr
  show qR d 17 (42, [.inr (.inr (some 43))], [.inr (.inr (some 48)), .inr (.inr (some 43))]) (zs_81 n, qml (zxc xs) zl_42, 6, 180012) _
  refine qR_blk (c' := (45, [.inr (.inr (some 43))], [])) (w' := (zs_82 n, qml (zxc xs) zl_42, 6, 180012)) 1 hd0 hz rfl ?_
  refine qR_blk (c' := (46, [.inr (.inr (some 43))], [.inr (.inr (some 43))])) (w' := (zs_82 n, qml (zxc xs) zl_42, 6, 180012)) 1 hd0 hz rfl ?_
  refine qR_z (c' := (49, [.inr (.inr (some 43))], [.inr (.inr (some 50)), .inr (.inr (some 43))])) (S' := zs_83 n) (r := 50) (a' := 7) (b' := 180016) hd0 hz rfl rfl (fun j => qml_z rfl rfl) ?_
  refine qR_blk (c' := (53, [.inr (.inr (some 43))], [.inl 5, .inl 40, .inr (.inr (some 50)), .inr (.inr (some 50)), .inr (.inr (some 43))])) (w' := (zs_83 n, qml (zxc xs) zl_42, 7, 180016)) 3 hd0 hz rfl ?_
  refine qR_call hd0 hz zp_100 rfl rfl (Nat.le_of_ble_eq_true rfl) ⟨by omega, by omega⟩ (qc_22 n xs (by omega)) (fun r w1 hr => ?_)
  obtain ⟨rfl, a9, b9, rfl⟩ := hr
  show qR d 17 (56, [.inr (.inr (some 43))], [.inr (.inr (some 50)), .inr (.inr (some 43))]) (zs_85 n, qml (zxc xs) zl_44, 8, 240016) _
  refine qR_blk (c' := (59, [.inr (.inr (some 43))], [])) (w' := (zs_86 n, qml (zxc xs) zl_44, 8, 240016)) 1 hd0 hz rfl ?_
  refine qR_blk (c' := (60, [.inr (.inr (some 43))], [.inr (.inr (some 43))])) (w' := (zs_86 n, qml (zxc xs) zl_44, 8, 240016)) 1 hd0 hz rfl ?_
  refine qR_z (c' := (63, [.inr (.inr (some 43))], [.inr (.inr (some 52)), .inr (.inr (some 43))])) (S' := zs_87 n) (r := 52) (a' := 9) (b' := 240020) hd0 hz rfl rfl (fun j => qml_z rfl rfl) ?_
  refine qR_blk (c' := (69, [.inr (.inr (some 43))], [.inl 11, .inl 250, .inr (.inr (some 52)), .inr (.inr (some 52)), .inr (.inr (some 43))])) (w' := (zs_87 n, qml (zxc xs) zl_44, 9, 240020)) 3 hd0 hz rfl ?_
  refine qR_call hd0 hz zp_100 rfl rfl (Nat.le_of_ble_eq_true rfl) ⟨by omega, by omega⟩ (qc_23 n xs (by omega)) (fun r w1 hr => ?_)
  obtain ⟨rfl, a9, b9, rfl⟩ := hr
  show qR d 17 (72, [.inr (.inr (some 43))], [.inr (.inr (some 52)), .inr (.inr (some 43))]) (zs_89 n, qml (zxc xs) zl_46, 10, 300020) _
  refine qR_blk (c' := (75, [.inr (.inr (some 43))], [])) (w' := (zs_90 n, qml (zxc xs) zl_46, 10, 300020)) 1 hd0 hz rfl ?_
  refine qR_blk (c' := (76, [.inr (.inr (some 43))], [.inr (.inr (some 43))])) (w' := (zs_90 n, qml (zxc xs) zl_46, 10, 300020)) 1 hd0 hz rfl ?_
  refine qR_z (c' := (79, [.inr (.inr (some 43))], [.inr (.inr (some 54)), .inr (.inr (some 43))])) (S' := zs_91 n) (r := 54) (a' := 11) (b' := 300024) hd0 hz rfl rfl (fun j => qml_z rfl rfl) ?_
  refine qR_blk (c' := (84, [.inr (.inr (some 43))], [.inl 81, .inl 8, .inr (.inr (some 54)), .inr (.inr (some 54)), .inr (.inr (some 43))])) (w' := (zs_91 n, qml (zxc xs) zl_46, 11, 300024)) 3 hd0 hz rfl ?_
  refine qR_call hd0 hz zp_100 rfl rfl (Nat.le_of_ble_eq_true rfl) ⟨by omega, by omega⟩ (qc_24 n xs (by omega)) (fun r w1 hr => ?_)
  obtain ⟨rfl, a9, b9, rfl⟩ := hr
  show qR d 17 (87, [.inr (.inr (some 43))], [.inr (.inr (some 54)), .inr (.inr (some 43))]) (zs_93 n, qml (zxc xs) zl_48, 12, 360024) _
  refine qR_blk (c' := (90, [.inr (.inr (some 43))], [])) (w' := (zs_94 n, qml (zxc xs) zl_48, 12, 360024)) 1 hd0 hz rfl ?_
  refine qR_blk (c' := (91, [.inr (.inr (some 43))], [.inr (.inr (some 43))])) (w' := (zs_94 n, qml (zxc xs) zl_48, 12, 360024)) 1 hd0 hz rfl ?_
  refine qR_z (c' := (94, [.inr (.inr (some 43))], [.inr (.inr (some 56)), .inr (.inr (some 43))])) (S' := zs_95 n) (r := 56) (a' := 13) (b' := 360028) hd0 hz rfl rfl (fun j => qml_z rfl rfl) ?_
  refine qR_blk (c' := (100, [.inr (.inr (some 43))], [.inl 164, .inl 10, .inr (.inr (some 56)), .inr (.inr (some 56)), .inr (.inr (some 43))])) (w' := (zs_95 n, qml (zxc xs) zl_48, 13, 360028)) 3 hd0 hz rfl ?_
  refine qR_call hd0 hz zp_100 rfl rfl (Nat.le_of_ble_eq_true rfl) ⟨by omega, by omega⟩ (qc_25 n xs (by omega)) (fun r w1 hr => ?_)
  obtain ⟨rfl, a9, b9, rfl⟩ := hr
  show qR d 17 (103, [.inr (.inr (some 43))], [.inr (.inr (some 56)), .inr (.inr (some 43))]) (zs_97 n, qml (zxc xs) zl_50, 14, 420028) _
  refine qR_blk (c' := (106, [.inr (.inr (some 43))], [])) (w' := (zs_98 n, qml (zxc xs) zl_50, 14, 420028)) 1 hd0 hz rfl ?_
  refine qR_blk (c' := (107, [.inr (.inr (some 43))], [.inr (.inr (some 43))])) (w' := (zs_98 n, qml (zxc xs) zl_50, 14, 420028)) 1 hd0 hz rfl ?_
  refine qR_z (c' := (110, [.inr (.inr (some 43))], [.inr (.inr (some 58)), .inr (.inr (some 43))])) (S' := zs_99 n) (r := 58) (a' := 15) (b' := 420032) hd0 hz rfl rfl (fun j => qml_z rfl rfl) ?_
  refine qR_blk (c' := (114, [.inr (.inr (some 43))], [.inl 2, .inl 12, .inr (.inr (some 58)), .inr (.inr (some 58)), .inr (.inr (some 43))])) (w' := (zs_99 n, qml (zxc xs) zl_50, 15, 420032)) 3 hd0 hz rfl ?_
  refine qR_call hd0 hz zp_100 rfl rfl (Nat.le_of_ble_eq_true rfl) ⟨by omega, by omega⟩ (qc_26 n xs (by omega)) (fun r w1 hr => ?_)
  obtain ⟨rfl, a9, b9, rfl⟩ := hr
  show qR d 17 (117, [.inr (.inr (some 43))], [.inr (.inr (some 58)), .inr (.inr (some 43))]) (zs_101 n, qml (zxc xs) zl_52, 16, 480032) _
  refine qR_blk (c' := (120, [.inr (.inr (some 43))], [])) (w' := (zs_102 n, qml (zxc xs) zl_52, 16, 480032)) 1 hd0 hz rfl ?_
  refine qR_blk (c' := (126, [.inr (.inr (some 43))], [])) (w' := (zs_102 n, qml (zxc xs) zl_53, 16, 480032)) 3 hd0 hz rfl ?_
  refine qR_blk (c' := (132, [.inr (.inr (some 43))], [])) (w' := (zs_102 n, qml (zxc xs) zl_54, 16, 480032)) 3 hd0 hz rfl ?_
  exact qR_ret hd0 hz rfl rfl ⟨rfl, _, _, rfl⟩
set_option maxRecDepth 100000 in
theorem qc_28 (n : Nat) (xs : Nat → Int32) {d : Nat} (hd : 1 ≤ d) : qR d 100 (0, zini [.inr (.inr (some 61)), .inl 250, .inl 4] 3, []) (zs_105 n, qml (zxc xs) zl_54, 0, 0) (fun r w' => r = none ∧ ∃ a b, w' = (zs_107 n, qml (zxc xs) zl_56, a, b)) := by
  have hz := zp_100
  have hd0 : 0 < d := by omega
  show qR d 100 (0, [.inr (.inr (some 61)), .inl 250, .inl 4], []) (zs_105 n, qml (zxc xs) zl_54, 0, 0) _
  refine qR_blk (c' := (13, [.inr (.inr (some 61)), .inl 250, .inl 4], [])) (w' := (zs_105 n, qml (zxc xs) zl_55, 0, 0)) 7 hd0 hz rfl ?_
  refine qR_blk (c' := (22, [.inr (.inr (some 61)), .inl 250, .inl 4], [])) (w' := (zs_105 n, qml (zxc xs) zl_56, 0, 0)) 5 hd0 hz rfl ?_
  refine qR_blk (c' := (34, [.inr (.inr (some 61)), .inl 250, .inl 4], [.inl 1000, .inr (.inr (some 61))])) (w' := (zs_105 n, qml (zxc xs) zl_56, 0, 0)) 8 hd0 hz rfl ?_
  refine qR_z (c' := (36, [.inr (.inr (some 61)), .inl 250, .inl 4], [.inr (.inr (some 62)), .inr (.inr (some 61))])) (S' := zs_106 n) (r := 62) (a' := 1) (b' := 1000) hd0 hz rfl rfl (fun j => qml_z rfl rfl) ?_
  refine qR_blk (c' := (39, [.inr (.inr (some 61)), .inl 250, .inl 4], [])) (w' := (zs_107 n, qml (zxc xs) zl_56, 1, 1000)) 1 hd0 hz rfl ?_
  exact qR_ret hd0 hz rfl rfl ⟨rfl, _, _, rfl⟩
set_option maxRecDepth 100000 in
theorem qc_29 (n : Nat) (xs : Nat → Int32) {d : Nat} (hd : 1 ≤ d) : qR d 100 (0, zini [.inr (.inr (some 63)), .inl 280, .inl 4] 3, []) (zs_109 n, qml (zxc xs) zl_56, 0, 0) (fun r w' => r = none ∧ ∃ a b, w' = (zs_111 n, qml (zxc xs) zl_58, a, b)) := by
  have hz := zp_100
  have hd0 : 0 < d := by omega
  show qR d 100 (0, [.inr (.inr (some 63)), .inl 280, .inl 4], []) (zs_109 n, qml (zxc xs) zl_56, 0, 0) _
  refine qR_blk (c' := (13, [.inr (.inr (some 63)), .inl 280, .inl 4], [])) (w' := (zs_109 n, qml (zxc xs) zl_57, 0, 0)) 7 hd0 hz rfl ?_
  refine qR_blk (c' := (22, [.inr (.inr (some 63)), .inl 280, .inl 4], [])) (w' := (zs_109 n, qml (zxc xs) zl_58, 0, 0)) 5 hd0 hz rfl ?_
  refine qR_blk (c' := (34, [.inr (.inr (some 63)), .inl 280, .inl 4], [.inl 1120, .inr (.inr (some 63))])) (w' := (zs_109 n, qml (zxc xs) zl_58, 0, 0)) 8 hd0 hz rfl ?_
  refine qR_z (c' := (36, [.inr (.inr (some 63)), .inl 280, .inl 4], [.inr (.inr (some 64)), .inr (.inr (some 63))])) (S' := zs_110 n) (r := 64) (a' := 1) (b' := 1120) hd0 hz rfl rfl (fun j => qml_z rfl rfl) ?_
  refine qR_blk (c' := (39, [.inr (.inr (some 63)), .inl 280, .inl 4], [])) (w' := (zs_111 n, qml (zxc xs) zl_58, 1, 1120)) 1 hd0 hz rfl ?_
  exact qR_ret hd0 hz rfl rfl ⟨rfl, _, _, rfl⟩
set_option maxRecDepth 100000 in
theorem qc_30 (n : Nat) (xs : Nat → Int32) {d : Nat} (hd : 1 ≤ d) : qR d 100 (0, zini [.inr (.inr (some 65)), .inl 250, .inl 1] 3, []) (zs_113 n, qml (zxc xs) zl_58, 0, 0) (fun r w' => r = none ∧ ∃ a b, w' = (zs_115 n, qml (zxc xs) zl_60, a, b)) := by
  have hz := zp_100
  have hd0 : 0 < d := by omega
  show qR d 100 (0, [.inr (.inr (some 65)), .inl 250, .inl 1], []) (zs_113 n, qml (zxc xs) zl_58, 0, 0) _
  refine qR_blk (c' := (13, [.inr (.inr (some 65)), .inl 250, .inl 1], [])) (w' := (zs_113 n, qml (zxc xs) zl_59, 0, 0)) 7 hd0 hz rfl ?_
  refine qR_blk (c' := (22, [.inr (.inr (some 65)), .inl 250, .inl 1], [])) (w' := (zs_113 n, qml (zxc xs) zl_60, 0, 0)) 5 hd0 hz rfl ?_
  refine qR_blk (c' := (34, [.inr (.inr (some 65)), .inl 250, .inl 1], [.inl 250, .inr (.inr (some 65))])) (w' := (zs_113 n, qml (zxc xs) zl_60, 0, 0)) 8 hd0 hz rfl ?_
  refine qR_z (c' := (36, [.inr (.inr (some 65)), .inl 250, .inl 1], [.inr (.inr (some 66)), .inr (.inr (some 65))])) (S' := zs_114 n) (r := 66) (a' := 1) (b' := 250) hd0 hz rfl rfl (fun j => qml_z rfl rfl) ?_
  refine qR_blk (c' := (39, [.inr (.inr (some 65)), .inl 250, .inl 1], [])) (w' := (zs_115 n, qml (zxc xs) zl_60, 1, 250)) 1 hd0 hz rfl ?_
  exact qR_ret hd0 hz rfl rfl ⟨rfl, _, _, rfl⟩
set_option maxRecDepth 100000 in
theorem qc_31 (n : Nat) (xs : Nat → Int32) {d : Nat} (hd : 2 ≤ d) : qR d 40 (0, zini [.inr (.inr (some 60)), .inr (.inr (some 9))] 2, []) (zs_104 n, qml (zxc xs) zl_54, 0, 0) (fun r w' => r = none ∧ ∃ a b, w' = (zs_117 n, qml (zxc xs) zl_60, a, b)) := by
  have hz := zp_40
  have hd0 : 0 < d := by omega
  show qR d 40 (0, [.inr (.inr (some 60)), .inr (.inr (some 9))], []) (zs_104 n, qml (zxc xs) zl_54, 0, 0) _
  refine qR_blk (c' := (5, [.inr (.inr (some 60)), .inr (.inr (some 9))], [.inr (.inr (some 60))])) (w' := (zs_104 n, qml (zxc xs) zl_54, 0, 0)) 3 hd0 hz rfl ?_
  refine qR_z (c' := (8, [.inr (.inr (some 60)), .inr (.inr (some 9))], [.inr (.inr (some 61)), .inr (.inr (some 60))])) (S' := zs_105 n) (r := 61) (a' := 1) (b' := 4) hd0 hz rfl rfl (fun j => qml_z rfl rfl) ?_
  refine qR_blk (c' := (13, [.inr (.inr (some 60)), .inr (.inr (some 9))], [.inl 4, .inl 250, .inr (.inr (some 61)), .inr (.inr (some 61)), .inr (.inr (some 60))])) (w' := (zs_105 n, qml (zxc xs) zl_54, 1, 4)) 3 hd0 hz rfl ?_
  refine qR_call hd0 hz zp_100 rfl rfl (Nat.le_of_ble_eq_true rfl) ⟨by omega, by omega⟩ (qc_28 n xs (by omega)) (fun r w1 hr => ?_)
  obtain ⟨rfl, a9, b9, rfl⟩ := hr
  show qR d 40 (16, [.inr (.inr (some 60)), .inr (.inr (some 9))], [.inr (.inr (some 61)), .inr (.inr (some 60))]) (zs_107 n, qml (zxc xs) zl_56, 2, 60004) _
  refine qR_blk (c' := (19, [.inr (.inr (some 60)), .inr (.inr (some 9))], [])) (w' := (zs_108 n, qml (zxc xs) zl_56, 2, 60004)) 1 hd0 hz rfl ?_
  refine qR_blk (c' := (20, [.inr (.inr (some 60)), .inr (.inr (some 9))], [.inr (.inr (some 60))])) (w' := (zs_108 n, qml (zxc xs) zl_56, 2, 60004)) 1 hd0 hz rfl ?_
  refine qR_z (c' := (23, [.inr (.inr (some 60)), .inr (.inr (some 9))], [.inr (.inr (some 63)), .inr (.inr (some 60))])) (S' := zs_109 n) (r := 63) (a' := 3) (b' := 60008) hd0 hz rfl rfl (fun j => qml_z rfl rfl) ?_
  refine qR_blk (c' := (28, [.inr (.inr (some 60)), .inr (.inr (some 9))], [.inl 4, .inl 280, .inr (.inr (some 63)), .inr (.inr (some 63)), .inr (.inr (some 60))])) (w' := (zs_109 n, qml (zxc xs) zl_56, 3, 60008)) 3 hd0 hz rfl ?_
  refine qR_call hd0 hz zp_100 rfl rfl (Nat.le_of_ble_eq_true rfl) ⟨by omega, by omega⟩ (qc_29 n xs (by omega)) (fun r w1 hr => ?_)
  obtain ⟨rfl, a9, b9, rfl⟩ := hr
  show qR d 40 (31, [.inr (.inr (some 60)), .inr (.inr (some 9))], [.inr (.inr (some 63)), .inr (.inr (some 60))]) (zs_111 n, qml (zxc xs) zl_58, 4, 120008) _
  refine qR_blk (c' := (34, [.inr (.inr (some 60)), .inr (.inr (some 9))], [])) (w' := (zs_112 n, qml (zxc xs) zl_58, 4, 120008)) 1 hd0 hz rfl ?_
  refine qR_blk (c' := (35, [.inr (.inr (some 60)), .inr (.inr (some 9))], [.inr (.inr (some 60))])) (w' := (zs_112 n, qml (zxc xs) zl_58, 4, 120008)) 1 hd0 hz rfl ?_
  refine qR_z (c' := (38, [.inr (.inr (some 60)), .inr (.inr (some 9))], [.inr (.inr (some 65)), .inr (.inr (some 60))])) (S' := zs_113 n) (r := 65) (a' := 5) (b' := 120012) hd0 hz rfl rfl (fun j => qml_z rfl rfl) ?_
  refine qR_blk (c' := (43, [.inr (.inr (some 60)), .inr (.inr (some 9))], [.inl 1, .inl 250, .inr (.inr (some 65)), .inr (.inr (some 65)), .inr (.inr (some 60))])) (w' := (zs_113 n, qml (zxc xs) zl_58, 5, 120012)) 3 hd0 hz rfl ?_
  refine qR_call hd0 hz zp_100 rfl rfl (Nat.le_of_ble_eq_true rfl) ⟨by omega, by omega⟩ (qc_30 n xs (by omega)) (fun r w1 hr => ?_)
  obtain ⟨rfl, a9, b9, rfl⟩ := hr
  show qR d 40 (46, [.inr (.inr (some 60)), .inr (.inr (some 9))], [.inr (.inr (some 65)), .inr (.inr (some 60))]) (zs_115 n, qml (zxc xs) zl_60, 6, 180012) _
  refine qR_blk (c' := (49, [.inr (.inr (some 60)), .inr (.inr (some 9))], [])) (w' := (zs_116 n, qml (zxc xs) zl_60, 6, 180012)) 1 hd0 hz rfl ?_
  refine qR_blk (c' := (54, [.inr (.inr (some 60)), .inr (.inr (some 9))], [])) (w' := (zs_117 n, qml (zxc xs) zl_60, 6, 180012)) 3 hd0 hz rfl ?_
  exact qR_ret hd0 hz rfl rfl ⟨rfl, _, _, rfl⟩
