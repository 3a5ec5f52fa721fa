set_option maxRecDepth 100000 in
theorem qc_32 (n : Nat) (xs : Nat → Int32) {d : Nat} (hd : 1 ≤ d) : qR d 100 (0, zini [.inr (.inr (some 68)), .inl 1, .inl 81] 3, []) (zs_120 n, qml (zxc xs) zl_60, 0, 0) (fun r w' => r = none ∧ ∃ a b, w' = (zs_122 n, qml (zxc xs) zl_62, a, b)) := by
  have hz := zp_100
  have hd0 : 0 < d := by omega
  show qR d 100 (0, [.inr (.inr (some 68)), .inl 1, .inl 81], []) (zs_120 n, qml (zxc xs) zl_60, 0, 0) _
  refine qR_blk (c' := (13, [.inr (.inr (some 68)), .inl 1, .inl 81], [])) (w' := (zs_120 n, qml (zxc xs) zl_61, 0, 0)) 7 hd0 hz rfl ?_
  refine qR_blk (c' := (22, [.inr (.inr (some 68)), .inl 1, .inl 81], [])) (w' := (zs_120 n, qml (zxc xs) zl_62, 0, 0)) 5 hd0 hz rfl ?_
  refine qR_blk (c' := (34, [.inr (.inr (some 68)), .inl 1, .inl 81], [.inl 81, .inr (.inr (some 68))])) (w' := (zs_120 n, qml (zxc xs) zl_62, 0, 0)) 8 hd0 hz rfl ?_
  refine qR_z (c' := (36, [.inr (.inr (some 68)), .inl 1, .inl 81], [.inr (.inr (some 69)), .inr (.inr (some 68))])) (S' := zs_121 n) (r := 69) (a' := 1) (b' := 81) hd0 hz rfl rfl (fun j => qml_z rfl rfl) ?_
  refine qR_blk (c' := (39, [.inr (.inr (some 68)), .inl 1, .inl 81], [])) (w' := (zs_122 n, qml (zxc xs) zl_62, 1, 81)) 1 hd0 hz rfl ?_
  exact qR_ret hd0 hz rfl rfl ⟨rfl, _, _, rfl⟩
set_option maxRecDepth 100000 in
theorem qc_33 (n : Nat) (xs : Nat → Int32) {d : Nat} (hd : 1 ≤ d) : qR d 100 (0, zini [.inr (.inr (some 70)), .inl 80, .inl 1] 3, []) (zs_124 n, qml (zxc xs) zl_62, 0, 0) (fun r w' => r = none ∧ ∃ a b, w' = (zs_126 n, qml (zxc xs) zl_64, a, b)) := by
  have hz := zp_100
  have hd0 : 0 < d := by omega
  show qR d 100 (0, [.inr (.inr (some 70)), .inl 80, .inl 1], []) (zs_124 n, qml (zxc xs) zl_62, 0, 0) _
  refine qR_blk (c' := (13, [.inr (.inr (some 70)), .inl 80, .inl 1], [])) (w' := (zs_124 n, qml (zxc xs) zl_63, 0, 0)) 7 hd0 hz rfl ?_
  refine qR_blk (c' := (22, [.inr (.inr (some 70)), .inl 80, .inl 1], [])) (w' := (zs_124 n, qml (zxc xs) zl_64, 0, 0)) 5 hd0 hz rfl ?_
  refine qR_blk (c' := (34, [.inr (.inr (some 70)), .inl 80, .inl 1], [.inl 80, .inr (.inr (some 70))])) (w' := (zs_124 n, qml (zxc xs) zl_64, 0, 0)) 8 hd0 hz rfl ?_
  refine qR_z (c' := (36, [.inr (.inr (some 70)), .inl 80, .inl 1], [.inr (.inr (some 71)), .inr (.inr (some 70))])) (S' := zs_125 n) (r := 71) (a' := 1) (b' := 80) hd0 hz rfl rfl (fun j => qml_z rfl rfl) ?_
  refine qR_blk (c' := (39, [.inr (.inr (some 70)), .inl 80, .inl 1], [])) (w' := (zs_126 n, qml (zxc xs) zl_64, 1, 80)) 1 hd0 hz rfl ?_
  exact qR_ret hd0 hz rfl rfl ⟨rfl, _, _, rfl⟩
set_option maxRecDepth 100000 in
theorem qc_34 (n : Nat) (xs : Nat → Int32) {d : Nat} (hd : 2 ≤ d) : qR d 73 (0, zini [.inr (.inr (some 67)), .inr (.inr (some 20))] 2, []) (zs_119 n, qml (zxc xs) zl_60, 0, 0) (fun r w' => r = none ∧ ∃ a b, w' = (zs_128 n, qml (zxc xs) zl_64, a, b)) := by
  have hz := zp_73
  have hd0 : 0 < d := by omega
  show qR d 73 (0, [.inr (.inr (some 67)), .inr (.inr (some 20))], []) (zs_119 n, qml (zxc xs) zl_60, 0, 0) _
  refine qR_blk (c' := (5, [.inr (.inr (some 67)), .inr (.inr (some 20))], [.inr (.inr (some 67))])) (w' := (zs_119 n, qml (zxc xs) zl_60, 0, 0)) 3 hd0 hz rfl ?_
  refine qR_z (c' := (8, [.inr (.inr (some 67)), .inr (.inr (some 20))], [.inr (.inr (some 68)), .inr (.inr (some 67))])) (S' := zs_120 n) (r := 68) (a' := 1) (b' := 4) hd0 hz rfl rfl (fun j => qml_z rfl rfl) ?_
  refine qR_blk (c' := (12, [.inr (.inr (some 67)), .inr (.inr (some 20))], [.inl 81, .inl 1, .inr (.inr (some 68)), .inr (.inr (some 68)), .inr (.inr (some 67))])) (w' := (zs_120 n, qml (zxc xs) zl_60, 1, 4)) 3 hd0 hz rfl ?_
  refine qR_call hd0 hz zp_100 rfl rfl (Nat.le_of_ble_eq_true rfl) ⟨by omega, by omega⟩ (qc_32 n xs (by omega)) (fun r w1 hr => ?_)
  obtain ⟨rfl, a9, b9, rfl⟩ := hr
  show qR d 73 (15, [.inr (.inr (some 67)), .inr (.inr (some 20))], [.inr (.inr (some 68)), .inr (.inr (some 67))]) (zs_122 n, qml (zxc xs) zl_62, 2, 60004) _
  refine qR_blk (c' := (18, [.inr (.inr (some 67)), .inr (.inr (some 20))], [])) (w' := (zs_123 n, qml (zxc xs) zl_62, 2, 60004)) 1 hd0 hz rfl ?_
  refine qR_blk (c' := (19, [.inr (.inr (some 67)), .inr (.inr (some 20))], [.inr (.inr (some 67))])) (w' := (zs_123 n, qml (zxc xs) zl_62, 2, 60004)) 1 hd0 hz rfl ?_
  refine qR_z (c' := (22, [.inr (.inr (some 67)), .inr (.inr (some 20))], [.inr (.inr (some 70)), .inr (.inr (some 67))])) (S' := zs_124 n) (r := 70) (a' := 3) (b' := 60008) hd0 hz rfl rfl (fun j => qml_z rfl rfl) ?_
  refine qR_blk (c' := (26, [.inr (.inr (some 67)), .inr (.inr (some 20))], [.inl 1, .inl 80, .inr (.inr (some 70)), .inr (.inr (some 70)), .inr (.inr (some 67))])) (w' := (zs_124 n, qml (zxc xs) zl_62, 3, 60008)) 3 hd0 hz rfl ?_
  refine qR_call hd0 hz zp_100 rfl rfl (Nat.le_of_ble_eq_true rfl) ⟨by omega, by omega⟩ (qc_33 n xs (by omega)) (fun r w1 hr => ?_)
  obtain ⟨rfl, a9, b9, rfl⟩ := hr
  show qR d 73 (29, [.inr (.inr (some 67)), .inr (.inr (some 20))], [.inr (.inr (some 70)), .inr (.inr (some 67))]) (zs_126 n, qml (zxc xs) zl_64, 4, 120008) _
  refine qR_blk (c' := (32, [.inr (.inr (some 67)), .inr (.inr (some 20))], [])) (w' := (zs_127 n, qml (zxc xs) zl_64, 4, 120008)) 1 hd0 hz rfl ?_
  refine qR_blk (c' := (37, [.inr (.inr (some 67)), .inr (.inr (some 20))], [])) (w' := (zs_128 n, qml (zxc xs) zl_64, 4, 120008)) 3 hd0 hz rfl ?_
  exact qR_ret hd0 hz rfl rfl ⟨rfl, _, _, rfl⟩
set_option maxRecDepth 100000 in
theorem qc_35 (n : Nat) (xs : Nat → Int32) {d : Nat} (hd : 1 ≤ d) : qR d 55 (0, zini [.inr (.inr (some 72))] 1, []) (zs_130 n, qml (zxc xs) zl_64, 0, 0) (fun r w' => r = none ∧ ∃ a b, w' = (zs_136 n, qml (zxc xs) zl_64, a, b)) := by
  have hz := zp_55
  have hd0 : 0 < d := by omega
  show qR d 55 (0, [.inr (.inr (some 72))], []) (zs_130 n, qml (zxc xs) zl_64, 0, 0) _
  refine qR_blk (c' := (7, [.inr (.inr (some 72))], [.inl 80, .inr (.inr (some 72))])) (w' := (zs_130 n, qml (zxc xs) zl_64, 0, 0)) 4 hd0 hz rfl ?_
  refine qR_z (c' := (9, [.inr (.inr (some 72))], [.inr (.inr (some 73)), .inr (.inr (some 72))])) (S' := zs_131 n) (r := 73) (a' := 1) (b' := 80) hd0 hz rfl rfl (fun j => qml_z rfl rfl) ?_
  refine qR_blk (c' := (12, [.inr (.inr (some 72))], [])) (w' := (zs_132 n, qml (zxc xs) zl_64, 1, 80)) 1 hd0 hz rfl ?_
  refine qR_blk (c' := (15, [.inr (.inr (some 72))], [.inl 15, .inr (.inr (some 72))])) (w' := (zs_132 n, qml (zxc xs) zl_64, 1, 80)) 2 hd0 hz rfl ?_
  refine qR_z (c' := (17, [.inr (.inr (some 72))], [.inr (.inr (some 74)), .inr (.inr (some 72))])) (S' := zs_133 n) (r := 74) (a' := 2) (b' := 95) hd0 hz rfl rfl (fun j => qml_z rfl rfl) ?_
  refine qR_blk (c' := (20, [.inr (.inr (some 72))], [])) (w' := (zs_134 n, qml (zxc xs) zl_64, 2, 95)) 1 hd0 hz rfl ?_
  refine qR_blk (c' := (23, [.inr (.inr (some 72))], [.inl 14, .inr (.inr (some 72))])) (w' := (zs_134 n, qml (zxc xs) zl_64, 2, 95)) 2 hd0 hz rfl ?_
  refine qR_z (c' := (25, [.inr (.inr (some 72))], [.inr (.inr (some 75)), .inr (.inr (some 72))])) (S' := zs_135 n) (r := 75) (a' := 3) (b' := 109) hd0 hz rfl rfl (fun j => qml_z rfl rfl) ?_
  refine qR_blk (c' := (28, [.inr (.inr (some 72))], [])) (w' := (zs_136 n, qml (zxc xs) zl_64, 3, 109)) 1 hd0 hz rfl ?_
  exact qR_ret hd0 hz rfl rfl ⟨rfl, _, _, rfl⟩
set_option maxRecDepth 100000 in
theorem qc_36 (n : Nat) (xs : Nat → Int32) {d : Nat} (hd : 1 ≤ d) : qR d 100 (0, zini [.inr (.inr (some 77)), .inl 1, .inl 164] 3, []) (zs_139 n, qml (zxc xs) zl_64, 0, 0) (fun r w' => r = none ∧ ∃ a b, w' = (zs_141 n, qml (zxc xs) zl_66, a, b)) := by
  have hz := zp_100
  have hd0 : 0 < d := by omega
  show qR d 100 (0, [.inr (.inr (some 77)), .inl 1, .inl 164], []) (zs_139 n, qml (zxc xs) zl_64, 0, 0) _
  refine qR_blk (c' := (13, [.inr (.inr (some 77)), .inl 1, .inl 164], [])) (w' := (zs_139 n, qml (zxc xs) zl_65, 0, 0)) 7 hd0 hz rfl ?_
  refine qR_blk (c' := (22, [.inr (.inr (some 77)), .inl 1, .inl 164], [])) (w' := (zs_139 n, qml (zxc xs) zl_66, 0, 0)) 5 hd0 hz rfl ?_
  refine qR_blk (c' := (34, [.inr (.inr (some 77)), .inl 1, .inl 164], [.inl 164, .inr (.inr (some 77))])) (w' := (zs_139 n, qml (zxc xs) zl_66, 0, 0)) 8 hd0 hz rfl ?_
  refine qR_z (c' := (36, [.inr (.inr (some 77)), .inl 1, .inl 164], [.inr (.inr (some 78)), .inr (.inr (some 77))])) (S' := zs_140 n) (r := 78) (a' := 1) (b' := 164) hd0 hz rfl rfl (fun j => qml_z rfl rfl) ?_
  refine qR_blk (c' := (39, [.inr (.inr (some 77)), .inl 1, .inl 164], [])) (w' := (zs_141 n, qml (zxc xs) zl_66, 1, 164)) 1 hd0 hz rfl ?_
  exact qR_ret hd0 hz rfl rfl ⟨rfl, _, _, rfl⟩
set_option maxRecDepth 100000 in
theorem qc_37 (n : Nat) (xs : Nat → Int32) {d : Nat} (hd : 1 ≤ d) : qR d 100 (0, zini [.inr (.inr (some 79)), .inl 20, .inl 3] 3, []) (zs_143 n, qml (zxc xs) zl_66, 0, 0) (fun r w' => r = none ∧ ∃ a b, w' = (zs_145 n, qml (zxc xs) zl_68, a, b)) := by
  have hz := zp_100
  have hd0 : 0 < d := by omega
  show qR d 100 (0, [.inr (.inr (some 79)), .inl 20, .inl 3], []) (zs_143 n, qml (zxc xs) zl_66, 0, 0) _
  refine qR_blk (c' := (13, [.inr (.inr (some 79)), .inl 20, .inl 3], [])) (w' := (zs_143 n, qml (zxc xs) zl_67, 0, 0)) 7 hd0 hz rfl ?_
  refine qR_blk (c' := (22, [.inr (.inr (some 79)), .inl 20, .inl 3], [])) (w' := (zs_143 n, qml (zxc xs) zl_68, 0, 0)) 5 hd0 hz rfl ?_
  refine qR_blk (c' := (34, [.inr (.inr (some 79)), .inl 20, .inl 3], [.inl 60, .inr (.inr (some 79))])) (w' := (zs_143 n, qml (zxc xs) zl_68, 0, 0)) 8 hd0 hz rfl ?_
  refine qR_z (c' := (36, [.inr (.inr (some 79)), .inl 20, .inl 3], [.inr (.inr (some 80)), .inr (.inr (some 79))])) (S' := zs_144 n) (r := 80) (a' := 1) (b' := 60) hd0 hz rfl rfl (fun j => qml_z rfl rfl) ?_
  refine qR_blk (c' := (39, [.inr (.inr (some 79)), .inl 20, .inl 3], [])) (w' := (zs_145 n, qml (zxc xs) zl_68, 1, 60)) 1 hd0 hz rfl ?_
  exact qR_ret hd0 hz rfl rfl ⟨rfl, _, _, rfl⟩
set_option maxRecDepth 100000 in
theorem qc_38 (n : Nat) (xs : Nat → Int32) {d : Nat} (hd : 1 ≤ d) : qR d 107 (0, zini [.inr (.inr (some 77)), .inl 0, .inl 2, .inl 5] 4, []) (zs_149 n, qml (zxc xs) zl_68, 0, 0) (fun r w' => r = none ∧ ∃ a b, w' = (zs_149 n, qml (zxc xs) zl_69, a, b)) := by
  have hz := zp_107
  have hd0 : 0 < d := by omega
  show qR d 107 (0, [.inr (.inr (some 77)), .inl 0, .inl 2, .inl 5], []) (zs_149 n, qml (zxc xs) zl_68, 0, 0) _
  refine qR_blk (c' := (39, [.inr (.inr (some 77)), .inl 0, .inl 2, .inl 5], [])) (w' := (zs_149 n, qml (zxc xs) zl_69, 0, 0)) 22 hd0 hz rfl ?_
  exact qR_ret hd0 hz rfl rfl ⟨rfl, _, _, rfl⟩
set_option maxRecDepth 100000 in
theorem qc_39 (n : Nat) (xs : Nat → Int32) {d : Nat} (hd : 1 ≤ d) : qR d 107 (0, zini [.inr (.inr (some 77)), .inl 0, .inl 3, .inl (-8)] 4, []) (zs_149 n, qml (zxc xs) zl_69, 0, 0) (fun r w' => r = none ∧ ∃ a b, w' = (zs_149 n, qml (zxc xs) zl_70, a, b)) := by
  have hz := zp_107
  have hd0 : 0 < d := by omega
  show qR d 107 (0, [.inr (.inr (some 77)), .inl 0, .inl 3, .inl (-8)], []) (zs_149 n, qml (zxc xs) zl_69, 0, 0) _
  refine qR_blk (c' := (39, [.inr (.inr (some 77)), .inl 0, .inl 3, .inl (-8)], [])) (w' := (zs_149 n, qml (zxc xs) zl_70, 0, 0)) 22 hd0 hz rfl ?_
  exact qR_ret hd0 hz rfl rfl ⟨rfl, _, _, rfl⟩
set_option maxRecDepth 100000 in
theorem qc_40 (n : Nat) (xs : Nat → Int32) {d : Nat} (hd : 1 ≤ d) : qR d 107 (0, zini [.inr (.inr (some 77)), .inl 0, .inl 4, .inl 39] 4, []) (zs_149 n, qml (zxc xs) zl_70, 0, 0) (fun r w' => r = none ∧ ∃ a b, w' = (zs_149 n, qml (zxc xs) zl_71, a, b)) := by
  have hz := zp_107
  have hd0 : 0 < d := by omega
  show qR d 107 (0, [.inr (.inr (some 77)), .inl 0, .inl 4, .inl 39], []) (zs_149 n, qml (zxc xs) zl_70, 0, 0) _
  refine qR_blk (c' := (39, [.inr (.inr (some 77)), .inl 0, .inl 4, .inl 39], [])) (w' := (zs_149 n, qml (zxc xs) zl_71, 0, 0)) 22 hd0 hz rfl ?_
  exact qR_ret hd0 hz rfl rfl ⟨rfl, _, _, rfl⟩
set_option maxRecDepth 100000 in
theorem qc_41 (n : Nat) (xs : Nat → Int32) {d : Nat} (hd : 1 ≤ d) : qR d 107 (0, zini [.inr (.inr (some 77)), .inl 0, .inl 5, .inl (-17)] 4, []) (zs_149 n, qml (zxc xs) zl_71, 0, 0) (fun r w' => r = none ∧ ∃ a b, w' = (zs_149 n, qml (zxc xs) zl_72, a, b)) := by
  have hz := zp_107
  have hd0 : 0 < d := by omega
  show qR d 107 (0, [.inr (.inr (some 77)), .inl 0, .inl 5, .inl (-17)], []) (zs_149 n, qml (zxc xs) zl_71, 0, 0) _
  refine qR_blk (c' := (39, [.inr (.inr (some 77)), .inl 0, .inl 5, .inl (-17)], [])) (w' := (zs_149 n, qml (zxc xs) zl_72, 0, 0)) 22 hd0 hz rfl ?_
  exact qR_ret hd0 hz rfl rfl ⟨rfl, _, _, rfl⟩
set_option maxRecDepth 100000 in
theorem qc_42 (n : Nat) (xs : Nat → Int32) {d : Nat} (hd : 1 ≤ d) : qR d 107 (0, zini [.inr (.inr (some 77)), .inl 0, .inl 6, .inl (-11)] 4, []) (zs_149 n, qml (zxc xs) zl_72, 0, 0) (fun r w' => r = none ∧ ∃ a b, w' = (zs_149 n, qml (zxc xs) zl_73, a, b)) := by
  have hz := zp_107
  have hd0 : 0 < d := by omega
  show qR d 107 (0, [.inr (.inr (some 77)), .inl 0, .inl 6, .inl (-11)], []) (zs_149 n, qml (zxc xs) zl_72, 0, 0) _
  refine qR_blk (c' := (39, [.inr (.inr (some 77)), .inl 0, .inl 6, .inl (-11)], [])) (w' := (zs_149 n, qml (zxc xs) zl_73, 0, 0)) 22 hd0 hz rfl ?_
  exact qR_ret hd0 hz rfl rfl ⟨rfl, _, _, rfl⟩
set_option maxRecDepth 100000 in
theorem qc_43 (n : Nat) (xs : Nat → Int32) {d : Nat} (hd : 1 ≤ d) : qR d 107 (0, zini [.inr (.inr (some 77)), .inl 0, .inl 7, .inl (-5)] 4, []) (zs_149 n, qml (zxc xs) zl_73, 0, 0) (fun r w' => r = none ∧ ∃ a b, w' = (zs_149 n, qml (zxc xs) zl_74, a, b)) := by
  have hz := zp_107
  have hd0 : 0 < d := by omega
  show qR d 107 (0, [.inr (.inr (some 77)), .inl 0, .inl 7, .inl (-5)], []) (zs_149 n, qml (zxc xs) zl_73, 0, 0) _
  refine qR_blk (c' := (39, [.inr (.inr (some 77)), .inl 0, .inl 7, .inl (-5)], [])) (w' := (zs_149 n, qml (zxc xs) zl_74, 0, 0)) 22 hd0 hz rfl ?_
  exact qR_ret hd0 hz rfl rfl ⟨rfl, _, _, rfl⟩
set_option maxRecDepth 100000 in
theorem qc_44 (n : Nat) (xs : Nat → Int32) {d : Nat} (hd : 2 ≤ d) : qR d 28 (0, zini [.inr (.inr (some 76)), .inl 2, .inr (.inr (some 2))] 4, []) (zs_149 n, qml (zxc xs) zl_68, 0, 0) (fun r w' => r = none ∧ ∃ a b, w' = (zs_149 n, qml (zxc xs) zl_74, a, b)) := by
  have hz := zp_28
  have hd0 : 0 < d := by omega
  show qR d 28 (0, [.inr (.inr (some 76)), .inl 2, .inr (.inr (some 2)), zN], []) (zs_149 n, qml (zxc xs) zl_68, 0, 0) _
  refine qR_blk (c' := (8, [.inr (.inr (some 76)), .inl 2, .inr (.inr (some 2)), zN], [.inl 5, .inl 2, .inl 0, .inr (.inr (some 77))])) (w' := (zs_149 n, qml (zxc xs) zl_68, 0, 0)) 6 hd0 hz rfl ?_
  refine qR_call hd0 hz zp_107 rfl rfl (Nat.le_of_ble_eq_true rfl) ⟨by omega, by omega⟩ (qc_38 n xs (by omega)) (fun r w1 hr => ?_)
  obtain ⟨rfl, a9, b9, rfl⟩ := hr
  show qR d 28 (11, [.inr (.inr (some 76)), .inl 2, .inr (.inr (some 2)), zN], []) (zs_149 n, qml (zxc xs) zl_69, 0, 0) _
  refine qR_blk (c' := (32, [.inr (.inr (some 76)), .inl 2, .inr (.inr (some 2)), .inl 0], [.inl (-8), .inl 3, .inl 0, .inr (.inr (some 77))])) (w' := (zs_149 n, qml (zxc xs) zl_69, 0, 0)) 17 hd0 hz rfl ?_
  refine qR_call hd0 hz zp_107 rfl rfl (Nat.le_of_ble_eq_true rfl) ⟨by omega, by omega⟩ (qc_39 n xs (by omega)) (fun r w1 hr => ?_)
  obtain ⟨rfl, a9, b9, rfl⟩ := hr
  show qR d 28 (35, [.inr (.inr (some 76)), .inl 2, .inr (.inr (some 2)), .inl 0], []) (zs_149 n, qml (zxc xs) zl_70, 0, 0) _
  refine qR_blk (c' := (32, [.inr (.inr (some 76)), .inl 2, .inr (.inr (some 2)), .inl 1], [.inl 39, .inl 4, .inl 0, .inr (.inr (some 77))])) (w' := (zs_149 n, qml (zxc xs) zl_70, 0, 0)) 17 hd0 hz rfl ?_
  refine qR_call hd0 hz zp_107 rfl rfl (Nat.le_of_ble_eq_true rfl) ⟨by omega, by omega⟩ (qc_40 n xs (by omega)) (fun r w1 hr => ?_)
  obtain ⟨rfl, a9, b9, rfl⟩ := hr
  show qR d 28 (35, [.inr (.inr (some 76)), .inl 2, .inr (.inr (some 2)), .inl 1], []) (zs_149 n, qml (zxc xs) zl_71, 0, 0) _
  refine qR_blk (c' := (32, [.inr (.inr (some 76)), .inl 2, .inr (.inr (some 2)), .inl 2], [.inl (-17), .inl 5, .inl 0, .inr (.inr (some 77))])) (w' := (zs_149 n, qml (zxc xs) zl_71, 0, 0)) 17 hd0 hz rfl ?_
  refine qR_call hd0 hz zp_107 rfl rfl (Nat.le_of_ble_eq_true rfl) ⟨by omega, by omega⟩ (qc_41 n xs (by omega)) (fun r w1 hr => ?_)
  obtain ⟨rfl, a9, b9, rfl⟩ := hr
  show qR d 28 (35, [.inr (.inr (some 76)), .inl 2, .inr (.inr (some 2)), .inl 2], []) (zs_149 n, qml (zxc xs) zl_72, 0, 0) _
  refine qR_blk (c' := (32, [.inr (.inr (some 76)), .inl 2, .inr (.inr (some 2)), .inl 3], [.inl (-11), .inl 6, .inl 0, .inr (.inr (some 77))])) (w' := (zs_149 n, qml (zxc xs) zl_72, 0, 0)) 17 hd0 hz rfl ?_
  refine qR_call hd0 hz zp_107 rfl rfl (Nat.le_of_ble_eq_true rfl) ⟨by omega, by omega⟩ (qc_42 n xs (by omega)) (fun r w1 hr => ?_)
  obtain ⟨rfl, a9, b9, rfl⟩ := hr
  show qR d 28 (35, [.inr (.inr (some 76)), .inl 2, .inr (.inr (some 2)), .inl 3], []) (zs_149 n, qml (zxc xs) zl_73, 0, 0) _
  refine qR_blk (c' := (32, [.inr (.inr (some 76)), .inl 2, .inr (.inr (some 2)), .inl 4], [.inl (-5), .inl 7, .inl 0, .inr (.inr (some 77))])) (w' := (zs_149 n, qml (zxc xs) zl_73, 0, 0)) 17 hd0 hz rfl ?_
  refine qR_call hd0 hz zp_107 rfl rfl (Nat.le_of_ble_eq_true rfl) ⟨by omega, by omega⟩ (qc_43 n xs (by omega)) (fun r w1 hr => ?_)
  obtain ⟨rfl, a9, b9, rfl⟩ := hr
  show qR d 28 (35, [.inr (.inr (some 76)), .inl 2, .inr (.inr (some 2)), .inl 4], []) (zs_149 n, qml (zxc xs) zl_74, 0, 0) _
  refine qR_blk (c' := (41, [.inr (.inr (some 76)), .inl 2, .inr (.inr (some 2)), .inl 5], [])) (w' := (zs_149 n, qml (zxc xs) zl_74, 0, 0)) 6 hd0 hz rfl ?_
  exact qR_ret hd0 hz rfl rfl ⟨rfl, _, _, rfl⟩
set_option maxRecDepth 100000 in
theorem qc_45 (n : Nat) (xs : Nat → Int32) {d : Nat} (hd : 1 ≤ d) : qR d 107 (0, zini [.inr (.inr (some 77)), .inl 0, .inl 83, .inl 3] 4, []) (zs_149 n, qml (zxc xs) zl_74, 0, 0) (fun r w' => r = none ∧ ∃ a b, w' = (zs_149 n, qml (zxc xs) zl_75, a, b)) := by
  have hz := zp_107
  have hd0 : 0 < d := by omega
  show qR d 107 (0, [.inr (.inr (some 77)), .inl 0, .inl 83, .inl 3], []) (zs_149 n, qml (zxc xs) zl_74, 0, 0) _
  refine qR_blk (c' := (39, [.inr (.inr (some 77)), .inl 0, .inl 83, .inl 3], [])) (w' := (zs_149 n, qml (zxc xs) zl_75, 0, 0)) 22 hd0 hz rfl ?_
  exact qR_ret hd0 hz rfl rfl ⟨rfl, _, _, rfl⟩
set_option maxRecDepth 100000 in
theorem qc_46 (n : Nat) (xs : Nat → Int32) {d : Nat} (hd : 1 ≤ d) : qR d 107 (0, zini [.inr (.inr (some 77)), .inl 0, .inl 84, .inl (-13)] 4, []) (zs_149 n, qml (zxc xs) zl_75, 0, 0) (fun r w' => r = none ∧ ∃ a b, w' = (zs_149 n, qml (zxc xs) zl_76, a, b)) := by
  have hz := zp_107
  have hd0 : 0 < d := by omega
  show qR d 107 (0, [.inr (.inr (some 77)), .inl 0, .inl 84, .inl (-13)], []) (zs_149 n, qml (zxc xs) zl_75, 0, 0) _
  refine qR_blk (c' := (39, [.inr (.inr (some 77)), .inl 0, .inl 84, .inl (-13)], [])) (w' := (zs_149 n, qml (zxc xs) zl_76, 0, 0)) 22 hd0 hz rfl ?_
  exact qR_ret hd0 hz rfl rfl ⟨rfl, _, _, rfl⟩
set_option maxRecDepth 100000 in
theorem qc_47 (n : Nat) (xs : Nat → Int32) {d : Nat} (hd : 1 ≤ d) : qR d 107 (0, zini [.inr (.inr (some 77)), .inl 0, .inl 85, .inl 10] 4, []) (zs_149 n, qml (zxc xs) zl_76, 0, 0) (fun r w' => r = none ∧ ∃ a b, w' = (zs_149 n, qml (zxc xs) zl_77, a, b)) := by
  have hz := zp_107
  have hd0 : 0 < d := by omega
  show qR d 107 (0, [.inr (.inr (some 77)), .inl 0, .inl 85, .inl 10], []) (zs_149 n, qml (zxc xs) zl_76, 0, 0) _
  refine qR_blk (c' := (39, [.inr (.inr (some 77)), .inl 0, .inl 85, .inl 10], [])) (w' := (zs_149 n, qml (zxc xs) zl_77, 0, 0)) 22 hd0 hz rfl ?_
  exact qR_ret hd0 hz rfl rfl ⟨rfl, _, _, rfl⟩
set_option maxRecDepth 100000 in
theorem qc_48 (n : Nat) (xs : Nat → Int32) {d : Nat} (hd : 1 ≤ d) : qR d 107 (0, zini [.inr (.inr (some 77)), .inl 0, .inl 86, .inl (-22)] 4, []) (zs_149 n, qml (zxc xs) zl_77, 0, 0) (fun r w' => r = none ∧ ∃ a b, w' = (zs_149 n, qml (zxc xs) zl_78, a, b)) := by
  have hz := zp_107
  have hd0 : 0 < d := by omega
  show qR d 107 (0, [.inr (.inr (some 77)), .inl 0, .inl 86, .inl (-22)], []) (zs_149 n, qml (zxc xs) zl_77, 0, 0) _
  refine qR_blk (c' := (39, [.inr (.inr (some 77)), .inl 0, .inl 86, .inl (-22)], [])) (w' := (zs_149 n, qml (zxc xs) zl_78, 0, 0)) 22 hd0 hz rfl ?_
  exact qR_ret hd0 hz rfl rfl ⟨rfl, _, _, rfl⟩
set_option maxRecDepth 100000 in
theorem qc_49 (n : Nat) (xs : Nat → Int32) {d : Nat} (hd : 2 ≤ d) : qR d 28 (0, zini [.inr (.inr (some 76)), .inl 83, .inr (.inr (some 3))] 4, []) (zs_149 n, qml (zxc xs) zl_74, 0, 0) (fun r w' => r = none ∧ ∃ a b, w' = (zs_149 n, qml (zxc xs) zl_78, a, b)) := by
  have hz := zp_28
  have hd0 : 0 < d := by omega
  show qR d 28 (0, [.inr (.inr (some 76)), .inl 83, .inr (.inr (some 3)), zN], []) (zs_149 n, qml (zxc xs) zl_74, 0, 0) _
  refine qR_blk (c' := (8, [.inr (.inr (some 76)), .inl 83, .inr (.inr (some 3)), zN], [.inl 3, .inl 83, .inl 0, .inr (.inr (some 77))])) (w' := (zs_149 n, qml (zxc xs) zl_74, 0, 0)) 6 hd0 hz rfl ?_
  refine qR_call hd0 hz zp_107 rfl rfl (Nat.le_of_ble_eq_true rfl) ⟨by omega, by omega⟩ (qc_45 n xs (by omega)) (fun r w1 hr => ?_)
  obtain ⟨rfl, a9, b9, rfl⟩ := hr
  show qR d 28 (11, [.inr (.inr (some 76)), .inl 83, .inr (.inr (some 3)), zN], []) (zs_149 n, qml (zxc xs) zl_75, 0, 0) _
  refine qR_blk (c' := (32, [.inr (.inr (some 76)), .inl 83, .inr (.inr (some 3)), .inl 0], [.inl (-13), .inl 84, .inl 0, .inr (.inr (some 77))])) (w' := (zs_149 n, qml (zxc xs) zl_75, 0, 0)) 17 hd0 hz rfl ?_
  refine qR_call hd0 hz zp_107 rfl rfl (Nat.le_of_ble_eq_true rfl) ⟨by omega, by omega⟩ (qc_46 n xs (by omega)) (fun r w1 hr => ?_)
  obtain ⟨rfl, a9, b9, rfl⟩ := hr
  show qR d 28 (35, [.inr (.inr (some 76)), .inl 83, .inr (.inr (some 3)), .inl 0], []) (zs_149 n, qml (zxc xs) zl_76, 0, 0) _
  refine qR_blk (c' := (32, [.inr (.inr (some 76)), .inl 83, .inr (.inr (some 3)), .inl 1], [.inl 10, .inl 85, .inl 0, .inr (.inr (some 77))])) (w' := (zs_149 n, qml (zxc xs) zl_76, 0, 0)) 17 hd0 hz rfl ?_
  refine qR_call hd0 hz zp_107 rfl rfl (Nat.le_of_ble_eq_true rfl) ⟨by omega, by omega⟩ (qc_47 n xs (by omega)) (fun r w1 hr => ?_)
  obtain ⟨rfl, a9, b9, rfl⟩ := hr
  show qR d 28 (35, [.inr (.inr (some 76)), .inl 83, .inr (.inr (some 3)), .inl 1], []) (zs_149 n, qml (zxc xs) zl_77, 0, 0) _
  refine qR_blk (c' := (32, [.inr (.inr (some 76)), .inl 83, .inr (.inr (some 3)), .inl 2], [.inl (-22), .inl 86, .inl 0, .inr (.inr (some 77))])) (w' := (zs_149 n, qml (zxc xs) zl_77, 0, 0)) 17 hd0 hz rfl ?_
  refine qR_call hd0 hz zp_107 rfl rfl (Nat.le_of_ble_eq_true rfl) ⟨by omega, by omega⟩ (qc_48 n xs (by omega)) (fun r w1 hr => ?_)
  obtain ⟨rfl, a9, b9, rfl⟩ := hr
  show qR d 28 (35, [.inr (.inr (some 76)), .inl 83, .inr (.inr (some 3)), .inl 2], []) (zs_149 n, qml (zxc xs) zl_78, 0, 0) _
  refine qR_blk (c' := (41, [.inr (.inr (some 76)), .inl 83, .inr (.inr (some 3)), .inl 3], [])) (w' := (zs_149 n, qml (zxc xs) zl_78, 0, 0)) 6 hd0 hz rfl ?_
  exact qR_ret hd0 hz rfl rfl ⟨rfl, _, _, rfl⟩
set_option maxRecDepth 100000 in
theorem qc_50 (n : Nat) (xs : Nat → Int32) {d : Nat} (hd : 3 ≤ d) : qR d 27 (0, zini [.inr (.inr (some 76)), .inr (.inr (some 9)), .inr (.inr (some 60)), .inr (.inr (some 72))] 4, []) (zs_138 n, qml (zxc xs) zl_64, 0, 0) (fun r w' => r = none ∧ ∃ a b, w' = (zs_149 n, qml (zxc xs) zl_78, a, b)) := by
  have hz := zp_27
  have hd0 : 0 < d := by omega
  show qR d 27 (0, [.inr (.inr (some 76)), .inr (.inr (some 9)), .inr (.inr (some 60)), .inr (.inr (some 72))], []) (zs_138 n, qml (zxc xs) zl_64, 0, 0) _
  refine qR_blk (c' := (5, [.inr (.inr (some 76)), .inr (.inr (some 9)), .inr (.inr (some 60)), .inr (.inr (some 72))], [.inr (.inr (some 76))])) (w' := (zs_138 n, qml (zxc xs) zl_64, 0, 0)) 3 hd0 hz rfl ?_
  refine qR_z (c' := (8, [.inr (.inr (some 76)), .inr (.inr (some 9)), .inr (.inr (some 60)), .inr (.inr (some 72))], [.inr (.inr (some 77)), .inr (.inr (some 76))])) (S' := zs_139 n) (r := 77) (a' := 1) (b' := 4) hd0 hz rfl rfl (fun j => qml_z rfl rfl) ?_
  refine qR_blk (c' := (13, [.inr (.inr (some 76)), .inr (.inr (some 9)), .inr (.inr (some 60)), .inr (.inr (some 72))], [.inl 164, .inl 1, .inr (.inr (some 77)), .inr (.inr (some 77)), .inr (.inr (some 76))])) (w' := (zs_139 n, qml (zxc xs) zl_64, 1, 4)) 3 hd0 hz rfl ?_
  refine qR_call hd0 hz zp_100 rfl rfl (Nat.le_of_ble_eq_true rfl) ⟨by omega, by omega⟩ (qc_36 n xs (by omega)) (fun r w1 hr => ?_)
  obtain ⟨rfl, a9, b9, rfl⟩ := hr
  show qR d 27 (16, [.inr (.inr (some 76)), .inr (.inr (some 9)), .inr (.inr (some 60)), .inr (.inr (some 72))], [.inr (.inr (some 77)), .inr (.inr (some 76))]) (zs_141 n, qml (zxc xs) zl_66, 2, 60004) _
  refine qR_blk (c' := (19, [.inr (.inr (some 76)), .inr (.inr (some 9)), .inr (.inr (some 60)), .inr (.inr (some 72))], [])) (w' := (zs_142 n, qml (zxc xs) zl_66, 2, 60004)) 1 hd0 hz rfl ?_
  refine qR_blk (c' := (20, [.inr (.inr (some 76)), .inr (.inr (some 9)), .inr (.inr (some 60)), .inr (.inr (some 72))], [.inr (.inr (some 76))])) (w' := (zs_142 n, qml (zxc xs) zl_66, 2, 60004)) 1 hd0 hz rfl ?_
  refine qR_z (c' := (23, [.inr (.inr (some 76)), .inr (.inr (some 9)), .inr (.inr (some 60)), .inr (.inr (some 72))], [.inr (.inr (some 79)), .inr (.inr (some 76))])) (S' := zs_143 n) (r := 79) (a' := 3) (b' := 60008) hd0 hz rfl rfl (fun j => qml_z rfl rfl) ?_
  refine qR_blk (c' := (27, [.inr (.inr (some 76)), .inr (.inr (some 9)), .inr (.inr (some 60)), .inr (.inr (some 72))], [.inl 3, .inl 20, .inr (.inr (some 79)), .inr (.inr (some 79)), .inr (.inr (some 76))])) (w' := (zs_143 n, qml (zxc xs) zl_66, 3, 60008)) 3 hd0 hz rfl ?_
  refine qR_call hd0 hz zp_100 rfl rfl (Nat.le_of_ble_eq_true rfl) ⟨by omega, by omega⟩ (qc_37 n xs (by omega)) (fun r w1 hr => ?_)
  obtain ⟨rfl, a9, b9, rfl⟩ := hr
  show qR d 27 (30, [.inr (.inr (some 76)), .inr (.inr (some 9)), .inr (.inr (some 60)), .inr (.inr (some 72))], [.inr (.inr (some 79)), .inr (.inr (some 76))]) (zs_145 n, qml (zxc xs) zl_68, 4, 120008) _
  refine qR_blk (c' := (33, [.inr (.inr (some 76)), .inr (.inr (some 9)), .inr (.inr (some 60)), .inr (.inr (some 72))], [])) (w' := (zs_146 n, qml (zxc xs) zl_68, 4, 120008)) 1 hd0 hz rfl ?_
  refine qR_blk (c' := (38, [.inr (.inr (some 76)), .inr (.inr (some 9)), .inr (.inr (some 60)), .inr (.inr (some 72))], [])) (w' := (zs_147 n, qml (zxc xs) zl_68, 4, 120008)) 3 hd0 hz rfl ?_
  refine qR_blk (c' := (43, [.inr (.inr (some 76)), .inr (.inr (some 9)), .inr (.inr (some 60)), .inr (.inr (some 72))], [])) (w' := (zs_148 n, qml (zxc xs) zl_68, 4, 120008)) 3 hd0 hz rfl ?_
  refine qR_blk (c' := (48, [.inr (.inr (some 76)), .inr (.inr (some 9)), .inr (.inr (some 60)), .inr (.inr (some 72))], [])) (w' := (zs_149 n, qml (zxc xs) zl_68, 4, 120008)) 3 hd0 hz rfl ?_
  refine qR_blk (c' := (53, [.inr (.inr (some 76)), .inr (.inr (some 9)), .inr (.inr (some 60)), .inr (.inr (some 72))], [.inr (.inr (some 2)), .inl 2, .inr (.inr (some 76))])) (w' := (zs_149 n, qml (zxc xs) zl_68, 4, 120008)) 3 hd0 hz rfl ?_
  refine qR_call hd0 hz zp_28 rfl rfl (Nat.le_of_ble_eq_true rfl) ⟨by omega, by omega⟩ (qc_44 n xs (by omega)) (fun r w1 hr => ?_)
  obtain ⟨rfl, a9, b9, rfl⟩ := hr
  show qR d 27 (56, [.inr (.inr (some 76)), .inr (.inr (some 9)), .inr (.inr (some 60)), .inr (.inr (some 72))], []) (zs_149 n, qml (zxc xs) zl_74, 4, 120008) _
  refine qR_blk (c' := (62, [.inr (.inr (some 76)), .inr (.inr (some 9)), .inr (.inr (some 60)), .inr (.inr (some 72))], [.inr (.inr (some 3)), .inl 83, .inr (.inr (some 76))])) (w' := (zs_149 n, qml (zxc xs) zl_74, 4, 120008)) 3 hd0 hz rfl ?_
  refine qR_call hd0 hz zp_28 rfl rfl (Nat.le_of_ble_eq_true rfl) ⟨by omega, by omega⟩ (qc_49 n xs (by omega)) (fun r w1 hr => ?_)
  obtain ⟨rfl, a9, b9, rfl⟩ := hr
  show qR d 27 (65, [.inr (.inr (some 76)), .inr (.inr (some 9)), .inr (.inr (some 60)), .inr (.inr (some 72))], []) (zs_149 n, qml (zxc xs) zl_78, 4, 120008) _
  exact qR_ret hd0 hz rfl rfl ⟨rfl, _, _, rfl⟩
set_option maxRecDepth 100000 in
theorem qc_51 (n : Nat) (xs : Nat → Int32) {d : Nat} (hd : 1 ≤ d) : qR d 100 (0, zini [.inr (.inr (some 83)), .inl 14, .inl 1] 3, []) (zs_154 n, qml (zxc xs) zl_78, 0, 0) (fun r w' => r = none ∧ ∃ a b, w' = (zs_156 n, qml (zxc xs) zl_80, a, b)) := by
  have hz := zp_100
  have hd0 : 0 < d := by omega
  show qR d 100 (0, [.inr (.inr (some 83)), .inl 14, .inl 1], []) (zs_154 n, qml (zxc xs) zl_78, 0, 0) _
  refine qR_blk (c' := (13, [.inr (.inr (some 83)), .inl 14, .inl 1], [])) (w' := (zs_154 n, qml (zxc xs) zl_79, 0, 0)) 7 hd0 hz rfl ?_
  refine qR_blk (c' := (22, [.inr (.inr (some 83)), .inl 14, .inl 1], [])) (w' := (zs_154 n, qml (zxc xs) zl_80, 0, 0)) 5 hd0 hz rfl ?_
  refine qR_blk (c' := (34, [.inr (.inr (some 83)), .inl 14, .inl 1], [.inl 14, .inr (.inr (some 83))])) (w' := (zs_154 n, qml (zxc xs) zl_80, 0, 0)) 8 hd0 hz rfl ?_
  refine qR_z (c' := (36, [.inr (.inr (some 83)), .inl 14, .inl 1], [.inr (.inr (some 84)), .inr (.inr (some 83))])) (S' := zs_155 n) (r := 84) (a' := 1) (b' := 14) hd0 hz rfl rfl (fun j => qml_z rfl rfl) ?_
  refine qR_blk (c' := (39, [.inr (.inr (some 83)), .inl 14, .inl 1], [])) (w' := (zs_156 n, qml (zxc xs) zl_80, 1, 14)) 1 hd0 hz rfl ?_
  exact qR_ret hd0 hz rfl rfl ⟨rfl, _, _, rfl⟩
set_option maxRecDepth 100000 in
theorem qc_52 (n : Nat) (xs : Nat → Int32) {d : Nat} (hd : 1 ≤ d) : qR d 100 (0, zini [.inr (.inr (some 85)), .inl 8, .inl 1] 3, []) (zs_158 n, qml (zxc xs) zl_80, 0, 0) (fun r w' => r = none ∧ ∃ a b, w' = (zs_160 n, qml (zxc xs) zl_82, a, b)) := by
  have hz := zp_100
  have hd0 : 0 < d := by omega
  show qR d 100 (0, [.inr (.inr (some 85)), .inl 8, .inl 1], []) (zs_158 n, qml (zxc xs) zl_80, 0, 0) _
  refine qR_blk (c' := (13, [.inr (.inr (some 85)), .inl 8, .inl 1], [])) (w' := (zs_158 n, qml (zxc xs) zl_81, 0, 0)) 7 hd0 hz rfl ?_
  refine qR_blk (c' := (22, [.inr (.inr (some 85)), .inl 8, .inl 1], [])) (w' := (zs_158 n, qml (zxc xs) zl_82, 0, 0)) 5 hd0 hz rfl ?_
  refine qR_blk (c' := (34, [.inr (.inr (some 85)), .inl 8, .inl 1], [.inl 8, .inr (.inr (some 85))])) (w' := (zs_158 n, qml (zxc xs) zl_82, 0, 0)) 8 hd0 hz rfl ?_
  refine qR_z (c' := (36, [.inr (.inr (some 85)), .inl 8, .inl 1], [.inr (.inr (some 86)), .inr (.inr (some 85))])) (S' := zs_159 n) (r := 86) (a' := 1) (b' := 8) hd0 hz rfl rfl (fun j => qml_z rfl rfl) ?_
  refine qR_blk (c' := (39, [.inr (.inr (some 85)), .inl 8, .inl 1], [])) (w' := (zs_160 n, qml (zxc xs) zl_82, 1, 8)) 1 hd0 hz rfl ?_
  exact qR_ret hd0 hz rfl rfl ⟨rfl, _, _, rfl⟩
set_option maxRecDepth 100000 in
theorem qc_53 (n : Nat) (xs : Nat → Int32) {d : Nat} (hd : 2 ≤ d) : qR d 111 (0, zini [.inr (.inr (some 81)), .inr (.inr (some 9))] 2, []) (zs_151 n, qml (zxc xs) zl_78, 0, 0) (fun r w' => r = none ∧ ∃ a b, w' = (zs_162 n, qml (zxc xs) zl_82, a, b)) := by
  have hz := zp_111
  have hd0 : 0 < d := by omega
  show qR d 111 (0, [.inr (.inr (some 81)), .inr (.inr (some 9))], []) (zs_151 n, qml (zxc xs) zl_78, 0, 0) _
  refine qR_blk (c' := (8, [.inr (.inr (some 81)), .inr (.inr (some 9))], [.inl 16384, .inr (.inr (some 81))])) (w' := (zs_151 n, qml (zxc xs) zl_78, 0, 0)) 4 hd0 hz rfl ?_
  refine qR_z (c' := (10, [.inr (.inr (some 81)), .inr (.inr (some 9))], [.inr (.inr (some 82)), .inr (.inr (some 81))])) (S' := zs_152 n) (r := 82) (a' := 1) (b' := 16384) hd0 hz rfl rfl (fun j => qml_z rfl rfl) ?_
  refine qR_blk (c' := (13, [.inr (.inr (some 81)), .inr (.inr (some 9))], [])) (w' := (zs_153 n, qml (zxc xs) zl_78, 1, 16384)) 1 hd0 hz rfl ?_
  refine qR_blk (c' := (14, [.inr (.inr (some 81)), .inr (.inr (some 9))], [.inr (.inr (some 81))])) (w' := (zs_153 n, qml (zxc xs) zl_78, 1, 16384)) 1 hd0 hz rfl ?_
  refine qR_z (c' := (17, [.inr (.inr (some 81)), .inr (.inr (some 9))], [.inr (.inr (some 83)), .inr (.inr (some 81))])) (S' := zs_154 n) (r := 83) (a' := 2) (b' := 16388) hd0 hz rfl rfl (fun j => qml_z rfl rfl) ?_
  refine qR_blk (c' := (21, [.inr (.inr (some 81)), .inr (.inr (some 9))], [.inl 1, .inl 14, .inr (.inr (some 83)), .inr (.inr (some 83)), .inr (.inr (some 81))])) (w' := (zs_154 n, qml (zxc xs) zl_78, 2, 16388)) 3 hd0 hz rfl ?_
  refine qR_call hd0 hz zp_100 rfl rfl (Nat.le_of_ble_eq_true rfl) ⟨by omega, by omega⟩ (qc_51 n xs (by omega)) (fun r w1 hr => ?_)
  obtain ⟨rfl, a9, b9, rfl⟩ := hr
  show qR d 111 (24, [.inr (.inr (some 81)), .inr (.inr (some 9))], [.inr (.inr (some 83)), .inr (.inr (some 81))]) (zs_156 n, qml (zxc xs) zl_80, 3, 76388) _
  refine qR_blk (c' := (27, [.inr (.inr (some 81)), .inr (.inr (some 9))], [])) (w' := (zs_157 n, qml (zxc xs) zl_80, 3, 76388)) 1 hd0 hz rfl ?_
  refine qR_blk (c' := (28, [.inr (.inr (some 81)), .inr (.inr (some 9))], [.inr (.inr (some 81))])) (w' := (zs_157 n, qml (zxc xs) zl_80, 3, 76388)) 1 hd0 hz rfl ?_
  refine qR_z (c' := (31, [.inr (.inr (some 81)), .inr (.inr (some 9))], [.inr (.inr (some 85)), .inr (.inr (some 81))])) (S' := zs_158 n) (r := 85) (a' := 4) (b' := 76392) hd0 hz rfl rfl (fun j => qml_z rfl rfl) ?_
  refine qR_blk (c' := (35, [.inr (.inr (some 81)), .inr (.inr (some 9))], [.inl 1, .inl 8, .inr (.inr (some 85)), .inr (.inr (some 85)), .inr (.inr (some 81))])) (w' := (zs_158 n, qml (zxc xs) zl_80, 4, 76392)) 3 hd0 hz rfl ?_
  refine qR_call hd0 hz zp_100 rfl rfl (Nat.le_of_ble_eq_true rfl) ⟨by omega, by omega⟩ (qc_52 n xs (by omega)) (fun r w1 hr => ?_)
  obtain ⟨rfl, a9, b9, rfl⟩ := hr
  show qR d 111 (38, [.inr (.inr (some 81)), .inr (.inr (some 9))], [.inr (.inr (some 85)), .inr (.inr (some 81))]) (zs_160 n, qml (zxc xs) zl_82, 5, 136392) _
  refine qR_blk (c' := (41, [.inr (.inr (some 81)), .inr (.inr (some 9))], [])) (w' := (zs_161 n, qml (zxc xs) zl_82, 5, 136392)) 1 hd0 hz rfl ?_
  refine qR_blk (c' := (46, [.inr (.inr (some 81)), .inr (.inr (some 9))], [])) (w' := (zs_162 n, qml (zxc xs) zl_82, 5, 136392)) 3 hd0 hz rfl ?_
  exact qR_ret hd0 hz rfl rfl ⟨rfl, _, _, rfl⟩
set_option maxRecDepth 100000 in
theorem qc_54 (n : Nat) (xs : Nat → Int32) {d : Nat} (hd : 1 ≤ d) : qR d 67 (0, zini [.inr (.inr (some 87)), .inr (.inr (some 9))] 2, []) (zs_164 n, qml (zxc xs) zl_82, 0, 0) (fun r w' => r = none ∧ ∃ a b, w' = (zs_173 n, qml (zxc xs) zl_82, a, b)) := by
  have hz := zp_67
  have hd0 : 0 < d := by omega
  show qR d 67 (0, [.inr (.inr (some 87)), .inr (.inr (some 9))], []) (zs_164 n, qml (zxc xs) zl_82, 0, 0) _
  refine qR_blk (c' := (7, [.inr (.inr (some 87)), .inr (.inr (some 9))], [.inl 9, .inr (.inr (some 87))])) (w' := (zs_164 n, qml (zxc xs) zl_82, 0, 0)) 4 hd0 hz rfl ?_
  refine qR_z (c' := (9, [.inr (.inr (some 87)), .inr (.inr (some 9))], [.inr (.inr (some 88)), .inr (.inr (some 87))])) (S' := zs_165 n) (r := 88) (a' := 1) (b' := 9) hd0 hz rfl rfl (fun j => qml_z rfl rfl) ?_
  refine qR_blk (c' := (12, [.inr (.inr (some 87)), .inr (.inr (some 9))], [])) (w' := (zs_166 n, qml (zxc xs) zl_82, 1, 9)) 1 hd0 hz rfl ?_
  refine qR_blk (c' := (15, [.inr (.inr (some 87)), .inr (.inr (some 9))], [.inl 9, .inr (.inr (some 87))])) (w' := (zs_166 n, qml (zxc xs) zl_82, 1, 9)) 2 hd0 hz rfl ?_
  refine qR_z (c' := (17, [.inr (.inr (some 87)), .inr (.inr (some 9))], [.inr (.inr (some 89)), .inr (.inr (some 87))])) (S' := zs_167 n) (r := 89) (a' := 2) (b' := 18) hd0 hz rfl rfl (fun j => qml_z rfl rfl) ?_
  refine qR_blk (c' := (20, [.inr (.inr (some 87)), .inr (.inr (some 9))], [])) (w' := (zs_168 n, qml (zxc xs) zl_82, 2, 18)) 1 hd0 hz rfl ?_
  refine qR_blk (c' := (23, [.inr (.inr (some 87)), .inr (.inr (some 9))], [.inl 9, .inr (.inr (some 87))])) (w' := (zs_168 n, qml (zxc xs) zl_82, 2, 18)) 2 hd0 hz rfl ?_
  refine qR_z (c' := (25, [.inr (.inr (some 87)), .inr (.inr (some 9))], [.inr (.inr (some 90)), .inr (.inr (some 87))])) (S' := zs_169 n) (r := 90) (a' := 3) (b' := 27) hd0 hz rfl rfl (fun j => qml_z rfl rfl) ?_
  refine qR_blk (c' := (28, [.inr (.inr (some 87)), .inr (.inr (some 9))], [])) (w' := (zs_170 n, qml (zxc xs) zl_82, 3, 27)) 1 hd0 hz rfl ?_
  refine qR_blk (c' := (31, [.inr (.inr (some 87)), .inr (.inr (some 9))], [.inl 9, .inr (.inr (some 87))])) (w' := (zs_170 n, qml (zxc xs) zl_82, 3, 27)) 2 hd0 hz rfl ?_
  refine qR_z (c' := (33, [.inr (.inr (some 87)), .inr (.inr (some 9))], [.inr (.inr (some 91)), .inr (.inr (some 87))])) (S' := zs_171 n) (r := 91) (a' := 4) (b' := 36) hd0 hz rfl rfl (fun j => qml_z rfl rfl) ?_
  refine qR_blk (c' := (36, [.inr (.inr (some 87)), .inr (.inr (some 9))], [])) (w' := (zs_172 n, qml (zxc xs) zl_82, 4, 36)) 1 hd0 hz rfl ?_
  refine qR_blk (c' := (41, [.inr (.inr (some 87)), .inr (.inr (some 9))], [])) (w' := (zs_173 n, qml (zxc xs) zl_82, 4, 36)) 3 hd0 hz rfl ?_
  exact qR_ret hd0 hz rfl rfl ⟨rfl, _, _, rfl⟩
set_option maxRecDepth 100000 in
theorem qc_55 (n : Nat) (xs : Nat → Int32) {d : Nat} (hd : 1 ≤ d) : qR d 5 (0, zini [.inr (.inr (some 92)), .inr (.inr (some 9)), .inr (.inr (some 60))] 3, []) (zs_175 n, qml (zxc xs) zl_82, 0, 0) (fun r w' => r = none ∧ ∃ a b, w' = (zs_181 n, qml (zxc xs) zl_82, a, b)) := by
  have hz := zp_5
  have hd0 : 0 < d := by omega
  show qR d 5 (0, [.inr (.inr (some 92)), .inr (.inr (some 9)), .inr (.inr (some 60))], []) (zs_175 n, qml (zxc xs) zl_82, 0, 0) _
  refine qR_blk (c' := (7, [.inr (.inr (some 92)), .inr (.inr (some 9)), .inr (.inr (some 60))], [.inl 10, .inr (.inr (some 92))])) (w' := (zs_175 n, qml (zxc xs) zl_82, 0, 0)) 4 hd0 hz rfl ?_
  refine qR_z (c' := (9, [.inr (.inr (some 92)), .inr (.inr (some 9)), .inr (.inr (some 60))], [.inr (.inr (some 93)), .inr (.inr (some 92))])) (S' := zs_176 n) (r := 93) (a' := 1) (b' := 10) hd0 hz rfl rfl (fun j => qml_z rfl rfl) ?_
  refine qR_blk (c' := (12, [.inr (.inr (some 92)), .inr (.inr (some 9)), .inr (.inr (some 60))], [])) (w' := (zs_177 n, qml (zxc xs) zl_82, 1, 10)) 1 hd0 hz rfl ?_
  refine qR_blk (c' := (15, [.inr (.inr (some 92)), .inr (.inr (some 9)), .inr (.inr (some 60))], [.inl 10, .inr (.inr (some 92))])) (w' := (zs_177 n, qml (zxc xs) zl_82, 1, 10)) 2 hd0 hz rfl ?_
  refine qR_z (c' := (17, [.inr (.inr (some 92)), .inr (.inr (some 9)), .inr (.inr (some 60))], [.inr (.inr (some 94)), .inr (.inr (some 92))])) (S' := zs_178 n) (r := 94) (a' := 2) (b' := 20) hd0 hz rfl rfl (fun j => qml_z rfl rfl) ?_
  refine qR_blk (c' := (20, [.inr (.inr (some 92)), .inr (.inr (some 9)), .inr (.inr (some 60))], [])) (w' := (zs_179 n, qml (zxc xs) zl_82, 2, 20)) 1 hd0 hz rfl ?_
  refine qR_blk (c' := (25, [.inr (.inr (some 92)), .inr (.inr (some 9)), .inr (.inr (some 60))], [])) (w' := (zs_180 n, qml (zxc xs) zl_82, 2, 20)) 3 hd0 hz rfl ?_
  refine qR_blk (c' := (30, [.inr (.inr (some 92)), .inr (.inr (some 9)), .inr (.inr (some 60))], [])) (w' := (zs_181 n, qml (zxc xs) zl_82, 2, 20)) 3 hd0 hz rfl ?_
  exact qR_ret hd0 hz rfl rfl ⟨rfl, _, _, rfl⟩
set_option maxRecDepth 100000 in
theorem qc_56 (n : Nat) (xs : Nat → Int32) {d : Nat} (hd : 1 ≤ d) : qR d 0 (0, zini [.inr (.inr (some 95))] 1, []) (zs_183 n, qml (zxc xs) zl_82, 0, 0) (fun r w' => r = none ∧ ∃ a b, w' = (zs_185 n, qml (zxc xs) zl_82, a, b)) := by
  have hz := zp_0
  have hd0 : 0 < d := by omega
  show qR d 0 (0, [.inr (.inr (some 95))], []) (zs_183 n, qml (zxc xs) zl_82, 0, 0) _
  refine qR_blk (c' := (7, [.inr (.inr (some 95))], [.inl 12, .inr (.inr (some 95))])) (w' := (zs_183 n, qml (zxc xs) zl_82, 0, 0)) 4 hd0 hz rfl ?_
  refine qR_z (c' := (9, [.inr (.inr (some 95))], [.inr (.inr (some 96)), .inr (.inr (some 95))])) (S' := zs_184 n) (r := 96) (a' := 1) (b' := 12) hd0 hz rfl rfl (fun j => qml_z rfl rfl) ?_
  refine qR_blk (c' := (12, [.inr (.inr (some 95))], [])) (w' := (zs_185 n, qml (zxc xs) zl_82, 1, 12)) 1 hd0 hz rfl ?_
  exact qR_ret hd0 hz rfl rfl ⟨rfl, _, _, rfl⟩
set_option maxRecDepth 100000 in
theorem qc_57 (n : Nat) (xs : Nat → Int32) {d : Nat} (hd : 4 ≤ d) : qR d 122 (0, zini [.inr (.inr (some 8))] 1, []) (zs_1 n, qml (zxc xs) zl_0, 0, 0) (fun r w' => r = none ∧ ∃ a b, w' = (zs_186 n, qml (zxc xs) zl_82, a, b)) := by
  have hz := zp_122
  have hd0 : 0 < d := by omega
  show qR d 122 (0, [.inr (.inr (some 8))], []) (zs_1 n, qml (zxc xs) zl_0, 0, 0) _
  refine qR_blk (c' := (5, [.inr (.inr (some 8))], [.inr (.inr (some 8))])) (w' := (zs_1 n, qml (zxc xs) zl_0, 0, 0)) 3 hd0 hz rfl ?_
  refine qR_z (c' := (8, [.inr (.inr (some 8))], [.inr (.inr (some 9)), .inr (.inr (some 8))])) (S' := zs_2 n) (r := 9) (a' := 1) (b' := 10) hd0 hz rfl rfl (fun j => qml_z rfl rfl) ?_
  refine qR_blk (c' := (9, [.inr (.inr (some 8))], [.inr (.inr (some 9)), .inr (.inr (some 9)), .inr (.inr (some 8))])) (w' := (zs_2 n, qml (zxc xs) zl_0, 1, 10)) 1 hd0 hz rfl ?_
  refine qR_call hd0 hz zp_17 rfl rfl (Nat.le_of_ble_eq_true rfl) ⟨by omega, by omega⟩ (qc_9 n xs (by omega)) (fun r w1 hr => ?_)
  obtain ⟨rfl, a9, b9, rfl⟩ := hr
  show qR d 122 (12, [.inr (.inr (some 8))], [.inr (.inr (some 9)), .inr (.inr (some 8))]) (zs_34 n, qml (zxc xs) zl_18, 17, 480042) _
  refine qR_blk (c' := (15, [.inr (.inr (some 8))], [])) (w' := (zs_35 n, qml (zxc xs) zl_18, 17, 480042)) 1 hd0 hz rfl ?_
  refine qR_blk (c' := (16, [.inr (.inr (some 8))], [.inr (.inr (some 8))])) (w' := (zs_35 n, qml (zxc xs) zl_18, 17, 480042)) 1 hd0 hz rfl ?_
  refine qR_z (c' := (19, [.inr (.inr (some 8))], [.inr (.inr (some 26)), .inr (.inr (some 8))])) (S' := zs_36 n) (r := 26) (a' := 18) (b' := 480052) hd0 hz rfl rfl (fun j => qml_z rfl rfl) ?_
  refine qR_blk (c' := (20, [.inr (.inr (some 8))], [.inr (.inr (some 26)), .inr (.inr (some 26)), .inr (.inr (some 8))])) (w' := (zs_36 n, qml (zxc xs) zl_18, 18, 480052)) 1 hd0 hz rfl ?_
  refine qR_call hd0 hz zp_17 rfl rfl (Nat.le_of_ble_eq_true rfl) ⟨by omega, by omega⟩ (qc_18 n xs (by omega)) (fun r w1 hr => ?_)
  obtain ⟨rfl, a9, b9, rfl⟩ := hr
  show qR d 122 (23, [.inr (.inr (some 8))], [.inr (.inr (some 26)), .inr (.inr (some 8))]) (zs_68 n, qml (zxc xs) zl_36, 34, 960084) _
  refine qR_blk (c' := (26, [.inr (.inr (some 8))], [])) (w' := (zs_69 n, qml (zxc xs) zl_36, 34, 960084)) 1 hd0 hz rfl ?_
  refine qR_blk (c' := (27, [.inr (.inr (some 8))], [.inr (.inr (some 8))])) (w' := (zs_69 n, qml (zxc xs) zl_36, 34, 960084)) 1 hd0 hz rfl ?_
  refine qR_z (c' := (30, [.inr (.inr (some 8))], [.inr (.inr (some 43)), .inr (.inr (some 8))])) (S' := zs_70 n) (r := 43) (a' := 35) (b' := 960094) hd0 hz rfl rfl (fun j => qml_z rfl rfl) ?_
  refine qR_blk (c' := (31, [.inr (.inr (some 8))], [.inr (.inr (some 43)), .inr (.inr (some 43)), .inr (.inr (some 8))])) (w' := (zs_70 n, qml (zxc xs) zl_36, 35, 960094)) 1 hd0 hz rfl ?_
  refine qR_call hd0 hz zp_17 rfl rfl (Nat.le_of_ble_eq_true rfl) ⟨by omega, by omega⟩ (qc_27 n xs (by omega)) (fun r w1 hr => ?_)
  obtain ⟨rfl, a9, b9, rfl⟩ := hr
  show qR d 122 (34, [.inr (.inr (some 8))], [.inr (.inr (some 43)), .inr (.inr (some 8))]) (zs_102 n, qml (zxc xs) zl_54, 51, 1440126) _
  refine qR_blk (c' := (37, [.inr (.inr (some 8))], [])) (w' := (zs_103 n, qml (zxc xs) zl_54, 51, 1440126)) 1 hd0 hz rfl ?_
  refine qR_blk (c' := (38, [.inr (.inr (some 8))], [.inr (.inr (some 8))])) (w' := (zs_103 n, qml (zxc xs) zl_54, 51, 1440126)) 1 hd0 hz rfl ?_
  refine qR_z (c' := (41, [.inr (.inr (some 8))], [.inr (.inr (some 60)), .inr (.inr (some 8))])) (S' := zs_104 n) (r := 60) (a' := 52) (b' := 1440130) hd0 hz rfl rfl (fun j => qml_z rfl rfl) ?_
  refine qR_blk (c' := (46, [.inr (.inr (some 8))], [.inr (.inr (some 9)), .inr (.inr (some 60)), .inr (.inr (some 60)), .inr (.inr (some 8))])) (w' := (zs_104 n, qml (zxc xs) zl_54, 52, 1440130)) 3 hd0 hz rfl ?_
  refine qR_call hd0 hz zp_40 rfl rfl (Nat.le_of_ble_eq_true rfl) ⟨by omega, by omega⟩ (qc_31 n xs (by omega)) (fun r w1 hr => ?_)
  obtain ⟨rfl, a9, b9, rfl⟩ := hr
  show qR d 122 (49, [.inr (.inr (some 8))], [.inr (.inr (some 60)), .inr (.inr (some 8))]) (zs_117 n, qml (zxc xs) zl_60, 58, 1620142) _
  refine qR_blk (c' := (52, [.inr (.inr (some 8))], [])) (w' := (zs_118 n, qml (zxc xs) zl_60, 58, 1620142)) 1 hd0 hz rfl ?_
  refine qR_blk (c' := (53, [.inr (.inr (some 8))], [.inr (.inr (some 8))])) (w' := (zs_118 n, qml (zxc xs) zl_60, 58, 1620142)) 1 hd0 hz rfl ?_
  refine qR_z (c' := (56, [.inr (.inr (some 8))], [.inr (.inr (some 67)), .inr (.inr (some 8))])) (S' := zs_119 n) (r := 67) (a' := 59) (b' := 1620154) hd0 hz rfl rfl (fun j => qml_z rfl rfl) ?_
  refine qR_blk (c' := (64, [.inr (.inr (some 8))], [.inr (.inr (some 20)), .inr (.inr (some 67)), .inr (.inr (some 67)), .inr (.inr (some 8))])) (w' := (zs_119 n, qml (zxc xs) zl_60, 59, 1620154)) 4 hd0 hz rfl ?_
  refine qR_call hd0 hz zp_73 rfl rfl (Nat.le_of_ble_eq_true rfl) ⟨by omega, by omega⟩ (qc_34 n xs (by omega)) (fun r w1 hr => ?_)
  obtain ⟨rfl, a9, b9, rfl⟩ := hr
  show qR d 122 (67, [.inr (.inr (some 8))], [.inr (.inr (some 67)), .inr (.inr (some 8))]) (zs_128 n, qml (zxc xs) zl_64, 63, 1740162) _
  refine qR_blk (c' := (70, [.inr (.inr (some 8))], [])) (w' := (zs_129 n, qml (zxc xs) zl_64, 63, 1740162)) 1 hd0 hz rfl ?_
  refine qR_blk (c' := (71, [.inr (.inr (some 8))], [.inr (.inr (some 8))])) (w' := (zs_129 n, qml (zxc xs) zl_64, 63, 1740162)) 1 hd0 hz rfl ?_
  refine qR_z (c' := (74, [.inr (.inr (some 8))], [.inr (.inr (some 72)), .inr (.inr (some 8))])) (S' := zs_130 n) (r := 72) (a' := 64) (b' := 1740168) hd0 hz rfl rfl (fun j => qml_z rfl rfl) ?_
  refine qR_blk (c' := (75, [.inr (.inr (some 8))], [.inr (.inr (some 72)), .inr (.inr (some 72)), .inr (.inr (some 8))])) (w' := (zs_130 n, qml (zxc xs) zl_64, 64, 1740168)) 1 hd0 hz rfl ?_
  refine qR_call hd0 hz zp_55 rfl rfl (Nat.le_of_ble_eq_true rfl) ⟨by omega, by omega⟩ (qc_35 n xs (by omega)) (fun r w1 hr => ?_)
  obtain ⟨rfl, a9, b9, rfl⟩ := hr
  show qR d 122 (78, [.inr (.inr (some 8))], [.inr (.inr (some 72)), .inr (.inr (some 8))]) (zs_136 n, qml (zxc xs) zl_64, 67, 1920168) _
  refine qR_blk (c' := (81, [.inr (.inr (some 8))], [])) (w' := (zs_137 n, qml (zxc xs) zl_64, 67, 1920168)) 1 hd0 hz rfl ?_
  refine qR_blk (c' := (82, [.inr (.inr (some 8))], [.inr (.inr (some 8))])) (w' := (zs_137 n, qml (zxc xs) zl_64, 67, 1920168)) 1 hd0 hz rfl ?_
  refine qR_z (c' := (85, [.inr (.inr (some 8))], [.inr (.inr (some 76)), .inr (.inr (some 8))])) (S' := zs_138 n) (r := 76) (a' := 68) (b' := 1920173) hd0 hz rfl rfl (fun j => qml_z rfl rfl) ?_
  refine qR_blk (c' := (98, [.inr (.inr (some 8))], [.inr (.inr (some 72)), .inr (.inr (some 60)), .inr (.inr (some 9)), .inr (.inr (some 76)), .inr (.inr (some 76)), .inr (.inr (some 8))])) (w' := (zs_138 n, qml (zxc xs) zl_64, 68, 1920173)) 7 hd0 hz rfl ?_
  refine qR_call hd0 hz zp_27 rfl rfl (Nat.le_of_ble_eq_true rfl) ⟨by omega, by omega⟩ (qc_50 n xs (by omega)) (fun r w1 hr => ?_)
  obtain ⟨rfl, a9, b9, rfl⟩ := hr
  show qR d 122 (101, [.inr (.inr (some 8))], [.inr (.inr (some 76)), .inr (.inr (some 8))]) (zs_149 n, qml (zxc xs) zl_78, 72, 2040181) _
  refine qR_blk (c' := (104, [.inr (.inr (some 8))], [])) (w' := (zs_150 n, qml (zxc xs) zl_78, 72, 2040181)) 1 hd0 hz rfl ?_
  refine qR_blk (c' := (105, [.inr (.inr (some 8))], [.inr (.inr (some 8))])) (w' := (zs_150 n, qml (zxc xs) zl_78, 72, 2040181)) 1 hd0 hz rfl ?_
  refine qR_z (c' := (108, [.inr (.inr (some 8))], [.inr (.inr (some 81)), .inr (.inr (some 8))])) (S' := zs_151 n) (r := 81) (a' := 73) (b' := 2040187) hd0 hz rfl rfl (fun j => qml_z rfl rfl) ?_
  refine qR_blk (c' := (113, [.inr (.inr (some 8))], [.inr (.inr (some 9)), .inr (.inr (some 81)), .inr (.inr (some 81)), .inr (.inr (some 8))])) (w' := (zs_151 n, qml (zxc xs) zl_78, 73, 2040187)) 3 hd0 hz rfl ?_
  refine qR_call hd0 hz zp_111 rfl rfl (Nat.le_of_ble_eq_true rfl) ⟨by omega, by omega⟩ (qc_53 n xs (by omega)) (fun r w1 hr => ?_)
  obtain ⟨rfl, a9, b9, rfl⟩ := hr
  show qR d 122 (116, [.inr (.inr (some 8))], [.inr (.inr (some 81)), .inr (.inr (some 8))]) (zs_162 n, qml (zxc xs) zl_82, 78, 2220195) _
  refine qR_blk (c' := (119, [.inr (.inr (some 8))], [])) (w' := (zs_163 n, qml (zxc xs) zl_82, 78, 2220195)) 1 hd0 hz rfl ?_
  refine qR_blk (c' := (120, [.inr (.inr (some 8))], [.inr (.inr (some 8))])) (w' := (zs_163 n, qml (zxc xs) zl_82, 78, 2220195)) 1 hd0 hz rfl ?_
  refine qR_z (c' := (123, [.inr (.inr (some 8))], [.inr (.inr (some 87)), .inr (.inr (some 8))])) (S' := zs_164 n) (r := 87) (a' := 79) (b' := 2220202) hd0 hz rfl rfl (fun j => qml_z rfl rfl) ?_
  refine qR_blk (c' := (128, [.inr (.inr (some 8))], [.inr (.inr (some 9)), .inr (.inr (some 87)), .inr (.inr (some 87)), .inr (.inr (some 8))])) (w' := (zs_164 n, qml (zxc xs) zl_82, 79, 2220202)) 3 hd0 hz rfl ?_
  refine qR_call hd0 hz zp_67 rfl rfl (Nat.le_of_ble_eq_true rfl) ⟨by omega, by omega⟩ (qc_54 n xs (by omega)) (fun r w1 hr => ?_)
  obtain ⟨rfl, a9, b9, rfl⟩ := hr
  show qR d 122 (131, [.inr (.inr (some 8))], [.inr (.inr (some 87)), .inr (.inr (some 8))]) (zs_173 n, qml (zxc xs) zl_82, 83, 2460202) _
  refine qR_blk (c' := (134, [.inr (.inr (some 8))], [])) (w' := (zs_174 n, qml (zxc xs) zl_82, 83, 2460202)) 1 hd0 hz rfl ?_
  refine qR_blk (c' := (135, [.inr (.inr (some 8))], [.inr (.inr (some 8))])) (w' := (zs_174 n, qml (zxc xs) zl_82, 83, 2460202)) 1 hd0 hz rfl ?_
  refine qR_z (c' := (138, [.inr (.inr (some 8))], [.inr (.inr (some 92)), .inr (.inr (some 8))])) (S' := zs_175 n) (r := 92) (a' := 84) (b' := 2460210) hd0 hz rfl rfl (fun j => qml_z rfl rfl) ?_
  refine qR_blk (c' := (147, [.inr (.inr (some 8))], [.inr (.inr (some 60)), .inr (.inr (some 9)), .inr (.inr (some 92)), .inr (.inr (some 92)), .inr (.inr (some 8))])) (w' := (zs_175 n, qml (zxc xs) zl_82, 84, 2460210)) 5 hd0 hz rfl ?_
  refine qR_call hd0 hz zp_5 rfl rfl (Nat.le_of_ble_eq_true rfl) ⟨by omega, by omega⟩ (qc_55 n xs (by omega)) (fun r w1 hr => ?_)
  obtain ⟨rfl, a9, b9, rfl⟩ := hr
  show qR d 122 (150, [.inr (.inr (some 8))], [.inr (.inr (some 92)), .inr (.inr (some 8))]) (zs_181 n, qml (zxc xs) zl_82, 86, 2580210) _
  refine qR_blk (c' := (153, [.inr (.inr (some 8))], [])) (w' := (zs_182 n, qml (zxc xs) zl_82, 86, 2580210)) 1 hd0 hz rfl ?_
  refine qR_blk (c' := (154, [.inr (.inr (some 8))], [.inr (.inr (some 8))])) (w' := (zs_182 n, qml (zxc xs) zl_82, 86, 2580210)) 1 hd0 hz rfl ?_
  refine qR_z (c' := (157, [.inr (.inr (some 8))], [.inr (.inr (some 95)), .inr (.inr (some 8))])) (S' := zs_183 n) (r := 95) (a' := 87) (b' := 2580213) hd0 hz rfl rfl (fun j => qml_z rfl rfl) ?_
  refine qR_blk (c' := (158, [.inr (.inr (some 8))], [.inr (.inr (some 95)), .inr (.inr (some 95)), .inr (.inr (some 8))])) (w' := (zs_183 n, qml (zxc xs) zl_82, 87, 2580213)) 1 hd0 hz rfl ?_
  refine qR_call hd0 hz zp_0 rfl rfl (Nat.le_of_ble_eq_true rfl) ⟨by omega, by omega⟩ (qc_56 n xs (by omega)) (fun r w1 hr => ?_)
  obtain ⟨rfl, a9, b9, rfl⟩ := hr
  show qR d 122 (161, [.inr (.inr (some 8))], [.inr (.inr (some 95)), .inr (.inr (some 8))]) (zs_185 n, qml (zxc xs) zl_82, 88, 2640213) _
  refine qR_blk (c' := (164, [.inr (.inr (some 8))], [])) (w' := (zs_186 n, qml (zxc xs) zl_82, 88, 2640213)) 1 hd0 hz rfl ?_
  exact qR_ret hd0 hz rfl rfl ⟨rfl, _, _, rfl⟩
set_option maxRecDepth 100000 in
theorem qc_58 (n : Nat) (xs : Nat → Int32) {d : Nat} (hd : 1 ≤ d) : qR d 181 (0, zini [.inr (.inr (some 97))] 1, []) (zs_187 n, qml (zxc xs) zl_82, 0, 0) (fun r w' => r = none ∧ ∃ a b, w' = (zs_235 n, qml (zxc xs) zl_85, a, b)) := by
  have hz := zp_181
  have hd0 : 0 < d := by omega
  show qR d 181 (0, [.inr (.inr (some 97))], []) (zs_187 n, qml (zxc xs) zl_82, 0, 0) _
  refine qR_blk (c' := (8, [.inr (.inr (some 97))], [.inl 5664, .inr (.inr (some 97))])) (w' := (zs_187 n, qml (zxc xs) zl_82, 0, 0)) 4 hd0 hz rfl ?_
  refine qR_z (c' := (10, [.inr (.inr (some 97))], [.inr (.inr (some 98)), .inr (.inr (some 97))])) (S' := zs_188 n) (r := 98) (a' := 1) (b' := 5664) hd0 hz rfl rfl (fun j => qml_z rfl rfl) ?_
  refine qR_blk (c' := (13, [.inr (.inr (some 97))], [])) (w' := (zs_189 n, qml (zxc xs) zl_82, 1, 5664)) 1 hd0 hz rfl ?_
  refine qR_blk (c' := (17, [.inr (.inr (some 97))], [.inl 11328, .inr (.inr (some 97))])) (w' := (zs_189 n, qml (zxc xs) zl_82, 1, 5664)) 2 hd0 hz rfl ?_
  refine qR_z (c' := (19, [.inr (.inr (some 97))], [.inr (.inr (some 99)), .inr (.inr (some 97))])) (S' := zs_190 n) (r := 99) (a' := 2) (b' := 16992) hd0 hz rfl rfl (fun j => qml_z rfl rfl) ?_
  refine qR_blk (c' := (22, [.inr (.inr (some 97))], [])) (w' := (zs_191 n, qml (zxc xs) zl_82, 2, 16992)) 1 hd0 hz rfl ?_
  refine qR_blk (c' := (24, [.inr (.inr (some 97))], [.inl 2, .inr (.inr (some 97))])) (w' := (zs_191 n, qml (zxc xs) zl_82, 2, 16992)) 2 hd0 hz rfl ?_
  refine qR_z (c' := (26, [.inr (.inr (some 97))], [.inr (.inr (some 100)), .inr (.inr (some 97))])) (S' := zs_192 n) (r := 100) (a' := 3) (b' := 16994) hd0 hz rfl rfl (fun j => qml_z rfl rfl) ?_
  refine qR_blk (c' := (29, [.inr (.inr (some 97))], [])) (w' := (zs_193 n, qml (zxc xs) zl_82, 3, 16994)) 1 hd0 hz rfl ?_
  refine qR_blk (c' := (33, [.inr (.inr (some 97))], [.inl 250, .inr (.inr (some 97))])) (w' := (zs_193 n, qml (zxc xs) zl_82, 3, 16994)) 2 hd0 hz rfl ?_
  refine qR_z (c' := (35, [.inr (.inr (some 97))], [.inr (.inr (some 101)), .inr (.inr (some 97))])) (S' := zs_194 n) (r := 101) (a' := 4) (b' := 17244) hd0 hz rfl rfl (fun j => qml_z rfl rfl) ?_
  refine qR_blk (c' := (38, [.inr (.inr (some 97))], [])) (w' := (zs_195 n, qml (zxc xs) zl_82, 4, 17244)) 1 hd0 hz rfl ?_
  refine qR_blk (c' := (41, [.inr (.inr (some 97))], [.inl 14, .inr (.inr (some 97))])) (w' := (zs_195 n, qml (zxc xs) zl_82, 4, 17244)) 2 hd0 hz rfl ?_
  refine qR_z (c' := (43, [.inr (.inr (some 97))], [.inr (.inr (some 102)), .inr (.inr (some 97))])) (S' := zs_196 n) (r := 102) (a' := 5) (b' := 17258) hd0 hz rfl rfl (fun j => qml_z rfl rfl) ?_
  refine qR_blk (c' := (46, [.inr (.inr (some 97))], [])) (w' := (zs_197 n, qml (zxc xs) zl_82, 5, 17258)) 1 hd0 hz rfl ?_
  refine qR_blk (c' := (49, [.inr (.inr (some 97))], [.inl 14, .inr (.inr (some 97))])) (w' := (zs_197 n, qml (zxc xs) zl_82, 5, 17258)) 2 hd0 hz rfl ?_
  refine qR_z (c' := (51, [.inr (.inr (some 97))], [.inr (.inr (some 103)), .inr (.inr (some 97))])) (S' := zs_198 n) (r := 103) (a' := 6) (b' := 17272) hd0 hz rfl rfl (fun j => qml_z rfl rfl) ?_
  refine qR_blk (c' := (54, [.inr (.inr (some 97))], [])) (w' := (zs_199 n, qml (zxc xs) zl_82, 6, 17272)) 1 hd0 hz rfl ?_
  refine qR_blk (c' := (57, [.inr (.inr (some 97))], [.inl 14, .inr (.inr (some 97))])) (w' := (zs_199 n, qml (zxc xs) zl_82, 6, 17272)) 2 hd0 hz rfl ?_
  refine qR_z (c' := (59, [.inr (.inr (some 97))], [.inr (.inr (some 104)), .inr (.inr (some 97))])) (S' := zs_200 n) (r := 104) (a' := 7) (b' := 17286) hd0 hz rfl rfl (fun j => qml_z rfl rfl) ?_
  refine qR_blk (c' := (62, [.inr (.inr (some 97))], [])) (w' := (zs_201 n, qml (zxc xs) zl_82, 7, 17286)) 1 hd0 hz rfl ?_
  refine qR_blk (c' := (65, [.inr (.inr (some 97))], [.inl 90, .inr (.inr (some 97))])) (w' := (zs_201 n, qml (zxc xs) zl_82, 7, 17286)) 2 hd0 hz rfl ?_
  refine qR_z (c' := (67, [.inr (.inr (some 97))], [.inr (.inr (some 105)), .inr (.inr (some 97))])) (S' := zs_202 n) (r := 105) (a' := 8) (b' := 17376) hd0 hz rfl rfl (fun j => qml_z rfl rfl) ?_
  refine qR_blk (c' := (70, [.inr (.inr (some 97))], [])) (w' := (zs_203 n, qml (zxc xs) zl_82, 8, 17376)) 1 hd0 hz rfl ?_
  refine qR_blk (c' := (73, [.inr (.inr (some 97))], [.inl 90, .inr (.inr (some 97))])) (w' := (zs_203 n, qml (zxc xs) zl_82, 8, 17376)) 2 hd0 hz rfl ?_
  refine qR_z (c' := (75, [.inr (.inr (some 97))], [.inr (.inr (some 106)), .inr (.inr (some 97))])) (S' := zs_204 n) (r := 106) (a' := 9) (b' := 17466) hd0 hz rfl rfl (fun j => qml_z rfl rfl) ?_
  refine qR_blk (c' := (78, [.inr (.inr (some 97))], [])) (w' := (zs_205 n, qml (zxc xs) zl_82, 9, 17466)) 1 hd0 hz rfl ?_
  refine qR_blk (c' := (81, [.inr (.inr (some 97))], [.inl 90, .inr (.inr (some 97))])) (w' := (zs_205 n, qml (zxc xs) zl_82, 9, 17466)) 2 hd0 hz rfl ?_
  refine qR_z (c' := (83, [.inr (.inr (some 97))], [.inr (.inr (some 107)), .inr (.inr (some 97))])) (S' := zs_206 n) (r := 107) (a' := 10) (b' := 17556) hd0 hz rfl rfl (fun j => qml_z rfl rfl) ?_
  refine qR_blk (c' := (86, [.inr (.inr (some 97))], [])) (w' := (zs_207 n, qml (zxc xs) zl_82, 10, 17556)) 1 hd0 hz rfl ?_
  refine qR_blk (c' := (89, [.inr (.inr (some 97))], [.inl 8, .inr (.inr (some 97))])) (w' := (zs_207 n, qml (zxc xs) zl_82, 10, 17556)) 2 hd0 hz rfl ?_
  refine qR_z (c' := (91, [.inr (.inr (some 97))], [.inr (.inr (some 108)), .inr (.inr (some 97))])) (S' := zs_208 n) (r := 108) (a' := 11) (b' := 17564) hd0 hz rfl rfl (fun j => qml_z rfl rfl) ?_
  refine qR_blk (c' := (94, [.inr (.inr (some 97))], [])) (w' := (zs_209 n, qml (zxc xs) zl_82, 11, 17564)) 1 hd0 hz rfl ?_
  refine qR_blk (c' := (97, [.inr (.inr (some 97))], [.inl 90, .inr (.inr (some 97))])) (w' := (zs_209 n, qml (zxc xs) zl_82, 11, 17564)) 2 hd0 hz rfl ?_
  refine qR_z (c' := (99, [.inr (.inr (some 97))], [.inr (.inr (some 109)), .inr (.inr (some 97))])) (S' := zs_210 n) (r := 109) (a' := 12) (b' := 17654) hd0 hz rfl rfl (fun j => qml_z rfl rfl) ?_
  refine qR_blk (c' := (102, [.inr (.inr (some 97))], [])) (w' := (zs_211 n, qml (zxc xs) zl_82, 12, 17654)) 1 hd0 hz rfl ?_
  refine qR_blk (c' := (105, [.inr (.inr (some 97))], [.inl 14, .inr (.inr (some 97))])) (w' := (zs_211 n, qml (zxc xs) zl_82, 12, 17654)) 2 hd0 hz rfl ?_
  refine qR_z (c' := (107, [.inr (.inr (some 97))], [.inr (.inr (some 110)), .inr (.inr (some 97))])) (S' := zs_212 n) (r := 110) (a' := 13) (b' := 17668) hd0 hz rfl rfl (fun j => qml_z rfl rfl) ?_
  refine qR_blk (c' := (110, [.inr (.inr (some 97))], [])) (w' := (zs_213 n, qml (zxc xs) zl_82, 13, 17668)) 1 hd0 hz rfl ?_
  refine qR_blk (c' := (113, [.inr (.inr (some 97))], [.inl 20, .inr (.inr (some 97))])) (w' := (zs_213 n, qml (zxc xs) zl_82, 13, 17668)) 2 hd0 hz rfl ?_
  refine qR_z (c' := (115, [.inr (.inr (some 97))], [.inr (.inr (some 111)), .inr (.inr (some 97))])) (S' := zs_214 n) (r := 111) (a' := 14) (b' := 17688) hd0 hz rfl rfl (fun j => qml_z rfl rfl) ?_
  refine qR_blk (c' := (118, [.inr (.inr (some 97))], [])) (w' := (zs_215 n, qml (zxc xs) zl_82, 14, 17688)) 1 hd0 hz rfl ?_
  refine qR_blk (c' := (121, [.inr (.inr (some 97))], [.inl 20, .inr (.inr (some 97))])) (w' := (zs_215 n, qml (zxc xs) zl_82, 14, 17688)) 2 hd0 hz rfl ?_
  refine qR_z (c' := (123, [.inr (.inr (some 97))], [.inr (.inr (some 112)), .inr (.inr (some 97))])) (S' := zs_216 n) (r := 112) (a' := 15) (b' := 17708) hd0 hz rfl rfl (fun j => qml_z rfl rfl) ?_
  refine qR_blk (c' := (126, [.inr (.inr (some 97))], [])) (w' := (zs_217 n, qml (zxc xs) zl_82, 15, 17708)) 1 hd0 hz rfl ?_
  refine qR_blk (c' := (129, [.inr (.inr (some 97))], [.inl 20, .inr (.inr (some 97))])) (w' := (zs_217 n, qml (zxc xs) zl_82, 15, 17708)) 2 hd0 hz rfl ?_
  refine qR_z (c' := (131, [.inr (.inr (some 97))], [.inr (.inr (some 113)), .inr (.inr (some 97))])) (S' := zs_218 n) (r := 113) (a' := 16) (b' := 17728) hd0 hz rfl rfl (fun j => qml_z rfl rfl) ?_
  refine qR_blk (c' := (134, [.inr (.inr (some 97))], [])) (w' := (zs_219 n, qml (zxc xs) zl_82, 16, 17728)) 1 hd0 hz rfl ?_
  refine qR_blk (c' := (137, [.inr (.inr (some 97))], [.inl 49152, .inr (.inr (some 97))])) (w' := (zs_219 n, qml (zxc xs) zl_82, 16, 17728)) 2 hd0 hz rfl ?_
  refine qR_z (c' := (139, [.inr (.inr (some 97))], [.inr (.inr (some 114)), .inr (.inr (some 97))])) (S' := zs_220 n) (r := 114) (a' := 17) (b' := 66880) hd0 hz rfl rfl (fun j => qml_z rfl rfl) ?_
  refine qR_blk (c' := (142, [.inr (.inr (some 97))], [])) (w' := (zs_221 n, qml (zxc xs) zl_82, 17, 66880)) 1 hd0 hz rfl ?_
  refine qR_blk (c' := (145, [.inr (.inr (some 97))], [.inl 14, .inr (.inr (some 97))])) (w' := (zs_221 n, qml (zxc xs) zl_82, 17, 66880)) 2 hd0 hz rfl ?_
  refine qR_z (c' := (147, [.inr (.inr (some 97))], [.inr (.inr (some 115)), .inr (.inr (some 97))])) (S' := zs_222 n) (r := 115) (a' := 18) (b' := 66894) hd0 hz rfl rfl (fun j => qml_z rfl rfl) ?_
  refine qR_blk (c' := (150, [.inr (.inr (some 97))], [])) (w' := (zs_223 n, qml (zxc xs) zl_82, 18, 66894)) 1 hd0 hz rfl ?_
  refine qR_blk (c' := (155, [.inr (.inr (some 97))], [])) (w' := (zs_223 n, qml (zxc xs) zl_83, 18, 66894)) 3 hd0 hz rfl ?_
  refine qR_blk (c' := (158, [.inr (.inr (some 97))], [.inl 9, .inr (.inr (some 97))])) (w' := (zs_223 n, qml (zxc xs) zl_83, 18, 66894)) 2 hd0 hz rfl ?_
  refine qR_z (c' := (160, [.inr (.inr (some 97))], [.inr (.inr (some 116)), .inr (.inr (some 97))])) (S' := zs_224 n) (r := 116) (a' := 19) (b' := 66903) hd0 hz rfl rfl (fun j => qml_z rfl rfl) ?_
  refine qR_blk (c' := (163, [.inr (.inr (some 97))], [])) (w' := (zs_225 n, qml (zxc xs) zl_83, 19, 66903)) 1 hd0 hz rfl ?_
  refine qR_blk (c' := (166, [.inr (.inr (some 97))], [.inl 9, .inr (.inr (some 97))])) (w' := (zs_225 n, qml (zxc xs) zl_83, 19, 66903)) 2 hd0 hz rfl ?_
  refine qR_z (c' := (168, [.inr (.inr (some 97))], [.inr (.inr (some 117)), .inr (.inr (some 97))])) (S' := zs_226 n) (r := 117) (a' := 20) (b' := 66912) hd0 hz rfl rfl (fun j => qml_z rfl rfl) ?_
  refine qR_blk (c' := (171, [.inr (.inr (some 97))], [])) (w' := (zs_227 n, qml (zxc xs) zl_83, 20, 66912)) 1 hd0 hz rfl ?_
  refine qR_blk (c' := (174, [.inr (.inr (some 97))], [.inl 9, .inr (.inr (some 97))])) (w' := (zs_227 n, qml (zxc xs) zl_83, 20, 66912)) 2 hd0 hz rfl ?_
  refine qR_z (c' := (176, [.inr (.inr (some 97))], [.inr (.inr (some 118)), .inr (.inr (some 97))])) (S' := zs_228 n) (r := 118) (a' := 21) (b' := 66921) hd0 hz rfl rfl (fun j => qml_z rfl rfl) ?_
  refine qR_blk (c' := (179, [.inr (.inr (some 97))], [])) (w' := (zs_229 n, qml (zxc xs) zl_83, 21, 66921)) 1 hd0 hz rfl ?_
  refine qR_blk (c' := (183, [.inr (.inr (some 97))], [.inl 756, .inr (.inr (some 97))])) (w' := (zs_229 n, qml (zxc xs) zl_83, 21, 66921)) 2 hd0 hz rfl ?_
  refine qR_z (c' := (185, [.inr (.inr (some 97))], [.inr (.inr (some 119)), .inr (.inr (some 97))])) (S' := zs_230 n) (r := 119) (a' := 22) (b' := 67677) hd0 hz rfl rfl (fun j => qml_z rfl rfl) ?_
  refine qR_blk (c' := (188, [.inr (.inr (some 97))], [])) (w' := (zs_231 n, qml (zxc xs) zl_83, 22, 67677)) 1 hd0 hz rfl ?_
  refine qR_blk (c' := (191, [.inr (.inr (some 97))], [.inl 6, .inr (.inr (some 97))])) (w' := (zs_231 n, qml (zxc xs) zl_83, 22, 67677)) 2 hd0 hz rfl ?_
  refine qR_z (c' := (193, [.inr (.inr (some 97))], [.inr (.inr (some 120)), .inr (.inr (some 97))])) (S' := zs_232 n) (r := 120) (a' := 23) (b' := 67683) hd0 hz rfl rfl (fun j => qml_z rfl rfl) ?_
  refine qR_blk (c' := (196, [.inr (.inr (some 97))], [])) (w' := (zs_233 n, qml (zxc xs) zl_83, 23, 67683)) 1 hd0 hz rfl ?_
  refine qR_blk (c' := (199, [.inr (.inr (some 97))], [.inl 6, .inr (.inr (some 97))])) (w' := (zs_233 n, qml (zxc xs) zl_83, 23, 67683)) 2 hd0 hz rfl ?_
  refine qR_z (c' := (201, [.inr (.inr (some 97))], [.inr (.inr (some 121)), .inr (.inr (some 97))])) (S' := zs_234 n) (r := 121) (a' := 24) (b' := 67689) hd0 hz rfl rfl (fun j => qml_z rfl rfl) ?_
  refine qR_blk (c' := (204, [.inr (.inr (some 97))], [])) (w' := (zs_235 n, qml (zxc xs) zl_83, 24, 67689)) 1 hd0 hz rfl ?_
  refine qR_blk (c' := (213, [.inr (.inr (some 97))], [])) (w' := (zs_235 n, qml (zxc xs) zl_84, 24, 67689)) 5 hd0 hz rfl ?_
  refine qR_blk (c' := (222, [.inr (.inr (some 97))], [])) (w' := (zs_235 n, qml (zxc xs) zl_85, 24, 67689)) 5 hd0 hz rfl ?_
  exact qR_ret hd0 hz rfl rfl ⟨rfl, _, _, rfl⟩
set_option maxRecDepth 100000 in
theorem qc_law (n : Nat) (xs : Nat → Int32) {Q : Option zV → zW → Prop} (K : qR 300 311 (18, [.inr (.inr (some 0)), .inr (.inr (some 8)), .inr (.inr (some 97)), .inl 0], []) (zSH n, qml (zxc xs) zl_85, 114, 4080270) Q) : qR 300 311 (0, zini [.inr (.inr (some 0))] 4, []) (zxS n, zxc xs, 0, 0) Q := by
  have hz := zp_311
  show qR 300 311 (0, [.inr (.inr (some 0)), zN, zN, zN], []) (zs_0 n, qml (zxc xs) zl_0, 0, 0) _
  refine qR_z (c' := (3, [.inr (.inr (some 0)), zN, zN, zN], [.inr (.inr (some 8))])) (S' := zs_1 n) (r := 8) (a' := 1) (b' := 12) (by decide : 0 < 300) hz rfl rfl (fun j => qml_z rfl rfl) ?_
  refine qR_blk (c' := (4, [.inr (.inr (some 0)), zN, zN, zN], [.inr (.inr (some 8)), .inr (.inr (some 8))])) (w' := (zs_1 n, qml (zxc xs) zl_0, 1, 12)) 1 (by decide : 0 < 300) hz rfl ?_
  refine qR_call (by decide : 0 < 300) hz zp_122 rfl rfl (Nat.le_of_ble_eq_true rfl) ⟨by omega, by omega⟩ (qc_57 n xs (by decide)) (fun r w1 hr => ?_)
  obtain ⟨rfl, a9, b9, rfl⟩ := hr
  show qR 300 311 (7, [.inr (.inr (some 0)), zN, zN, zN], [.inr (.inr (some 8))]) (zs_186 n, qml (zxc xs) zl_82, 89, 2640225) _
  refine qR_blk (c' := (8, [.inr (.inr (some 0)), .inr (.inr (some 8)), zN, zN], [])) (w' := (zs_186 n, qml (zxc xs) zl_82, 89, 2640225)) 1 (by decide : 0 < 300) hz rfl ?_
  refine qR_z (c' := (11, [.inr (.inr (some 0)), .inr (.inr (some 8)), zN, zN], [.inr (.inr (some 97))])) (S' := zs_187 n) (r := 97) (a' := 90) (b' := 2640270) (by decide : 0 < 300) hz rfl rfl (fun j => qml_z rfl rfl) ?_
  refine qR_blk (c' := (12, [.inr (.inr (some 0)), .inr (.inr (some 8)), zN, zN], [.inr (.inr (some 97)), .inr (.inr (some 97))])) (w' := (zs_187 n, qml (zxc xs) zl_82, 90, 2640270)) 1 (by decide : 0 < 300) hz rfl ?_
  refine qR_call (by decide : 0 < 300) hz zp_181 rfl rfl (Nat.le_of_ble_eq_true rfl) ⟨by omega, by omega⟩ (qc_58 n xs (by decide)) (fun r w1 hr => ?_)
  obtain ⟨rfl, a9, b9, rfl⟩ := hr
  show qR 300 311 (15, [.inr (.inr (some 0)), .inr (.inr (some 8)), zN, zN], [.inr (.inr (some 97))]) (zs_235 n, qml (zxc xs) zl_85, 114, 4080270) _
  refine qR_blk (c' := (18, [.inr (.inr (some 0)), .inr (.inr (some 8)), .inr (.inr (some 97)), .inl 0], [])) (w' := (zs_235 n, qml (zxc xs) zl_85, 114, 4080270)) 3 (by decide : 0 < 300) hz rfl ?_
  exact K
