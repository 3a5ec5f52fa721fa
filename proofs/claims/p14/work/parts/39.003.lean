noncomputable def zo_120 : zSh := .inl (0, 90)
noncomputable def zo_121 : zSh := .inl (1, 8)
noncomputable def zo_122 : zSh := .inl (1, 90)
noncomputable def zo_123 : zSh := .inl (0, 20)
noncomputable def zo_124 : zSh := .inl (0, 49152)
noncomputable def zo_125 : zSh := .inl (0, 756)
noncomputable def zo_126 : zSh := .inl (0, 6)
set_option maxRecDepth 100000 in
noncomputable def zl_0 : List (Nat × Nat × Int) := []
set_option maxRecDepth 100000 in
noncomputable def zs_0 (n : Nat) : List zSh := zxS n
set_option maxRecDepth 100000 in
noncomputable def zs_1 (n : Nat) : List zSh := [.inl (10, n), zo_0, zo_1, zo_2, zo_3, zo_4, zo_5, zo_6, zo_7]
set_option maxRecDepth 100000 in
noncomputable def zs_2 (n : Nat) : List zSh := [.inl (10, n), zo_0, zo_1, zo_2, zo_3, zo_4, zo_5, zo_6, zo_7, zo_8]
set_option maxRecDepth 100000 in
noncomputable def zs_3 (n : Nat) : List zSh := [.inl (10, n), zo_0, zo_1, zo_2, zo_3, zo_4, zo_5, zo_6, zo_7, zo_8, zo_9]
set_option maxRecDepth 100000 in
noncomputable def zl_1 : List (Nat × Nat × Int) := (10, 0, 14) :: zl_0
set_option maxRecDepth 100000 in
noncomputable def zl_2 : List (Nat × Nat × Int) := (10, 1, 4) :: zl_1
set_option maxRecDepth 100000 in
noncomputable def zs_4 (n : Nat) : List zSh := [.inl (10, n), zo_0, zo_1, zo_2, zo_3, zo_4, zo_5, zo_6, zo_7, zo_8, zo_9, zo_10]
set_option maxRecDepth 100000 in
noncomputable def zs_5 (n : Nat) : List zSh := [.inl (10, n), zo_0, zo_1, zo_2, zo_3, zo_4, zo_5, zo_6, zo_7, zo_8, zo_11, zo_10]
set_option maxRecDepth 100000 in
noncomputable def zs_6 (n : Nat) : List zSh := [.inl (10, n), zo_0, zo_1, zo_2, zo_3, zo_4, zo_5, zo_6, zo_7, zo_12, zo_11, zo_10]
set_option maxRecDepth 100000 in
noncomputable def zs_7 (n : Nat) : List zSh := [.inl (10, n), zo_0, zo_1, zo_2, zo_3, zo_4, zo_5, zo_6, zo_7, zo_12, zo_11, zo_10, zo_9]
set_option maxRecDepth 100000 in
noncomputable def zl_3 : List (Nat × Nat × Int) := (12, 0, 20) :: zl_2
set_option maxRecDepth 100000 in
noncomputable def zl_4 : List (Nat × Nat × Int) := (12, 1, 3) :: zl_3
set_option maxRecDepth 100000 in
noncomputable def zs_8 (n : Nat) : List zSh := [.inl (10, n), zo_0, zo_1, zo_2, zo_3, zo_4, zo_5, zo_6, zo_7, zo_12, zo_11, zo_10, zo_9, zo_13]
set_option maxRecDepth 100000 in
noncomputable def zs_9 (n : Nat) : List zSh := [.inl (10, n), zo_0, zo_1, zo_2, zo_3, zo_4, zo_5, zo_6, zo_7, zo_12, zo_11, zo_10, zo_14, zo_13]
set_option maxRecDepth 100000 in
noncomputable def zs_10 (n : Nat) : List zSh := [.inl (10, n), zo_0, zo_1, zo_2, zo_3, zo_4, zo_5, zo_6, zo_7, zo_15, zo_11, zo_10, zo_14, zo_13]
set_option maxRecDepth 100000 in
noncomputable def zs_11 (n : Nat) : List zSh := [.inl (10, n), zo_0, zo_1, zo_2, zo_3, zo_4, zo_5, zo_6, zo_7, zo_15, zo_11, zo_10, zo_14, zo_13, zo_9]
set_option maxRecDepth 100000 in
noncomputable def zl_5 : List (Nat × Nat × Int) := (14, 0, 4) :: zl_4
set_option maxRecDepth 100000 in
noncomputable def zl_6 : List (Nat × Nat × Int) := (14, 1, 2) :: zl_5
set_option maxRecDepth 100000 in
noncomputable def zs_12 (n : Nat) : List zSh := [.inl (10, n), zo_0, zo_1, zo_2, zo_3, zo_4, zo_5, zo_6, zo_7, zo_15, zo_11, zo_10, zo_14, zo_13, zo_9, zo_16]
set_option maxRecDepth 100000 in
noncomputable def zs_13 (n : Nat) : List zSh := [.inl (10, n), zo_0, zo_1, zo_2, zo_3, zo_4, zo_5, zo_6, zo_7, zo_15, zo_11, zo_10, zo_14, zo_13, zo_17, zo_16]
set_option maxRecDepth 100000 in
noncomputable def zs_14 (n : Nat) : List zSh := [.inl (10, n), zo_0, zo_1, zo_2, zo_3, zo_4, zo_5, zo_6, zo_7, zo_18, zo_11, zo_10, zo_14, zo_13, zo_17, zo_16]
set_option maxRecDepth 100000 in
noncomputable def zs_15 (n : Nat) : List zSh := [.inl (10, n), zo_0, zo_1, zo_2, zo_3, zo_4, zo_5, zo_6, zo_7, zo_18, zo_11, zo_10, zo_14, zo_13, zo_17, zo_16, zo_9]
set_option maxRecDepth 100000 in
noncomputable def zl_7 : List (Nat × Nat × Int) := (16, 0, 40) :: zl_6
set_option maxRecDepth 100000 in
noncomputable def zl_8 : List (Nat × Nat × Int) := (16, 1, 5) :: zl_7
set_option maxRecDepth 100000 in
noncomputable def zs_16 (n : Nat) : List zSh := [.inl (10, n), zo_0, zo_1, zo_2, zo_3, zo_4, zo_5, zo_6, zo_7, zo_18, zo_11, zo_10, zo_14, zo_13, zo_17, zo_16, zo_9, zo_19]
set_option maxRecDepth 100000 in
noncomputable def zs_17 (n : Nat) : List zSh := [.inl (10, n), zo_0, zo_1, zo_2, zo_3, zo_4, zo_5, zo_6, zo_7, zo_18, zo_11, zo_10, zo_14, zo_13, zo_17, zo_16, zo_20, zo_19]
set_option maxRecDepth 100000 in
noncomputable def zs_18 (n : Nat) : List zSh := [.inl (10, n), zo_0, zo_1, zo_2, zo_3, zo_4, zo_5, zo_6, zo_7, zo_21, zo_11, zo_10, zo_14, zo_13, zo_17, zo_16, zo_20, zo_19]
set_option maxRecDepth 100000 in
noncomputable def zs_19 (n : Nat) : List zSh := [.inl (10, n), zo_0, zo_1, zo_2, zo_3, zo_4, zo_5, zo_6, zo_7, zo_21, zo_11, zo_10, zo_14, zo_13, zo_17, zo_16, zo_20, zo_19, zo_9]
set_option maxRecDepth 100000 in
noncomputable def zl_9 : List (Nat × Nat × Int) := (18, 0, 250) :: zl_8
set_option maxRecDepth 100000 in
noncomputable def zl_10 : List (Nat × Nat × Int) := (18, 1, 11) :: zl_9
set_option maxRecDepth 100000 in
noncomputable def zs_20 (n : Nat) : List zSh := [.inl (10, n), zo_0, zo_1, zo_2, zo_3, zo_4, zo_5, zo_6, zo_7, zo_21, zo_11, zo_10, zo_14, zo_13, zo_17, zo_16, zo_20, zo_19, zo_9, zo_22]
set_option maxRecDepth 100000 in
noncomputable def zs_21 (n : Nat) : List zSh := [.inl (10, n), zo_0, zo_1, zo_2, zo_3, zo_4, zo_5, zo_6, zo_7, zo_21, zo_11, zo_10, zo_14, zo_13, zo_17, zo_16, zo_20, zo_19, zo_23, zo_22]
