set_option maxRecDepth 100000 in
noncomputable def zs_22 (n : Nat) : List zSh := [.inl (10, n), zo_0, zo_1, zo_2, zo_3, zo_4, zo_5, zo_6, zo_7, zo_24, zo_11, zo_10, zo_14, zo_13, zo_17, zo_16, zo_20, zo_19, zo_23, zo_22]
set_option maxRecDepth 100000 in
noncomputable def zs_23 (n : Nat) : List zSh := [.inl (10, n), zo_0, zo_1, zo_2, zo_3, zo_4, zo_5, zo_6, zo_7, zo_24, zo_11, zo_10, zo_14, zo_13, zo_17, zo_16, zo_20, zo_19, zo_23, zo_22, zo_9]
set_option maxRecDepth 100000 in
noncomputable def zl_11 : List (Nat × Nat × Int) := (20, 0, 8) :: zl_10
set_option maxRecDepth 100000 in
noncomputable def zl_12 : List (Nat × Nat × Int) := (20, 1, 81) :: zl_11
set_option maxRecDepth 100000 in
noncomputable def zs_24 (n : Nat) : List zSh := [.inl (10, n), zo_0, zo_1, zo_2, zo_3, zo_4, zo_5, zo_6, zo_7, zo_24, zo_11, zo_10, zo_14, zo_13, zo_17, zo_16, zo_20, zo_19, zo_23, zo_22, zo_9, zo_25]
set_option maxRecDepth 100000 in
noncomputable def zs_25 (n : Nat) : List zSh := [.inl (10, n), zo_0, zo_1, zo_2, zo_3, zo_4, zo_5, zo_6, zo_7, zo_24, zo_11, zo_10, zo_14, zo_13, zo_17, zo_16, zo_20, zo_19, zo_23, zo_22, zo_26, zo_25]
set_option maxRecDepth 100000 in
noncomputable def zs_26 (n : Nat) : List zSh := [.inl (10, n), zo_0, zo_1, zo_2, zo_3, zo_4, zo_5, zo_6, zo_7, zo_27, zo_11, zo_10, zo_14, zo_13, zo_17, zo_16, zo_20, zo_19, zo_23, zo_22, zo_26, zo_25]
set_option maxRecDepth 100000 in
noncomputable def zs_27 (n : Nat) : List zSh := [.inl (10, n), zo_0, zo_1, zo_2, zo_3, zo_4, zo_5, zo_6, zo_7, zo_27, zo_11, zo_10, zo_14, zo_13, zo_17, zo_16, zo_20, zo_19, zo_23, zo_22, zo_26, zo_25, zo_9]
set_option maxRecDepth 100000 in
noncomputable def zl_13 : List (Nat × Nat × Int) := (22, 0, 10) :: zl_12
set_option maxRecDepth 100000 in
noncomputable def zl_14 : List (Nat × Nat × Int) := (22, 1, 164) :: zl_13
set_option maxRecDepth 100000 in
noncomputable def zs_28 (n : Nat) : List zSh := [.inl (10, n), zo_0, zo_1, zo_2, zo_3, zo_4, zo_5, zo_6, zo_7, zo_27, zo_11, zo_10, zo_14, zo_13, zo_17, zo_16, zo_20, zo_19, zo_23, zo_22, zo_26, zo_25, zo_9, zo_28]
set_option maxRecDepth 100000 in
noncomputable def zs_29 (n : Nat) : List zSh := [.inl (10, n), zo_0, zo_1, zo_2, zo_3, zo_4, zo_5, zo_6, zo_7, zo_27, zo_11, zo_10, zo_14, zo_13, zo_17, zo_16, zo_20, zo_19, zo_23, zo_22, zo_26, zo_25, zo_29, zo_28]
set_option maxRecDepth 100000 in
noncomputable def zs_30 (n : Nat) : List zSh := [.inl (10, n), zo_0, zo_1, zo_2, zo_3, zo_4, zo_5, zo_6, zo_7, zo_30, zo_11, zo_10, zo_14, zo_13, zo_17, zo_16, zo_20, zo_19, zo_23, zo_22, zo_26, zo_25, zo_29, zo_28]
set_option maxRecDepth 100000 in
noncomputable def zs_31 (n : Nat) : List zSh := [.inl (10, n), zo_0, zo_1, zo_2, zo_3, zo_4, zo_5, zo_6, zo_7, zo_30, zo_11, zo_10, zo_14, zo_13, zo_17, zo_16, zo_20, zo_19, zo_23, zo_22, zo_26, zo_25, zo_29, zo_28, zo_9]
set_option maxRecDepth 100000 in
noncomputable def zl_15 : List (Nat × Nat × Int) := (24, 0, 12) :: zl_14
set_option maxRecDepth 100000 in
noncomputable def zl_16 : List (Nat × Nat × Int) := (24, 1, 2) :: zl_15
set_option maxRecDepth 100000 in
noncomputable def zs_32 (n : Nat) : List zSh := [.inl (10, n), zo_0, zo_1, zo_2, zo_3, zo_4, zo_5, zo_6, zo_7, zo_30, zo_11, zo_10, zo_14, zo_13, zo_17, zo_16, zo_20, zo_19, zo_23, zo_22, zo_26, zo_25, zo_29, zo_28, zo_9, zo_31]
set_option maxRecDepth 100000 in
noncomputable def zs_33 (n : Nat) : List zSh := [.inl (10, n), zo_0, zo_1, zo_2, zo_3, zo_4, zo_5, zo_6, zo_7, zo_30, zo_11, zo_10, zo_14, zo_13, zo_17, zo_16, zo_20, zo_19, zo_23, zo_22, zo_26, zo_25, zo_29, zo_28, zo_32, zo_31]
set_option maxRecDepth 100000 in
noncomputable def zs_34 (n : Nat) : List zSh := [.inl (10, n), zo_0, zo_1, zo_2, zo_3, zo_4, zo_5, zo_6, zo_7, zo_33, zo_11, zo_10, zo_14, zo_13, zo_17, zo_16, zo_20, zo_19, zo_23, zo_22, zo_26, zo_25, zo_29, zo_28, zo_32, zo_31]
set_option maxRecDepth 100000 in
noncomputable def zl_17 : List (Nat × Nat × Int) := (9, 8, 30) :: zl_16
set_option maxRecDepth 100000 in
noncomputable def zl_18 : List (Nat × Nat × Int) := (9, 9, 20) :: zl_17
set_option maxRecDepth 100000 in
noncomputable def zs_35 (n : Nat) : List zSh := [.inl (10, n), zo_0, zo_1, zo_2, zo_3, zo_4, zo_5, zo_6, zo_34, zo_33, zo_11, zo_10, zo_14, zo_13, zo_17, zo_16, zo_20, zo_19, zo_23, zo_22, zo_26, zo_25, zo_29, zo_28, zo_32, zo_31]
set_option maxRecDepth 100000 in
noncomputable def zs_36 (n : Nat) : List zSh := [.inl (10, n), zo_0, zo_1, zo_2, zo_3, zo_4, zo_5, zo_6, zo_34, zo_33, zo_11, zo_10, zo_14, zo_13, zo_17, zo_16, zo_20, zo_19, zo_23, zo_22, zo_26, zo_25, zo_29, zo_28, zo_32, zo_31, zo_8]
set_option maxRecDepth 100000 in
noncomputable def zs_37 (n : Nat) : List zSh := [.inl (10, n), zo_0, zo_1, zo_2, zo_3, zo_4, zo_5, zo_6, zo_34, zo_33, zo_11, zo_10, zo_14, zo_13, zo_17, zo_16, zo_20, zo_19, zo_23, zo_22, zo_26, zo_25, zo_29, zo_28, zo_32, zo_31, zo_8, zo_9]
set_option maxRecDepth 100000 in
noncomputable def zl_19 : List (Nat × Nat × Int) := (27, 0, 14) :: zl_18
set_option maxRecDepth 100000 in
noncomputable def zl_20 : List (Nat × Nat × Int) := (27, 1, 4) :: zl_19
set_option maxRecDepth 100000 in
noncomputable def zs_38 (n : Nat) : List zSh := [.inl (10, n), zo_0, zo_1, zo_2, zo_3, zo_4, zo_5, zo_6, zo_34, zo_33, zo_11, zo_10, zo_14, zo_13, zo_17, zo_16, zo_20, zo_19, zo_23, zo_22, zo_26, zo_25, zo_29, zo_28, zo_32, zo_31, zo_8, zo_9, zo_10]
set_option maxRecDepth 100000 in
noncomputable def zs_39 (n : Nat) : List zSh := [.inl (10, n), zo_0, zo_1, zo_2, zo_3, zo_4, zo_5, zo_6, zo_34, zo_33, zo_11, zo_10, zo_14, zo_13, zo_17, zo_16, zo_20, zo_19, zo_23, zo_22, zo_26, zo_25, zo_29, zo_28, zo_32, zo_31, zo_8, zo_35, zo_10]
set_option maxRecDepth 100000 in
noncomputable def zs_40 (n : Nat) : List zSh := [.inl (10, n), zo_0, zo_1, zo_2, zo_3, zo_4, zo_5, zo_6, zo_34, zo_33, zo_11, zo_10, zo_14, zo_13, zo_17, zo_16, zo_20, zo_19, zo_23, zo_22, zo_26, zo_25, zo_29, zo_28, zo_32, zo_31, zo_36, zo_35, zo_10]
set_option maxRecDepth 100000 in
noncomputable def zs_41 (n : Nat) : List zSh := [.inl (10, n), zo_0, zo_1, zo_2, zo_3, zo_4, zo_5, zo_6, zo_34, zo_33, zo_11, zo_10, zo_14, zo_13, zo_17, zo_16, zo_20, zo_19, zo_23, zo_22, zo_26, zo_25, zo_29, zo_28, zo_32, zo_31, zo_36, zo_35, zo_10, zo_9]
set_option maxRecDepth 100000 in
noncomputable def zl_21 : List (Nat × Nat × Int) := (29, 0, 20) :: zl_20
set_option maxRecDepth 100000 in
noncomputable def zl_22 : List (Nat × Nat × Int) := (29, 1, 3) :: zl_21
set_option maxRecDepth 100000 in
noncomputable def zs_42 (n : Nat) : List zSh := [.inl (10, n), zo_0, zo_1, zo_2, zo_3, zo_4, zo_5, zo_6, zo_34, zo_33, zo_11, zo_10, zo_14, zo_13, zo_17, zo_16, zo_20, zo_19, zo_23, zo_22, zo_26, zo_25, zo_29, zo_28, zo_32, zo_31, zo_36, zo_35, zo_10, zo_9, zo_13]
set_option maxRecDepth 100000 in
noncomputable def zs_43 (n : Nat) : List zSh := [.inl (10, n), zo_0, zo_1, zo_2, zo_3, zo_4, zo_5, zo_6, zo_34, zo_33, zo_11, zo_10, zo_14, zo_13, zo_17, zo_16, zo_20, zo_19, zo_23, zo_22, zo_26, zo_25, zo_29, zo_28, zo_32, zo_31, zo_36, zo_35, zo_10, zo_37, zo_13]
set_option maxRecDepth 100000 in
noncomputable def zs_44 (n : Nat) : List zSh := [.inl (10, n), zo_0, zo_1, zo_2, zo_3, zo_4, zo_5, zo_6, zo_34, zo_33, zo_11, zo_10, zo_14, zo_13, zo_17, zo_16, zo_20, zo_19, zo_23, zo_22, zo_26, zo_25, zo_29, zo_28, zo_32, zo_31, zo_38, zo_35, zo_10, zo_37, zo_13]
set_option maxRecDepth 100000 in
noncomputable def zs_45 (n : Nat) : List zSh := [.inl (10, n), zo_0, zo_1, zo_2, zo_3, zo_4, zo_5, zo_6, zo_34, zo_33, zo_11, zo_10, zo_14, zo_13, zo_17, zo_16, zo_20, zo_19, zo_23, zo_22, zo_26, zo_25, zo_29, zo_28, zo_32, zo_31, zo_38, zo_35, zo_10, zo_37, zo_13, zo_9]
set_option maxRecDepth 100000 in
noncomputable def zl_23 : List (Nat × Nat × Int) := (31, 0, 4) :: zl_22
set_option maxRecDepth 100000 in
noncomputable def zl_24 : List (Nat × Nat × Int) := (31, 1, 2) :: zl_23
set_option maxRecDepth 100000 in
noncomputable def zs_46 (n : Nat) : List zSh := [.inl (10, n), zo_0, zo_1, zo_2, zo_3, zo_4, zo_5, zo_6, zo_34, zo_33, zo_11, zo_10, zo_14, zo_13, zo_17, zo_16, zo_20, zo_19, zo_23, zo_22, zo_26, zo_25, zo_29, zo_28, zo_32, zo_31, zo_38, zo_35, zo_10, zo_37, zo_13, zo_9, zo_16]
set_option maxRecDepth 100000 in
noncomputable def zs_47 (n : Nat) : List zSh := [.inl (10, n), zo_0, zo_1, zo_2, zo_3, zo_4, zo_5, zo_6, zo_34, zo_33, zo_11, zo_10, zo_14, zo_13, zo_17, zo_16, zo_20, zo_19, zo_23, zo_22, zo_26, zo_25, zo_29, zo_28, zo_32, zo_31, zo_38, zo_35, zo_10, zo_37, zo_13, zo_39, zo_16]
