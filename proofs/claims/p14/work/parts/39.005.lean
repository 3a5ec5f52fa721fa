set_option maxRecDepth 100000 in
noncomputable def zs_48 (n : Nat) : List zSh := [.inl (10, n), zo_0, zo_1, zo_2, zo_3, zo_4, zo_5, zo_6, zo_34, zo_33, zo_11, zo_10, zo_14, zo_13, zo_17, zo_16, zo_20, zo_19, zo_23, zo_22, zo_26, zo_25, zo_29, zo_28, zo_32, zo_31, zo_40, zo_35, zo_10, zo_37, zo_13, zo_39, zo_16]
set_option maxRecDepth 100000 in
noncomputable def zs_49 (n : Nat) : List zSh := [.inl (10, n), zo_0, zo_1, zo_2, zo_3, zo_4, zo_5, zo_6, zo_34, zo_33, zo_11, zo_10, zo_14, zo_13, zo_17, zo_16, zo_20, zo_19, zo_23, zo_22, zo_26, zo_25, zo_29, zo_28, zo_32, zo_31, zo_40, zo_35, zo_10, zo_37, zo_13, zo_39, zo_16, zo_9]
set_option maxRecDepth 100000 in
noncomputable def zl_25 : List (Nat × Nat × Int) := (33, 0, 40) :: zl_24
set_option maxRecDepth 100000 in
noncomputable def zl_26 : List (Nat × Nat × Int) := (33, 1, 5) :: zl_25
set_option maxRecDepth 100000 in
noncomputable def zs_50 (n : Nat) : List zSh := [.inl (10, n), zo_0, zo_1, zo_2, zo_3, zo_4, zo_5, zo_6, zo_34, zo_33, zo_11, zo_10, zo_14, zo_13, zo_17, zo_16, zo_20, zo_19, zo_23, zo_22, zo_26, zo_25, zo_29, zo_28, zo_32, zo_31, zo_40, zo_35, zo_10, zo_37, zo_13, zo_39, zo_16, zo_9, zo_19]
set_option maxRecDepth 100000 in
noncomputable def zs_51 (n : Nat) : List zSh := [.inl (10, n), zo_0, zo_1, zo_2, zo_3, zo_4, zo_5, zo_6, zo_34, zo_33, zo_11, zo_10, zo_14, zo_13, zo_17, zo_16, zo_20, zo_19, zo_23, zo_22, zo_26, zo_25, zo_29, zo_28, zo_32, zo_31, zo_40, zo_35, zo_10, zo_37, zo_13, zo_39, zo_16, zo_41, zo_19]
set_option maxRecDepth 100000 in
noncomputable def zs_52 (n : Nat) : List zSh := [.inl (10, n), zo_0, zo_1, zo_2, zo_3, zo_4, zo_5, zo_6, zo_34, zo_33, zo_11, zo_10, zo_14, zo_13, zo_17, zo_16, zo_20, zo_19, zo_23, zo_22, zo_26, zo_25, zo_29, zo_28, zo_32, zo_31, zo_42, zo_35, zo_10, zo_37, zo_13, zo_39, zo_16, zo_41, zo_19]
set_option maxRecDepth 100000 in
noncomputable def zs_53 (n : Nat) : List zSh := [.inl (10, n), zo_0, zo_1, zo_2, zo_3, zo_4, zo_5, zo_6, zo_34, zo_33, zo_11, zo_10, zo_14, zo_13, zo_17, zo_16, zo_20, zo_19, zo_23, zo_22, zo_26, zo_25, zo_29, zo_28, zo_32, zo_31, zo_42, zo_35, zo_10, zo_37, zo_13, zo_39, zo_16, zo_41, zo_19, zo_9]
set_option maxRecDepth 100000 in
noncomputable def zl_27 : List (Nat × Nat × Int) := (35, 0, 250) :: zl_26
set_option maxRecDepth 100000 in
noncomputable def zl_28 : List (Nat × Nat × Int) := (35, 1, 11) :: zl_27
set_option maxRecDepth 100000 in
noncomputable def zs_54 (n : Nat) : List zSh := [.inl (10, n), zo_0, zo_1, zo_2, zo_3, zo_4, zo_5, zo_6, zo_34, zo_33, zo_11, zo_10, zo_14, zo_13, zo_17, zo_16, zo_20, zo_19, zo_23, zo_22, zo_26, zo_25, zo_29, zo_28, zo_32, zo_31, zo_42, zo_35, zo_10, zo_37, zo_13, zo_39, zo_16, zo_41, zo_19, zo_9, zo_22]
set_option maxRecDepth 100000 in
noncomputable def zs_55 (n : Nat) : List zSh := [.inl (10, n), zo_0, zo_1, zo_2, zo_3, zo_4, zo_5, zo_6, zo_34, zo_33, zo_11, zo_10, zo_14, zo_13, zo_17, zo_16, zo_20, zo_19, zo_23, zo_22, zo_26, zo_25, zo_29, zo_28, zo_32, zo_31, zo_42, zo_35, zo_10, zo_37, zo_13, zo_39, zo_16, zo_41, zo_19, zo_43, zo_22]
set_option maxRecDepth 100000 in
noncomputable def zs_56 (n : Nat) : List zSh := [.inl (10, n), zo_0, zo_1, zo_2, zo_3, zo_4, zo_5, zo_6, zo_34, zo_33, zo_11, zo_10, zo_14, zo_13, zo_17, zo_16, zo_20, zo_19, zo_23, zo_22, zo_26, zo_25, zo_29, zo_28, zo_32, zo_31, zo_44, zo_35, zo_10, zo_37, zo_13, zo_39, zo_16, zo_41, zo_19, zo_43, zo_22]
set_option maxRecDepth 100000 in
noncomputable def zs_57 (n : Nat) : List zSh := [.inl (10, n), zo_0, zo_1, zo_2, zo_3, zo_4, zo_5, zo_6, zo_34, zo_33, zo_11, zo_10, zo_14, zo_13, zo_17, zo_16, zo_20, zo_19, zo_23, zo_22, zo_26, zo_25, zo_29, zo_28, zo_32, zo_31, zo_44, zo_35, zo_10, zo_37, zo_13, zo_39, zo_16, zo_41, zo_19, zo_43, zo_22, zo_9]
set_option maxRecDepth 100000 in
noncomputable def zl_29 : List (Nat × Nat × Int) := (37, 0, 8) :: zl_28
set_option maxRecDepth 100000 in
noncomputable def zl_30 : List (Nat × Nat × Int) := (37, 1, 81) :: zl_29
set_option maxRecDepth 100000 in
noncomputable def zs_58 (n : Nat) : List zSh := [.inl (10, n), zo_0, zo_1, zo_2, zo_3, zo_4, zo_5, zo_6, zo_34, zo_33, zo_11, zo_10, zo_14, zo_13, zo_17, zo_16, zo_20, zo_19, zo_23, zo_22, zo_26, zo_25, zo_29, zo_28, zo_32, zo_31, zo_44, zo_35, zo_10, zo_37, zo_13, zo_39, zo_16, zo_41, zo_19, zo_43, zo_22, zo_9, zo_25]
set_option maxRecDepth 100000 in
noncomputable def zs_59 (n : Nat) : List zSh := [.inl (10, n), zo_0, zo_1, zo_2, zo_3, zo_4, zo_5, zo_6, zo_34, zo_33, zo_11, zo_10, zo_14, zo_13, zo_17, zo_16, zo_20, zo_19, zo_23, zo_22, zo_26, zo_25, zo_29, zo_28, zo_32, zo_31, zo_44, zo_35, zo_10, zo_37, zo_13, zo_39, zo_16, zo_41, zo_19, zo_43, zo_22, zo_45, zo_25]
set_option maxRecDepth 100000 in
noncomputable def zs_60 (n : Nat) : List zSh := [.inl (10, n), zo_0, zo_1, zo_2, zo_3, zo_4, zo_5, zo_6, zo_34, zo_33, zo_11, zo_10, zo_14, zo_13, zo_17, zo_16, zo_20, zo_19, zo_23, zo_22, zo_26, zo_25, zo_29, zo_28, zo_32, zo_31, zo_46, zo_35, zo_10, zo_37, zo_13, zo_39, zo_16, zo_41, zo_19, zo_43, zo_22, zo_45, zo_25]
set_option maxRecDepth 100000 in
noncomputable def zs_61 (n : Nat) : List zSh := [.inl (10, n), zo_0, zo_1, zo_2, zo_3, zo_4, zo_5, zo_6, zo_34, zo_33, zo_11, zo_10, zo_14, zo_13, zo_17, zo_16, zo_20, zo_19, zo_23, zo_22, zo_26, zo_25, zo_29, zo_28, zo_32, zo_31, zo_46, zo_35, zo_10, zo_37, zo_13, zo_39, zo_16, zo_41, zo_19, zo_43, zo_22, zo_45, zo_25, zo_9]
set_option maxRecDepth 100000 in
noncomputable def zl_31 : List (Nat × Nat × Int) := (39, 0, 10) :: zl_30
set_option maxRecDepth 100000 in
noncomputable def zl_32 : List (Nat × Nat × Int) := (39, 1, 164) :: zl_31
set_option maxRecDepth 100000 in
noncomputable def zs_62 (n : Nat) : List zSh := [.inl (10, n), zo_0, zo_1, zo_2, zo_3, zo_4, zo_5, zo_6, zo_34, zo_33, zo_11, zo_10, zo_14, zo_13, zo_17, zo_16, zo_20, zo_19, zo_23, zo_22, zo_26, zo_25, zo_29, zo_28, zo_32, zo_31, zo_46, zo_35, zo_10, zo_37, zo_13, zo_39, zo_16, zo_41, zo_19, zo_43, zo_22, zo_45, zo_25, zo_9, zo_28]
set_option maxRecDepth 100000 in
noncomputable def zs_63 (n : Nat) : List zSh := [.inl (10, n), zo_0, zo_1, zo_2, zo_3, zo_4, zo_5, zo_6, zo_34, zo_33, zo_11, zo_10, zo_14, zo_13, zo_17, zo_16, zo_20, zo_19, zo_23, zo_22, zo_26, zo_25, zo_29, zo_28, zo_32, zo_31, zo_46, zo_35, zo_10, zo_37, zo_13, zo_39, zo_16, zo_41, zo_19, zo_43, zo_22, zo_45, zo_25, zo_47, zo_28]
set_option maxRecDepth 100000 in
noncomputable def zs_64 (n : Nat) : List zSh := [.inl (10, n), zo_0, zo_1, zo_2, zo_3, zo_4, zo_5, zo_6, zo_34, zo_33, zo_11, zo_10, zo_14, zo_13, zo_17, zo_16, zo_20, zo_19, zo_23, zo_22, zo_26, zo_25, zo_29, zo_28, zo_32, zo_31, zo_48, zo_35, zo_10, zo_37, zo_13, zo_39, zo_16, zo_41, zo_19, zo_43, zo_22, zo_45, zo_25, zo_47, zo_28]
set_option maxRecDepth 100000 in
noncomputable def zs_65 (n : Nat) : List zSh := [.inl (10, n), zo_0, zo_1, zo_2, zo_3, zo_4, zo_5, zo_6, zo_34, zo_33, zo_11, zo_10, zo_14, zo_13, zo_17, zo_16, zo_20, zo_19, zo_23, zo_22, zo_26, zo_25, zo_29, zo_28, zo_32, zo_31, zo_48, zo_35, zo_10, zo_37, zo_13, zo_39, zo_16, zo_41, zo_19, zo_43, zo_22, zo_45, zo_25, zo_47, zo_28, zo_9]
set_option maxRecDepth 100000 in
noncomputable def zl_33 : List (Nat × Nat × Int) := (41, 0, 12) :: zl_32
set_option maxRecDepth 100000 in
noncomputable def zl_34 : List (Nat × Nat × Int) := (41, 1, 2) :: zl_33
set_option maxRecDepth 100000 in
noncomputable def zs_66 (n : Nat) : List zSh := [.inl (10, n), zo_0, zo_1, zo_2, zo_3, zo_4, zo_5, zo_6, zo_34, zo_33, zo_11, zo_10, zo_14, zo_13, zo_17, zo_16, zo_20, zo_19, zo_23, zo_22, zo_26, zo_25, zo_29, zo_28, zo_32, zo_31, zo_48, zo_35, zo_10, zo_37, zo_13, zo_39, zo_16, zo_41, zo_19, zo_43, zo_22, zo_45, zo_25, zo_47, zo_28, zo_9, zo_31]
set_option maxRecDepth 100000 in
noncomputable def zs_67 (n : Nat) : List zSh := [.inl (10, n), zo_0, zo_1, zo_2, zo_3, zo_4, zo_5, zo_6, zo_34, zo_33, zo_11, zo_10, zo_14, zo_13, zo_17, zo_16, zo_20, zo_19, zo_23, zo_22, zo_26, zo_25, zo_29, zo_28, zo_32, zo_31, zo_48, zo_35, zo_10, zo_37, zo_13, zo_39, zo_16, zo_41, zo_19, zo_43, zo_22, zo_45, zo_25, zo_47, zo_28, zo_49, zo_31]
set_option maxRecDepth 100000 in
noncomputable def zs_68 (n : Nat) : List zSh := [.inl (10, n), zo_0, zo_1, zo_2, zo_3, zo_4, zo_5, zo_6, zo_34, zo_33, zo_11, zo_10, zo_14, zo_13, zo_17, zo_16, zo_20, zo_19, zo_23, zo_22, zo_26, zo_25, zo_29, zo_28, zo_32, zo_31, zo_50, zo_35, zo_10, zo_37, zo_13, zo_39, zo_16, zo_41, zo_19, zo_43, zo_22, zo_45, zo_25, zo_47, zo_28, zo_49, zo_31]
set_option maxRecDepth 100000 in
noncomputable def zl_35 : List (Nat × Nat × Int) := (26, 8, 30) :: zl_34
set_option maxRecDepth 100000 in
noncomputable def zl_36 : List (Nat × Nat × Int) := (26, 9, 20) :: zl_35
set_option maxRecDepth 100000 in
noncomputable def zs_69 (n : Nat) : List zSh := [.inl (10, n), zo_0, zo_1, zo_2, zo_3, zo_4, zo_5, zo_6, zo_51, zo_33, zo_11, zo_10, zo_14, zo_13, zo_17, zo_16, zo_20, zo_19, zo_23, zo_22, zo_26, zo_25, zo_29, zo_28, zo_32, zo_31, zo_50, zo_35, zo_10, zo_37, zo_13, zo_39, zo_16, zo_41, zo_19, zo_43, zo_22, zo_45, zo_25, zo_47, zo_28, zo_49, zo_31]
set_option maxRecDepth 100000 in
noncomputable def zs_70 (n : Nat) : List zSh := [.inl (10, n), zo_0, zo_1, zo_2, zo_3, zo_4, zo_5, zo_6, zo_51, zo_33, zo_11, zo_10, zo_14, zo_13, zo_17, zo_16, zo_20, zo_19, zo_23, zo_22, zo_26, zo_25, zo_29, zo_28, zo_32, zo_31, zo_50, zo_35, zo_10, zo_37, zo_13, zo_39, zo_16, zo_41, zo_19, zo_43, zo_22, zo_45, zo_25, zo_47, zo_28, zo_49, zo_31, zo_8]
set_option maxRecDepth 100000 in
noncomputable def zs_71 (n : Nat) : List zSh := [.inl (10, n), zo_0, zo_1, zo_2, zo_3, zo_4, zo_5, zo_6, zo_51, zo_33, zo_11, zo_10, zo_14, zo_13, zo_17, zo_16, zo_20, zo_19, zo_23, zo_22, zo_26, zo_25, zo_29, zo_28, zo_32, zo_31, zo_50, zo_35, zo_10, zo_37, zo_13, zo_39, zo_16, zo_41, zo_19, zo_43, zo_22, zo_45, zo_25, zo_47, zo_28, zo_49, zo_31, zo_8, zo_9]
set_option maxRecDepth 100000 in
noncomputable def zl_37 : List (Nat × Nat × Int) := (44, 0, 14) :: zl_36
set_option maxRecDepth 100000 in
noncomputable def zl_38 : List (Nat × Nat × Int) := (44, 1, 4) :: zl_37
set_option maxRecDepth 100000 in
noncomputable def zs_72 (n : Nat) : List zSh := [.inl (10, n), zo_0, zo_1, zo_2, zo_3, zo_4, zo_5, zo_6, zo_51, zo_33, zo_11, zo_10, zo_14, zo_13, zo_17, zo_16, zo_20, zo_19, zo_23, zo_22, zo_26, zo_25, zo_29, zo_28, zo_32, zo_31, zo_50, zo_35, zo_10, zo_37, zo_13, zo_39, zo_16, zo_41, zo_19, zo_43, zo_22, zo_45, zo_25, zo_47, zo_28, zo_49, zo_31, zo_8, zo_9, zo_10]
set_option maxRecDepth 100000 in
noncomputable def zs_73 (n : Nat) : List zSh := [.inl (10, n), zo_0, zo_1, zo_2, zo_3, zo_4, zo_5, zo_6, zo_51, zo_33, zo_11, zo_10, zo_14, zo_13, zo_17, zo_16, zo_20, zo_19, zo_23, zo_22, zo_26, zo_25, zo_29, zo_28, zo_32, zo_31, zo_50, zo_35, zo_10, zo_37, zo_13, zo_39, zo_16, zo_41, zo_19, zo_43, zo_22, zo_45, zo_25, zo_47, zo_28, zo_49, zo_31, zo_8, zo_52, zo_10]
