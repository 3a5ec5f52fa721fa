set_option maxRecDepth 100000 in
noncomputable def zs_74 (n : Nat) : List zSh := [.inl (10, n), zo_0, zo_1, zo_2, zo_3, zo_4, zo_5, zo_6, zo_51, zo_33, zo_11, zo_10, zo_14, zo_13, zo_17, zo_16, zo_20, zo_19, zo_23, zo_22, zo_26, zo_25, zo_29, zo_28, zo_32, zo_31, zo_50, zo_35, zo_10, zo_37, zo_13, zo_39, zo_16, zo_41, zo_19, zo_43, zo_22, zo_45, zo_25, zo_47, zo_28, zo_49, zo_31, zo_53, zo_52, zo_10]
set_option maxRecDepth 100000 in
noncomputable def zs_75 (n : Nat) : List zSh := [.inl (10, n), zo_0, zo_1, zo_2, zo_3, zo_4, zo_5, zo_6, zo_51, zo_33, zo_11, zo_10, zo_14, zo_13, zo_17, zo_16, zo_20, zo_19, zo_23, zo_22, zo_26, zo_25, zo_29, zo_28, zo_32, zo_31, zo_50, zo_35, zo_10, zo_37, zo_13, zo_39, zo_16, zo_41, zo_19, zo_43, zo_22, zo_45, zo_25, zo_47, zo_28, zo_49, zo_31, zo_53, zo_52, zo_10, zo_9]
set_option maxRecDepth 100000 in
noncomputable def zl_39 : List (Nat × Nat × Int) := (46, 0, 20) :: zl_38
set_option maxRecDepth 100000 in
noncomputable def zl_40 : List (Nat × Nat × Int) := (46, 1, 3) :: zl_39
set_option maxRecDepth 100000 in
noncomputable def zs_76 (n : Nat) : List zSh := [.inl (10, n), zo_0, zo_1, zo_2, zo_3, zo_4, zo_5, zo_6, zo_51, zo_33, zo_11, zo_10, zo_14, zo_13, zo_17, zo_16, zo_20, zo_19, zo_23, zo_22, zo_26, zo_25, zo_29, zo_28, zo_32, zo_31, zo_50, zo_35, zo_10, zo_37, zo_13, zo_39, zo_16, zo_41, zo_19, zo_43, zo_22, zo_45, zo_25, zo_47, zo_28, zo_49, zo_31, zo_53, zo_52, zo_10, zo_9, zo_13]
set_option maxRecDepth 100000 in
noncomputable def zs_77 (n : Nat) : List zSh := [.inl (10, n), zo_0, zo_1, zo_2, zo_3, zo_4, zo_5, zo_6, zo_51, zo_33, zo_11, zo_10, zo_14, zo_13, zo_17, zo_16, zo_20, zo_19, zo_23, zo_22, zo_26, zo_25, zo_29, zo_28, zo_32, zo_31, zo_50, zo_35, zo_10, zo_37, zo_13, zo_39, zo_16, zo_41, zo_19, zo_43, zo_22, zo_45, zo_25, zo_47, zo_28, zo_49, zo_31, zo_53, zo_52, zo_10, zo_54, zo_13]
set_option maxRecDepth 100000 in
noncomputable def zs_78 (n : Nat) : List zSh := [.inl (10, n), zo_0, zo_1, zo_2, zo_3, zo_4, zo_5, zo_6, zo_51, zo_33, zo_11, zo_10, zo_14, zo_13, zo_17, zo_16, zo_20, zo_19, zo_23, zo_22, zo_26, zo_25, zo_29, zo_28, zo_32, zo_31, zo_50, zo_35, zo_10, zo_37, zo_13, zo_39, zo_16, zo_41, zo_19, zo_43, zo_22, zo_45, zo_25, zo_47, zo_28, zo_49, zo_31, zo_55, zo_52, zo_10, zo_54, zo_13]
set_option maxRecDepth 100000 in
noncomputable def zs_79 (n : Nat) : List zSh := [.inl (10, n), zo_0, zo_1, zo_2, zo_3, zo_4, zo_5, zo_6, zo_51, zo_33, zo_11, zo_10, zo_14, zo_13, zo_17, zo_16, zo_20, zo_19, zo_23, zo_22, zo_26, zo_25, zo_29, zo_28, zo_32, zo_31, zo_50, zo_35, zo_10, zo_37, zo_13, zo_39, zo_16, zo_41, zo_19, zo_43, zo_22, zo_45, zo_25, zo_47, zo_28, zo_49, zo_31, zo_55, zo_52, zo_10, zo_54, zo_13, zo_9]
set_option maxRecDepth 100000 in
noncomputable def zl_41 : List (Nat × Nat × Int) := (48, 0, 4) :: zl_40
set_option maxRecDepth 100000 in
noncomputable def zl_42 : List (Nat × Nat × Int) := (48, 1, 2) :: zl_41
set_option maxRecDepth 100000 in
noncomputable def zs_80 (n : Nat) : List zSh := [.inl (10, n), zo_0, zo_1, zo_2, zo_3, zo_4, zo_5, zo_6, zo_51, zo_33, zo_11, zo_10, zo_14, zo_13, zo_17, zo_16, zo_20, zo_19, zo_23, zo_22, zo_26, zo_25, zo_29, zo_28, zo_32, zo_31, zo_50, zo_35, zo_10, zo_37, zo_13, zo_39, zo_16, zo_41, zo_19, zo_43, zo_22, zo_45, zo_25, zo_47, zo_28, zo_49, zo_31, zo_55, zo_52, zo_10, zo_54, zo_13, zo_9, zo_16]
set_option maxRecDepth 100000 in
noncomputable def zs_81 (n : Nat) : List zSh := [.inl (10, n), zo_0, zo_1, zo_2, zo_3, zo_4, zo_5, zo_6, zo_51, zo_33, zo_11, zo_10, zo_14, zo_13, zo_17, zo_16, zo_20, zo_19, zo_23, zo_22, zo_26, zo_25, zo_29, zo_28, zo_32, zo_31, zo_50, zo_35, zo_10, zo_37, zo_13, zo_39, zo_16, zo_41, zo_19, zo_43, zo_22, zo_45, zo_25, zo_47, zo_28, zo_49, zo_31, zo_55, zo_52, zo_10, zo_54, zo_13, zo_56, zo_16]
set_option maxRecDepth 100000 in
noncomputable def zs_82 (n : Nat) : List zSh := [.inl (10, n), zo_0, zo_1, zo_2, zo_3, zo_4, zo_5, zo_6, zo_51, zo_33, zo_11, zo_10, zo_14, zo_13, zo_17, zo_16, zo_20, zo_19, zo_23, zo_22, zo_26, zo_25, zo_29, zo_28, zo_32, zo_31, zo_50, zo_35, zo_10, zo_37, zo_13, zo_39, zo_16, zo_41, zo_19, zo_43, zo_22, zo_45, zo_25, zo_47, zo_28, zo_49, zo_31, zo_57, zo_52, zo_10, zo_54, zo_13, zo_56, zo_16]
set_option maxRecDepth 100000 in
noncomputable def zs_83 (n : Nat) : List zSh := [.inl (10, n), zo_0, zo_1, zo_2, zo_3, zo_4, zo_5, zo_6, zo_51, zo_33, zo_11, zo_10, zo_14, zo_13, zo_17, zo_16, zo_20, zo_19, zo_23, zo_22, zo_26, zo_25, zo_29, zo_28, zo_32, zo_31, zo_50, zo_35, zo_10, zo_37, zo_13, zo_39, zo_16, zo_41, zo_19, zo_43, zo_22, zo_45, zo_25, zo_47, zo_28, zo_49, zo_31, zo_57, zo_52, zo_10, zo_54, zo_13, zo_56, zo_16, zo_9]
set_option maxRecDepth 100000 in
noncomputable def zl_43 : List (Nat × Nat × Int) := (50, 0, 40) :: zl_42
set_option maxRecDepth 100000 in
noncomputable def zl_44 : List (Nat × Nat × Int) := (50, 1, 5) :: zl_43
set_option maxRecDepth 100000 in
noncomputable def zs_84 (n : Nat) : List zSh := [.inl (10, n), zo_0, zo_1, zo_2, zo_3, zo_4, zo_5, zo_6, zo_51, zo_33, zo_11, zo_10, zo_14, zo_13, zo_17, zo_16, zo_20, zo_19, zo_23, zo_22, zo_26, zo_25, zo_29, zo_28, zo_32, zo_31, zo_50, zo_35, zo_10, zo_37, zo_13, zo_39, zo_16, zo_41, zo_19, zo_43, zo_22, zo_45, zo_25, zo_47, zo_28, zo_49, zo_31, zo_57, zo_52, zo_10, zo_54, zo_13, zo_56, zo_16, zo_9, zo_19]
set_option maxRecDepth 100000 in
noncomputable def zs_85 (n : Nat) : List zSh := [.inl (10, n), zo_0, zo_1, zo_2, zo_3, zo_4, zo_5, zo_6, zo_51, zo_33, zo_11, zo_10, zo_14, zo_13, zo_17, zo_16, zo_20, zo_19, zo_23, zo_22, zo_26, zo_25, zo_29, zo_28, zo_32, zo_31, zo_50, zo_35, zo_10, zo_37, zo_13, zo_39, zo_16, zo_41, zo_19, zo_43, zo_22, zo_45, zo_25, zo_47, zo_28, zo_49, zo_31, zo_57, zo_52, zo_10, zo_54, zo_13, zo_56, zo_16, zo_58, zo_19]
set_option maxRecDepth 100000 in
noncomputable def zs_86 (n : Nat) : List zSh := [.inl (10, n), zo_0, zo_1, zo_2, zo_3, zo_4, zo_5, zo_6, zo_51, zo_33, zo_11, zo_10, zo_14, zo_13, zo_17, zo_16, zo_20, zo_19, zo_23, zo_22, zo_26, zo_25, zo_29, zo_28, zo_32, zo_31, zo_50, zo_35, zo_10, zo_37, zo_13, zo_39, zo_16, zo_41, zo_19, zo_43, zo_22, zo_45, zo_25, zo_47, zo_28, zo_49, zo_31, zo_59, zo_52, zo_10, zo_54, zo_13, zo_56, zo_16, zo_58, zo_19]
set_option maxRecDepth 100000 in
noncomputable def zs_87 (n : Nat) : List zSh := [.inl (10, n), zo_0, zo_1, zo_2, zo_3, zo_4, zo_5, zo_6, zo_51, zo_33, zo_11, zo_10, zo_14, zo_13, zo_17, zo_16, zo_20, zo_19, zo_23, zo_22, zo_26, zo_25, zo_29, zo_28, zo_32, zo_31, zo_50, zo_35, zo_10, zo_37, zo_13, zo_39, zo_16, zo_41, zo_19, zo_43, zo_22, zo_45, zo_25, zo_47, zo_28, zo_49, zo_31, zo_59, zo_52, zo_10, zo_54, zo_13, zo_56, zo_16, zo_58, zo_19, zo_9]
set_option maxRecDepth 100000 in
noncomputable def zl_45 : List (Nat × Nat × Int) := (52, 0, 250) :: zl_44
set_option maxRecDepth 100000 in
noncomputable def zl_46 : List (Nat × Nat × Int) := (52, 1, 11) :: zl_45
set_option maxRecDepth 100000 in
noncomputable def zs_88 (n : Nat) : List zSh := [.inl (10, n), zo_0, zo_1, zo_2, zo_3, zo_4, zo_5, zo_6, zo_51, zo_33, zo_11, zo_10, zo_14, zo_13, zo_17, zo_16, zo_20, zo_19, zo_23, zo_22, zo_26, zo_25, zo_29, zo_28, zo_32, zo_31, zo_50, zo_35, zo_10, zo_37, zo_13, zo_39, zo_16, zo_41, zo_19, zo_43, zo_22, zo_45, zo_25, zo_47, zo_28, zo_49, zo_31, zo_59, zo_52, zo_10, zo_54, zo_13, zo_56, zo_16, zo_58, zo_19, zo_9, zo_22]
set_option maxRecDepth 100000 in
noncomputable def zs_89 (n : Nat) : List zSh := [.inl (10, n), zo_0, zo_1, zo_2, zo_3, zo_4, zo_5, zo_6, zo_51, zo_33, zo_11, zo_10, zo_14, zo_13, zo_17, zo_16, zo_20, zo_19, zo_23, zo_22, zo_26, zo_25, zo_29, zo_28, zo_32, zo_31, zo_50, zo_35, zo_10, zo_37, zo_13, zo_39, zo_16, zo_41, zo_19, zo_43, zo_22, zo_45, zo_25, zo_47, zo_28, zo_49, zo_31, zo_59, zo_52, zo_10, zo_54, zo_13, zo_56, zo_16, zo_58, zo_19, zo_60, zo_22]
set_option maxRecDepth 100000 in
noncomputable def zs_90 (n : Nat) : List zSh := [.inl (10, n), zo_0, zo_1, zo_2, zo_3, zo_4, zo_5, zo_6, zo_51, zo_33, zo_11, zo_10, zo_14, zo_13, zo_17, zo_16, zo_20, zo_19, zo_23, zo_22, zo_26, zo_25, zo_29, zo_28, zo_32, zo_31, zo_50, zo_35, zo_10, zo_37, zo_13, zo_39, zo_16, zo_41, zo_19, zo_43, zo_22, zo_45, zo_25, zo_47, zo_28, zo_49, zo_31, zo_61, zo_52, zo_10, zo_54, zo_13, zo_56, zo_16, zo_58, zo_19, zo_60, zo_22]
set_option maxRecDepth 100000 in
noncomputable def zs_91 (n : Nat) : List zSh := [.inl (10, n), zo_0, zo_1, zo_2, zo_3, zo_4, zo_5, zo_6, zo_51, zo_33, zo_11, zo_10, zo_14, zo_13, zo_17, zo_16, zo_20, zo_19, zo_23, zo_22, zo_26, zo_25, zo_29, zo_28, zo_32, zo_31, zo_50, zo_35, zo_10, zo_37, zo_13, zo_39, zo_16, zo_41, zo_19, zo_43, zo_22, zo_45, zo_25, zo_47, zo_28, zo_49, zo_31, zo_61, zo_52, zo_10, zo_54, zo_13, zo_56, zo_16, zo_58, zo_19, zo_60, zo_22, zo_9]
set_option maxRecDepth 100000 in
noncomputable def zl_47 : List (Nat × Nat × Int) := (54, 0, 8) :: zl_46
set_option maxRecDepth 100000 in
noncomputable def zl_48 : List (Nat × Nat × Int) := (54, 1, 81) :: zl_47
set_option maxRecDepth 100000 in
noncomputable def zs_92 (n : Nat) : List zSh := [.inl (10, n), zo_0, zo_1, zo_2, zo_3, zo_4, zo_5, zo_6, zo_51, zo_33, zo_11, zo_10, zo_14, zo_13, zo_17, zo_16, zo_20, zo_19, zo_23, zo_22, zo_26, zo_25, zo_29, zo_28, zo_32, zo_31, zo_50, zo_35, zo_10, zo_37, zo_13, zo_39, zo_16, zo_41, zo_19, zo_43, zo_22, zo_45, zo_25, zo_47, zo_28, zo_49, zo_31, zo_61, zo_52, zo_10, zo_54, zo_13, zo_56, zo_16, zo_58, zo_19, zo_60, zo_22, zo_9, zo_25]
set_option maxRecDepth 100000 in
noncomputable def zs_93 (n : Nat) : List zSh := [.inl (10, n), zo_0, zo_1, zo_2, zo_3, zo_4, zo_5, zo_6, zo_51, zo_33, zo_11, zo_10, zo_14, zo_13, zo_17, zo_16, zo_20, zo_19, zo_23, zo_22, zo_26, zo_25, zo_29, zo_28, zo_32, zo_31, zo_50, zo_35, zo_10, zo_37, zo_13, zo_39, zo_16, zo_41, zo_19, zo_43, zo_22, zo_45, zo_25, zo_47, zo_28, zo_49, zo_31, zo_61, zo_52, zo_10, zo_54, zo_13, zo_56, zo_16, zo_58, zo_19, zo_60, zo_22, zo_62, zo_25]
set_option maxRecDepth 100000 in
noncomputable def zs_94 (n : Nat) : List zSh := [.inl (10, n), zo_0, zo_1, zo_2, zo_3, zo_4, zo_5, zo_6, zo_51, zo_33, zo_11, zo_10, zo_14, zo_13, zo_17, zo_16, zo_20, zo_19, zo_23, zo_22, zo_26, zo_25, zo_29, zo_28, zo_32, zo_31, zo_50, zo_35, zo_10, zo_37, zo_13, zo_39, zo_16, zo_41, zo_19, zo_43, zo_22, zo_45, zo_25, zo_47, zo_28, zo_49, zo_31, zo_63, zo_52, zo_10, zo_54, zo_13, zo_56, zo_16, zo_58, zo_19, zo_60, zo_22, zo_62, zo_25]
set_option maxRecDepth 100000 in
noncomputable def zs_95 (n : Nat) : List zSh := [.inl (10, n), zo_0, zo_1, zo_2, zo_3, zo_4, zo_5, zo_6, zo_51, zo_33, zo_11, zo_10, zo_14, zo_13, zo_17, zo_16, zo_20, zo_19, zo_23, zo_22, zo_26, zo_25, zo_29, zo_28, zo_32, zo_31, zo_50, zo_35, zo_10, zo_37, zo_13, zo_39, zo_16, zo_41, zo_19, zo_43, zo_22, zo_45, zo_25, zo_47, zo_28, zo_49, zo_31, zo_63, zo_52, zo_10, zo_54, zo_13, zo_56, zo_16, zo_58, zo_19, zo_60, zo_22, zo_62, zo_25, zo_9]
set_option maxRecDepth 100000 in
noncomputable def zl_49 : List (Nat × Nat × Int) := (56, 0, 10) :: zl_48
set_option maxRecDepth 100000 in
noncomputable def zl_50 : List (Nat × Nat × Int) := (56, 1, 164) :: zl_49
set_option maxRecDepth 100000 in
noncomputable def zs_96 (n : Nat) : List zSh := [.inl (10, n), zo_0, zo_1, zo_2, zo_3, zo_4, zo_5, zo_6, zo_51, zo_33, zo_11, zo_10, zo_14, zo_13, zo_17, zo_16, zo_20, zo_19, zo_23, zo_22, zo_26, zo_25, zo_29, zo_28, zo_32, zo_31, zo_50, zo_35, zo_10, zo_37, zo_13, zo_39, zo_16, zo_41, zo_19, zo_43, zo_22, zo_45, zo_25, zo_47, zo_28, zo_49, zo_31, zo_63, zo_52, zo_10, zo_54, zo_13, zo_56, zo_16, zo_58, zo_19, zo_60, zo_22, zo_62, zo_25, zo_9, zo_28]
set_option maxRecDepth 100000 in
noncomputable def zs_97 (n : Nat) : List zSh := [.inl (10, n), zo_0, zo_1, zo_2, zo_3, zo_4, zo_5, zo_6, zo_51, zo_33, zo_11, zo_10, zo_14, zo_13, zo_17, zo_16, zo_20, zo_19, zo_23, zo_22, zo_26, zo_25, zo_29, zo_28, zo_32, zo_31, zo_50, zo_35, zo_10, zo_37, zo_13, zo_39, zo_16, zo_41, zo_19, zo_43, zo_22, zo_45, zo_25, zo_47, zo_28, zo_49, zo_31, zo_63, zo_52, zo_10, zo_54, zo_13, zo_56, zo_16, zo_58, zo_19, zo_60, zo_22, zo_62, zo_25, zo_64, zo_28]
set_option maxRecDepth 100000 in
noncomputable def zs_98 (n : Nat) : List zSh := [.inl (10, n), zo_0, zo_1, zo_2, zo_3, zo_4, zo_5, zo_6, zo_51, zo_33, zo_11, zo_10, zo_14, zo_13, zo_17, zo_16, zo_20, zo_19, zo_23, zo_22, zo_26, zo_25, zo_29, zo_28, zo_32, zo_31, zo_50, zo_35, zo_10, zo_37, zo_13, zo_39, zo_16, zo_41, zo_19, zo_43, zo_22, zo_45, zo_25, zo_47, zo_28, zo_49, zo_31, zo_65, zo_52, zo_10, zo_54, zo_13, zo_56, zo_16, zo_58, zo_19, zo_60, zo_22, zo_62, zo_25, zo_64, zo_28]
set_option maxRecDepth 100000 in
noncomputable def zs_99 (n : Nat) : List zSh := [.inl (10, n), zo_0, zo_1, zo_2, zo_3, zo_4, zo_5, zo_6, zo_51, zo_33, zo_11, zo_10, zo_14, zo_13, zo_17, zo_16, zo_20, zo_19, zo_23, zo_22, zo_26, zo_25, zo_29, zo_28, zo_32, zo_31, zo_50, zo_35, zo_10, zo_37, zo_13, zo_39, zo_16, zo_41, zo_19, zo_43, zo_22, zo_45, zo_25, zo_47, zo_28, zo_49, zo_31, zo_65, zo_52, zo_10, zo_54, zo_13, zo_56, zo_16, zo_58, zo_19, zo_60, zo_22, zo_62, zo_25, zo_64, zo_28, zo_9]
set_option maxRecDepth 100000 in
noncomputable def zl_51 : List (Nat × Nat × Int) := (58, 0, 12) :: zl_50
set_option maxRecDepth 100000 in
noncomputable def zl_52 : List (Nat × Nat × Int) := (58, 1, 2) :: zl_51
