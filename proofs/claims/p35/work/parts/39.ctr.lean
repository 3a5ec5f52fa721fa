/-! THE TWO CONSTRUCTORS -/
noncomputable def zo_0 : zSh := .inl (10, 27)
noncomputable def zo_1 : zSh := .inl (10, 5)
noncomputable def zo_2 : zSh := .inl (10, 3)
noncomputable def zo_3 : zSh := .inr (100, [.inl (some 5), .inr 0])
noncomputable def zo_4 : zSh := .inl (14, 82)
noncomputable def zo_5 : zSh := .inr (100, [.inl (some 7), .inr 0])
noncomputable def zo_6 : zSh := .inl (14, 9)
noncomputable def zo_7 : zSh := .inr (10, [.inl none, .inl none, .inl none, .inr 0, .inl none, .inl none, .inl none, .inl none, .inl none, .inl none, .inl none, .inl none])
noncomputable def zo_8 : zSh := .inr (2, [.inl none, .inl none, .inl none, .inl none, .inl none, .inl none, .inl none, .inl none, .inr 0, .inr 0])
noncomputable def zo_9 : zSh := .inr (8, [.inr 0, .inr 0, .inl none, .inr 0])
noncomputable def zo_10 : zSh := .inl (0, 56)
noncomputable def zo_11 : zSh := .inr (8, [.inr 0, .inr 0, .inl (some 11), .inr 0])
noncomputable def zo_12 : zSh := .inr (2, [.inl (some 10), .inl none, .inl none, .inl none, .inl none, .inl none, .inl none, .inl none, .inr 0, .inr 0])
noncomputable def zo_13 : zSh := .inl (0, 60)
noncomputable def zo_14 : zSh := .inr (8, [.inr 0, .inr 0, .inl (some 13), .inr 0])
noncomputable def zo_15 : zSh := .inr (2, [.inl (some 10), .inl (some 12), .inl none, .inl none, .inl none, .inl none, .inl none, .inl none, .inr 0, .inr 0])
noncomputable def zo_16 : zSh := .inl (0, 8)
noncomputable def zo_17 : zSh := .inr (8, [.inr 0, .inr 0, .inl (some 15), .inr 0])
noncomputable def zo_18 : zSh := .inr (2, [.inl (some 10), .inl (some 12), .inl (some 14), .inl none, .inl none, .inl none, .inl none, .inl none, .inr 0, .inr 0])
noncomputable def zo_19 : zSh := .inl (0, 200)
noncomputable def zo_20 : zSh := .inr (8, [.inr 0, .inr 0, .inl (some 17), .inr 0])
noncomputable def zo_21 : zSh := .inr (2, [.inl (some 10), .inl (some 12), .inl (some 14), .inl (some 16), .inl none, .inl none, .inl none, .inl none, .inr 0, .inr 0])
noncomputable def zo_22 : zSh := .inl (0, 2750)
noncomputable def zo_23 : zSh := .inr (8, [.inr 0, .inr 0, .inl (some 19), .inr 0])
noncomputable def zo_24 : zSh := .inr (2, [.inl (some 10), .inl (some 12), .inl (some 14), .inl (some 16), .inl (some 18), .inl none, .inl none, .inl none, .inr 0, .inr 0])
noncomputable def zo_25 : zSh := .inl (0, 648)
noncomputable def zo_26 : zSh := .inr (8, [.inr 0, .inr 0, .inl (some 21), .inr 0])
noncomputable def zo_27 : zSh := .inr (2, [.inl (some 10), .inl (some 12), .inl (some 14), .inl (some 16), .inl (some 18), .inl (some 20), .inl none, .inl none, .inr 0, .inr 0])
noncomputable def zo_28 : zSh := .inl (0, 1640)
noncomputable def zo_29 : zSh := .inr (8, [.inr 0, .inr 0, .inl (some 23), .inr 0])
noncomputable def zo_30 : zSh := .inr (2, [.inl (some 10), .inl (some 12), .inl (some 14), .inl (some 16), .inl (some 18), .inl (some 20), .inl (some 22), .inl none, .inr 0, .inr 0])
noncomputable def zo_31 : zSh := .inl (0, 24)
noncomputable def zo_32 : zSh := .inr (8, [.inr 0, .inr 0, .inl (some 25), .inr 0])
noncomputable def zo_33 : zSh := .inr (2, [.inl (some 10), .inl (some 12), .inl (some 14), .inl (some 16), .inl (some 18), .inl (some 20), .inl (some 22), .inl (some 24), .inr 0, .inr 0])
noncomputable def zo_34 : zSh := .inr (10, [.inl (some 9), .inl none, .inl none, .inr 0, .inl none, .inl none, .inl none, .inl none, .inl none, .inl none, .inl none, .inl none])
noncomputable def zo_35 : zSh := .inr (8, [.inr 0, .inr 0, .inl (some 28), .inr 0])
noncomputable def zo_36 : zSh := .inr (2, [.inl (some 27), .inl none, .inl none, .inl none, .inl none, .inl none, .inl none, .inl none, .inr 0, .inr 0])
noncomputable def zo_37 : zSh := .inr (8, [.inr 0, .inr 0, .inl (some 30), .inr 0])
noncomputable def zo_38 : zSh := .inr (2, [.inl (some 27), .inl (some 29), .inl none, .inl none, .inl none, .inl none, .inl none, .inl none, .inr 0, .inr 0])
noncomputable def zo_39 : zSh := .inr (8, [.inr 0, .inr 0, .inl (some 32), .inr 0])
noncomputable def zo_40 : zSh := .inr (2, [.inl (some 27), .inl (some 29), .inl (some 31), .inl none, .inl none, .inl none, .inl none, .inl none, .inr 0, .inr 0])
noncomputable def zo_41 : zSh := .inr (8, [.inr 0, .inr 0, .inl (some 34), .inr 0])
noncomputable def zo_42 : zSh := .inr (2, [.inl (some 27), .inl (some 29), .inl (some 31), .inl (some 33), .inl none, .inl none, .inl none, .inl none, .inr 0, .inr 0])
noncomputable def zo_43 : zSh := .inr (8, [.inr 0, .inr 0, .inl (some 36), .inr 0])
noncomputable def zo_44 : zSh := .inr (2, [.inl (some 27), .inl (some 29), .inl (some 31), .inl (some 33), .inl (some 35), .inl none, .inl none, .inl none, .inr 0, .inr 0])
noncomputable def zo_45 : zSh := .inr (8, [.inr 0, .inr 0, .inl (some 38), .inr 0])
noncomputable def zo_46 : zSh := .inr (2, [.inl (some 27), .inl (some 29), .inl (some 31), .inl (some 33), .inl (some 35), .inl (some 37), .inl none, .inl none, .inr 0, .inr 0])
noncomputable def zo_47 : zSh := .inr (8, [.inr 0, .inr 0, .inl (some 40), .inr 0])
noncomputable def zo_48 : zSh := .inr (2, [.inl (some 27), .inl (some 29), .inl (some 31), .inl (some 33), .inl (some 35), .inl (some 37), .inl (some 39), .inl none, .inr 0, .inr 0])
noncomputable def zo_49 : zSh := .inr (8, [.inr 0, .inr 0, .inl (some 42), .inr 0])
noncomputable def zo_50 : zSh := .inr (2, [.inl (some 27), .inl (some 29), .inl (some 31), .inl (some 33), .inl (some 35), .inl (some 37), .inl (some 39), .inl (some 41), .inr 0, .inr 0])
noncomputable def zo_51 : zSh := .inr (10, [.inl (some 9), .inl (some 26), .inl none, .inr 0, .inl none, .inl none, .inl none, .inl none, .inl none, .inl none, .inl none, .inl none])
noncomputable def zo_52 : zSh := .inr (8, [.inr 0, .inr 0, .inl (some 45), .inr 0])
noncomputable def zo_53 : zSh := .inr (2, [.inl (some 44), .inl none, .inl none, .inl none, .inl none, .inl none, .inl none, .inl none, .inr 0, .inr 0])
noncomputable def zo_54 : zSh := .inr (8, [.inr 0, .inr 0, .inl (some 47), .inr 0])
noncomputable def zo_55 : zSh := .inr (2, [.inl (some 44), .inl (some 46), .inl none, .inl none, .inl none, .inl none, .inl none, .inl none, .inr 0, .inr 0])
noncomputable def zo_56 : zSh := .inr (8, [.inr 0, .inr 0, .inl (some 49), .inr 0])
noncomputable def zo_57 : zSh := .inr (2, [.inl (some 44), .inl (some 46), .inl (some 48), .inl none, .inl none, .inl none, .inl none, .inl none, .inr 0, .inr 0])
noncomputable def zo_58 : zSh := .inr (8, [.inr 0, .inr 0, .inl (some 51), .inr 0])
noncomputable def zo_59 : zSh := .inr (2, [.inl (some 44), .inl (some 46), .inl (some 48), .inl (some 50), .inl none, .inl none, .inl none, .inl none, .inr 0, .inr 0])
noncomputable def zo_60 : zSh := .inr (8, [.inr 0, .inr 0, .inl (some 53), .inr 0])
noncomputable def zo_61 : zSh := .inr (2, [.inl (some 44), .inl (some 46), .inl (some 48), .inl (some 50), .inl (some 52), .inl none, .inl none, .inl none, .inr 0, .inr 0])
noncomputable def zo_62 : zSh := .inr (8, [.inr 0, .inr 0, .inl (some 55), .inr 0])
noncomputable def zo_63 : zSh := .inr (2, [.inl (some 44), .inl (some 46), .inl (some 48), .inl (some 50), .inl (some 52), .inl (some 54), .inl none, .inl none, .inr 0, .inr 0])
noncomputable def zo_64 : zSh := .inr (8, [.inr 0, .inr 0, .inl (some 57), .inr 0])
noncomputable def zo_65 : zSh := .inr (2, [.inl (some 44), .inl (some 46), .inl (some 48), .inl (some 50), .inl (some 52), .inl (some 54), .inl (some 56), .inl none, .inr 0, .inr 0])
noncomputable def zo_66 : zSh := .inr (8, [.inr 0, .inr 0, .inl (some 59), .inr 0])
noncomputable def zo_67 : zSh := .inr (2, [.inl (some 44), .inl (some 46), .inl (some 48), .inl (some 50), .inl (some 52), .inl (some 54), .inl (some 56), .inl (some 58), .inr 0, .inr 0])
noncomputable def zo_68 : zSh := .inr (10, [.inl (some 9), .inl (some 26), .inl (some 43), .inr 0, .inl none, .inl none, .inl none, .inl none, .inl none, .inl none, .inl none, .inl none])
noncomputable def zo_69 : zSh := .inr (4, [.inl none, .inl none, .inl none, .inl none])
noncomputable def zo_70 : zSh := .inl (0, 1000)
noncomputable def zo_71 : zSh := .inr (8, [.inr 0, .inr 0, .inl (some 62), .inr 0])
noncomputable def zo_72 : zSh := .inr (4, [.inl none, .inl (some 61), .inl none, .inl none])
noncomputable def zo_73 : zSh := .inl (0, 1120)
noncomputable def zo_74 : zSh := .inr (8, [.inr 0, .inr 0, .inl (some 64), .inr 0])
noncomputable def zo_75 : zSh := .inr (4, [.inl none, .inl (some 61), .inl (some 63), .inl none])
noncomputable def zo_76 : zSh := .inl (0, 250)
noncomputable def zo_77 : zSh := .inr (8, [.inr 0, .inr 0, .inl (some 66), .inr 0])
noncomputable def zo_78 : zSh := .inr (4, [.inl (some 9), .inl (some 61), .inl (some 63), .inl (some 65)])
noncomputable def zo_79 : zSh := .inr (10, [.inl (some 9), .inl (some 26), .inl (some 43), .inr 0, .inl (some 60), .inl none, .inl none, .inl none, .inl none, .inl none, .inl none, .inl none])
noncomputable def zo_80 : zSh := .inr (7, [.inl none, .inl none, .inl none, .inr 0, .inr 0, .inr 0, .inr 0, .inr 0, .inr 0, .inr 0, .inr 0, .inr 2])
noncomputable def zo_81 : zSh := .inl (0, 81)
noncomputable def zo_82 : zSh := .inr (8, [.inr 0, .inr 0, .inl (some 69), .inr 0])
noncomputable def zo_83 : zSh := .inr (7, [.inl (some 68), .inl none, .inl none, .inr 0, .inr 0, .inr 0, .inr 0, .inr 0, .inr 0, .inr 0, .inr 0, .inr 2])
noncomputable def zo_84 : zSh := .inl (0, 80)
noncomputable def zo_85 : zSh := .inr (8, [.inr 0, .inr 0, .inl (some 71), .inr 0])
noncomputable def zo_86 : zSh := .inr (7, [.inl (some 68), .inl (some 70), .inl (some 20), .inr 0, .inr 0, .inr 0, .inr 0, .inr 0, .inr 0, .inr 0, .inr 0, .inr 2])
noncomputable def zo_87 : zSh := .inr (10, [.inl (some 9), .inl (some 26), .inl (some 43), .inr 0, .inl (some 60), .inl (some 67), .inl none, .inl none, .inl none, .inl none, .inl none, .inl none])
noncomputable def zo_88 : zSh := .inl (1, 80)
noncomputable def zo_89 : zSh := .inl (1, 15)
noncomputable def zo_90 : zSh := .inl (0, 14)
noncomputable def zo_91 : zSh := .inr (5, [.inl (some 73), .inl (some 74), .inl (some 75), .inr 0, .inr 0, .inr 2])
noncomputable def zo_92 : zSh := .inr (10, [.inl (some 9), .inl (some 26), .inl (some 43), .inr 0, .inl (some 60), .inl (some 67), .inl (some 72), .inl none, .inl none, .inl none, .inl none, .inl none])
noncomputable def zo_93 : zSh := .inr (3, [.inl none, .inl none, .inl none, .inl none, .inl none])
noncomputable def zo_94 : zSh := .inl (0, 164)
noncomputable def zo_95 : zSh := .inr (8, [.inr 0, .inr 0, .inl (some 78), .inr 0])
noncomputable def zo_96 : zSh := .inr (3, [.inl none, .inl none, .inl none, .inl (some 77), .inl none])
noncomputable def zo_97 : zSh := .inr (8, [.inr 0, .inr 0, .inl (some 80), .inr 0])
noncomputable def zo_98 : zSh := .inr (3, [.inl (some 9), .inl (some 60), .inl (some 72), .inl (some 77), .inl (some 79)])
noncomputable def zo_99 : zSh := .inr (10, [.inl (some 9), .inl (some 26), .inl (some 43), .inr 0, .inl (some 60), .inl (some 67), .inl (some 72), .inl (some 76), .inl none, .inl none, .inl none, .inl none])
noncomputable def zo_100 : zSh := .inl (0, 16384)
noncomputable def zo_101 : zSh := .inr (9, [.inl none, .inl (some 82), .inl none, .inl none, .inr 0, .inr 0])
noncomputable def zo_102 : zSh := .inr (8, [.inr 0, .inr 0, .inl (some 84), .inr 0])
noncomputable def zo_103 : zSh := .inr (9, [.inl none, .inl (some 82), .inl (some 83), .inl none, .inr 0, .inr 0])
noncomputable def zo_104 : zSh := .inr (8, [.inr 0, .inr 0, .inl (some 86), .inr 0])
noncomputable def zo_105 : zSh := .inr (9, [.inl (some 9), .inl (some 82), .inl (some 83), .inl (some 85), .inr 0, .inr 0])
noncomputable def zo_106 : zSh := .inr (10, [.inl (some 9), .inl (some 26), .inl (some 43), .inr 0, .inl (some 60), .inl (some 67), .inl (some 72), .inl (some 76), .inl (some 81), .inl none, .inl none, .inl none])
noncomputable def zo_107 : zSh := .inl (0, 9)
noncomputable def zo_108 : zSh := .inr (6, [.inl (some 9), .inl (some 88), .inl (some 89), .inl (some 90), .inl (some 91), .inr 0, .inr 0])
noncomputable def zo_109 : zSh := .inr (10, [.inl (some 9), .inl (some 26), .inl (some 43), .inr 0, .inl (some 60), .inl (some 67), .inl (some 72), .inl (some 76), .inl (some 81), .inl (some 87), .inl none, .inl none])
noncomputable def zo_110 : zSh := .inl (1, 10)
noncomputable def zo_111 : zSh := .inr (1, [.inl (some 9), .inl (some 60), .inl (some 93), .inl (some 94), .inr 0, .inr 0, .inr 0, .inr 0])
noncomputable def zo_112 : zSh := .inr (10, [.inl (some 9), .inl (some 26), .inl (some 43), .inr 0, .inl (some 60), .inl (some 67), .inl (some 72), .inl (some 76), .inl (some 81), .inl (some 87), .inl (some 92), .inl none])
noncomputable def zo_113 : zSh := .inl (0, 12)
noncomputable def zo_114 : zSh := .inr (0, [.inl (some 96), .inr 0, .inr 0])
noncomputable def zo_115 : zSh := .inr (10, [.inl (some 9), .inl (some 26), .inl (some 43), .inr 0, .inl (some 60), .inl (some 67), .inl (some 72), .inl (some 76), .inl (some 81), .inl (some 87), .inl (some 92), .inl (some 95)])
noncomputable def zo_116 : zSh := .inl (0, 5664)
noncomputable def zo_117 : zSh := .inl (0, 11328)
noncomputable def zo_118 : zSh := .inl (2, 2)
noncomputable def zo_119 : zSh := .inl (2, 250)
noncomputable def zo_120 : zSh := .inl (0, 90)
noncomputable def zo_121 : zSh := .inl (1, 8)
noncomputable def zo_122 : zSh := .inl (1, 90)
noncomputable def zo_123 : zSh := .inl (0, 20)
noncomputable def zo_124 : zSh := .inl (0, 49152)
noncomputable def zo_125 : zSh := .inl (0, 756)
noncomputable def zo_126 : zSh := .inl (0, 6)
set_option maxRecDepth 100000 in
noncomputable def zl_0 : List (Nat × Nat × Int) := []
set_option maxRecDepth 100000 in
noncomputable def zs_0 (n : Nat) : List zSh := zxS n
set_option maxRecDepth 100000 in
noncomputable def zs_1 (n : Nat) : List zSh := [.inl (10, n), zo_0, zo_1, zo_2, zo_3, zo_4, zo_5, zo_6, zo_7]
set_option maxRecDepth 100000 in
noncomputable def zs_2 (n : Nat) : List zSh := [.inl (10, n), zo_0, zo_1, zo_2, zo_3, zo_4, zo_5, zo_6, zo_7, zo_8]
set_option maxRecDepth 100000 in
noncomputable def zs_3 (n : Nat) : List zSh := [.inl (10, n), zo_0, zo_1, zo_2, zo_3, zo_4, zo_5, zo_6, zo_7, zo_8, zo_9]
set_option maxRecDepth 100000 in
noncomputable def zl_1 : List (Nat × Nat × Int) := (10, 0, 14) :: zl_0
set_option maxRecDepth 100000 in
noncomputable def zl_2 : List (Nat × Nat × Int) := (10, 1, 4) :: zl_1
set_option maxRecDepth 100000 in
noncomputable def zs_4 (n : Nat) : List zSh := [.inl (10, n), zo_0, zo_1, zo_2, zo_3, zo_4, zo_5, zo_6, zo_7, zo_8, zo_9, zo_10]
set_option maxRecDepth 100000 in
noncomputable def zs_5 (n : Nat) : List zSh := [.inl (10, n), zo_0, zo_1, zo_2, zo_3, zo_4, zo_5, zo_6, zo_7, zo_8, zo_11, zo_10]
set_option maxRecDepth 100000 in
noncomputable def zs_6 (n : Nat) : List zSh := [.inl (10, n), zo_0, zo_1, zo_2, zo_3, zo_4, zo_5, zo_6, zo_7, zo_12, zo_11, zo_10]
set_option maxRecDepth 100000 in
noncomputable def zs_7 (n : Nat) : List zSh := [.inl (10, n), zo_0, zo_1, zo_2, zo_3, zo_4, zo_5, zo_6, zo_7, zo_12, zo_11, zo_10, zo_9]
set_option maxRecDepth 100000 in
noncomputable def zl_3 : List (Nat × Nat × Int) := (12, 0, 20) :: zl_2
set_option maxRecDepth 100000 in
noncomputable def zl_4 : List (Nat × Nat × Int) := (12, 1, 3) :: zl_3
set_option maxRecDepth 100000 in
noncomputable def zs_8 (n : Nat) : List zSh := [.inl (10, n), zo_0, zo_1, zo_2, zo_3, zo_4, zo_5, zo_6, zo_7, zo_12, zo_11, zo_10, zo_9, zo_13]
set_option maxRecDepth 100000 in
noncomputable def zs_9 (n : Nat) : List zSh := [.inl (10, n), zo_0, zo_1, zo_2, zo_3, zo_4, zo_5, zo_6, zo_7, zo_12, zo_11, zo_10, zo_14, zo_13]
set_option maxRecDepth 100000 in
noncomputable def zs_10 (n : Nat) : List zSh := [.inl (10, n), zo_0, zo_1, zo_2, zo_3, zo_4, zo_5, zo_6, zo_7, zo_15, zo_11, zo_10, zo_14, zo_13]
set_option maxRecDepth 100000 in
noncomputable def zs_11 (n : Nat) : List zSh := [.inl (10, n), zo_0, zo_1, zo_2, zo_3, zo_4, zo_5, zo_6, zo_7, zo_15, zo_11, zo_10, zo_14, zo_13, zo_9]
set_option maxRecDepth 100000 in
noncomputable def zl_5 : List (Nat × Nat × Int) := (14, 0, 4) :: zl_4
set_option maxRecDepth 100000 in
noncomputable def zl_6 : List (Nat × Nat × Int) := (14, 1, 2) :: zl_5
set_option maxRecDepth 100000 in
noncomputable def zs_12 (n : Nat) : List zSh := [.inl (10, n), zo_0, zo_1, zo_2, zo_3, zo_4, zo_5, zo_6, zo_7, zo_15, zo_11, zo_10, zo_14, zo_13, zo_9, zo_16]
set_option maxRecDepth 100000 in
noncomputable def zs_13 (n : Nat) : List zSh := [.inl (10, n), zo_0, zo_1, zo_2, zo_3, zo_4, zo_5, zo_6, zo_7, zo_15, zo_11, zo_10, zo_14, zo_13, zo_17, zo_16]
set_option maxRecDepth 100000 in
noncomputable def zs_14 (n : Nat) : List zSh := [.inl (10, n), zo_0, zo_1, zo_2, zo_3, zo_4, zo_5, zo_6, zo_7, zo_18, zo_11, zo_10, zo_14, zo_13, zo_17, zo_16]
set_option maxRecDepth 100000 in
noncomputable def zs_15 (n : Nat) : List zSh := [.inl (10, n), zo_0, zo_1, zo_2, zo_3, zo_4, zo_5, zo_6, zo_7, zo_18, zo_11, zo_10, zo_14, zo_13, zo_17, zo_16, zo_9]
set_option maxRecDepth 100000 in
noncomputable def zl_7 : List (Nat × Nat × Int) := (16, 0, 40) :: zl_6
set_option maxRecDepth 100000 in
noncomputable def zl_8 : List (Nat × Nat × Int) := (16, 1, 5) :: zl_7
set_option maxRecDepth 100000 in
noncomputable def zs_16 (n : Nat) : List zSh := [.inl (10, n), zo_0, zo_1, zo_2, zo_3, zo_4, zo_5, zo_6, zo_7, zo_18, zo_11, zo_10, zo_14, zo_13, zo_17, zo_16, zo_9, zo_19]
set_option maxRecDepth 100000 in
noncomputable def zs_17 (n : Nat) : List zSh := [.inl (10, n), zo_0, zo_1, zo_2, zo_3, zo_4, zo_5, zo_6, zo_7, zo_18, zo_11, zo_10, zo_14, zo_13, zo_17, zo_16, zo_20, zo_19]
set_option maxRecDepth 100000 in
noncomputable def zs_18 (n : Nat) : List zSh := [.inl (10, n), zo_0, zo_1, zo_2, zo_3, zo_4, zo_5, zo_6, zo_7, zo_21, zo_11, zo_10, zo_14, zo_13, zo_17, zo_16, zo_20, zo_19]
set_option maxRecDepth 100000 in
noncomputable def zs_19 (n : Nat) : List zSh := [.inl (10, n), zo_0, zo_1, zo_2, zo_3, zo_4, zo_5, zo_6, zo_7, zo_21, zo_11, zo_10, zo_14, zo_13, zo_17, zo_16, zo_20, zo_19, zo_9]
set_option maxRecDepth 100000 in
noncomputable def zl_9 : List (Nat × Nat × Int) := (18, 0, 250) :: zl_8
set_option maxRecDepth 100000 in
noncomputable def zl_10 : List (Nat × Nat × Int) := (18, 1, 11) :: zl_9
set_option maxRecDepth 100000 in
noncomputable def zs_20 (n : Nat) : List zSh := [.inl (10, n), zo_0, zo_1, zo_2, zo_3, zo_4, zo_5, zo_6, zo_7, zo_21, zo_11, zo_10, zo_14, zo_13, zo_17, zo_16, zo_20, zo_19, zo_9, zo_22]
set_option maxRecDepth 100000 in
noncomputable def zs_21 (n : Nat) : List zSh := [.inl (10, n), zo_0, zo_1, zo_2, zo_3, zo_4, zo_5, zo_6, zo_7, zo_21, zo_11, zo_10, zo_14, zo_13, zo_17, zo_16, zo_20, zo_19, zo_23, zo_22]
set_option maxRecDepth 100000 in
noncomputable def zs_22 (n : Nat) : List zSh := [.inl (10, n), zo_0, zo_1, zo_2, zo_3, zo_4, zo_5, zo_6, zo_7, zo_24, zo_11, zo_10, zo_14, zo_13, zo_17, zo_16, zo_20, zo_19, zo_23, zo_22]
set_option maxRecDepth 100000 in
noncomputable def zs_23 (n : Nat) : List zSh := [.inl (10, n), zo_0, zo_1, zo_2, zo_3, zo_4, zo_5, zo_6, zo_7, zo_24, zo_11, zo_10, zo_14, zo_13, zo_17, zo_16, zo_20, zo_19, zo_23, zo_22, zo_9]
set_option maxRecDepth 100000 in
noncomputable def zl_11 : List (Nat × Nat × Int) := (20, 0, 8) :: zl_10
set_option maxRecDepth 100000 in
noncomputable def zl_12 : List (Nat × Nat × Int) := (20, 1, 81) :: zl_11
set_option maxRecDepth 100000 in
noncomputable def zs_24 (n : Nat) : List zSh := [.inl (10, n), zo_0, zo_1, zo_2, zo_3, zo_4, zo_5, zo_6, zo_7, zo_24, zo_11, zo_10, zo_14, zo_13, zo_17, zo_16, zo_20, zo_19, zo_23, zo_22, zo_9, zo_25]
set_option maxRecDepth 100000 in
noncomputable def zs_25 (n : Nat) : List zSh := [.inl (10, n), zo_0, zo_1, zo_2, zo_3, zo_4, zo_5, zo_6, zo_7, zo_24, zo_11, zo_10, zo_14, zo_13, zo_17, zo_16, zo_20, zo_19, zo_23, zo_22, zo_26, zo_25]
set_option maxRecDepth 100000 in
noncomputable def zs_26 (n : Nat) : List zSh := [.inl (10, n), zo_0, zo_1, zo_2, zo_3, zo_4, zo_5, zo_6, zo_7, zo_27, zo_11, zo_10, zo_14, zo_13, zo_17, zo_16, zo_20, zo_19, zo_23, zo_22, zo_26, zo_25]
set_option maxRecDepth 100000 in
noncomputable def zs_27 (n : Nat) : List zSh := [.inl (10, n), zo_0, zo_1, zo_2, zo_3, zo_4, zo_5, zo_6, zo_7, zo_27, zo_11, zo_10, zo_14, zo_13, zo_17, zo_16, zo_20, zo_19, zo_23, zo_22, zo_26, zo_25, zo_9]
set_option maxRecDepth 100000 in
noncomputable def zl_13 : List (Nat × Nat × Int) := (22, 0, 10) :: zl_12
set_option maxRecDepth 100000 in
noncomputable def zl_14 : List (Nat × Nat × Int) := (22, 1, 164) :: zl_13
set_option maxRecDepth 100000 in
noncomputable def zs_28 (n : Nat) : List zSh := [.inl (10, n), zo_0, zo_1, zo_2, zo_3, zo_4, zo_5, zo_6, zo_7, zo_27, zo_11, zo_10, zo_14, zo_13, zo_17, zo_16, zo_20, zo_19, zo_23, zo_22, zo_26, zo_25, zo_9, zo_28]
set_option maxRecDepth 100000 in
noncomputable def zs_29 (n : Nat) : List zSh := [.inl (10, n), zo_0, zo_1, zo_2, zo_3, zo_4, zo_5, zo_6, zo_7, zo_27, zo_11, zo_10, zo_14, zo_13, zo_17, zo_16, zo_20, zo_19, zo_23, zo_22, zo_26, zo_25, zo_29, zo_28]
set_option maxRecDepth 100000 in
noncomputable def zs_30 (n : Nat) : List zSh := [.inl (10, n), zo_0, zo_1, zo_2, zo_3, zo_4, zo_5, zo_6, zo_7, zo_30, zo_11, zo_10, zo_14, zo_13, zo_17, zo_16, zo_20, zo_19, zo_23, zo_22, zo_26, zo_25, zo_29, zo_28]
set_option maxRecDepth 100000 in
noncomputable def zs_31 (n : Nat) : List zSh := [.inl (10, n), zo_0, zo_1, zo_2, zo_3, zo_4, zo_5, zo_6, zo_7, zo_30, zo_11, zo_10, zo_14, zo_13, zo_17, zo_16, zo_20, zo_19, zo_23, zo_22, zo_26, zo_25, zo_29, zo_28, zo_9]
set_option maxRecDepth 100000 in
noncomputable def zl_15 : List (Nat × Nat × Int) := (24, 0, 12) :: zl_14
set_option maxRecDepth 100000 in
noncomputable def zl_16 : List (Nat × Nat × Int) := (24, 1, 2) :: zl_15
set_option maxRecDepth 100000 in
noncomputable def zs_32 (n : Nat) : List zSh := [.inl (10, n), zo_0, zo_1, zo_2, zo_3, zo_4, zo_5, zo_6, zo_7, zo_30, zo_11, zo_10, zo_14, zo_13, zo_17, zo_16, zo_20, zo_19, zo_23, zo_22, zo_26, zo_25, zo_29, zo_28, zo_9, zo_31]
set_option maxRecDepth 100000 in
noncomputable def zs_33 (n : Nat) : List zSh := [.inl (10, n), zo_0, zo_1, zo_2, zo_3, zo_4, zo_5, zo_6, zo_7, zo_30, zo_11, zo_10, zo_14, zo_13, zo_17, zo_16, zo_20, zo_19, zo_23, zo_22, zo_26, zo_25, zo_29, zo_28, zo_32, zo_31]
set_option maxRecDepth 100000 in
noncomputable def zs_34 (n : Nat) : List zSh := [.inl (10, n), zo_0, zo_1, zo_2, zo_3, zo_4, zo_5, zo_6, zo_7, zo_33, zo_11, zo_10, zo_14, zo_13, zo_17, zo_16, zo_20, zo_19, zo_23, zo_22, zo_26, zo_25, zo_29, zo_28, zo_32, zo_31]
set_option maxRecDepth 100000 in
noncomputable def zl_17 : List (Nat × Nat × Int) := (9, 8, 30) :: zl_16
set_option maxRecDepth 100000 in
noncomputable def zl_18 : List (Nat × Nat × Int) := (9, 9, 20) :: zl_17
set_option maxRecDepth 100000 in
noncomputable def zs_35 (n : Nat) : List zSh := [.inl (10, n), zo_0, zo_1, zo_2, zo_3, zo_4, zo_5, zo_6, zo_34, zo_33, zo_11, zo_10, zo_14, zo_13, zo_17, zo_16, zo_20, zo_19, zo_23, zo_22, zo_26, zo_25, zo_29, zo_28, zo_32, zo_31]
set_option maxRecDepth 100000 in
noncomputable def zs_36 (n : Nat) : List zSh := [.inl (10, n), zo_0, zo_1, zo_2, zo_3, zo_4, zo_5, zo_6, zo_34, zo_33, zo_11, zo_10, zo_14, zo_13, zo_17, zo_16, zo_20, zo_19, zo_23, zo_22, zo_26, zo_25, zo_29, zo_28, zo_32, zo_31, zo_8]
set_option maxRecDepth 100000 in
noncomputable def zs_37 (n : Nat) : List zSh := [.inl (10, n), zo_0, zo_1, zo_2, zo_3, zo_4, zo_5, zo_6, zo_34, zo_33, zo_11, zo_10, zo_14, zo_13, zo_17, zo_16, zo_20, zo_19, zo_23, zo_22, zo_26, zo_25, zo_29, zo_28, zo_32, zo_31, zo_8, zo_9]
set_option maxRecDepth 100000 in
noncomputable def zl_19 : List (Nat × Nat × Int) := (27, 0, 14) :: zl_18
set_option maxRecDepth 100000 in
noncomputable def zl_20 : List (Nat × Nat × Int) := (27, 1, 4) :: zl_19
set_option maxRecDepth 100000 in
noncomputable def zs_38 (n : Nat) : List zSh := [.inl (10, n), zo_0, zo_1, zo_2, zo_3, zo_4, zo_5, zo_6, zo_34, zo_33, zo_11, zo_10, zo_14, zo_13, zo_17, zo_16, zo_20, zo_19, zo_23, zo_22, zo_26, zo_25, zo_29, zo_28, zo_32, zo_31, zo_8, zo_9, zo_10]
set_option maxRecDepth 100000 in
noncomputable def zs_39 (n : Nat) : List zSh := [.inl (10, n), zo_0, zo_1, zo_2, zo_3, zo_4, zo_5, zo_6, zo_34, zo_33, zo_11, zo_10, zo_14, zo_13, zo_17, zo_16, zo_20, zo_19, zo_23, zo_22, zo_26, zo_25, zo_29, zo_28, zo_32, zo_31, zo_8, zo_35, zo_10]
set_option maxRecDepth 100000 in
noncomputable def zs_40 (n : Nat) : List zSh := [.inl (10, n), zo_0, zo_1, zo_2, zo_3, zo_4, zo_5, zo_6, zo_34, zo_33, zo_11, zo_10, zo_14, zo_13, zo_17, zo_16, zo_20, zo_19, zo_23, zo_22, zo_26, zo_25, zo_29, zo_28, zo_32, zo_31, zo_36, zo_35, zo_10]
set_option maxRecDepth 100000 in
noncomputable def zs_41 (n : Nat) : List zSh := [.inl (10, n), zo_0, zo_1, zo_2, zo_3, zo_4, zo_5, zo_6, zo_34, zo_33, zo_11, zo_10, zo_14, zo_13, zo_17, zo_16, zo_20, zo_19, zo_23, zo_22, zo_26, zo_25, zo_29, zo_28, zo_32, zo_31, zo_36, zo_35, zo_10, zo_9]
set_option maxRecDepth 100000 in
noncomputable def zl_21 : List (Nat × Nat × Int) := (29, 0, 20) :: zl_20
set_option maxRecDepth 100000 in
noncomputable def zl_22 : List (Nat × Nat × Int) := (29, 1, 3) :: zl_21
set_option maxRecDepth 100000 in
noncomputable def zs_42 (n : Nat) : List zSh := [.inl (10, n), zo_0, zo_1, zo_2, zo_3, zo_4, zo_5, zo_6, zo_34, zo_33, zo_11, zo_10, zo_14, zo_13, zo_17, zo_16, zo_20, zo_19, zo_23, zo_22, zo_26, zo_25, zo_29, zo_28, zo_32, zo_31, zo_36, zo_35, zo_10, zo_9, zo_13]
set_option maxRecDepth 100000 in
noncomputable def zs_43 (n : Nat) : List zSh := [.inl (10, n), zo_0, zo_1, zo_2, zo_3, zo_4, zo_5, zo_6, zo_34, zo_33, zo_11, zo_10, zo_14, zo_13, zo_17, zo_16, zo_20, zo_19, zo_23, zo_22, zo_26, zo_25, zo_29, zo_28, zo_32, zo_31, zo_36, zo_35, zo_10, zo_37, zo_13]
set_option maxRecDepth 100000 in
noncomputable def zs_44 (n : Nat) : List zSh := [.inl (10, n), zo_0, zo_1, zo_2, zo_3, zo_4, zo_5, zo_6, zo_34, zo_33, zo_11, zo_10, zo_14, zo_13, zo_17, zo_16, zo_20, zo_19, zo_23, zo_22, zo_26, zo_25, zo_29, zo_28, zo_32, zo_31, zo_38, zo_35, zo_10, zo_37, zo_13]
set_option maxRecDepth 100000 in
noncomputable def zs_45 (n : Nat) : List zSh := [.inl (10, n), zo_0, zo_1, zo_2, zo_3, zo_4, zo_5, zo_6, zo_34, zo_33, zo_11, zo_10, zo_14, zo_13, zo_17, zo_16, zo_20, zo_19, zo_23, zo_22, zo_26, zo_25, zo_29, zo_28, zo_32, zo_31, zo_38, zo_35, zo_10, zo_37, zo_13, zo_9]
set_option maxRecDepth 100000 in
noncomputable def zl_23 : List (Nat × Nat × Int) := (31, 0, 4) :: zl_22
set_option maxRecDepth 100000 in
noncomputable def zl_24 : List (Nat × Nat × Int) := (31, 1, 2) :: zl_23
set_option maxRecDepth 100000 in
noncomputable def zs_46 (n : Nat) : List zSh := [.inl (10, n), zo_0, zo_1, zo_2, zo_3, zo_4, zo_5, zo_6, zo_34, zo_33, zo_11, zo_10, zo_14, zo_13, zo_17, zo_16, zo_20, zo_19, zo_23, zo_22, zo_26, zo_25, zo_29, zo_28, zo_32, zo_31, zo_38, zo_35, zo_10, zo_37, zo_13, zo_9, zo_16]
set_option maxRecDepth 100000 in
noncomputable def zs_47 (n : Nat) : List zSh := [.inl (10, n), zo_0, zo_1, zo_2, zo_3, zo_4, zo_5, zo_6, zo_34, zo_33, zo_11, zo_10, zo_14, zo_13, zo_17, zo_16, zo_20, zo_19, zo_23, zo_22, zo_26, zo_25, zo_29, zo_28, zo_32, zo_31, zo_38, zo_35, zo_10, zo_37, zo_13, zo_39, zo_16]
set_option maxRecDepth 100000 in
noncomputable def zs_48 (n : Nat) : List zSh := [.inl (10, n), zo_0, zo_1, zo_2, zo_3, zo_4, zo_5, zo_6, zo_34, zo_33, zo_11, zo_10, zo_14, zo_13, zo_17, zo_16, zo_20, zo_19, zo_23, zo_22, zo_26, zo_25, zo_29, zo_28, zo_32, zo_31, zo_40, zo_35, zo_10, zo_37, zo_13, zo_39, zo_16]
set_option maxRecDepth 100000 in
noncomputable def zs_49 (n : Nat) : List zSh := [.inl (10, n), zo_0, zo_1, zo_2, zo_3, zo_4, zo_5, zo_6, zo_34, zo_33, zo_11, zo_10, zo_14, zo_13, zo_17, zo_16, zo_20, zo_19, zo_23, zo_22, zo_26, zo_25, zo_29, zo_28, zo_32, zo_31, zo_40, zo_35, zo_10, zo_37, zo_13, zo_39, zo_16, zo_9]
set_option maxRecDepth 100000 in
noncomputable def zl_25 : List (Nat × Nat × Int) := (33, 0, 40) :: zl_24
set_option maxRecDepth 100000 in
noncomputable def zl_26 : List (Nat × Nat × Int) := (33, 1, 5) :: zl_25
set_option maxRecDepth 100000 in
noncomputable def zs_50 (n : Nat) : List zSh := [.inl (10, n), zo_0, zo_1, zo_2, zo_3, zo_4, zo_5, zo_6, zo_34, zo_33, zo_11, zo_10, zo_14, zo_13, zo_17, zo_16, zo_20, zo_19, zo_23, zo_22, zo_26, zo_25, zo_29, zo_28, zo_32, zo_31, zo_40, zo_35, zo_10, zo_37, zo_13, zo_39, zo_16, zo_9, zo_19]
set_option maxRecDepth 100000 in
noncomputable def zs_51 (n : Nat) : List zSh := [.inl (10, n), zo_0, zo_1, zo_2, zo_3, zo_4, zo_5, zo_6, zo_34, zo_33, zo_11, zo_10, zo_14, zo_13, zo_17, zo_16, zo_20, zo_19, zo_23, zo_22, zo_26, zo_25, zo_29, zo_28, zo_32, zo_31, zo_40, zo_35, zo_10, zo_37, zo_13, zo_39, zo_16, zo_41, zo_19]
set_option maxRecDepth 100000 in
noncomputable def zs_52 (n : Nat) : List zSh := [.inl (10, n), zo_0, zo_1, zo_2, zo_3, zo_4, zo_5, zo_6, zo_34, zo_33, zo_11, zo_10, zo_14, zo_13, zo_17, zo_16, zo_20, zo_19, zo_23, zo_22, zo_26, zo_25, zo_29, zo_28, zo_32, zo_31, zo_42, zo_35, zo_10, zo_37, zo_13, zo_39, zo_16, zo_41, zo_19]
set_option maxRecDepth 100000 in
noncomputable def zs_53 (n : Nat) : List zSh := [.inl (10, n), zo_0, zo_1, zo_2, zo_3, zo_4, zo_5, zo_6, zo_34, zo_33, zo_11, zo_10, zo_14, zo_13, zo_17, zo_16, zo_20, zo_19, zo_23, zo_22, zo_26, zo_25, zo_29, zo_28, zo_32, zo_31, zo_42, zo_35, zo_10, zo_37, zo_13, zo_39, zo_16, zo_41, zo_19, zo_9]
set_option maxRecDepth 100000 in
noncomputable def zl_27 : List (Nat × Nat × Int) := (35, 0, 250) :: zl_26
set_option maxRecDepth 100000 in
noncomputable def zl_28 : List (Nat × Nat × Int) := (35, 1, 11) :: zl_27
set_option maxRecDepth 100000 in
noncomputable def zs_54 (n : Nat) : List zSh := [.inl (10, n), zo_0, zo_1, zo_2, zo_3, zo_4, zo_5, zo_6, zo_34, zo_33, zo_11, zo_10, zo_14, zo_13, zo_17, zo_16, zo_20, zo_19, zo_23, zo_22, zo_26, zo_25, zo_29, zo_28, zo_32, zo_31, zo_42, zo_35, zo_10, zo_37, zo_13, zo_39, zo_16, zo_41, zo_19, zo_9, zo_22]
set_option maxRecDepth 100000 in
noncomputable def zs_55 (n : Nat) : List zSh := [.inl (10, n), zo_0, zo_1, zo_2, zo_3, zo_4, zo_5, zo_6, zo_34, zo_33, zo_11, zo_10, zo_14, zo_13, zo_17, zo_16, zo_20, zo_19, zo_23, zo_22, zo_26, zo_25, zo_29, zo_28, zo_32, zo_31, zo_42, zo_35, zo_10, zo_37, zo_13, zo_39, zo_16, zo_41, zo_19, zo_43, zo_22]
set_option maxRecDepth 100000 in
noncomputable def zs_56 (n : Nat) : List zSh := [.inl (10, n), zo_0, zo_1, zo_2, zo_3, zo_4, zo_5, zo_6, zo_34, zo_33, zo_11, zo_10, zo_14, zo_13, zo_17, zo_16, zo_20, zo_19, zo_23, zo_22, zo_26, zo_25, zo_29, zo_28, zo_32, zo_31, zo_44, zo_35, zo_10, zo_37, zo_13, zo_39, zo_16, zo_41, zo_19, zo_43, zo_22]
set_option maxRecDepth 100000 in
noncomputable def zs_57 (n : Nat) : List zSh := [.inl (10, n), zo_0, zo_1, zo_2, zo_3, zo_4, zo_5, zo_6, zo_34, zo_33, zo_11, zo_10, zo_14, zo_13, zo_17, zo_16, zo_20, zo_19, zo_23, zo_22, zo_26, zo_25, zo_29, zo_28, zo_32, zo_31, zo_44, zo_35, zo_10, zo_37, zo_13, zo_39, zo_16, zo_41, zo_19, zo_43, zo_22, zo_9]
set_option maxRecDepth 100000 in
noncomputable def zl_29 : List (Nat × Nat × Int) := (37, 0, 8) :: zl_28
set_option maxRecDepth 100000 in
noncomputable def zl_30 : List (Nat × Nat × Int) := (37, 1, 81) :: zl_29
set_option maxRecDepth 100000 in
noncomputable def zs_58 (n : Nat) : List zSh := [.inl (10, n), zo_0, zo_1, zo_2, zo_3, zo_4, zo_5, zo_6, zo_34, zo_33, zo_11, zo_10, zo_14, zo_13, zo_17, zo_16, zo_20, zo_19, zo_23, zo_22, zo_26, zo_25, zo_29, zo_28, zo_32, zo_31, zo_44, zo_35, zo_10, zo_37, zo_13, zo_39, zo_16, zo_41, zo_19, zo_43, zo_22, zo_9, zo_25]
set_option maxRecDepth 100000 in
noncomputable def zs_59 (n : Nat) : List zSh := [.inl (10, n), zo_0, zo_1, zo_2, zo_3, zo_4, zo_5, zo_6, zo_34, zo_33, zo_11, zo_10, zo_14, zo_13, zo_17, zo_16, zo_20, zo_19, zo_23, zo_22, zo_26, zo_25, zo_29, zo_28, zo_32, zo_31, zo_44, zo_35, zo_10, zo_37, zo_13, zo_39, zo_16, zo_41, zo_19, zo_43, zo_22, zo_45, zo_25]
set_option maxRecDepth 100000 in
noncomputable def zs_60 (n : Nat) : List zSh := [.inl (10, n), zo_0, zo_1, zo_2, zo_3, zo_4, zo_5, zo_6, zo_34, zo_33, zo_11, zo_10, zo_14, zo_13, zo_17, zo_16, zo_20, zo_19, zo_23, zo_22, zo_26, zo_25, zo_29, zo_28, zo_32, zo_31, zo_46, zo_35, zo_10, zo_37, zo_13, zo_39, zo_16, zo_41, zo_19, zo_43, zo_22, zo_45, zo_25]
set_option maxRecDepth 100000 in
noncomputable def zs_61 (n : Nat) : List zSh := [.inl (10, n), zo_0, zo_1, zo_2, zo_3, zo_4, zo_5, zo_6, zo_34, zo_33, zo_11, zo_10, zo_14, zo_13, zo_17, zo_16, zo_20, zo_19, zo_23, zo_22, zo_26, zo_25, zo_29, zo_28, zo_32, zo_31, zo_46, zo_35, zo_10, zo_37, zo_13, zo_39, zo_16, zo_41, zo_19, zo_43, zo_22, zo_45, zo_25, zo_9]
set_option maxRecDepth 100000 in
noncomputable def zl_31 : List (Nat × Nat × Int) := (39, 0, 10) :: zl_30
set_option maxRecDepth 100000 in
noncomputable def zl_32 : List (Nat × Nat × Int) := (39, 1, 164) :: zl_31
set_option maxRecDepth 100000 in
noncomputable def zs_62 (n : Nat) : List zSh := [.inl (10, n), zo_0, zo_1, zo_2, zo_3, zo_4, zo_5, zo_6, zo_34, zo_33, zo_11, zo_10, zo_14, zo_13, zo_17, zo_16, zo_20, zo_19, zo_23, zo_22, zo_26, zo_25, zo_29, zo_28, zo_32, zo_31, zo_46, zo_35, zo_10, zo_37, zo_13, zo_39, zo_16, zo_41, zo_19, zo_43, zo_22, zo_45, zo_25, zo_9, zo_28]
set_option maxRecDepth 100000 in
noncomputable def zs_63 (n : Nat) : List zSh := [.inl (10, n), zo_0, zo_1, zo_2, zo_3, zo_4, zo_5, zo_6, zo_34, zo_33, zo_11, zo_10, zo_14, zo_13, zo_17, zo_16, zo_20, zo_19, zo_23, zo_22, zo_26, zo_25, zo_29, zo_28, zo_32, zo_31, zo_46, zo_35, zo_10, zo_37, zo_13, zo_39, zo_16, zo_41, zo_19, zo_43, zo_22, zo_45, zo_25, zo_47, zo_28]
set_option maxRecDepth 100000 in
noncomputable def zs_64 (n : Nat) : List zSh := [.inl (10, n), zo_0, zo_1, zo_2, zo_3, zo_4, zo_5, zo_6, zo_34, zo_33, zo_11, zo_10, zo_14, zo_13, zo_17, zo_16, zo_20, zo_19, zo_23, zo_22, zo_26, zo_25, zo_29, zo_28, zo_32, zo_31, zo_48, zo_35, zo_10, zo_37, zo_13, zo_39, zo_16, zo_41, zo_19, zo_43, zo_22, zo_45, zo_25, zo_47, zo_28]
set_option maxRecDepth 100000 in
noncomputable def zs_65 (n : Nat) : List zSh := [.inl (10, n), zo_0, zo_1, zo_2, zo_3, zo_4, zo_5, zo_6, zo_34, zo_33, zo_11, zo_10, zo_14, zo_13, zo_17, zo_16, zo_20, zo_19, zo_23, zo_22, zo_26, zo_25, zo_29, zo_28, zo_32, zo_31, zo_48, zo_35, zo_10, zo_37, zo_13, zo_39, zo_16, zo_41, zo_19, zo_43, zo_22, zo_45, zo_25, zo_47, zo_28, zo_9]
set_option maxRecDepth 100000 in
noncomputable def zl_33 : List (Nat × Nat × Int) := (41, 0, 12) :: zl_32
set_option maxRecDepth 100000 in
noncomputable def zl_34 : List (Nat × Nat × Int) := (41, 1, 2) :: zl_33
set_option maxRecDepth 100000 in
noncomputable def zs_66 (n : Nat) : List zSh := [.inl (10, n), zo_0, zo_1, zo_2, zo_3, zo_4, zo_5, zo_6, zo_34, zo_33, zo_11, zo_10, zo_14, zo_13, zo_17, zo_16, zo_20, zo_19, zo_23, zo_22, zo_26, zo_25, zo_29, zo_28, zo_32, zo_31, zo_48, zo_35, zo_10, zo_37, zo_13, zo_39, zo_16, zo_41, zo_19, zo_43, zo_22, zo_45, zo_25, zo_47, zo_28, zo_9, zo_31]
set_option maxRecDepth 100000 in
noncomputable def zs_67 (n : Nat) : List zSh := [.inl (10, n), zo_0, zo_1, zo_2, zo_3, zo_4, zo_5, zo_6, zo_34, zo_33, zo_11, zo_10, zo_14, zo_13, zo_17, zo_16, zo_20, zo_19, zo_23, zo_22, zo_26, zo_25, zo_29, zo_28, zo_32, zo_31, zo_48, zo_35, zo_10, zo_37, zo_13, zo_39, zo_16, zo_41, zo_19, zo_43, zo_22, zo_45, zo_25, zo_47, zo_28, zo_49, zo_31]
set_option maxRecDepth 100000 in
noncomputable def zs_68 (n : Nat) : List zSh := [.inl (10, n), zo_0, zo_1, zo_2, zo_3, zo_4, zo_5, zo_6, zo_34, zo_33, zo_11, zo_10, zo_14, zo_13, zo_17, zo_16, zo_20, zo_19, zo_23, zo_22, zo_26, zo_25, zo_29, zo_28, zo_32, zo_31, zo_50, zo_35, zo_10, zo_37, zo_13, zo_39, zo_16, zo_41, zo_19, zo_43, zo_22, zo_45, zo_25, zo_47, zo_28, zo_49, zo_31]
set_option maxRecDepth 100000 in
noncomputable def zl_35 : List (Nat × Nat × Int) := (26, 8, 30) :: zl_34
set_option maxRecDepth 100000 in
noncomputable def zl_36 : List (Nat × Nat × Int) := (26, 9, 20) :: zl_35
set_option maxRecDepth 100000 in
noncomputable def zs_69 (n : Nat) : List zSh := [.inl (10, n), zo_0, zo_1, zo_2, zo_3, zo_4, zo_5, zo_6, zo_51, zo_33, zo_11, zo_10, zo_14, zo_13, zo_17, zo_16, zo_20, zo_19, zo_23, zo_22, zo_26, zo_25, zo_29, zo_28, zo_32, zo_31, zo_50, zo_35, zo_10, zo_37, zo_13, zo_39, zo_16, zo_41, zo_19, zo_43, zo_22, zo_45, zo_25, zo_47, zo_28, zo_49, zo_31]
set_option maxRecDepth 100000 in
noncomputable def zs_70 (n : Nat) : List zSh := [.inl (10, n), zo_0, zo_1, zo_2, zo_3, zo_4, zo_5, zo_6, zo_51, zo_33, zo_11, zo_10, zo_14, zo_13, zo_17, zo_16, zo_20, zo_19, zo_23, zo_22, zo_26, zo_25, zo_29, zo_28, zo_32, zo_31, zo_50, zo_35, zo_10, zo_37, zo_13, zo_39, zo_16, zo_41, zo_19, zo_43, zo_22, zo_45, zo_25, zo_47, zo_28, zo_49, zo_31, zo_8]
set_option maxRecDepth 100000 in
noncomputable def zs_71 (n : Nat) : List zSh := [.inl (10, n), zo_0, zo_1, zo_2, zo_3, zo_4, zo_5, zo_6, zo_51, zo_33, zo_11, zo_10, zo_14, zo_13, zo_17, zo_16, zo_20, zo_19, zo_23, zo_22, zo_26, zo_25, zo_29, zo_28, zo_32, zo_31, zo_50, zo_35, zo_10, zo_37, zo_13, zo_39, zo_16, zo_41, zo_19, zo_43, zo_22, zo_45, zo_25, zo_47, zo_28, zo_49, zo_31, zo_8, zo_9]
set_option maxRecDepth 100000 in
noncomputable def zl_37 : List (Nat × Nat × Int) := (44, 0, 14) :: zl_36
set_option maxRecDepth 100000 in
noncomputable def zl_38 : List (Nat × Nat × Int) := (44, 1, 4) :: zl_37
set_option maxRecDepth 100000 in
noncomputable def zs_72 (n : Nat) : List zSh := [.inl (10, n), zo_0, zo_1, zo_2, zo_3, zo_4, zo_5, zo_6, zo_51, zo_33, zo_11, zo_10, zo_14, zo_13, zo_17, zo_16, zo_20, zo_19, zo_23, zo_22, zo_26, zo_25, zo_29, zo_28, zo_32, zo_31, zo_50, zo_35, zo_10, zo_37, zo_13, zo_39, zo_16, zo_41, zo_19, zo_43, zo_22, zo_45, zo_25, zo_47, zo_28, zo_49, zo_31, zo_8, zo_9, zo_10]
set_option maxRecDepth 100000 in
noncomputable def zs_73 (n : Nat) : List zSh := [.inl (10, n), zo_0, zo_1, zo_2, zo_3, zo_4, zo_5, zo_6, zo_51, zo_33, zo_11, zo_10, zo_14, zo_13, zo_17, zo_16, zo_20, zo_19, zo_23, zo_22, zo_26, zo_25, zo_29, zo_28, zo_32, zo_31, zo_50, zo_35, zo_10, zo_37, zo_13, zo_39, zo_16, zo_41, zo_19, zo_43, zo_22, zo_45, zo_25, zo_47, zo_28, zo_49, zo_31, zo_8, zo_52, zo_10]
set_option maxRecDepth 100000 in
noncomputable def zs_74 (n : Nat) : List zSh := [.inl (10, n), zo_0, zo_1, zo_2, zo_3, zo_4, zo_5, zo_6, zo_51, zo_33, zo_11, zo_10, zo_14, zo_13, zo_17, zo_16, zo_20, zo_19, zo_23, zo_22, zo_26, zo_25, zo_29, zo_28, zo_32, zo_31, zo_50, zo_35, zo_10, zo_37, zo_13, zo_39, zo_16, zo_41, zo_19, zo_43, zo_22, zo_45, zo_25, zo_47, zo_28, zo_49, zo_31, zo_53, zo_52, zo_10]
set_option maxRecDepth 100000 in
noncomputable def zs_75 (n : Nat) : List zSh := [.inl (10, n), zo_0, zo_1, zo_2, zo_3, zo_4, zo_5, zo_6, zo_51, zo_33, zo_11, zo_10, zo_14, zo_13, zo_17, zo_16, zo_20, zo_19, zo_23, zo_22, zo_26, zo_25, zo_29, zo_28, zo_32, zo_31, zo_50, zo_35, zo_10, zo_37, zo_13, zo_39, zo_16, zo_41, zo_19, zo_43, zo_22, zo_45, zo_25, zo_47, zo_28, zo_49, zo_31, zo_53, zo_52, zo_10, zo_9]
set_option maxRecDepth 100000 in
noncomputable def zl_39 : List (Nat × Nat × Int) := (46, 0, 20) :: zl_38
set_option maxRecDepth 100000 in
noncomputable def zl_40 : List (Nat × Nat × Int) := (46, 1, 3) :: zl_39
set_option maxRecDepth 100000 in
noncomputable def zs_76 (n : Nat) : List zSh := [.inl (10, n), zo_0, zo_1, zo_2, zo_3, zo_4, zo_5, zo_6, zo_51, zo_33, zo_11, zo_10, zo_14, zo_13, zo_17, zo_16, zo_20, zo_19, zo_23, zo_22, zo_26, zo_25, zo_29, zo_28, zo_32, zo_31, zo_50, zo_35, zo_10, zo_37, zo_13, zo_39, zo_16, zo_41, zo_19, zo_43, zo_22, zo_45, zo_25, zo_47, zo_28, zo_49, zo_31, zo_53, zo_52, zo_10, zo_9, zo_13]
set_option maxRecDepth 100000 in
noncomputable def zs_77 (n : Nat) : List zSh := [.inl (10, n), zo_0, zo_1, zo_2, zo_3, zo_4, zo_5, zo_6, zo_51, zo_33, zo_11, zo_10, zo_14, zo_13, zo_17, zo_16, zo_20, zo_19, zo_23, zo_22, zo_26, zo_25, zo_29, zo_28, zo_32, zo_31, zo_50, zo_35, zo_10, zo_37, zo_13, zo_39, zo_16, zo_41, zo_19, zo_43, zo_22, zo_45, zo_25, zo_47, zo_28, zo_49, zo_31, zo_53, zo_52, zo_10, zo_54, zo_13]
set_option maxRecDepth 100000 in
noncomputable def zs_78 (n : Nat) : List zSh := [.inl (10, n), zo_0, zo_1, zo_2, zo_3, zo_4, zo_5, zo_6, zo_51, zo_33, zo_11, zo_10, zo_14, zo_13, zo_17, zo_16, zo_20, zo_19, zo_23, zo_22, zo_26, zo_25, zo_29, zo_28, zo_32, zo_31, zo_50, zo_35, zo_10, zo_37, zo_13, zo_39, zo_16, zo_41, zo_19, zo_43, zo_22, zo_45, zo_25, zo_47, zo_28, zo_49, zo_31, zo_55, zo_52, zo_10, zo_54, zo_13]
set_option maxRecDepth 100000 in
noncomputable def zs_79 (n : Nat) : List zSh := [.inl (10, n), zo_0, zo_1, zo_2, zo_3, zo_4, zo_5, zo_6, zo_51, zo_33, zo_11, zo_10, zo_14, zo_13, zo_17, zo_16, zo_20, zo_19, zo_23, zo_22, zo_26, zo_25, zo_29, zo_28, zo_32, zo_31, zo_50, zo_35, zo_10, zo_37, zo_13, zo_39, zo_16, zo_41, zo_19, zo_43, zo_22, zo_45, zo_25, zo_47, zo_28, zo_49, zo_31, zo_55, zo_52, zo_10, zo_54, zo_13, zo_9]
set_option maxRecDepth 100000 in
noncomputable def zl_41 : List (Nat × Nat × Int) := (48, 0, 4) :: zl_40
set_option maxRecDepth 100000 in
noncomputable def zl_42 : List (Nat × Nat × Int) := (48, 1, 2) :: zl_41
set_option maxRecDepth 100000 in
noncomputable def zs_80 (n : Nat) : List zSh := [.inl (10, n), zo_0, zo_1, zo_2, zo_3, zo_4, zo_5, zo_6, zo_51, zo_33, zo_11, zo_10, zo_14, zo_13, zo_17, zo_16, zo_20, zo_19, zo_23, zo_22, zo_26, zo_25, zo_29, zo_28, zo_32, zo_31, zo_50, zo_35, zo_10, zo_37, zo_13, zo_39, zo_16, zo_41, zo_19, zo_43, zo_22, zo_45, zo_25, zo_47, zo_28, zo_49, zo_31, zo_55, zo_52, zo_10, zo_54, zo_13, zo_9, zo_16]
set_option maxRecDepth 100000 in
noncomputable def zs_81 (n : Nat) : List zSh := [.inl (10, n), zo_0, zo_1, zo_2, zo_3, zo_4, zo_5, zo_6, zo_51, zo_33, zo_11, zo_10, zo_14, zo_13, zo_17, zo_16, zo_20, zo_19, zo_23, zo_22, zo_26, zo_25, zo_29, zo_28, zo_32, zo_31, zo_50, zo_35, zo_10, zo_37, zo_13, zo_39, zo_16, zo_41, zo_19, zo_43, zo_22, zo_45, zo_25, zo_47, zo_28, zo_49, zo_31, zo_55, zo_52, zo_10, zo_54, zo_13, zo_56, zo_16]
set_option maxRecDepth 100000 in
noncomputable def zs_82 (n : Nat) : List zSh := [.inl (10, n), zo_0, zo_1, zo_2, zo_3, zo_4, zo_5, zo_6, zo_51, zo_33, zo_11, zo_10, zo_14, zo_13, zo_17, zo_16, zo_20, zo_19, zo_23, zo_22, zo_26, zo_25, zo_29, zo_28, zo_32, zo_31, zo_50, zo_35, zo_10, zo_37, zo_13, zo_39, zo_16, zo_41, zo_19, zo_43, zo_22, zo_45, zo_25, zo_47, zo_28, zo_49, zo_31, zo_57, zo_52, zo_10, zo_54, zo_13, zo_56, zo_16]
set_option maxRecDepth 100000 in
noncomputable def zs_83 (n : Nat) : List zSh := [.inl (10, n), zo_0, zo_1, zo_2, zo_3, zo_4, zo_5, zo_6, zo_51, zo_33, zo_11, zo_10, zo_14, zo_13, zo_17, zo_16, zo_20, zo_19, zo_23, zo_22, zo_26, zo_25, zo_29, zo_28, zo_32, zo_31, zo_50, zo_35, zo_10, zo_37, zo_13, zo_39, zo_16, zo_41, zo_19, zo_43, zo_22, zo_45, zo_25, zo_47, zo_28, zo_49, zo_31, zo_57, zo_52, zo_10, zo_54, zo_13, zo_56, zo_16, zo_9]
set_option maxRecDepth 100000 in
noncomputable def zl_43 : List (Nat × Nat × Int) := (50, 0, 40) :: zl_42
set_option maxRecDepth 100000 in
noncomputable def zl_44 : List (Nat × Nat × Int) := (50, 1, 5) :: zl_43
set_option maxRecDepth 100000 in
noncomputable def zs_84 (n : Nat) : List zSh := [.inl (10, n), zo_0, zo_1, zo_2, zo_3, zo_4, zo_5, zo_6, zo_51, zo_33, zo_11, zo_10, zo_14, zo_13, zo_17, zo_16, zo_20, zo_19, zo_23, zo_22, zo_26, zo_25, zo_29, zo_28, zo_32, zo_31, zo_50, zo_35, zo_10, zo_37, zo_13, zo_39, zo_16, zo_41, zo_19, zo_43, zo_22, zo_45, zo_25, zo_47, zo_28, zo_49, zo_31, zo_57, zo_52, zo_10, zo_54, zo_13, zo_56, zo_16, zo_9, zo_19]
set_option maxRecDepth 100000 in
noncomputable def zs_85 (n : Nat) : List zSh := [.inl (10, n), zo_0, zo_1, zo_2, zo_3, zo_4, zo_5, zo_6, zo_51, zo_33, zo_11, zo_10, zo_14, zo_13, zo_17, zo_16, zo_20, zo_19, zo_23, zo_22, zo_26, zo_25, zo_29, zo_28, zo_32, zo_31, zo_50, zo_35, zo_10, zo_37, zo_13, zo_39, zo_16, zo_41, zo_19, zo_43, zo_22, zo_45, zo_25, zo_47, zo_28, zo_49, zo_31, zo_57, zo_52, zo_10, zo_54, zo_13, zo_56, zo_16, zo_58, zo_19]
set_option maxRecDepth 100000 in
noncomputable def zs_86 (n : Nat) : List zSh := [.inl (10, n), zo_0, zo_1, zo_2, zo_3, zo_4, zo_5, zo_6, zo_51, zo_33, zo_11, zo_10, zo_14, zo_13, zo_17, zo_16, zo_20, zo_19, zo_23, zo_22, zo_26, zo_25, zo_29, zo_28, zo_32, zo_31, zo_50, zo_35, zo_10, zo_37, zo_13, zo_39, zo_16, zo_41, zo_19, zo_43, zo_22, zo_45, zo_25, zo_47, zo_28, zo_49, zo_31, zo_59, zo_52, zo_10, zo_54, zo_13, zo_56, zo_16, zo_58, zo_19]
set_option maxRecDepth 100000 in
noncomputable def zs_87 (n : Nat) : List zSh := [.inl (10, n), zo_0, zo_1, zo_2, zo_3, zo_4, zo_5, zo_6, zo_51, zo_33, zo_11, zo_10, zo_14, zo_13, zo_17, zo_16, zo_20, zo_19, zo_23, zo_22, zo_26, zo_25, zo_29, zo_28, zo_32, zo_31, zo_50, zo_35, zo_10, zo_37, zo_13, zo_39, zo_16, zo_41, zo_19, zo_43, zo_22, zo_45, zo_25, zo_47, zo_28, zo_49, zo_31, zo_59, zo_52, zo_10, zo_54, zo_13, zo_56, zo_16, zo_58, zo_19, zo_9]
set_option maxRecDepth 100000 in
noncomputable def zl_45 : List (Nat × Nat × Int) := (52, 0, 250) :: zl_44
set_option maxRecDepth 100000 in
noncomputable def zl_46 : List (Nat × Nat × Int) := (52, 1, 11) :: zl_45
set_option maxRecDepth 100000 in
noncomputable def zs_88 (n : Nat) : List zSh := [.inl (10, n), zo_0, zo_1, zo_2, zo_3, zo_4, zo_5, zo_6, zo_51, zo_33, zo_11, zo_10, zo_14, zo_13, zo_17, zo_16, zo_20, zo_19, zo_23, zo_22, zo_26, zo_25, zo_29, zo_28, zo_32, zo_31, zo_50, zo_35, zo_10, zo_37, zo_13, zo_39, zo_16, zo_41, zo_19, zo_43, zo_22, zo_45, zo_25, zo_47, zo_28, zo_49, zo_31, zo_59, zo_52, zo_10, zo_54, zo_13, zo_56, zo_16, zo_58, zo_19, zo_9, zo_22]
set_option maxRecDepth 100000 in
noncomputable def zs_89 (n : Nat) : List zSh := [.inl (10, n), zo_0, zo_1, zo_2, zo_3, zo_4, zo_5, zo_6, zo_51, zo_33, zo_11, zo_10, zo_14, zo_13, zo_17, zo_16, zo_20, zo_19, zo_23, zo_22, zo_26, zo_25, zo_29, zo_28, zo_32, zo_31, zo_50, zo_35, zo_10, zo_37, zo_13, zo_39, zo_16, zo_41, zo_19, zo_43, zo_22, zo_45, zo_25, zo_47, zo_28, zo_49, zo_31, zo_59, zo_52, zo_10, zo_54, zo_13, zo_56, zo_16, zo_58, zo_19, zo_60, zo_22]
set_option maxRecDepth 100000 in
noncomputable def zs_90 (n : Nat) : List zSh := [.inl (10, n), zo_0, zo_1, zo_2, zo_3, zo_4, zo_5, zo_6, zo_51, zo_33, zo_11, zo_10, zo_14, zo_13, zo_17, zo_16, zo_20, zo_19, zo_23, zo_22, zo_26, zo_25, zo_29, zo_28, zo_32, zo_31, zo_50, zo_35, zo_10, zo_37, zo_13, zo_39, zo_16, zo_41, zo_19, zo_43, zo_22, zo_45, zo_25, zo_47, zo_28, zo_49, zo_31, zo_61, zo_52, zo_10, zo_54, zo_13, zo_56, zo_16, zo_58, zo_19, zo_60, zo_22]
set_option maxRecDepth 100000 in
noncomputable def zs_91 (n : Nat) : List zSh := [.inl (10, n), zo_0, zo_1, zo_2, zo_3, zo_4, zo_5, zo_6, zo_51, zo_33, zo_11, zo_10, zo_14, zo_13, zo_17, zo_16, zo_20, zo_19, zo_23, zo_22, zo_26, zo_25, zo_29, zo_28, zo_32, zo_31, zo_50, zo_35, zo_10, zo_37, zo_13, zo_39, zo_16, zo_41, zo_19, zo_43, zo_22, zo_45, zo_25, zo_47, zo_28, zo_49, zo_31, zo_61, zo_52, zo_10, zo_54, zo_13, zo_56, zo_16, zo_58, zo_19, zo_60, zo_22, zo_9]
set_option maxRecDepth 100000 in
noncomputable def zl_47 : List (Nat × Nat × Int) := (54, 0, 8) :: zl_46
set_option maxRecDepth 100000 in
noncomputable def zl_48 : List (Nat × Nat × Int) := (54, 1, 81) :: zl_47
set_option maxRecDepth 100000 in
noncomputable def zs_92 (n : Nat) : List zSh := [.inl (10, n), zo_0, zo_1, zo_2, zo_3, zo_4, zo_5, zo_6, zo_51, zo_33, zo_11, zo_10, zo_14, zo_13, zo_17, zo_16, zo_20, zo_19, zo_23, zo_22, zo_26, zo_25, zo_29, zo_28, zo_32, zo_31, zo_50, zo_35, zo_10, zo_37, zo_13, zo_39, zo_16, zo_41, zo_19, zo_43, zo_22, zo_45, zo_25, zo_47, zo_28, zo_49, zo_31, zo_61, zo_52, zo_10, zo_54, zo_13, zo_56, zo_16, zo_58, zo_19, zo_60, zo_22, zo_9, zo_25]
set_option maxRecDepth 100000 in
noncomputable def zs_93 (n : Nat) : List zSh := [.inl (10, n), zo_0, zo_1, zo_2, zo_3, zo_4, zo_5, zo_6, zo_51, zo_33, zo_11, zo_10, zo_14, zo_13, zo_17, zo_16, zo_20, zo_19, zo_23, zo_22, zo_26, zo_25, zo_29, zo_28, zo_32, zo_31, zo_50, zo_35, zo_10, zo_37, zo_13, zo_39, zo_16, zo_41, zo_19, zo_43, zo_22, zo_45, zo_25, zo_47, zo_28, zo_49, zo_31, zo_61, zo_52, zo_10, zo_54, zo_13, zo_56, zo_16, zo_58, zo_19, zo_60, zo_22, zo_62, zo_25]
set_option maxRecDepth 100000 in
noncomputable def zs_94 (n : Nat) : List zSh := [.inl (10, n), zo_0, zo_1, zo_2, zo_3, zo_4, zo_5, zo_6, zo_51, zo_33, zo_11, zo_10, zo_14, zo_13, zo_17, zo_16, zo_20, zo_19, zo_23, zo_22, zo_26, zo_25, zo_29, zo_28, zo_32, zo_31, zo_50, zo_35, zo_10, zo_37, zo_13, zo_39, zo_16, zo_41, zo_19, zo_43, zo_22, zo_45, zo_25, zo_47, zo_28, zo_49, zo_31, zo_63, zo_52, zo_10, zo_54, zo_13, zo_56, zo_16, zo_58, zo_19, zo_60, zo_22, zo_62, zo_25]
set_option maxRecDepth 100000 in
noncomputable def zs_95 (n : Nat) : List zSh := [.inl (10, n), zo_0, zo_1, zo_2, zo_3, zo_4, zo_5, zo_6, zo_51, zo_33, zo_11, zo_10, zo_14, zo_13, zo_17, zo_16, zo_20, zo_19, zo_23, zo_22, zo_26, zo_25, zo_29, zo_28, zo_32, zo_31, zo_50, zo_35, zo_10, zo_37, zo_13, zo_39, zo_16, zo_41, zo_19, zo_43, zo_22, zo_45, zo_25, zo_47, zo_28, zo_49, zo_31, zo_63, zo_52, zo_10, zo_54, zo_13, zo_56, zo_16, zo_58, zo_19, zo_60, zo_22, zo_62, zo_25, zo_9]
set_option maxRecDepth 100000 in
noncomputable def zl_49 : List (Nat × Nat × Int) := (56, 0, 10) :: zl_48
set_option maxRecDepth 100000 in
noncomputable def zl_50 : List (Nat × Nat × Int) := (56, 1, 164) :: zl_49
set_option maxRecDepth 100000 in
noncomputable def zs_96 (n : Nat) : List zSh := [.inl (10, n), zo_0, zo_1, zo_2, zo_3, zo_4, zo_5, zo_6, zo_51, zo_33, zo_11, zo_10, zo_14, zo_13, zo_17, zo_16, zo_20, zo_19, zo_23, zo_22, zo_26, zo_25, zo_29, zo_28, zo_32, zo_31, zo_50, zo_35, zo_10, zo_37, zo_13, zo_39, zo_16, zo_41, zo_19, zo_43, zo_22, zo_45, zo_25, zo_47, zo_28, zo_49, zo_31, zo_63, zo_52, zo_10, zo_54, zo_13, zo_56, zo_16, zo_58, zo_19, zo_60, zo_22, zo_62, zo_25, zo_9, zo_28]
set_option maxRecDepth 100000 in
noncomputable def zs_97 (n : Nat) : List zSh := [.inl (10, n), zo_0, zo_1, zo_2, zo_3, zo_4, zo_5, zo_6, zo_51, zo_33, zo_11, zo_10, zo_14, zo_13, zo_17, zo_16, zo_20, zo_19, zo_23, zo_22, zo_26, zo_25, zo_29, zo_28, zo_32, zo_31, zo_50, zo_35, zo_10, zo_37, zo_13, zo_39, zo_16, zo_41, zo_19, zo_43, zo_22, zo_45, zo_25, zo_47, zo_28, zo_49, zo_31, zo_63, zo_52, zo_10, zo_54, zo_13, zo_56, zo_16, zo_58, zo_19, zo_60, zo_22, zo_62, zo_25, zo_64, zo_28]
set_option maxRecDepth 100000 in
noncomputable def zs_98 (n : Nat) : List zSh := [.inl (10, n), zo_0, zo_1, zo_2, zo_3, zo_4, zo_5, zo_6, zo_51, zo_33, zo_11, zo_10, zo_14, zo_13, zo_17, zo_16, zo_20, zo_19, zo_23, zo_22, zo_26, zo_25, zo_29, zo_28, zo_32, zo_31, zo_50, zo_35, zo_10, zo_37, zo_13, zo_39, zo_16, zo_41, zo_19, zo_43, zo_22, zo_45, zo_25, zo_47, zo_28, zo_49, zo_31, zo_65, zo_52, zo_10, zo_54, zo_13, zo_56, zo_16, zo_58, zo_19, zo_60, zo_22, zo_62, zo_25, zo_64, zo_28]
set_option maxRecDepth 100000 in
noncomputable def zs_99 (n : Nat) : List zSh := [.inl (10, n), zo_0, zo_1, zo_2, zo_3, zo_4, zo_5, zo_6, zo_51, zo_33, zo_11, zo_10, zo_14, zo_13, zo_17, zo_16, zo_20, zo_19, zo_23, zo_22, zo_26, zo_25, zo_29, zo_28, zo_32, zo_31, zo_50, zo_35, zo_10, zo_37, zo_13, zo_39, zo_16, zo_41, zo_19, zo_43, zo_22, zo_45, zo_25, zo_47, zo_28, zo_49, zo_31, zo_65, zo_52, zo_10, zo_54, zo_13, zo_56, zo_16, zo_58, zo_19, zo_60, zo_22, zo_62, zo_25, zo_64, zo_28, zo_9]
set_option maxRecDepth 100000 in
noncomputable def zl_51 : List (Nat × Nat × Int) := (58, 0, 12) :: zl_50
set_option maxRecDepth 100000 in
noncomputable def zl_52 : List (Nat × Nat × Int) := (58, 1, 2) :: zl_51
set_option maxRecDepth 100000 in
noncomputable def zs_100 (n : Nat) : List zSh := [.inl (10, n), zo_0, zo_1, zo_2, zo_3, zo_4, zo_5, zo_6, zo_51, zo_33, zo_11, zo_10, zo_14, zo_13, zo_17, zo_16, zo_20, zo_19, zo_23, zo_22, zo_26, zo_25, zo_29, zo_28, zo_32, zo_31, zo_50, zo_35, zo_10, zo_37, zo_13, zo_39, zo_16, zo_41, zo_19, zo_43, zo_22, zo_45, zo_25, zo_47, zo_28, zo_49, zo_31, zo_65, zo_52, zo_10, zo_54, zo_13, zo_56, zo_16, zo_58, zo_19, zo_60, zo_22, zo_62, zo_25, zo_64, zo_28, zo_9, zo_31]
set_option maxRecDepth 100000 in
noncomputable def zs_101 (n : Nat) : List zSh := [.inl (10, n), zo_0, zo_1, zo_2, zo_3, zo_4, zo_5, zo_6, zo_51, zo_33, zo_11, zo_10, zo_14, zo_13, zo_17, zo_16, zo_20, zo_19, zo_23, zo_22, zo_26, zo_25, zo_29, zo_28, zo_32, zo_31, zo_50, zo_35, zo_10, zo_37, zo_13, zo_39, zo_16, zo_41, zo_19, zo_43, zo_22, zo_45, zo_25, zo_47, zo_28, zo_49, zo_31, zo_65, zo_52, zo_10, zo_54, zo_13, zo_56, zo_16, zo_58, zo_19, zo_60, zo_22, zo_62, zo_25, zo_64, zo_28, zo_66, zo_31]
set_option maxRecDepth 100000 in
noncomputable def zs_102 (n : Nat) : List zSh := [.inl (10, n), zo_0, zo_1, zo_2, zo_3, zo_4, zo_5, zo_6, zo_51, zo_33, zo_11, zo_10, zo_14, zo_13, zo_17, zo_16, zo_20, zo_19, zo_23, zo_22, zo_26, zo_25, zo_29, zo_28, zo_32, zo_31, zo_50, zo_35, zo_10, zo_37, zo_13, zo_39, zo_16, zo_41, zo_19, zo_43, zo_22, zo_45, zo_25, zo_47, zo_28, zo_49, zo_31, zo_67, zo_52, zo_10, zo_54, zo_13, zo_56, zo_16, zo_58, zo_19, zo_60, zo_22, zo_62, zo_25, zo_64, zo_28, zo_66, zo_31]
set_option maxRecDepth 100000 in
noncomputable def zl_53 : List (Nat × Nat × Int) := (43, 8, 30) :: zl_52
set_option maxRecDepth 100000 in
noncomputable def zl_54 : List (Nat × Nat × Int) := (43, 9, 20) :: zl_53
set_option maxRecDepth 100000 in
noncomputable def zs_103 (n : Nat) : List zSh := [.inl (10, n), zo_0, zo_1, zo_2, zo_3, zo_4, zo_5, zo_6, zo_68, zo_33, zo_11, zo_10, zo_14, zo_13, zo_17, zo_16, zo_20, zo_19, zo_23, zo_22, zo_26, zo_25, zo_29, zo_28, zo_32, zo_31, zo_50, zo_35, zo_10, zo_37, zo_13, zo_39, zo_16, zo_41, zo_19, zo_43, zo_22, zo_45, zo_25, zo_47, zo_28, zo_49, zo_31, zo_67, zo_52, zo_10, zo_54, zo_13, zo_56, zo_16, zo_58, zo_19, zo_60, zo_22, zo_62, zo_25, zo_64, zo_28, zo_66, zo_31]
set_option maxRecDepth 100000 in
noncomputable def zs_104 (n : Nat) : List zSh := [.inl (10, n), zo_0, zo_1, zo_2, zo_3, zo_4, zo_5, zo_6, zo_68, zo_33, zo_11, zo_10, zo_14, zo_13, zo_17, zo_16, zo_20, zo_19, zo_23, zo_22, zo_26, zo_25, zo_29, zo_28, zo_32, zo_31, zo_50, zo_35, zo_10, zo_37, zo_13, zo_39, zo_16, zo_41, zo_19, zo_43, zo_22, zo_45, zo_25, zo_47, zo_28, zo_49, zo_31, zo_67, zo_52, zo_10, zo_54, zo_13, zo_56, zo_16, zo_58, zo_19, zo_60, zo_22, zo_62, zo_25, zo_64, zo_28, zo_66, zo_31, zo_69]
set_option maxRecDepth 100000 in
noncomputable def zs_105 (n : Nat) : List zSh := [.inl (10, n), zo_0, zo_1, zo_2, zo_3, zo_4, zo_5, zo_6, zo_68, zo_33, zo_11, zo_10, zo_14, zo_13, zo_17, zo_16, zo_20, zo_19, zo_23, zo_22, zo_26, zo_25, zo_29, zo_28, zo_32, zo_31, zo_50, zo_35, zo_10, zo_37, zo_13, zo_39, zo_16, zo_41, zo_19, zo_43, zo_22, zo_45, zo_25, zo_47, zo_28, zo_49, zo_31, zo_67, zo_52, zo_10, zo_54, zo_13, zo_56, zo_16, zo_58, zo_19, zo_60, zo_22, zo_62, zo_25, zo_64, zo_28, zo_66, zo_31, zo_69, zo_9]
set_option maxRecDepth 100000 in
noncomputable def zl_55 : List (Nat × Nat × Int) := (61, 0, 250) :: zl_54
set_option maxRecDepth 100000 in
noncomputable def zl_56 : List (Nat × Nat × Int) := (61, 1, 4) :: zl_55
set_option maxRecDepth 100000 in
noncomputable def zs_106 (n : Nat) : List zSh := [.inl (10, n), zo_0, zo_1, zo_2, zo_3, zo_4, zo_5, zo_6, zo_68, zo_33, zo_11, zo_10, zo_14, zo_13, zo_17, zo_16, zo_20, zo_19, zo_23, zo_22, zo_26, zo_25, zo_29, zo_28, zo_32, zo_31, zo_50, zo_35, zo_10, zo_37, zo_13, zo_39, zo_16, zo_41, zo_19, zo_43, zo_22, zo_45, zo_25, zo_47, zo_28, zo_49, zo_31, zo_67, zo_52, zo_10, zo_54, zo_13, zo_56, zo_16, zo_58, zo_19, zo_60, zo_22, zo_62, zo_25, zo_64, zo_28, zo_66, zo_31, zo_69, zo_9, zo_70]
set_option maxRecDepth 100000 in
noncomputable def zs_107 (n : Nat) : List zSh := [.inl (10, n), zo_0, zo_1, zo_2, zo_3, zo_4, zo_5, zo_6, zo_68, zo_33, zo_11, zo_10, zo_14, zo_13, zo_17, zo_16, zo_20, zo_19, zo_23, zo_22, zo_26, zo_25, zo_29, zo_28, zo_32, zo_31, zo_50, zo_35, zo_10, zo_37, zo_13, zo_39, zo_16, zo_41, zo_19, zo_43, zo_22, zo_45, zo_25, zo_47, zo_28, zo_49, zo_31, zo_67, zo_52, zo_10, zo_54, zo_13, zo_56, zo_16, zo_58, zo_19, zo_60, zo_22, zo_62, zo_25, zo_64, zo_28, zo_66, zo_31, zo_69, zo_71, zo_70]
set_option maxRecDepth 100000 in
noncomputable def zs_108 (n : Nat) : List zSh := [.inl (10, n), zo_0, zo_1, zo_2, zo_3, zo_4, zo_5, zo_6, zo_68, zo_33, zo_11, zo_10, zo_14, zo_13, zo_17, zo_16, zo_20, zo_19, zo_23, zo_22, zo_26, zo_25, zo_29, zo_28, zo_32, zo_31, zo_50, zo_35, zo_10, zo_37, zo_13, zo_39, zo_16, zo_41, zo_19, zo_43, zo_22, zo_45, zo_25, zo_47, zo_28, zo_49, zo_31, zo_67, zo_52, zo_10, zo_54, zo_13, zo_56, zo_16, zo_58, zo_19, zo_60, zo_22, zo_62, zo_25, zo_64, zo_28, zo_66, zo_31, zo_72, zo_71, zo_70]
set_option maxRecDepth 100000 in
noncomputable def zs_109 (n : Nat) : List zSh := [.inl (10, n), zo_0, zo_1, zo_2, zo_3, zo_4, zo_5, zo_6, zo_68, zo_33, zo_11, zo_10, zo_14, zo_13, zo_17, zo_16, zo_20, zo_19, zo_23, zo_22, zo_26, zo_25, zo_29, zo_28, zo_32, zo_31, zo_50, zo_35, zo_10, zo_37, zo_13, zo_39, zo_16, zo_41, zo_19, zo_43, zo_22, zo_45, zo_25, zo_47, zo_28, zo_49, zo_31, zo_67, zo_52, zo_10, zo_54, zo_13, zo_56, zo_16, zo_58, zo_19, zo_60, zo_22, zo_62, zo_25, zo_64, zo_28, zo_66, zo_31, zo_72, zo_71, zo_70, zo_9]
set_option maxRecDepth 100000 in
noncomputable def zl_57 : List (Nat × Nat × Int) := (63, 0, 280) :: zl_56
set_option maxRecDepth 100000 in
noncomputable def zl_58 : List (Nat × Nat × Int) := (63, 1, 4) :: zl_57
set_option maxRecDepth 100000 in
noncomputable def zs_110 (n : Nat) : List zSh := [.inl (10, n), zo_0, zo_1, zo_2, zo_3, zo_4, zo_5, zo_6, zo_68, zo_33, zo_11, zo_10, zo_14, zo_13, zo_17, zo_16, zo_20, zo_19, zo_23, zo_22, zo_26, zo_25, zo_29, zo_28, zo_32, zo_31, zo_50, zo_35, zo_10, zo_37, zo_13, zo_39, zo_16, zo_41, zo_19, zo_43, zo_22, zo_45, zo_25, zo_47, zo_28, zo_49, zo_31, zo_67, zo_52, zo_10, zo_54, zo_13, zo_56, zo_16, zo_58, zo_19, zo_60, zo_22, zo_62, zo_25, zo_64, zo_28, zo_66, zo_31, zo_72, zo_71, zo_70, zo_9, zo_73]
set_option maxRecDepth 100000 in
noncomputable def zs_111 (n : Nat) : List zSh := [.inl (10, n), zo_0, zo_1, zo_2, zo_3, zo_4, zo_5, zo_6, zo_68, zo_33, zo_11, zo_10, zo_14, zo_13, zo_17, zo_16, zo_20, zo_19, zo_23, zo_22, zo_26, zo_25, zo_29, zo_28, zo_32, zo_31, zo_50, zo_35, zo_10, zo_37, zo_13, zo_39, zo_16, zo_41, zo_19, zo_43, zo_22, zo_45, zo_25, zo_47, zo_28, zo_49, zo_31, zo_67, zo_52, zo_10, zo_54, zo_13, zo_56, zo_16, zo_58, zo_19, zo_60, zo_22, zo_62, zo_25, zo_64, zo_28, zo_66, zo_31, zo_72, zo_71, zo_70, zo_74, zo_73]
set_option maxRecDepth 100000 in
noncomputable def zs_112 (n : Nat) : List zSh := [.inl (10, n), zo_0, zo_1, zo_2, zo_3, zo_4, zo_5, zo_6, zo_68, zo_33, zo_11, zo_10, zo_14, zo_13, zo_17, zo_16, zo_20, zo_19, zo_23, zo_22, zo_26, zo_25, zo_29, zo_28, zo_32, zo_31, zo_50, zo_35, zo_10, zo_37, zo_13, zo_39, zo_16, zo_41, zo_19, zo_43, zo_22, zo_45, zo_25, zo_47, zo_28, zo_49, zo_31, zo_67, zo_52, zo_10, zo_54, zo_13, zo_56, zo_16, zo_58, zo_19, zo_60, zo_22, zo_62, zo_25, zo_64, zo_28, zo_66, zo_31, zo_75, zo_71, zo_70, zo_74, zo_73]
set_option maxRecDepth 100000 in
noncomputable def zs_113 (n : Nat) : List zSh := [.inl (10, n), zo_0, zo_1, zo_2, zo_3, zo_4, zo_5, zo_6, zo_68, zo_33, zo_11, zo_10, zo_14, zo_13, zo_17, zo_16, zo_20, zo_19, zo_23, zo_22, zo_26, zo_25, zo_29, zo_28, zo_32, zo_31, zo_50, zo_35, zo_10, zo_37, zo_13, zo_39, zo_16, zo_41, zo_19, zo_43, zo_22, zo_45, zo_25, zo_47, zo_28, zo_49, zo_31, zo_67, zo_52, zo_10, zo_54, zo_13, zo_56, zo_16, zo_58, zo_19, zo_60, zo_22, zo_62, zo_25, zo_64, zo_28, zo_66, zo_31, zo_75, zo_71, zo_70, zo_74, zo_73, zo_9]
set_option maxRecDepth 100000 in
noncomputable def zl_59 : List (Nat × Nat × Int) := (65, 0, 250) :: zl_58
set_option maxRecDepth 100000 in
noncomputable def zl_60 : List (Nat × Nat × Int) := (65, 1, 1) :: zl_59
set_option maxRecDepth 100000 in
noncomputable def zs_114 (n : Nat) : List zSh := [.inl (10, n), zo_0, zo_1, zo_2, zo_3, zo_4, zo_5, zo_6, zo_68, zo_33, zo_11, zo_10, zo_14, zo_13, zo_17, zo_16, zo_20, zo_19, zo_23, zo_22, zo_26, zo_25, zo_29, zo_28, zo_32, zo_31, zo_50, zo_35, zo_10, zo_37, zo_13, zo_39, zo_16, zo_41, zo_19, zo_43, zo_22, zo_45, zo_25, zo_47, zo_28, zo_49, zo_31, zo_67, zo_52, zo_10, zo_54, zo_13, zo_56, zo_16, zo_58, zo_19, zo_60, zo_22, zo_62, zo_25, zo_64, zo_28, zo_66, zo_31, zo_75, zo_71, zo_70, zo_74, zo_73, zo_9, zo_76]
set_option maxRecDepth 100000 in
noncomputable def zs_115 (n : Nat) : List zSh := [.inl (10, n), zo_0, zo_1, zo_2, zo_3, zo_4, zo_5, zo_6, zo_68, zo_33, zo_11, zo_10, zo_14, zo_13, zo_17, zo_16, zo_20, zo_19, zo_23, zo_22, zo_26, zo_25, zo_29, zo_28, zo_32, zo_31, zo_50, zo_35, zo_10, zo_37, zo_13, zo_39, zo_16, zo_41, zo_19, zo_43, zo_22, zo_45, zo_25, zo_47, zo_28, zo_49, zo_31, zo_67, zo_52, zo_10, zo_54, zo_13, zo_56, zo_16, zo_58, zo_19, zo_60, zo_22, zo_62, zo_25, zo_64, zo_28, zo_66, zo_31, zo_75, zo_71, zo_70, zo_74, zo_73, zo_77, zo_76]
set_option maxRecDepth 100000 in
noncomputable def zs_116 (n : Nat) : List zSh := [.inl (10, n), zo_0, zo_1, zo_2, zo_3, zo_4, zo_5, zo_6, zo_68, zo_33, zo_11, zo_10, zo_14, zo_13, zo_17, zo_16, zo_20, zo_19, zo_23, zo_22, zo_26, zo_25, zo_29, zo_28, zo_32, zo_31, zo_50, zo_35, zo_10, zo_37, zo_13, zo_39, zo_16, zo_41, zo_19, zo_43, zo_22, zo_45, zo_25, zo_47, zo_28, zo_49, zo_31, zo_67, zo_52, zo_10, zo_54, zo_13, zo_56, zo_16, zo_58, zo_19, zo_60, zo_22, zo_62, zo_25, zo_64, zo_28, zo_66, zo_31, .inr (4, [.inl none, .inl (some 61), .inl (some 63), .inl (some 65)]), zo_71, zo_70, zo_74, zo_73, zo_77, zo_76]
set_option maxRecDepth 100000 in
noncomputable def zs_117 (n : Nat) : List zSh := [.inl (10, n), zo_0, zo_1, zo_2, zo_3, zo_4, zo_5, zo_6, zo_68, zo_33, zo_11, zo_10, zo_14, zo_13, zo_17, zo_16, zo_20, zo_19, zo_23, zo_22, zo_26, zo_25, zo_29, zo_28, zo_32, zo_31, zo_50, zo_35, zo_10, zo_37, zo_13, zo_39, zo_16, zo_41, zo_19, zo_43, zo_22, zo_45, zo_25, zo_47, zo_28, zo_49, zo_31, zo_67, zo_52, zo_10, zo_54, zo_13, zo_56, zo_16, zo_58, zo_19, zo_60, zo_22, zo_62, zo_25, zo_64, zo_28, zo_66, zo_31, zo_78, zo_71, zo_70, zo_74, zo_73, zo_77, zo_76]
set_option maxRecDepth 100000 in
noncomputable def zs_118 (n : Nat) : List zSh := [.inl (10, n), zo_0, zo_1, zo_2, zo_3, zo_4, zo_5, zo_6, zo_79, zo_33, zo_11, zo_10, zo_14, zo_13, zo_17, zo_16, zo_20, zo_19, zo_23, zo_22, zo_26, zo_25, zo_29, zo_28, zo_32, zo_31, zo_50, zo_35, zo_10, zo_37, zo_13, zo_39, zo_16, zo_41, zo_19, zo_43, zo_22, zo_45, zo_25, zo_47, zo_28, zo_49, zo_31, zo_67, zo_52, zo_10, zo_54, zo_13, zo_56, zo_16, zo_58, zo_19, zo_60, zo_22, zo_62, zo_25, zo_64, zo_28, zo_66, zo_31, zo_78, zo_71, zo_70, zo_74, zo_73, zo_77, zo_76]
set_option maxRecDepth 100000 in
noncomputable def zs_119 (n : Nat) : List zSh := [.inl (10, n), zo_0, zo_1, zo_2, zo_3, zo_4, zo_5, zo_6, zo_79, zo_33, zo_11, zo_10, zo_14, zo_13, zo_17, zo_16, zo_20, zo_19, zo_23, zo_22, zo_26, zo_25, zo_29, zo_28, zo_32, zo_31, zo_50, zo_35, zo_10, zo_37, zo_13, zo_39, zo_16, zo_41, zo_19, zo_43, zo_22, zo_45, zo_25, zo_47, zo_28, zo_49, zo_31, zo_67, zo_52, zo_10, zo_54, zo_13, zo_56, zo_16, zo_58, zo_19, zo_60, zo_22, zo_62, zo_25, zo_64, zo_28, zo_66, zo_31, zo_78, zo_71, zo_70, zo_74, zo_73, zo_77, zo_76, zo_80]
set_option maxRecDepth 100000 in
noncomputable def zs_120 (n : Nat) : List zSh := [.inl (10, n), zo_0, zo_1, zo_2, zo_3, zo_4, zo_5, zo_6, zo_79, zo_33, zo_11, zo_10, zo_14, zo_13, zo_17, zo_16, zo_20, zo_19, zo_23, zo_22, zo_26, zo_25, zo_29, zo_28, zo_32, zo_31, zo_50, zo_35, zo_10, zo_37, zo_13, zo_39, zo_16, zo_41, zo_19, zo_43, zo_22, zo_45, zo_25, zo_47, zo_28, zo_49, zo_31, zo_67, zo_52, zo_10, zo_54, zo_13, zo_56, zo_16, zo_58, zo_19, zo_60, zo_22, zo_62, zo_25, zo_64, zo_28, zo_66, zo_31, zo_78, zo_71, zo_70, zo_74, zo_73, zo_77, zo_76, zo_80, zo_9]
set_option maxRecDepth 100000 in
noncomputable def zl_61 : List (Nat × Nat × Int) := (68, 0, 1) :: zl_60
set_option maxRecDepth 100000 in
noncomputable def zl_62 : List (Nat × Nat × Int) := (68, 1, 81) :: zl_61
set_option maxRecDepth 100000 in
noncomputable def zs_121 (n : Nat) : List zSh := [.inl (10, n), zo_0, zo_1, zo_2, zo_3, zo_4, zo_5, zo_6, zo_79, zo_33, zo_11, zo_10, zo_14, zo_13, zo_17, zo_16, zo_20, zo_19, zo_23, zo_22, zo_26, zo_25, zo_29, zo_28, zo_32, zo_31, zo_50, zo_35, zo_10, zo_37, zo_13, zo_39, zo_16, zo_41, zo_19, zo_43, zo_22, zo_45, zo_25, zo_47, zo_28, zo_49, zo_31, zo_67, zo_52, zo_10, zo_54, zo_13, zo_56, zo_16, zo_58, zo_19, zo_60, zo_22, zo_62, zo_25, zo_64, zo_28, zo_66, zo_31, zo_78, zo_71, zo_70, zo_74, zo_73, zo_77, zo_76, zo_80, zo_9, zo_81]
set_option maxRecDepth 100000 in
noncomputable def zs_122 (n : Nat) : List zSh := [.inl (10, n), zo_0, zo_1, zo_2, zo_3, zo_4, zo_5, zo_6, zo_79, zo_33, zo_11, zo_10, zo_14, zo_13, zo_17, zo_16, zo_20, zo_19, zo_23, zo_22, zo_26, zo_25, zo_29, zo_28, zo_32, zo_31, zo_50, zo_35, zo_10, zo_37, zo_13, zo_39, zo_16, zo_41, zo_19, zo_43, zo_22, zo_45, zo_25, zo_47, zo_28, zo_49, zo_31, zo_67, zo_52, zo_10, zo_54, zo_13, zo_56, zo_16, zo_58, zo_19, zo_60, zo_22, zo_62, zo_25, zo_64, zo_28, zo_66, zo_31, zo_78, zo_71, zo_70, zo_74, zo_73, zo_77, zo_76, zo_80, zo_82, zo_81]
set_option maxRecDepth 100000 in
noncomputable def zs_123 (n : Nat) : List zSh := [.inl (10, n), zo_0, zo_1, zo_2, zo_3, zo_4, zo_5, zo_6, zo_79, zo_33, zo_11, zo_10, zo_14, zo_13, zo_17, zo_16, zo_20, zo_19, zo_23, zo_22, zo_26, zo_25, zo_29, zo_28, zo_32, zo_31, zo_50, zo_35, zo_10, zo_37, zo_13, zo_39, zo_16, zo_41, zo_19, zo_43, zo_22, zo_45, zo_25, zo_47, zo_28, zo_49, zo_31, zo_67, zo_52, zo_10, zo_54, zo_13, zo_56, zo_16, zo_58, zo_19, zo_60, zo_22, zo_62, zo_25, zo_64, zo_28, zo_66, zo_31, zo_78, zo_71, zo_70, zo_74, zo_73, zo_77, zo_76, zo_83, zo_82, zo_81]
set_option maxRecDepth 100000 in
noncomputable def zs_124 (n : Nat) : List zSh := [.inl (10, n), zo_0, zo_1, zo_2, zo_3, zo_4, zo_5, zo_6, zo_79, zo_33, zo_11, zo_10, zo_14, zo_13, zo_17, zo_16, zo_20, zo_19, zo_23, zo_22, zo_26, zo_25, zo_29, zo_28, zo_32, zo_31, zo_50, zo_35, zo_10, zo_37, zo_13, zo_39, zo_16, zo_41, zo_19, zo_43, zo_22, zo_45, zo_25, zo_47, zo_28, zo_49, zo_31, zo_67, zo_52, zo_10, zo_54, zo_13, zo_56, zo_16, zo_58, zo_19, zo_60, zo_22, zo_62, zo_25, zo_64, zo_28, zo_66, zo_31, zo_78, zo_71, zo_70, zo_74, zo_73, zo_77, zo_76, zo_83, zo_82, zo_81, zo_9]
set_option maxRecDepth 100000 in
noncomputable def zl_63 : List (Nat × Nat × Int) := (70, 0, 80) :: zl_62
set_option maxRecDepth 100000 in
noncomputable def zl_64 : List (Nat × Nat × Int) := (70, 1, 1) :: zl_63
set_option maxRecDepth 100000 in
noncomputable def zs_125 (n : Nat) : List zSh := [.inl (10, n), zo_0, zo_1, zo_2, zo_3, zo_4, zo_5, zo_6, zo_79, zo_33, zo_11, zo_10, zo_14, zo_13, zo_17, zo_16, zo_20, zo_19, zo_23, zo_22, zo_26, zo_25, zo_29, zo_28, zo_32, zo_31, zo_50, zo_35, zo_10, zo_37, zo_13, zo_39, zo_16, zo_41, zo_19, zo_43, zo_22, zo_45, zo_25, zo_47, zo_28, zo_49, zo_31, zo_67, zo_52, zo_10, zo_54, zo_13, zo_56, zo_16, zo_58, zo_19, zo_60, zo_22, zo_62, zo_25, zo_64, zo_28, zo_66, zo_31, zo_78, zo_71, zo_70, zo_74, zo_73, zo_77, zo_76, zo_83, zo_82, zo_81, zo_9, zo_84]
set_option maxRecDepth 100000 in
noncomputable def zs_126 (n : Nat) : List zSh := [.inl (10, n), zo_0, zo_1, zo_2, zo_3, zo_4, zo_5, zo_6, zo_79, zo_33, zo_11, zo_10, zo_14, zo_13, zo_17, zo_16, zo_20, zo_19, zo_23, zo_22, zo_26, zo_25, zo_29, zo_28, zo_32, zo_31, zo_50, zo_35, zo_10, zo_37, zo_13, zo_39, zo_16, zo_41, zo_19, zo_43, zo_22, zo_45, zo_25, zo_47, zo_28, zo_49, zo_31, zo_67, zo_52, zo_10, zo_54, zo_13, zo_56, zo_16, zo_58, zo_19, zo_60, zo_22, zo_62, zo_25, zo_64, zo_28, zo_66, zo_31, zo_78, zo_71, zo_70, zo_74, zo_73, zo_77, zo_76, zo_83, zo_82, zo_81, zo_85, zo_84]
set_option maxRecDepth 100000 in
noncomputable def zs_127 (n : Nat) : List zSh := [.inl (10, n), zo_0, zo_1, zo_2, zo_3, zo_4, zo_5, zo_6, zo_79, zo_33, zo_11, zo_10, zo_14, zo_13, zo_17, zo_16, zo_20, zo_19, zo_23, zo_22, zo_26, zo_25, zo_29, zo_28, zo_32, zo_31, zo_50, zo_35, zo_10, zo_37, zo_13, zo_39, zo_16, zo_41, zo_19, zo_43, zo_22, zo_45, zo_25, zo_47, zo_28, zo_49, zo_31, zo_67, zo_52, zo_10, zo_54, zo_13, zo_56, zo_16, zo_58, zo_19, zo_60, zo_22, zo_62, zo_25, zo_64, zo_28, zo_66, zo_31, zo_78, zo_71, zo_70, zo_74, zo_73, zo_77, zo_76, .inr (7, [.inl (some 68), .inl (some 70), .inl none, .inr 0, .inr 0, .inr 0, .inr 0, .inr 0, .inr 0, .inr 0, .inr 0, .inr 2]), zo_82, zo_81, zo_85, zo_84]
set_option maxRecDepth 100000 in
noncomputable def zs_128 (n : Nat) : List zSh := [.inl (10, n), zo_0, zo_1, zo_2, zo_3, zo_4, zo_5, zo_6, zo_79, zo_33, zo_11, zo_10, zo_14, zo_13, zo_17, zo_16, zo_20, zo_19, zo_23, zo_22, zo_26, zo_25, zo_29, zo_28, zo_32, zo_31, zo_50, zo_35, zo_10, zo_37, zo_13, zo_39, zo_16, zo_41, zo_19, zo_43, zo_22, zo_45, zo_25, zo_47, zo_28, zo_49, zo_31, zo_67, zo_52, zo_10, zo_54, zo_13, zo_56, zo_16, zo_58, zo_19, zo_60, zo_22, zo_62, zo_25, zo_64, zo_28, zo_66, zo_31, zo_78, zo_71, zo_70, zo_74, zo_73, zo_77, zo_76, zo_86, zo_82, zo_81, zo_85, zo_84]
set_option maxRecDepth 100000 in
noncomputable def zs_129 (n : Nat) : List zSh := [.inl (10, n), zo_0, zo_1, zo_2, zo_3, zo_4, zo_5, zo_6, zo_87, zo_33, zo_11, zo_10, zo_14, zo_13, zo_17, zo_16, zo_20, zo_19, zo_23, zo_22, zo_26, zo_25, zo_29, zo_28, zo_32, zo_31, zo_50, zo_35, zo_10, zo_37, zo_13, zo_39, zo_16, zo_41, zo_19, zo_43, zo_22, zo_45, zo_25, zo_47, zo_28, zo_49, zo_31, zo_67, zo_52, zo_10, zo_54, zo_13, zo_56, zo_16, zo_58, zo_19, zo_60, zo_22, zo_62, zo_25, zo_64, zo_28, zo_66, zo_31, zo_78, zo_71, zo_70, zo_74, zo_73, zo_77, zo_76, zo_86, zo_82, zo_81, zo_85, zo_84]
set_option maxRecDepth 100000 in
noncomputable def zs_130 (n : Nat) : List zSh := [.inl (10, n), zo_0, zo_1, zo_2, zo_3, zo_4, zo_5, zo_6, zo_87, zo_33, zo_11, zo_10, zo_14, zo_13, zo_17, zo_16, zo_20, zo_19, zo_23, zo_22, zo_26, zo_25, zo_29, zo_28, zo_32, zo_31, zo_50, zo_35, zo_10, zo_37, zo_13, zo_39, zo_16, zo_41, zo_19, zo_43, zo_22, zo_45, zo_25, zo_47, zo_28, zo_49, zo_31, zo_67, zo_52, zo_10, zo_54, zo_13, zo_56, zo_16, zo_58, zo_19, zo_60, zo_22, zo_62, zo_25, zo_64, zo_28, zo_66, zo_31, zo_78, zo_71, zo_70, zo_74, zo_73, zo_77, zo_76, zo_86, zo_82, zo_81, zo_85, zo_84, .inr (5, [.inl none, .inl none, .inl none, .inr 0, .inr 0, .inr 2])]
set_option maxRecDepth 100000 in
noncomputable def zs_131 (n : Nat) : List zSh := [.inl (10, n), zo_0, zo_1, zo_2, zo_3, zo_4, zo_5, zo_6, zo_87, zo_33, zo_11, zo_10, zo_14, zo_13, zo_17, zo_16, zo_20, zo_19, zo_23, zo_22, zo_26, zo_25, zo_29, zo_28, zo_32, zo_31, zo_50, zo_35, zo_10, zo_37, zo_13, zo_39, zo_16, zo_41, zo_19, zo_43, zo_22, zo_45, zo_25, zo_47, zo_28, zo_49, zo_31, zo_67, zo_52, zo_10, zo_54, zo_13, zo_56, zo_16, zo_58, zo_19, zo_60, zo_22, zo_62, zo_25, zo_64, zo_28, zo_66, zo_31, zo_78, zo_71, zo_70, zo_74, zo_73, zo_77, zo_76, zo_86, zo_82, zo_81, zo_85, zo_84, .inr (5, [.inl none, .inl none, .inl none, .inr 0, .inr 0, .inr 2]), zo_88]
set_option maxRecDepth 100000 in
noncomputable def zs_132 (n : Nat) : List zSh := [.inl (10, n), zo_0, zo_1, zo_2, zo_3, zo_4, zo_5, zo_6, zo_87, zo_33, zo_11, zo_10, zo_14, zo_13, zo_17, zo_16, zo_20, zo_19, zo_23, zo_22, zo_26, zo_25, zo_29, zo_28, zo_32, zo_31, zo_50, zo_35, zo_10, zo_37, zo_13, zo_39, zo_16, zo_41, zo_19, zo_43, zo_22, zo_45, zo_25, zo_47, zo_28, zo_49, zo_31, zo_67, zo_52, zo_10, zo_54, zo_13, zo_56, zo_16, zo_58, zo_19, zo_60, zo_22, zo_62, zo_25, zo_64, zo_28, zo_66, zo_31, zo_78, zo_71, zo_70, zo_74, zo_73, zo_77, zo_76, zo_86, zo_82, zo_81, zo_85, zo_84, .inr (5, [.inl (some 73), .inl none, .inl none, .inr 0, .inr 0, .inr 2]), zo_88]
set_option maxRecDepth 100000 in
noncomputable def zs_133 (n : Nat) : List zSh := [.inl (10, n), zo_0, zo_1, zo_2, zo_3, zo_4, zo_5, zo_6, zo_87, zo_33, zo_11, zo_10, zo_14, zo_13, zo_17, zo_16, zo_20, zo_19, zo_23, zo_22, zo_26, zo_25, zo_29, zo_28, zo_32, zo_31, zo_50, zo_35, zo_10, zo_37, zo_13, zo_39, zo_16, zo_41, zo_19, zo_43, zo_22, zo_45, zo_25, zo_47, zo_28, zo_49, zo_31, zo_67, zo_52, zo_10, zo_54, zo_13, zo_56, zo_16, zo_58, zo_19, zo_60, zo_22, zo_62, zo_25, zo_64, zo_28, zo_66, zo_31, zo_78, zo_71, zo_70, zo_74, zo_73, zo_77, zo_76, zo_86, zo_82, zo_81, zo_85, zo_84, .inr (5, [.inl (some 73), .inl none, .inl none, .inr 0, .inr 0, .inr 2]), zo_88, zo_89]
set_option maxRecDepth 100000 in
noncomputable def zs_134 (n : Nat) : List zSh := [.inl (10, n), zo_0, zo_1, zo_2, zo_3, zo_4, zo_5, zo_6, zo_87, zo_33, zo_11, zo_10, zo_14, zo_13, zo_17, zo_16, zo_20, zo_19, zo_23, zo_22, zo_26, zo_25, zo_29, zo_28, zo_32, zo_31, zo_50, zo_35, zo_10, zo_37, zo_13, zo_39, zo_16, zo_41, zo_19, zo_43, zo_22, zo_45, zo_25, zo_47, zo_28, zo_49, zo_31, zo_67, zo_52, zo_10, zo_54, zo_13, zo_56, zo_16, zo_58, zo_19, zo_60, zo_22, zo_62, zo_25, zo_64, zo_28, zo_66, zo_31, zo_78, zo_71, zo_70, zo_74, zo_73, zo_77, zo_76, zo_86, zo_82, zo_81, zo_85, zo_84, .inr (5, [.inl (some 73), .inl (some 74), .inl none, .inr 0, .inr 0, .inr 2]), zo_88, zo_89]
set_option maxRecDepth 100000 in
noncomputable def zs_135 (n : Nat) : List zSh := [.inl (10, n), zo_0, zo_1, zo_2, zo_3, zo_4, zo_5, zo_6, zo_87, zo_33, zo_11, zo_10, zo_14, zo_13, zo_17, zo_16, zo_20, zo_19, zo_23, zo_22, zo_26, zo_25, zo_29, zo_28, zo_32, zo_31, zo_50, zo_35, zo_10, zo_37, zo_13, zo_39, zo_16, zo_41, zo_19, zo_43, zo_22, zo_45, zo_25, zo_47, zo_28, zo_49, zo_31, zo_67, zo_52, zo_10, zo_54, zo_13, zo_56, zo_16, zo_58, zo_19, zo_60, zo_22, zo_62, zo_25, zo_64, zo_28, zo_66, zo_31, zo_78, zo_71, zo_70, zo_74, zo_73, zo_77, zo_76, zo_86, zo_82, zo_81, zo_85, zo_84, .inr (5, [.inl (some 73), .inl (some 74), .inl none, .inr 0, .inr 0, .inr 2]), zo_88, zo_89, zo_90]
set_option maxRecDepth 100000 in
noncomputable def zs_136 (n : Nat) : List zSh := [.inl (10, n), zo_0, zo_1, zo_2, zo_3, zo_4, zo_5, zo_6, zo_87, zo_33, zo_11, zo_10, zo_14, zo_13, zo_17, zo_16, zo_20, zo_19, zo_23, zo_22, zo_26, zo_25, zo_29, zo_28, zo_32, zo_31, zo_50, zo_35, zo_10, zo_37, zo_13, zo_39, zo_16, zo_41, zo_19, zo_43, zo_22, zo_45, zo_25, zo_47, zo_28, zo_49, zo_31, zo_67, zo_52, zo_10, zo_54, zo_13, zo_56, zo_16, zo_58, zo_19, zo_60, zo_22, zo_62, zo_25, zo_64, zo_28, zo_66, zo_31, zo_78, zo_71, zo_70, zo_74, zo_73, zo_77, zo_76, zo_86, zo_82, zo_81, zo_85, zo_84, zo_91, zo_88, zo_89, zo_90]
set_option maxRecDepth 100000 in
noncomputable def zs_137 (n : Nat) : List zSh := [.inl (10, n), zo_0, zo_1, zo_2, zo_3, zo_4, zo_5, zo_6, zo_92, zo_33, zo_11, zo_10, zo_14, zo_13, zo_17, zo_16, zo_20, zo_19, zo_23, zo_22, zo_26, zo_25, zo_29, zo_28, zo_32, zo_31, zo_50, zo_35, zo_10, zo_37, zo_13, zo_39, zo_16, zo_41, zo_19, zo_43, zo_22, zo_45, zo_25, zo_47, zo_28, zo_49, zo_31, zo_67, zo_52, zo_10, zo_54, zo_13, zo_56, zo_16, zo_58, zo_19, zo_60, zo_22, zo_62, zo_25, zo_64, zo_28, zo_66, zo_31, zo_78, zo_71, zo_70, zo_74, zo_73, zo_77, zo_76, zo_86, zo_82, zo_81, zo_85, zo_84, zo_91, zo_88, zo_89, zo_90]
set_option maxRecDepth 100000 in
noncomputable def zs_138 (n : Nat) : List zSh := [.inl (10, n), zo_0, zo_1, zo_2, zo_3, zo_4, zo_5, zo_6, zo_92, zo_33, zo_11, zo_10, zo_14, zo_13, zo_17, zo_16, zo_20, zo_19, zo_23, zo_22, zo_26, zo_25, zo_29, zo_28, zo_32, zo_31, zo_50, zo_35, zo_10, zo_37, zo_13, zo_39, zo_16, zo_41, zo_19, zo_43, zo_22, zo_45, zo_25, zo_47, zo_28, zo_49, zo_31, zo_67, zo_52, zo_10, zo_54, zo_13, zo_56, zo_16, zo_58, zo_19, zo_60, zo_22, zo_62, zo_25, zo_64, zo_28, zo_66, zo_31, zo_78, zo_71, zo_70, zo_74, zo_73, zo_77, zo_76, zo_86, zo_82, zo_81, zo_85, zo_84, zo_91, zo_88, zo_89, zo_90, zo_93]
set_option maxRecDepth 100000 in
noncomputable def zs_139 (n : Nat) : List zSh := [.inl (10, n), zo_0, zo_1, zo_2, zo_3, zo_4, zo_5, zo_6, zo_92, zo_33, zo_11, zo_10, zo_14, zo_13, zo_17, zo_16, zo_20, zo_19, zo_23, zo_22, zo_26, zo_25, zo_29, zo_28, zo_32, zo_31, zo_50, zo_35, zo_10, zo_37, zo_13, zo_39, zo_16, zo_41, zo_19, zo_43, zo_22, zo_45, zo_25, zo_47, zo_28, zo_49, zo_31, zo_67, zo_52, zo_10, zo_54, zo_13, zo_56, zo_16, zo_58, zo_19, zo_60, zo_22, zo_62, zo_25, zo_64, zo_28, zo_66, zo_31, zo_78, zo_71, zo_70, zo_74, zo_73, zo_77, zo_76, zo_86, zo_82, zo_81, zo_85, zo_84, zo_91, zo_88, zo_89, zo_90, zo_93, zo_9]
set_option maxRecDepth 100000 in
noncomputable def zl_65 : List (Nat × Nat × Int) := (77, 0, 1) :: zl_64
set_option maxRecDepth 100000 in
noncomputable def zl_66 : List (Nat × Nat × Int) := (77, 1, 164) :: zl_65
set_option maxRecDepth 100000 in
noncomputable def zs_140 (n : Nat) : List zSh := [.inl (10, n), zo_0, zo_1, zo_2, zo_3, zo_4, zo_5, zo_6, zo_92, zo_33, zo_11, zo_10, zo_14, zo_13, zo_17, zo_16, zo_20, zo_19, zo_23, zo_22, zo_26, zo_25, zo_29, zo_28, zo_32, zo_31, zo_50, zo_35, zo_10, zo_37, zo_13, zo_39, zo_16, zo_41, zo_19, zo_43, zo_22, zo_45, zo_25, zo_47, zo_28, zo_49, zo_31, zo_67, zo_52, zo_10, zo_54, zo_13, zo_56, zo_16, zo_58, zo_19, zo_60, zo_22, zo_62, zo_25, zo_64, zo_28, zo_66, zo_31, zo_78, zo_71, zo_70, zo_74, zo_73, zo_77, zo_76, zo_86, zo_82, zo_81, zo_85, zo_84, zo_91, zo_88, zo_89, zo_90, zo_93, zo_9, zo_94]
set_option maxRecDepth 100000 in
noncomputable def zs_141 (n : Nat) : List zSh := [.inl (10, n), zo_0, zo_1, zo_2, zo_3, zo_4, zo_5, zo_6, zo_92, zo_33, zo_11, zo_10, zo_14, zo_13, zo_17, zo_16, zo_20, zo_19, zo_23, zo_22, zo_26, zo_25, zo_29, zo_28, zo_32, zo_31, zo_50, zo_35, zo_10, zo_37, zo_13, zo_39, zo_16, zo_41, zo_19, zo_43, zo_22, zo_45, zo_25, zo_47, zo_28, zo_49, zo_31, zo_67, zo_52, zo_10, zo_54, zo_13, zo_56, zo_16, zo_58, zo_19, zo_60, zo_22, zo_62, zo_25, zo_64, zo_28, zo_66, zo_31, zo_78, zo_71, zo_70, zo_74, zo_73, zo_77, zo_76, zo_86, zo_82, zo_81, zo_85, zo_84, zo_91, zo_88, zo_89, zo_90, zo_93, zo_95, zo_94]
set_option maxRecDepth 100000 in
noncomputable def zs_142 (n : Nat) : List zSh := [.inl (10, n), zo_0, zo_1, zo_2, zo_3, zo_4, zo_5, zo_6, zo_92, zo_33, zo_11, zo_10, zo_14, zo_13, zo_17, zo_16, zo_20, zo_19, zo_23, zo_22, zo_26, zo_25, zo_29, zo_28, zo_32, zo_31, zo_50, zo_35, zo_10, zo_37, zo_13, zo_39, zo_16, zo_41, zo_19, zo_43, zo_22, zo_45, zo_25, zo_47, zo_28, zo_49, zo_31, zo_67, zo_52, zo_10, zo_54, zo_13, zo_56, zo_16, zo_58, zo_19, zo_60, zo_22, zo_62, zo_25, zo_64, zo_28, zo_66, zo_31, zo_78, zo_71, zo_70, zo_74, zo_73, zo_77, zo_76, zo_86, zo_82, zo_81, zo_85, zo_84, zo_91, zo_88, zo_89, zo_90, zo_96, zo_95, zo_94]
set_option maxRecDepth 100000 in
noncomputable def zs_143 (n : Nat) : List zSh := [.inl (10, n), zo_0, zo_1, zo_2, zo_3, zo_4, zo_5, zo_6, zo_92, zo_33, zo_11, zo_10, zo_14, zo_13, zo_17, zo_16, zo_20, zo_19, zo_23, zo_22, zo_26, zo_25, zo_29, zo_28, zo_32, zo_31, zo_50, zo_35, zo_10, zo_37, zo_13, zo_39, zo_16, zo_41, zo_19, zo_43, zo_22, zo_45, zo_25, zo_47, zo_28, zo_49, zo_31, zo_67, zo_52, zo_10, zo_54, zo_13, zo_56, zo_16, zo_58, zo_19, zo_60, zo_22, zo_62, zo_25, zo_64, zo_28, zo_66, zo_31, zo_78, zo_71, zo_70, zo_74, zo_73, zo_77, zo_76, zo_86, zo_82, zo_81, zo_85, zo_84, zo_91, zo_88, zo_89, zo_90, zo_96, zo_95, zo_94, zo_9]
set_option maxRecDepth 100000 in
noncomputable def zl_67 : List (Nat × Nat × Int) := (79, 0, 20) :: zl_66
set_option maxRecDepth 100000 in
noncomputable def zl_68 : List (Nat × Nat × Int) := (79, 1, 3) :: zl_67
set_option maxRecDepth 100000 in
noncomputable def zs_144 (n : Nat) : List zSh := [.inl (10, n), zo_0, zo_1, zo_2, zo_3, zo_4, zo_5, zo_6, zo_92, zo_33, zo_11, zo_10, zo_14, zo_13, zo_17, zo_16, zo_20, zo_19, zo_23, zo_22, zo_26, zo_25, zo_29, zo_28, zo_32, zo_31, zo_50, zo_35, zo_10, zo_37, zo_13, zo_39, zo_16, zo_41, zo_19, zo_43, zo_22, zo_45, zo_25, zo_47, zo_28, zo_49, zo_31, zo_67, zo_52, zo_10, zo_54, zo_13, zo_56, zo_16, zo_58, zo_19, zo_60, zo_22, zo_62, zo_25, zo_64, zo_28, zo_66, zo_31, zo_78, zo_71, zo_70, zo_74, zo_73, zo_77, zo_76, zo_86, zo_82, zo_81, zo_85, zo_84, zo_91, zo_88, zo_89, zo_90, zo_96, zo_95, zo_94, zo_9, zo_13]
set_option maxRecDepth 100000 in
noncomputable def zs_145 (n : Nat) : List zSh := [.inl (10, n), zo_0, zo_1, zo_2, zo_3, zo_4, zo_5, zo_6, zo_92, zo_33, zo_11, zo_10, zo_14, zo_13, zo_17, zo_16, zo_20, zo_19, zo_23, zo_22, zo_26, zo_25, zo_29, zo_28, zo_32, zo_31, zo_50, zo_35, zo_10, zo_37, zo_13, zo_39, zo_16, zo_41, zo_19, zo_43, zo_22, zo_45, zo_25, zo_47, zo_28, zo_49, zo_31, zo_67, zo_52, zo_10, zo_54, zo_13, zo_56, zo_16, zo_58, zo_19, zo_60, zo_22, zo_62, zo_25, zo_64, zo_28, zo_66, zo_31, zo_78, zo_71, zo_70, zo_74, zo_73, zo_77, zo_76, zo_86, zo_82, zo_81, zo_85, zo_84, zo_91, zo_88, zo_89, zo_90, zo_96, zo_95, zo_94, zo_97, zo_13]
set_option maxRecDepth 100000 in
noncomputable def zs_146 (n : Nat) : List zSh := [.inl (10, n), zo_0, zo_1, zo_2, zo_3, zo_4, zo_5, zo_6, zo_92, zo_33, zo_11, zo_10, zo_14, zo_13, zo_17, zo_16, zo_20, zo_19, zo_23, zo_22, zo_26, zo_25, zo_29, zo_28, zo_32, zo_31, zo_50, zo_35, zo_10, zo_37, zo_13, zo_39, zo_16, zo_41, zo_19, zo_43, zo_22, zo_45, zo_25, zo_47, zo_28, zo_49, zo_31, zo_67, zo_52, zo_10, zo_54, zo_13, zo_56, zo_16, zo_58, zo_19, zo_60, zo_22, zo_62, zo_25, zo_64, zo_28, zo_66, zo_31, zo_78, zo_71, zo_70, zo_74, zo_73, zo_77, zo_76, zo_86, zo_82, zo_81, zo_85, zo_84, zo_91, zo_88, zo_89, zo_90, .inr (3, [.inl none, .inl none, .inl none, .inl (some 77), .inl (some 79)]), zo_95, zo_94, zo_97, zo_13]
set_option maxRecDepth 100000 in
noncomputable def zs_147 (n : Nat) : List zSh := [.inl (10, n), zo_0, zo_1, zo_2, zo_3, zo_4, zo_5, zo_6, zo_92, zo_33, zo_11, zo_10, zo_14, zo_13, zo_17, zo_16, zo_20, zo_19, zo_23, zo_22, zo_26, zo_25, zo_29, zo_28, zo_32, zo_31, zo_50, zo_35, zo_10, zo_37, zo_13, zo_39, zo_16, zo_41, zo_19, zo_43, zo_22, zo_45, zo_25, zo_47, zo_28, zo_49, zo_31, zo_67, zo_52, zo_10, zo_54, zo_13, zo_56, zo_16, zo_58, zo_19, zo_60, zo_22, zo_62, zo_25, zo_64, zo_28, zo_66, zo_31, zo_78, zo_71, zo_70, zo_74, zo_73, zo_77, zo_76, zo_86, zo_82, zo_81, zo_85, zo_84, zo_91, zo_88, zo_89, zo_90, .inr (3, [.inl (some 9), .inl none, .inl none, .inl (some 77), .inl (some 79)]), zo_95, zo_94, zo_97, zo_13]
set_option maxRecDepth 100000 in
noncomputable def zs_148 (n : Nat) : List zSh := [.inl (10, n), zo_0, zo_1, zo_2, zo_3, zo_4, zo_5, zo_6, zo_92, zo_33, zo_11, zo_10, zo_14, zo_13, zo_17, zo_16, zo_20, zo_19, zo_23, zo_22, zo_26, zo_25, zo_29, zo_28, zo_32, zo_31, zo_50, zo_35, zo_10, zo_37, zo_13, zo_39, zo_16, zo_41, zo_19, zo_43, zo_22, zo_45, zo_25, zo_47, zo_28, zo_49, zo_31, zo_67, zo_52, zo_10, zo_54, zo_13, zo_56, zo_16, zo_58, zo_19, zo_60, zo_22, zo_62, zo_25, zo_64, zo_28, zo_66, zo_31, zo_78, zo_71, zo_70, zo_74, zo_73, zo_77, zo_76, zo_86, zo_82, zo_81, zo_85, zo_84, zo_91, zo_88, zo_89, zo_90, .inr (3, [.inl (some 9), .inl (some 60), .inl none, .inl (some 77), .inl (some 79)]), zo_95, zo_94, zo_97, zo_13]
set_option maxRecDepth 100000 in
noncomputable def zs_149 (n : Nat) : List zSh := [.inl (10, n), zo_0, zo_1, zo_2, zo_3, zo_4, zo_5, zo_6, zo_92, zo_33, zo_11, zo_10, zo_14, zo_13, zo_17, zo_16, zo_20, zo_19, zo_23, zo_22, zo_26, zo_25, zo_29, zo_28, zo_32, zo_31, zo_50, zo_35, zo_10, zo_37, zo_13, zo_39, zo_16, zo_41, zo_19, zo_43, zo_22, zo_45, zo_25, zo_47, zo_28, zo_49, zo_31, zo_67, zo_52, zo_10, zo_54, zo_13, zo_56, zo_16, zo_58, zo_19, zo_60, zo_22, zo_62, zo_25, zo_64, zo_28, zo_66, zo_31, zo_78, zo_71, zo_70, zo_74, zo_73, zo_77, zo_76, zo_86, zo_82, zo_81, zo_85, zo_84, zo_91, zo_88, zo_89, zo_90, zo_98, zo_95, zo_94, zo_97, zo_13]
set_option maxRecDepth 100000 in
noncomputable def zl_69 : List (Nat × Nat × Int) := (78, 2, 5) :: zl_68
set_option maxRecDepth 100000 in
noncomputable def zl_70 : List (Nat × Nat × Int) := (78, 3, (-8)) :: zl_69
set_option maxRecDepth 100000 in
noncomputable def zl_71 : List (Nat × Nat × Int) := (78, 4, 39) :: zl_70
set_option maxRecDepth 100000 in
noncomputable def zl_72 : List (Nat × Nat × Int) := (78, 5, (-17)) :: zl_71
set_option maxRecDepth 100000 in
noncomputable def zl_73 : List (Nat × Nat × Int) := (78, 6, (-11)) :: zl_72
set_option maxRecDepth 100000 in
noncomputable def zl_74 : List (Nat × Nat × Int) := (78, 7, (-5)) :: zl_73
set_option maxRecDepth 100000 in
noncomputable def zl_75 : List (Nat × Nat × Int) := (78, 83, 3) :: zl_74
set_option maxRecDepth 100000 in
noncomputable def zl_76 : List (Nat × Nat × Int) := (78, 84, (-13)) :: zl_75
set_option maxRecDepth 100000 in
noncomputable def zl_77 : List (Nat × Nat × Int) := (78, 85, 10) :: zl_76
set_option maxRecDepth 100000 in
noncomputable def zl_78 : List (Nat × Nat × Int) := (78, 86, (-22)) :: zl_77
set_option maxRecDepth 100000 in
noncomputable def zs_150 (n : Nat) : List zSh := [.inl (10, n), zo_0, zo_1, zo_2, zo_3, zo_4, zo_5, zo_6, zo_99, zo_33, zo_11, zo_10, zo_14, zo_13, zo_17, zo_16, zo_20, zo_19, zo_23, zo_22, zo_26, zo_25, zo_29, zo_28, zo_32, zo_31, zo_50, zo_35, zo_10, zo_37, zo_13, zo_39, zo_16, zo_41, zo_19, zo_43, zo_22, zo_45, zo_25, zo_47, zo_28, zo_49, zo_31, zo_67, zo_52, zo_10, zo_54, zo_13, zo_56, zo_16, zo_58, zo_19, zo_60, zo_22, zo_62, zo_25, zo_64, zo_28, zo_66, zo_31, zo_78, zo_71, zo_70, zo_74, zo_73, zo_77, zo_76, zo_86, zo_82, zo_81, zo_85, zo_84, zo_91, zo_88, zo_89, zo_90, zo_98, zo_95, zo_94, zo_97, zo_13]
set_option maxRecDepth 100000 in
noncomputable def zs_151 (n : Nat) : List zSh := [.inl (10, n), zo_0, zo_1, zo_2, zo_3, zo_4, zo_5, zo_6, zo_99, zo_33, zo_11, zo_10, zo_14, zo_13, zo_17, zo_16, zo_20, zo_19, zo_23, zo_22, zo_26, zo_25, zo_29, zo_28, zo_32, zo_31, zo_50, zo_35, zo_10, zo_37, zo_13, zo_39, zo_16, zo_41, zo_19, zo_43, zo_22, zo_45, zo_25, zo_47, zo_28, zo_49, zo_31, zo_67, zo_52, zo_10, zo_54, zo_13, zo_56, zo_16, zo_58, zo_19, zo_60, zo_22, zo_62, zo_25, zo_64, zo_28, zo_66, zo_31, zo_78, zo_71, zo_70, zo_74, zo_73, zo_77, zo_76, zo_86, zo_82, zo_81, zo_85, zo_84, zo_91, zo_88, zo_89, zo_90, zo_98, zo_95, zo_94, zo_97, zo_13, .inr (9, [.inl none, .inl none, .inl none, .inl none, .inr 0, .inr 0])]
set_option maxRecDepth 100000 in
noncomputable def zs_152 (n : Nat) : List zSh := [.inl (10, n), zo_0, zo_1, zo_2, zo_3, zo_4, zo_5, zo_6, zo_99, zo_33, zo_11, zo_10, zo_14, zo_13, zo_17, zo_16, zo_20, zo_19, zo_23, zo_22, zo_26, zo_25, zo_29, zo_28, zo_32, zo_31, zo_50, zo_35, zo_10, zo_37, zo_13, zo_39, zo_16, zo_41, zo_19, zo_43, zo_22, zo_45, zo_25, zo_47, zo_28, zo_49, zo_31, zo_67, zo_52, zo_10, zo_54, zo_13, zo_56, zo_16, zo_58, zo_19, zo_60, zo_22, zo_62, zo_25, zo_64, zo_28, zo_66, zo_31, zo_78, zo_71, zo_70, zo_74, zo_73, zo_77, zo_76, zo_86, zo_82, zo_81, zo_85, zo_84, zo_91, zo_88, zo_89, zo_90, zo_98, zo_95, zo_94, zo_97, zo_13, .inr (9, [.inl none, .inl none, .inl none, .inl none, .inr 0, .inr 0]), zo_100]
set_option maxRecDepth 100000 in
noncomputable def zs_153 (n : Nat) : List zSh := [.inl (10, n), zo_0, zo_1, zo_2, zo_3, zo_4, zo_5, zo_6, zo_99, zo_33, zo_11, zo_10, zo_14, zo_13, zo_17, zo_16, zo_20, zo_19, zo_23, zo_22, zo_26, zo_25, zo_29, zo_28, zo_32, zo_31, zo_50, zo_35, zo_10, zo_37, zo_13, zo_39, zo_16, zo_41, zo_19, zo_43, zo_22, zo_45, zo_25, zo_47, zo_28, zo_49, zo_31, zo_67, zo_52, zo_10, zo_54, zo_13, zo_56, zo_16, zo_58, zo_19, zo_60, zo_22, zo_62, zo_25, zo_64, zo_28, zo_66, zo_31, zo_78, zo_71, zo_70, zo_74, zo_73, zo_77, zo_76, zo_86, zo_82, zo_81, zo_85, zo_84, zo_91, zo_88, zo_89, zo_90, zo_98, zo_95, zo_94, zo_97, zo_13, zo_101, zo_100]
set_option maxRecDepth 100000 in
noncomputable def zs_154 (n : Nat) : List zSh := [.inl (10, n), zo_0, zo_1, zo_2, zo_3, zo_4, zo_5, zo_6, zo_99, zo_33, zo_11, zo_10, zo_14, zo_13, zo_17, zo_16, zo_20, zo_19, zo_23, zo_22, zo_26, zo_25, zo_29, zo_28, zo_32, zo_31, zo_50, zo_35, zo_10, zo_37, zo_13, zo_39, zo_16, zo_41, zo_19, zo_43, zo_22, zo_45, zo_25, zo_47, zo_28, zo_49, zo_31, zo_67, zo_52, zo_10, zo_54, zo_13, zo_56, zo_16, zo_58, zo_19, zo_60, zo_22, zo_62, zo_25, zo_64, zo_28, zo_66, zo_31, zo_78, zo_71, zo_70, zo_74, zo_73, zo_77, zo_76, zo_86, zo_82, zo_81, zo_85, zo_84, zo_91, zo_88, zo_89, zo_90, zo_98, zo_95, zo_94, zo_97, zo_13, zo_101, zo_100, zo_9]
set_option maxRecDepth 100000 in
noncomputable def zl_79 : List (Nat × Nat × Int) := (83, 0, 14) :: zl_78
set_option maxRecDepth 100000 in
noncomputable def zl_80 : List (Nat × Nat × Int) := (83, 1, 1) :: zl_79
set_option maxRecDepth 100000 in
noncomputable def zs_155 (n : Nat) : List zSh := [.inl (10, n), zo_0, zo_1, zo_2, zo_3, zo_4, zo_5, zo_6, zo_99, zo_33, zo_11, zo_10, zo_14, zo_13, zo_17, zo_16, zo_20, zo_19, zo_23, zo_22, zo_26, zo_25, zo_29, zo_28, zo_32, zo_31, zo_50, zo_35, zo_10, zo_37, zo_13, zo_39, zo_16, zo_41, zo_19, zo_43, zo_22, zo_45, zo_25, zo_47, zo_28, zo_49, zo_31, zo_67, zo_52, zo_10, zo_54, zo_13, zo_56, zo_16, zo_58, zo_19, zo_60, zo_22, zo_62, zo_25, zo_64, zo_28, zo_66, zo_31, zo_78, zo_71, zo_70, zo_74, zo_73, zo_77, zo_76, zo_86, zo_82, zo_81, zo_85, zo_84, zo_91, zo_88, zo_89, zo_90, zo_98, zo_95, zo_94, zo_97, zo_13, zo_101, zo_100, zo_9, zo_90]
set_option maxRecDepth 100000 in
noncomputable def zs_156 (n : Nat) : List zSh := [.inl (10, n), zo_0, zo_1, zo_2, zo_3, zo_4, zo_5, zo_6, zo_99, zo_33, zo_11, zo_10, zo_14, zo_13, zo_17, zo_16, zo_20, zo_19, zo_23, zo_22, zo_26, zo_25, zo_29, zo_28, zo_32, zo_31, zo_50, zo_35, zo_10, zo_37, zo_13, zo_39, zo_16, zo_41, zo_19, zo_43, zo_22, zo_45, zo_25, zo_47, zo_28, zo_49, zo_31, zo_67, zo_52, zo_10, zo_54, zo_13, zo_56, zo_16, zo_58, zo_19, zo_60, zo_22, zo_62, zo_25, zo_64, zo_28, zo_66, zo_31, zo_78, zo_71, zo_70, zo_74, zo_73, zo_77, zo_76, zo_86, zo_82, zo_81, zo_85, zo_84, zo_91, zo_88, zo_89, zo_90, zo_98, zo_95, zo_94, zo_97, zo_13, zo_101, zo_100, zo_102, zo_90]
set_option maxRecDepth 100000 in
noncomputable def zs_157 (n : Nat) : List zSh := [.inl (10, n), zo_0, zo_1, zo_2, zo_3, zo_4, zo_5, zo_6, zo_99, zo_33, zo_11, zo_10, zo_14, zo_13, zo_17, zo_16, zo_20, zo_19, zo_23, zo_22, zo_26, zo_25, zo_29, zo_28, zo_32, zo_31, zo_50, zo_35, zo_10, zo_37, zo_13, zo_39, zo_16, zo_41, zo_19, zo_43, zo_22, zo_45, zo_25, zo_47, zo_28, zo_49, zo_31, zo_67, zo_52, zo_10, zo_54, zo_13, zo_56, zo_16, zo_58, zo_19, zo_60, zo_22, zo_62, zo_25, zo_64, zo_28, zo_66, zo_31, zo_78, zo_71, zo_70, zo_74, zo_73, zo_77, zo_76, zo_86, zo_82, zo_81, zo_85, zo_84, zo_91, zo_88, zo_89, zo_90, zo_98, zo_95, zo_94, zo_97, zo_13, zo_103, zo_100, zo_102, zo_90]
set_option maxRecDepth 100000 in
noncomputable def zs_158 (n : Nat) : List zSh := [.inl (10, n), zo_0, zo_1, zo_2, zo_3, zo_4, zo_5, zo_6, zo_99, zo_33, zo_11, zo_10, zo_14, zo_13, zo_17, zo_16, zo_20, zo_19, zo_23, zo_22, zo_26, zo_25, zo_29, zo_28, zo_32, zo_31, zo_50, zo_35, zo_10, zo_37, zo_13, zo_39, zo_16, zo_41, zo_19, zo_43, zo_22, zo_45, zo_25, zo_47, zo_28, zo_49, zo_31, zo_67, zo_52, zo_10, zo_54, zo_13, zo_56, zo_16, zo_58, zo_19, zo_60, zo_22, zo_62, zo_25, zo_64, zo_28, zo_66, zo_31, zo_78, zo_71, zo_70, zo_74, zo_73, zo_77, zo_76, zo_86, zo_82, zo_81, zo_85, zo_84, zo_91, zo_88, zo_89, zo_90, zo_98, zo_95, zo_94, zo_97, zo_13, zo_103, zo_100, zo_102, zo_90, zo_9]
set_option maxRecDepth 100000 in
noncomputable def zl_81 : List (Nat × Nat × Int) := (85, 0, 8) :: zl_80
set_option maxRecDepth 100000 in
noncomputable def zl_82 : List (Nat × Nat × Int) := (85, 1, 1) :: zl_81
set_option maxRecDepth 100000 in
noncomputable def zs_159 (n : Nat) : List zSh := [.inl (10, n), zo_0, zo_1, zo_2, zo_3, zo_4, zo_5, zo_6, zo_99, zo_33, zo_11, zo_10, zo_14, zo_13, zo_17, zo_16, zo_20, zo_19, zo_23, zo_22, zo_26, zo_25, zo_29, zo_28, zo_32, zo_31, zo_50, zo_35, zo_10, zo_37, zo_13, zo_39, zo_16, zo_41, zo_19, zo_43, zo_22, zo_45, zo_25, zo_47, zo_28, zo_49, zo_31, zo_67, zo_52, zo_10, zo_54, zo_13, zo_56, zo_16, zo_58, zo_19, zo_60, zo_22, zo_62, zo_25, zo_64, zo_28, zo_66, zo_31, zo_78, zo_71, zo_70, zo_74, zo_73, zo_77, zo_76, zo_86, zo_82, zo_81, zo_85, zo_84, zo_91, zo_88, zo_89, zo_90, zo_98, zo_95, zo_94, zo_97, zo_13, zo_103, zo_100, zo_102, zo_90, zo_9, zo_16]
set_option maxRecDepth 100000 in
noncomputable def zs_160 (n : Nat) : List zSh := [.inl (10, n), zo_0, zo_1, zo_2, zo_3, zo_4, zo_5, zo_6, zo_99, zo_33, zo_11, zo_10, zo_14, zo_13, zo_17, zo_16, zo_20, zo_19, zo_23, zo_22, zo_26, zo_25, zo_29, zo_28, zo_32, zo_31, zo_50, zo_35, zo_10, zo_37, zo_13, zo_39, zo_16, zo_41, zo_19, zo_43, zo_22, zo_45, zo_25, zo_47, zo_28, zo_49, zo_31, zo_67, zo_52, zo_10, zo_54, zo_13, zo_56, zo_16, zo_58, zo_19, zo_60, zo_22, zo_62, zo_25, zo_64, zo_28, zo_66, zo_31, zo_78, zo_71, zo_70, zo_74, zo_73, zo_77, zo_76, zo_86, zo_82, zo_81, zo_85, zo_84, zo_91, zo_88, zo_89, zo_90, zo_98, zo_95, zo_94, zo_97, zo_13, zo_103, zo_100, zo_102, zo_90, zo_104, zo_16]
set_option maxRecDepth 100000 in
noncomputable def zs_161 (n : Nat) : List zSh := [.inl (10, n), zo_0, zo_1, zo_2, zo_3, zo_4, zo_5, zo_6, zo_99, zo_33, zo_11, zo_10, zo_14, zo_13, zo_17, zo_16, zo_20, zo_19, zo_23, zo_22, zo_26, zo_25, zo_29, zo_28, zo_32, zo_31, zo_50, zo_35, zo_10, zo_37, zo_13, zo_39, zo_16, zo_41, zo_19, zo_43, zo_22, zo_45, zo_25, zo_47, zo_28, zo_49, zo_31, zo_67, zo_52, zo_10, zo_54, zo_13, zo_56, zo_16, zo_58, zo_19, zo_60, zo_22, zo_62, zo_25, zo_64, zo_28, zo_66, zo_31, zo_78, zo_71, zo_70, zo_74, zo_73, zo_77, zo_76, zo_86, zo_82, zo_81, zo_85, zo_84, zo_91, zo_88, zo_89, zo_90, zo_98, zo_95, zo_94, zo_97, zo_13, .inr (9, [.inl none, .inl (some 82), .inl (some 83), .inl (some 85), .inr 0, .inr 0]), zo_100, zo_102, zo_90, zo_104, zo_16]
set_option maxRecDepth 100000 in
noncomputable def zs_162 (n : Nat) : List zSh := [.inl (10, n), zo_0, zo_1, zo_2, zo_3, zo_4, zo_5, zo_6, zo_99, zo_33, zo_11, zo_10, zo_14, zo_13, zo_17, zo_16, zo_20, zo_19, zo_23, zo_22, zo_26, zo_25, zo_29, zo_28, zo_32, zo_31, zo_50, zo_35, zo_10, zo_37, zo_13, zo_39, zo_16, zo_41, zo_19, zo_43, zo_22, zo_45, zo_25, zo_47, zo_28, zo_49, zo_31, zo_67, zo_52, zo_10, zo_54, zo_13, zo_56, zo_16, zo_58, zo_19, zo_60, zo_22, zo_62, zo_25, zo_64, zo_28, zo_66, zo_31, zo_78, zo_71, zo_70, zo_74, zo_73, zo_77, zo_76, zo_86, zo_82, zo_81, zo_85, zo_84, zo_91, zo_88, zo_89, zo_90, zo_98, zo_95, zo_94, zo_97, zo_13, zo_105, zo_100, zo_102, zo_90, zo_104, zo_16]
set_option maxRecDepth 100000 in
noncomputable def zs_163 (n : Nat) : List zSh := [.inl (10, n), zo_0, zo_1, zo_2, zo_3, zo_4, zo_5, zo_6, zo_106, zo_33, zo_11, zo_10, zo_14, zo_13, zo_17, zo_16, zo_20, zo_19, zo_23, zo_22, zo_26, zo_25, zo_29, zo_28, zo_32, zo_31, zo_50, zo_35, zo_10, zo_37, zo_13, zo_39, zo_16, zo_41, zo_19, zo_43, zo_22, zo_45, zo_25, zo_47, zo_28, zo_49, zo_31, zo_67, zo_52, zo_10, zo_54, zo_13, zo_56, zo_16, zo_58, zo_19, zo_60, zo_22, zo_62, zo_25, zo_64, zo_28, zo_66, zo_31, zo_78, zo_71, zo_70, zo_74, zo_73, zo_77, zo_76, zo_86, zo_82, zo_81, zo_85, zo_84, zo_91, zo_88, zo_89, zo_90, zo_98, zo_95, zo_94, zo_97, zo_13, zo_105, zo_100, zo_102, zo_90, zo_104, zo_16]
set_option maxRecDepth 100000 in
noncomputable def zs_164 (n : Nat) : List zSh := [.inl (10, n), zo_0, zo_1, zo_2, zo_3, zo_4, zo_5, zo_6, zo_106, zo_33, zo_11, zo_10, zo_14, zo_13, zo_17, zo_16, zo_20, zo_19, zo_23, zo_22, zo_26, zo_25, zo_29, zo_28, zo_32, zo_31, zo_50, zo_35, zo_10, zo_37, zo_13, zo_39, zo_16, zo_41, zo_19, zo_43, zo_22, zo_45, zo_25, zo_47, zo_28, zo_49, zo_31, zo_67, zo_52, zo_10, zo_54, zo_13, zo_56, zo_16, zo_58, zo_19, zo_60, zo_22, zo_62, zo_25, zo_64, zo_28, zo_66, zo_31, zo_78, zo_71, zo_70, zo_74, zo_73, zo_77, zo_76, zo_86, zo_82, zo_81, zo_85, zo_84, zo_91, zo_88, zo_89, zo_90, zo_98, zo_95, zo_94, zo_97, zo_13, zo_105, zo_100, zo_102, zo_90, zo_104, zo_16, .inr (6, [.inl none, .inl none, .inl none, .inl none, .inl none, .inr 0, .inr 0])]
set_option maxRecDepth 100000 in
noncomputable def zs_165 (n : Nat) : List zSh := [.inl (10, n), zo_0, zo_1, zo_2, zo_3, zo_4, zo_5, zo_6, zo_106, zo_33, zo_11, zo_10, zo_14, zo_13, zo_17, zo_16, zo_20, zo_19, zo_23, zo_22, zo_26, zo_25, zo_29, zo_28, zo_32, zo_31, zo_50, zo_35, zo_10, zo_37, zo_13, zo_39, zo_16, zo_41, zo_19, zo_43, zo_22, zo_45, zo_25, zo_47, zo_28, zo_49, zo_31, zo_67, zo_52, zo_10, zo_54, zo_13, zo_56, zo_16, zo_58, zo_19, zo_60, zo_22, zo_62, zo_25, zo_64, zo_28, zo_66, zo_31, zo_78, zo_71, zo_70, zo_74, zo_73, zo_77, zo_76, zo_86, zo_82, zo_81, zo_85, zo_84, zo_91, zo_88, zo_89, zo_90, zo_98, zo_95, zo_94, zo_97, zo_13, zo_105, zo_100, zo_102, zo_90, zo_104, zo_16, .inr (6, [.inl none, .inl none, .inl none, .inl none, .inl none, .inr 0, .inr 0]), zo_107]
set_option maxRecDepth 100000 in
noncomputable def zs_166 (n : Nat) : List zSh := [.inl (10, n), zo_0, zo_1, zo_2, zo_3, zo_4, zo_5, zo_6, zo_106, zo_33, zo_11, zo_10, zo_14, zo_13, zo_17, zo_16, zo_20, zo_19, zo_23, zo_22, zo_26, zo_25, zo_29, zo_28, zo_32, zo_31, zo_50, zo_35, zo_10, zo_37, zo_13, zo_39, zo_16, zo_41, zo_19, zo_43, zo_22, zo_45, zo_25, zo_47, zo_28, zo_49, zo_31, zo_67, zo_52, zo_10, zo_54, zo_13, zo_56, zo_16, zo_58, zo_19, zo_60, zo_22, zo_62, zo_25, zo_64, zo_28, zo_66, zo_31, zo_78, zo_71, zo_70, zo_74, zo_73, zo_77, zo_76, zo_86, zo_82, zo_81, zo_85, zo_84, zo_91, zo_88, zo_89, zo_90, zo_98, zo_95, zo_94, zo_97, zo_13, zo_105, zo_100, zo_102, zo_90, zo_104, zo_16, .inr (6, [.inl none, .inl (some 88), .inl none, .inl none, .inl none, .inr 0, .inr 0]), zo_107]
set_option maxRecDepth 100000 in
noncomputable def zs_167 (n : Nat) : List zSh := [.inl (10, n), zo_0, zo_1, zo_2, zo_3, zo_4, zo_5, zo_6, zo_106, zo_33, zo_11, zo_10, zo_14, zo_13, zo_17, zo_16, zo_20, zo_19, zo_23, zo_22, zo_26, zo_25, zo_29, zo_28, zo_32, zo_31, zo_50, zo_35, zo_10, zo_37, zo_13, zo_39, zo_16, zo_41, zo_19, zo_43, zo_22, zo_45, zo_25, zo_47, zo_28, zo_49, zo_31, zo_67, zo_52, zo_10, zo_54, zo_13, zo_56, zo_16, zo_58, zo_19, zo_60, zo_22, zo_62, zo_25, zo_64, zo_28, zo_66, zo_31, zo_78, zo_71, zo_70, zo_74, zo_73, zo_77, zo_76, zo_86, zo_82, zo_81, zo_85, zo_84, zo_91, zo_88, zo_89, zo_90, zo_98, zo_95, zo_94, zo_97, zo_13, zo_105, zo_100, zo_102, zo_90, zo_104, zo_16, .inr (6, [.inl none, .inl (some 88), .inl none, .inl none, .inl none, .inr 0, .inr 0]), zo_107, zo_107]
set_option maxRecDepth 100000 in
noncomputable def zs_168 (n : Nat) : List zSh := [.inl (10, n), zo_0, zo_1, zo_2, zo_3, zo_4, zo_5, zo_6, zo_106, zo_33, zo_11, zo_10, zo_14, zo_13, zo_17, zo_16, zo_20, zo_19, zo_23, zo_22, zo_26, zo_25, zo_29, zo_28, zo_32, zo_31, zo_50, zo_35, zo_10, zo_37, zo_13, zo_39, zo_16, zo_41, zo_19, zo_43, zo_22, zo_45, zo_25, zo_47, zo_28, zo_49, zo_31, zo_67, zo_52, zo_10, zo_54, zo_13, zo_56, zo_16, zo_58, zo_19, zo_60, zo_22, zo_62, zo_25, zo_64, zo_28, zo_66, zo_31, zo_78, zo_71, zo_70, zo_74, zo_73, zo_77, zo_76, zo_86, zo_82, zo_81, zo_85, zo_84, zo_91, zo_88, zo_89, zo_90, zo_98, zo_95, zo_94, zo_97, zo_13, zo_105, zo_100, zo_102, zo_90, zo_104, zo_16, .inr (6, [.inl none, .inl (some 88), .inl (some 89), .inl none, .inl none, .inr 0, .inr 0]), zo_107, zo_107]
set_option maxRecDepth 100000 in
noncomputable def zs_169 (n : Nat) : List zSh := [.inl (10, n), zo_0, zo_1, zo_2, zo_3, zo_4, zo_5, zo_6, zo_106, zo_33, zo_11, zo_10, zo_14, zo_13, zo_17, zo_16, zo_20, zo_19, zo_23, zo_22, zo_26, zo_25, zo_29, zo_28, zo_32, zo_31, zo_50, zo_35, zo_10, zo_37, zo_13, zo_39, zo_16, zo_41, zo_19, zo_43, zo_22, zo_45, zo_25, zo_47, zo_28, zo_49, zo_31, zo_67, zo_52, zo_10, zo_54, zo_13, zo_56, zo_16, zo_58, zo_19, zo_60, zo_22, zo_62, zo_25, zo_64, zo_28, zo_66, zo_31, zo_78, zo_71, zo_70, zo_74, zo_73, zo_77, zo_76, zo_86, zo_82, zo_81, zo_85, zo_84, zo_91, zo_88, zo_89, zo_90, zo_98, zo_95, zo_94, zo_97, zo_13, zo_105, zo_100, zo_102, zo_90, zo_104, zo_16, .inr (6, [.inl none, .inl (some 88), .inl (some 89), .inl none, .inl none, .inr 0, .inr 0]), zo_107, zo_107, zo_107]
set_option maxRecDepth 100000 in
noncomputable def zs_170 (n : Nat) : List zSh := [.inl (10, n), zo_0, zo_1, zo_2, zo_3, zo_4, zo_5, zo_6, zo_106, zo_33, zo_11, zo_10, zo_14, zo_13, zo_17, zo_16, zo_20, zo_19, zo_23, zo_22, zo_26, zo_25, zo_29, zo_28, zo_32, zo_31, zo_50, zo_35, zo_10, zo_37, zo_13, zo_39, zo_16, zo_41, zo_19, zo_43, zo_22, zo_45, zo_25, zo_47, zo_28, zo_49, zo_31, zo_67, zo_52, zo_10, zo_54, zo_13, zo_56, zo_16, zo_58, zo_19, zo_60, zo_22, zo_62, zo_25, zo_64, zo_28, zo_66, zo_31, zo_78, zo_71, zo_70, zo_74, zo_73, zo_77, zo_76, zo_86, zo_82, zo_81, zo_85, zo_84, zo_91, zo_88, zo_89, zo_90, zo_98, zo_95, zo_94, zo_97, zo_13, zo_105, zo_100, zo_102, zo_90, zo_104, zo_16, .inr (6, [.inl none, .inl (some 88), .inl (some 89), .inl (some 90), .inl none, .inr 0, .inr 0]), zo_107, zo_107, zo_107]
set_option maxRecDepth 100000 in
noncomputable def zs_171 (n : Nat) : List zSh := [.inl (10, n), zo_0, zo_1, zo_2, zo_3, zo_4, zo_5, zo_6, zo_106, zo_33, zo_11, zo_10, zo_14, zo_13, zo_17, zo_16, zo_20, zo_19, zo_23, zo_22, zo_26, zo_25, zo_29, zo_28, zo_32, zo_31, zo_50, zo_35, zo_10, zo_37, zo_13, zo_39, zo_16, zo_41, zo_19, zo_43, zo_22, zo_45, zo_25, zo_47, zo_28, zo_49, zo_31, zo_67, zo_52, zo_10, zo_54, zo_13, zo_56, zo_16, zo_58, zo_19, zo_60, zo_22, zo_62, zo_25, zo_64, zo_28, zo_66, zo_31, zo_78, zo_71, zo_70, zo_74, zo_73, zo_77, zo_76, zo_86, zo_82, zo_81, zo_85, zo_84, zo_91, zo_88, zo_89, zo_90, zo_98, zo_95, zo_94, zo_97, zo_13, zo_105, zo_100, zo_102, zo_90, zo_104, zo_16, .inr (6, [.inl none, .inl (some 88), .inl (some 89), .inl (some 90), .inl none, .inr 0, .inr 0]), zo_107, zo_107, zo_107, zo_107]
set_option maxRecDepth 100000 in
noncomputable def zs_172 (n : Nat) : List zSh := [.inl (10, n), zo_0, zo_1, zo_2, zo_3, zo_4, zo_5, zo_6, zo_106, zo_33, zo_11, zo_10, zo_14, zo_13, zo_17, zo_16, zo_20, zo_19, zo_23, zo_22, zo_26, zo_25, zo_29, zo_28, zo_32, zo_31, zo_50, zo_35, zo_10, zo_37, zo_13, zo_39, zo_16, zo_41, zo_19, zo_43, zo_22, zo_45, zo_25, zo_47, zo_28, zo_49, zo_31, zo_67, zo_52, zo_10, zo_54, zo_13, zo_56, zo_16, zo_58, zo_19, zo_60, zo_22, zo_62, zo_25, zo_64, zo_28, zo_66, zo_31, zo_78, zo_71, zo_70, zo_74, zo_73, zo_77, zo_76, zo_86, zo_82, zo_81, zo_85, zo_84, zo_91, zo_88, zo_89, zo_90, zo_98, zo_95, zo_94, zo_97, zo_13, zo_105, zo_100, zo_102, zo_90, zo_104, zo_16, .inr (6, [.inl none, .inl (some 88), .inl (some 89), .inl (some 90), .inl (some 91), .inr 0, .inr 0]), zo_107, zo_107, zo_107, zo_107]
set_option maxRecDepth 100000 in
noncomputable def zs_173 (n : Nat) : List zSh := [.inl (10, n), zo_0, zo_1, zo_2, zo_3, zo_4, zo_5, zo_6, zo_106, zo_33, zo_11, zo_10, zo_14, zo_13, zo_17, zo_16, zo_20, zo_19, zo_23, zo_22, zo_26, zo_25, zo_29, zo_28, zo_32, zo_31, zo_50, zo_35, zo_10, zo_37, zo_13, zo_39, zo_16, zo_41, zo_19, zo_43, zo_22, zo_45, zo_25, zo_47, zo_28, zo_49, zo_31, zo_67, zo_52, zo_10, zo_54, zo_13, zo_56, zo_16, zo_58, zo_19, zo_60, zo_22, zo_62, zo_25, zo_64, zo_28, zo_66, zo_31, zo_78, zo_71, zo_70, zo_74, zo_73, zo_77, zo_76, zo_86, zo_82, zo_81, zo_85, zo_84, zo_91, zo_88, zo_89, zo_90, zo_98, zo_95, zo_94, zo_97, zo_13, zo_105, zo_100, zo_102, zo_90, zo_104, zo_16, zo_108, zo_107, zo_107, zo_107, zo_107]
set_option maxRecDepth 100000 in
noncomputable def zs_174 (n : Nat) : List zSh := [.inl (10, n), zo_0, zo_1, zo_2, zo_3, zo_4, zo_5, zo_6, zo_109, zo_33, zo_11, zo_10, zo_14, zo_13, zo_17, zo_16, zo_20, zo_19, zo_23, zo_22, zo_26, zo_25, zo_29, zo_28, zo_32, zo_31, zo_50, zo_35, zo_10, zo_37, zo_13, zo_39, zo_16, zo_41, zo_19, zo_43, zo_22, zo_45, zo_25, zo_47, zo_28, zo_49, zo_31, zo_67, zo_52, zo_10, zo_54, zo_13, zo_56, zo_16, zo_58, zo_19, zo_60, zo_22, zo_62, zo_25, zo_64, zo_28, zo_66, zo_31, zo_78, zo_71, zo_70, zo_74, zo_73, zo_77, zo_76, zo_86, zo_82, zo_81, zo_85, zo_84, zo_91, zo_88, zo_89, zo_90, zo_98, zo_95, zo_94, zo_97, zo_13, zo_105, zo_100, zo_102, zo_90, zo_104, zo_16, zo_108, zo_107, zo_107, zo_107, zo_107]
set_option maxRecDepth 100000 in
noncomputable def zs_175 (n : Nat) : List zSh := [.inl (10, n), zo_0, zo_1, zo_2, zo_3, zo_4, zo_5, zo_6, zo_109, zo_33, zo_11, zo_10, zo_14, zo_13, zo_17, zo_16, zo_20, zo_19, zo_23, zo_22, zo_26, zo_25, zo_29, zo_28, zo_32, zo_31, zo_50, zo_35, zo_10, zo_37, zo_13, zo_39, zo_16, zo_41, zo_19, zo_43, zo_22, zo_45, zo_25, zo_47, zo_28, zo_49, zo_31, zo_67, zo_52, zo_10, zo_54, zo_13, zo_56, zo_16, zo_58, zo_19, zo_60, zo_22, zo_62, zo_25, zo_64, zo_28, zo_66, zo_31, zo_78, zo_71, zo_70, zo_74, zo_73, zo_77, zo_76, zo_86, zo_82, zo_81, zo_85, zo_84, zo_91, zo_88, zo_89, zo_90, zo_98, zo_95, zo_94, zo_97, zo_13, zo_105, zo_100, zo_102, zo_90, zo_104, zo_16, zo_108, zo_107, zo_107, zo_107, zo_107, .inr (1, [.inl none, .inl none, .inl none, .inl none, .inr 0, .inr 0, .inr 0, .inr 0])]
set_option maxRecDepth 100000 in
noncomputable def zs_176 (n : Nat) : List zSh := [.inl (10, n), zo_0, zo_1, zo_2, zo_3, zo_4, zo_5, zo_6, zo_109, zo_33, zo_11, zo_10, zo_14, zo_13, zo_17, zo_16, zo_20, zo_19, zo_23, zo_22, zo_26, zo_25, zo_29, zo_28, zo_32, zo_31, zo_50, zo_35, zo_10, zo_37, zo_13, zo_39, zo_16, zo_41, zo_19, zo_43, zo_22, zo_45, zo_25, zo_47, zo_28, zo_49, zo_31, zo_67, zo_52, zo_10, zo_54, zo_13, zo_56, zo_16, zo_58, zo_19, zo_60, zo_22, zo_62, zo_25, zo_64, zo_28, zo_66, zo_31, zo_78, zo_71, zo_70, zo_74, zo_73, zo_77, zo_76, zo_86, zo_82, zo_81, zo_85, zo_84, zo_91, zo_88, zo_89, zo_90, zo_98, zo_95, zo_94, zo_97, zo_13, zo_105, zo_100, zo_102, zo_90, zo_104, zo_16, zo_108, zo_107, zo_107, zo_107, zo_107, .inr (1, [.inl none, .inl none, .inl none, .inl none, .inr 0, .inr 0, .inr 0, .inr 0]), zo_110]
set_option maxRecDepth 100000 in
noncomputable def zs_177 (n : Nat) : List zSh := [.inl (10, n), zo_0, zo_1, zo_2, zo_3, zo_4, zo_5, zo_6, zo_109, zo_33, zo_11, zo_10, zo_14, zo_13, zo_17, zo_16, zo_20, zo_19, zo_23, zo_22, zo_26, zo_25, zo_29, zo_28, zo_32, zo_31, zo_50, zo_35, zo_10, zo_37, zo_13, zo_39, zo_16, zo_41, zo_19, zo_43, zo_22, zo_45, zo_25, zo_47, zo_28, zo_49, zo_31, zo_67, zo_52, zo_10, zo_54, zo_13, zo_56, zo_16, zo_58, zo_19, zo_60, zo_22, zo_62, zo_25, zo_64, zo_28, zo_66, zo_31, zo_78, zo_71, zo_70, zo_74, zo_73, zo_77, zo_76, zo_86, zo_82, zo_81, zo_85, zo_84, zo_91, zo_88, zo_89, zo_90, zo_98, zo_95, zo_94, zo_97, zo_13, zo_105, zo_100, zo_102, zo_90, zo_104, zo_16, zo_108, zo_107, zo_107, zo_107, zo_107, .inr (1, [.inl none, .inl none, .inl (some 93), .inl none, .inr 0, .inr 0, .inr 0, .inr 0]), zo_110]
set_option maxRecDepth 100000 in
noncomputable def zs_178 (n : Nat) : List zSh := [.inl (10, n), zo_0, zo_1, zo_2, zo_3, zo_4, zo_5, zo_6, zo_109, zo_33, zo_11, zo_10, zo_14, zo_13, zo_17, zo_16, zo_20, zo_19, zo_23, zo_22, zo_26, zo_25, zo_29, zo_28, zo_32, zo_31, zo_50, zo_35, zo_10, zo_37, zo_13, zo_39, zo_16, zo_41, zo_19, zo_43, zo_22, zo_45, zo_25, zo_47, zo_28, zo_49, zo_31, zo_67, zo_52, zo_10, zo_54, zo_13, zo_56, zo_16, zo_58, zo_19, zo_60, zo_22, zo_62, zo_25, zo_64, zo_28, zo_66, zo_31, zo_78, zo_71, zo_70, zo_74, zo_73, zo_77, zo_76, zo_86, zo_82, zo_81, zo_85, zo_84, zo_91, zo_88, zo_89, zo_90, zo_98, zo_95, zo_94, zo_97, zo_13, zo_105, zo_100, zo_102, zo_90, zo_104, zo_16, zo_108, zo_107, zo_107, zo_107, zo_107, .inr (1, [.inl none, .inl none, .inl (some 93), .inl none, .inr 0, .inr 0, .inr 0, .inr 0]), zo_110, zo_110]
set_option maxRecDepth 100000 in
noncomputable def zs_179 (n : Nat) : List zSh := [.inl (10, n), zo_0, zo_1, zo_2, zo_3, zo_4, zo_5, zo_6, zo_109, zo_33, zo_11, zo_10, zo_14, zo_13, zo_17, zo_16, zo_20, zo_19, zo_23, zo_22, zo_26, zo_25, zo_29, zo_28, zo_32, zo_31, zo_50, zo_35, zo_10, zo_37, zo_13, zo_39, zo_16, zo_41, zo_19, zo_43, zo_22, zo_45, zo_25, zo_47, zo_28, zo_49, zo_31, zo_67, zo_52, zo_10, zo_54, zo_13, zo_56, zo_16, zo_58, zo_19, zo_60, zo_22, zo_62, zo_25, zo_64, zo_28, zo_66, zo_31, zo_78, zo_71, zo_70, zo_74, zo_73, zo_77, zo_76, zo_86, zo_82, zo_81, zo_85, zo_84, zo_91, zo_88, zo_89, zo_90, zo_98, zo_95, zo_94, zo_97, zo_13, zo_105, zo_100, zo_102, zo_90, zo_104, zo_16, zo_108, zo_107, zo_107, zo_107, zo_107, .inr (1, [.inl none, .inl none, .inl (some 93), .inl (some 94), .inr 0, .inr 0, .inr 0, .inr 0]), zo_110, zo_110]
set_option maxRecDepth 100000 in
noncomputable def zs_180 (n : Nat) : List zSh := [.inl (10, n), zo_0, zo_1, zo_2, zo_3, zo_4, zo_5, zo_6, zo_109, zo_33, zo_11, zo_10, zo_14, zo_13, zo_17, zo_16, zo_20, zo_19, zo_23, zo_22, zo_26, zo_25, zo_29, zo_28, zo_32, zo_31, zo_50, zo_35, zo_10, zo_37, zo_13, zo_39, zo_16, zo_41, zo_19, zo_43, zo_22, zo_45, zo_25, zo_47, zo_28, zo_49, zo_31, zo_67, zo_52, zo_10, zo_54, zo_13, zo_56, zo_16, zo_58, zo_19, zo_60, zo_22, zo_62, zo_25, zo_64, zo_28, zo_66, zo_31, zo_78, zo_71, zo_70, zo_74, zo_73, zo_77, zo_76, zo_86, zo_82, zo_81, zo_85, zo_84, zo_91, zo_88, zo_89, zo_90, zo_98, zo_95, zo_94, zo_97, zo_13, zo_105, zo_100, zo_102, zo_90, zo_104, zo_16, zo_108, zo_107, zo_107, zo_107, zo_107, .inr (1, [.inl (some 9), .inl none, .inl (some 93), .inl (some 94), .inr 0, .inr 0, .inr 0, .inr 0]), zo_110, zo_110]
set_option maxRecDepth 100000 in
noncomputable def zs_181 (n : Nat) : List zSh := [.inl (10, n), zo_0, zo_1, zo_2, zo_3, zo_4, zo_5, zo_6, zo_109, zo_33, zo_11, zo_10, zo_14, zo_13, zo_17, zo_16, zo_20, zo_19, zo_23, zo_22, zo_26, zo_25, zo_29, zo_28, zo_32, zo_31, zo_50, zo_35, zo_10, zo_37, zo_13, zo_39, zo_16, zo_41, zo_19, zo_43, zo_22, zo_45, zo_25, zo_47, zo_28, zo_49, zo_31, zo_67, zo_52, zo_10, zo_54, zo_13, zo_56, zo_16, zo_58, zo_19, zo_60, zo_22, zo_62, zo_25, zo_64, zo_28, zo_66, zo_31, zo_78, zo_71, zo_70, zo_74, zo_73, zo_77, zo_76, zo_86, zo_82, zo_81, zo_85, zo_84, zo_91, zo_88, zo_89, zo_90, zo_98, zo_95, zo_94, zo_97, zo_13, zo_105, zo_100, zo_102, zo_90, zo_104, zo_16, zo_108, zo_107, zo_107, zo_107, zo_107, zo_111, zo_110, zo_110]
set_option maxRecDepth 100000 in
noncomputable def zs_182 (n : Nat) : List zSh := [.inl (10, n), zo_0, zo_1, zo_2, zo_3, zo_4, zo_5, zo_6, zo_112, zo_33, zo_11, zo_10, zo_14, zo_13, zo_17, zo_16, zo_20, zo_19, zo_23, zo_22, zo_26, zo_25, zo_29, zo_28, zo_32, zo_31, zo_50, zo_35, zo_10, zo_37, zo_13, zo_39, zo_16, zo_41, zo_19, zo_43, zo_22, zo_45, zo_25, zo_47, zo_28, zo_49, zo_31, zo_67, zo_52, zo_10, zo_54, zo_13, zo_56, zo_16, zo_58, zo_19, zo_60, zo_22, zo_62, zo_25, zo_64, zo_28, zo_66, zo_31, zo_78, zo_71, zo_70, zo_74, zo_73, zo_77, zo_76, zo_86, zo_82, zo_81, zo_85, zo_84, zo_91, zo_88, zo_89, zo_90, zo_98, zo_95, zo_94, zo_97, zo_13, zo_105, zo_100, zo_102, zo_90, zo_104, zo_16, zo_108, zo_107, zo_107, zo_107, zo_107, zo_111, zo_110, zo_110]
set_option maxRecDepth 100000 in
noncomputable def zs_183 (n : Nat) : List zSh := [.inl (10, n), zo_0, zo_1, zo_2, zo_3, zo_4, zo_5, zo_6, zo_112, zo_33, zo_11, zo_10, zo_14, zo_13, zo_17, zo_16, zo_20, zo_19, zo_23, zo_22, zo_26, zo_25, zo_29, zo_28, zo_32, zo_31, zo_50, zo_35, zo_10, zo_37, zo_13, zo_39, zo_16, zo_41, zo_19, zo_43, zo_22, zo_45, zo_25, zo_47, zo_28, zo_49, zo_31, zo_67, zo_52, zo_10, zo_54, zo_13, zo_56, zo_16, zo_58, zo_19, zo_60, zo_22, zo_62, zo_25, zo_64, zo_28, zo_66, zo_31, zo_78, zo_71, zo_70, zo_74, zo_73, zo_77, zo_76, zo_86, zo_82, zo_81, zo_85, zo_84, zo_91, zo_88, zo_89, zo_90, zo_98, zo_95, zo_94, zo_97, zo_13, zo_105, zo_100, zo_102, zo_90, zo_104, zo_16, zo_108, zo_107, zo_107, zo_107, zo_107, zo_111, zo_110, zo_110, .inr (0, [.inl none, .inr 0, .inr 0])]
set_option maxRecDepth 100000 in
noncomputable def zs_184 (n : Nat) : List zSh := [.inl (10, n), zo_0, zo_1, zo_2, zo_3, zo_4, zo_5, zo_6, zo_112, zo_33, zo_11, zo_10, zo_14, zo_13, zo_17, zo_16, zo_20, zo_19, zo_23, zo_22, zo_26, zo_25, zo_29, zo_28, zo_32, zo_31, zo_50, zo_35, zo_10, zo_37, zo_13, zo_39, zo_16, zo_41, zo_19, zo_43, zo_22, zo_45, zo_25, zo_47, zo_28, zo_49, zo_31, zo_67, zo_52, zo_10, zo_54, zo_13, zo_56, zo_16, zo_58, zo_19, zo_60, zo_22, zo_62, zo_25, zo_64, zo_28, zo_66, zo_31, zo_78, zo_71, zo_70, zo_74, zo_73, zo_77, zo_76, zo_86, zo_82, zo_81, zo_85, zo_84, zo_91, zo_88, zo_89, zo_90, zo_98, zo_95, zo_94, zo_97, zo_13, zo_105, zo_100, zo_102, zo_90, zo_104, zo_16, zo_108, zo_107, zo_107, zo_107, zo_107, zo_111, zo_110, zo_110, .inr (0, [.inl none, .inr 0, .inr 0]), zo_113]
set_option maxRecDepth 100000 in
noncomputable def zs_185 (n : Nat) : List zSh := [.inl (10, n), zo_0, zo_1, zo_2, zo_3, zo_4, zo_5, zo_6, zo_112, zo_33, zo_11, zo_10, zo_14, zo_13, zo_17, zo_16, zo_20, zo_19, zo_23, zo_22, zo_26, zo_25, zo_29, zo_28, zo_32, zo_31, zo_50, zo_35, zo_10, zo_37, zo_13, zo_39, zo_16, zo_41, zo_19, zo_43, zo_22, zo_45, zo_25, zo_47, zo_28, zo_49, zo_31, zo_67, zo_52, zo_10, zo_54, zo_13, zo_56, zo_16, zo_58, zo_19, zo_60, zo_22, zo_62, zo_25, zo_64, zo_28, zo_66, zo_31, zo_78, zo_71, zo_70, zo_74, zo_73, zo_77, zo_76, zo_86, zo_82, zo_81, zo_85, zo_84, zo_91, zo_88, zo_89, zo_90, zo_98, zo_95, zo_94, zo_97, zo_13, zo_105, zo_100, zo_102, zo_90, zo_104, zo_16, zo_108, zo_107, zo_107, zo_107, zo_107, zo_111, zo_110, zo_110, zo_114, zo_113]
set_option maxRecDepth 100000 in
noncomputable def zs_186 (n : Nat) : List zSh := [.inl (10, n), zo_0, zo_1, zo_2, zo_3, zo_4, zo_5, zo_6, zo_115, zo_33, zo_11, zo_10, zo_14, zo_13, zo_17, zo_16, zo_20, zo_19, zo_23, zo_22, zo_26, zo_25, zo_29, zo_28, zo_32, zo_31, zo_50, zo_35, zo_10, zo_37, zo_13, zo_39, zo_16, zo_41, zo_19, zo_43, zo_22, zo_45, zo_25, zo_47, zo_28, zo_49, zo_31, zo_67, zo_52, zo_10, zo_54, zo_13, zo_56, zo_16, zo_58, zo_19, zo_60, zo_22, zo_62, zo_25, zo_64, zo_28, zo_66, zo_31, zo_78, zo_71, zo_70, zo_74, zo_73, zo_77, zo_76, zo_86, zo_82, zo_81, zo_85, zo_84, zo_91, zo_88, zo_89, zo_90, zo_98, zo_95, zo_94, zo_97, zo_13, zo_105, zo_100, zo_102, zo_90, zo_104, zo_16, zo_108, zo_107, zo_107, zo_107, zo_107, zo_111, zo_110, zo_110, zo_114, zo_113]
set_option maxRecDepth 100000 in
noncomputable def zs_187 (n : Nat) : List zSh := [.inl (10, n), zo_0, zo_1, zo_2, zo_3, zo_4, zo_5, zo_6, zo_115, zo_33, zo_11, zo_10, zo_14, zo_13, zo_17, zo_16, zo_20, zo_19, zo_23, zo_22, zo_26, zo_25, zo_29, zo_28, zo_32, zo_31, zo_50, zo_35, zo_10, zo_37, zo_13, zo_39, zo_16, zo_41, zo_19, zo_43, zo_22, zo_45, zo_25, zo_47, zo_28, zo_49, zo_31, zo_67, zo_52, zo_10, zo_54, zo_13, zo_56, zo_16, zo_58, zo_19, zo_60, zo_22, zo_62, zo_25, zo_64, zo_28, zo_66, zo_31, zo_78, zo_71, zo_70, zo_74, zo_73, zo_77, zo_76, zo_86, zo_82, zo_81, zo_85, zo_84, zo_91, zo_88, zo_89, zo_90, zo_98, zo_95, zo_94, zo_97, zo_13, zo_105, zo_100, zo_102, zo_90, zo_104, zo_16, zo_108, zo_107, zo_107, zo_107, zo_107, zo_111, zo_110, zo_110, zo_114, zo_113, .inr (11, [.inl none, .inl none, .inl none, .inl none, .inl none, .inl none, .inl none, .inr 0, .inl none, .inl none, .inr 0, .inl none, .inr 0, .inr 0, .inl none, .inl none, .inr 0, .inl none, .inr 0, .inr 0, .inr 2, .inr 0, .inr 1, .inr 1, .inl none, .inl none, .inl none, .inl none, .inr 0, .inl none, .inr 0, .inr 0, .inr 0, .inr 0, .inr 0, .inl none, .inl none, .inl none, .inl none, .inl none, .inl none, .inr 0, .inr 0, .inr 0, .inr 0])]
set_option maxRecDepth 100000 in
noncomputable def zs_188 (n : Nat) : List zSh := [.inl (10, n), zo_0, zo_1, zo_2, zo_3, zo_4, zo_5, zo_6, zo_115, zo_33, zo_11, zo_10, zo_14, zo_13, zo_17, zo_16, zo_20, zo_19, zo_23, zo_22, zo_26, zo_25, zo_29, zo_28, zo_32, zo_31, zo_50, zo_35, zo_10, zo_37, zo_13, zo_39, zo_16, zo_41, zo_19, zo_43, zo_22, zo_45, zo_25, zo_47, zo_28, zo_49, zo_31, zo_67, zo_52, zo_10, zo_54, zo_13, zo_56, zo_16, zo_58, zo_19, zo_60, zo_22, zo_62, zo_25, zo_64, zo_28, zo_66, zo_31, zo_78, zo_71, zo_70, zo_74, zo_73, zo_77, zo_76, zo_86, zo_82, zo_81, zo_85, zo_84, zo_91, zo_88, zo_89, zo_90, zo_98, zo_95, zo_94, zo_97, zo_13, zo_105, zo_100, zo_102, zo_90, zo_104, zo_16, zo_108, zo_107, zo_107, zo_107, zo_107, zo_111, zo_110, zo_110, zo_114, zo_113, .inr (11, [.inl none, .inl none, .inl none, .inl none, .inl none, .inl none, .inl none, .inr 0, .inl none, .inl none, .inr 0, .inl none, .inr 0, .inr 0, .inl none, .inl none, .inr 0, .inl none, .inr 0, .inr 0, .inr 2, .inr 0, .inr 1, .inr 1, .inl none, .inl none, .inl none, .inl none, .inr 0, .inl none, .inr 0, .inr 0, .inr 0, .inr 0, .inr 0, .inl none, .inl none, .inl none, .inl none, .inl none, .inl none, .inr 0, .inr 0, .inr 0, .inr 0]), zo_116]
set_option maxRecDepth 100000 in
noncomputable def zs_189 (n : Nat) : List zSh := [.inl (10, n), zo_0, zo_1, zo_2, zo_3, zo_4, zo_5, zo_6, zo_115, zo_33, zo_11, zo_10, zo_14, zo_13, zo_17, zo_16, zo_20, zo_19, zo_23, zo_22, zo_26, zo_25, zo_29, zo_28, zo_32, zo_31, zo_50, zo_35, zo_10, zo_37, zo_13, zo_39, zo_16, zo_41, zo_19, zo_43, zo_22, zo_45, zo_25, zo_47, zo_28, zo_49, zo_31, zo_67, zo_52, zo_10, zo_54, zo_13, zo_56, zo_16, zo_58, zo_19, zo_60, zo_22, zo_62, zo_25, zo_64, zo_28, zo_66, zo_31, zo_78, zo_71, zo_70, zo_74, zo_73, zo_77, zo_76, zo_86, zo_82, zo_81, zo_85, zo_84, zo_91, zo_88, zo_89, zo_90, zo_98, zo_95, zo_94, zo_97, zo_13, zo_105, zo_100, zo_102, zo_90, zo_104, zo_16, zo_108, zo_107, zo_107, zo_107, zo_107, zo_111, zo_110, zo_110, zo_114, zo_113, .inr (11, [.inl (some 98), .inl none, .inl none, .inl none, .inl none, .inl none, .inl none, .inr 0, .inl none, .inl none, .inr 0, .inl none, .inr 0, .inr 0, .inl none, .inl none, .inr 0, .inl none, .inr 0, .inr 0, .inr 2, .inr 0, .inr 1, .inr 1, .inl none, .inl none, .inl none, .inl none, .inr 0, .inl none, .inr 0, .inr 0, .inr 0, .inr 0, .inr 0, .inl none, .inl none, .inl none, .inl none, .inl none, .inl none, .inr 0, .inr 0, .inr 0, .inr 0]), zo_116]
set_option maxRecDepth 100000 in
noncomputable def zs_190 (n : Nat) : List zSh := [.inl (10, n), zo_0, zo_1, zo_2, zo_3, zo_4, zo_5, zo_6, zo_115, zo_33, zo_11, zo_10, zo_14, zo_13, zo_17, zo_16, zo_20, zo_19, zo_23, zo_22, zo_26, zo_25, zo_29, zo_28, zo_32, zo_31, zo_50, zo_35, zo_10, zo_37, zo_13, zo_39, zo_16, zo_41, zo_19, zo_43, zo_22, zo_45, zo_25, zo_47, zo_28, zo_49, zo_31, zo_67, zo_52, zo_10, zo_54, zo_13, zo_56, zo_16, zo_58, zo_19, zo_60, zo_22, zo_62, zo_25, zo_64, zo_28, zo_66, zo_31, zo_78, zo_71, zo_70, zo_74, zo_73, zo_77, zo_76, zo_86, zo_82, zo_81, zo_85, zo_84, zo_91, zo_88, zo_89, zo_90, zo_98, zo_95, zo_94, zo_97, zo_13, zo_105, zo_100, zo_102, zo_90, zo_104, zo_16, zo_108, zo_107, zo_107, zo_107, zo_107, zo_111, zo_110, zo_110, zo_114, zo_113, .inr (11, [.inl (some 98), .inl none, .inl none, .inl none, .inl none, .inl none, .inl none, .inr 0, .inl none, .inl none, .inr 0, .inl none, .inr 0, .inr 0, .inl none, .inl none, .inr 0, .inl none, .inr 0, .inr 0, .inr 2, .inr 0, .inr 1, .inr 1, .inl none, .inl none, .inl none, .inl none, .inr 0, .inl none, .inr 0, .inr 0, .inr 0, .inr 0, .inr 0, .inl none, .inl none, .inl none, .inl none, .inl none, .inl none, .inr 0, .inr 0, .inr 0, .inr 0]), zo_116, zo_117]
set_option maxRecDepth 100000 in
noncomputable def zs_191 (n : Nat) : List zSh := [.inl (10, n), zo_0, zo_1, zo_2, zo_3, zo_4, zo_5, zo_6, zo_115, zo_33, zo_11, zo_10, zo_14, zo_13, zo_17, zo_16, zo_20, zo_19, zo_23, zo_22, zo_26, zo_25, zo_29, zo_28, zo_32, zo_31, zo_50, zo_35, zo_10, zo_37, zo_13, zo_39, zo_16, zo_41, zo_19, zo_43, zo_22, zo_45, zo_25, zo_47, zo_28, zo_49, zo_31, zo_67, zo_52, zo_10, zo_54, zo_13, zo_56, zo_16, zo_58, zo_19, zo_60, zo_22, zo_62, zo_25, zo_64, zo_28, zo_66, zo_31, zo_78, zo_71, zo_70, zo_74, zo_73, zo_77, zo_76, zo_86, zo_82, zo_81, zo_85, zo_84, zo_91, zo_88, zo_89, zo_90, zo_98, zo_95, zo_94, zo_97, zo_13, zo_105, zo_100, zo_102, zo_90, zo_104, zo_16, zo_108, zo_107, zo_107, zo_107, zo_107, zo_111, zo_110, zo_110, zo_114, zo_113, .inr (11, [.inl (some 98), .inl (some 99), .inl none, .inl none, .inl none, .inl none, .inl none, .inr 0, .inl none, .inl none, .inr 0, .inl none, .inr 0, .inr 0, .inl none, .inl none, .inr 0, .inl none, .inr 0, .inr 0, .inr 2, .inr 0, .inr 1, .inr 1, .inl none, .inl none, .inl none, .inl none, .inr 0, .inl none, .inr 0, .inr 0, .inr 0, .inr 0, .inr 0, .inl none, .inl none, .inl none, .inl none, .inl none, .inl none, .inr 0, .inr 0, .inr 0, .inr 0]), zo_116, zo_117]
set_option maxRecDepth 100000 in
noncomputable def zs_192 (n : Nat) : List zSh := [.inl (10, n), zo_0, zo_1, zo_2, zo_3, zo_4, zo_5, zo_6, zo_115, zo_33, zo_11, zo_10, zo_14, zo_13, zo_17, zo_16, zo_20, zo_19, zo_23, zo_22, zo_26, zo_25, zo_29, zo_28, zo_32, zo_31, zo_50, zo_35, zo_10, zo_37, zo_13, zo_39, zo_16, zo_41, zo_19, zo_43, zo_22, zo_45, zo_25, zo_47, zo_28, zo_49, zo_31, zo_67, zo_52, zo_10, zo_54, zo_13, zo_56, zo_16, zo_58, zo_19, zo_60, zo_22, zo_62, zo_25, zo_64, zo_28, zo_66, zo_31, zo_78, zo_71, zo_70, zo_74, zo_73, zo_77, zo_76, zo_86, zo_82, zo_81, zo_85, zo_84, zo_91, zo_88, zo_89, zo_90, zo_98, zo_95, zo_94, zo_97, zo_13, zo_105, zo_100, zo_102, zo_90, zo_104, zo_16, zo_108, zo_107, zo_107, zo_107, zo_107, zo_111, zo_110, zo_110, zo_114, zo_113, .inr (11, [.inl (some 98), .inl (some 99), .inl none, .inl none, .inl none, .inl none, .inl none, .inr 0, .inl none, .inl none, .inr 0, .inl none, .inr 0, .inr 0, .inl none, .inl none, .inr 0, .inl none, .inr 0, .inr 0, .inr 2, .inr 0, .inr 1, .inr 1, .inl none, .inl none, .inl none, .inl none, .inr 0, .inl none, .inr 0, .inr 0, .inr 0, .inr 0, .inr 0, .inl none, .inl none, .inl none, .inl none, .inl none, .inl none, .inr 0, .inr 0, .inr 0, .inr 0]), zo_116, zo_117, zo_118]
set_option maxRecDepth 100000 in
noncomputable def zs_193 (n : Nat) : List zSh := [.inl (10, n), zo_0, zo_1, zo_2, zo_3, zo_4, zo_5, zo_6, zo_115, zo_33, zo_11, zo_10, zo_14, zo_13, zo_17, zo_16, zo_20, zo_19, zo_23, zo_22, zo_26, zo_25, zo_29, zo_28, zo_32, zo_31, zo_50, zo_35, zo_10, zo_37, zo_13, zo_39, zo_16, zo_41, zo_19, zo_43, zo_22, zo_45, zo_25, zo_47, zo_28, zo_49, zo_31, zo_67, zo_52, zo_10, zo_54, zo_13, zo_56, zo_16, zo_58, zo_19, zo_60, zo_22, zo_62, zo_25, zo_64, zo_28, zo_66, zo_31, zo_78, zo_71, zo_70, zo_74, zo_73, zo_77, zo_76, zo_86, zo_82, zo_81, zo_85, zo_84, zo_91, zo_88, zo_89, zo_90, zo_98, zo_95, zo_94, zo_97, zo_13, zo_105, zo_100, zo_102, zo_90, zo_104, zo_16, zo_108, zo_107, zo_107, zo_107, zo_107, zo_111, zo_110, zo_110, zo_114, zo_113, .inr (11, [.inl (some 98), .inl (some 99), .inl (some 100), .inl none, .inl none, .inl none, .inl none, .inr 0, .inl none, .inl none, .inr 0, .inl none, .inr 0, .inr 0, .inl none, .inl none, .inr 0, .inl none, .inr 0, .inr 0, .inr 2, .inr 0, .inr 1, .inr 1, .inl none, .inl none, .inl none, .inl none, .inr 0, .inl none, .inr 0, .inr 0, .inr 0, .inr 0, .inr 0, .inl none, .inl none, .inl none, .inl none, .inl none, .inl none, .inr 0, .inr 0, .inr 0, .inr 0]), zo_116, zo_117, zo_118]
set_option maxRecDepth 100000 in
noncomputable def zs_194 (n : Nat) : List zSh := [.inl (10, n), zo_0, zo_1, zo_2, zo_3, zo_4, zo_5, zo_6, zo_115, zo_33, zo_11, zo_10, zo_14, zo_13, zo_17, zo_16, zo_20, zo_19, zo_23, zo_22, zo_26, zo_25, zo_29, zo_28, zo_32, zo_31, zo_50, zo_35, zo_10, zo_37, zo_13, zo_39, zo_16, zo_41, zo_19, zo_43, zo_22, zo_45, zo_25, zo_47, zo_28, zo_49, zo_31, zo_67, zo_52, zo_10, zo_54, zo_13, zo_56, zo_16, zo_58, zo_19, zo_60, zo_22, zo_62, zo_25, zo_64, zo_28, zo_66, zo_31, zo_78, zo_71, zo_70, zo_74, zo_73, zo_77, zo_76, zo_86, zo_82, zo_81, zo_85, zo_84, zo_91, zo_88, zo_89, zo_90, zo_98, zo_95, zo_94, zo_97, zo_13, zo_105, zo_100, zo_102, zo_90, zo_104, zo_16, zo_108, zo_107, zo_107, zo_107, zo_107, zo_111, zo_110, zo_110, zo_114, zo_113, .inr (11, [.inl (some 98), .inl (some 99), .inl (some 100), .inl none, .inl none, .inl none, .inl none, .inr 0, .inl none, .inl none, .inr 0, .inl none, .inr 0, .inr 0, .inl none, .inl none, .inr 0, .inl none, .inr 0, .inr 0, .inr 2, .inr 0, .inr 1, .inr 1, .inl none, .inl none, .inl none, .inl none, .inr 0, .inl none, .inr 0, .inr 0, .inr 0, .inr 0, .inr 0, .inl none, .inl none, .inl none, .inl none, .inl none, .inl none, .inr 0, .inr 0, .inr 0, .inr 0]), zo_116, zo_117, zo_118, zo_119]
set_option maxRecDepth 100000 in
noncomputable def zs_195 (n : Nat) : List zSh := [.inl (10, n), zo_0, zo_1, zo_2, zo_3, zo_4, zo_5, zo_6, zo_115, zo_33, zo_11, zo_10, zo_14, zo_13, zo_17, zo_16, zo_20, zo_19, zo_23, zo_22, zo_26, zo_25, zo_29, zo_28, zo_32, zo_31, zo_50, zo_35, zo_10, zo_37, zo_13, zo_39, zo_16, zo_41, zo_19, zo_43, zo_22, zo_45, zo_25, zo_47, zo_28, zo_49, zo_31, zo_67, zo_52, zo_10, zo_54, zo_13, zo_56, zo_16, zo_58, zo_19, zo_60, zo_22, zo_62, zo_25, zo_64, zo_28, zo_66, zo_31, zo_78, zo_71, zo_70, zo_74, zo_73, zo_77, zo_76, zo_86, zo_82, zo_81, zo_85, zo_84, zo_91, zo_88, zo_89, zo_90, zo_98, zo_95, zo_94, zo_97, zo_13, zo_105, zo_100, zo_102, zo_90, zo_104, zo_16, zo_108, zo_107, zo_107, zo_107, zo_107, zo_111, zo_110, zo_110, zo_114, zo_113, .inr (11, [.inl (some 98), .inl (some 99), .inl (some 100), .inl (some 101), .inl none, .inl none, .inl none, .inr 0, .inl none, .inl none, .inr 0, .inl none, .inr 0, .inr 0, .inl none, .inl none, .inr 0, .inl none, .inr 0, .inr 0, .inr 2, .inr 0, .inr 1, .inr 1, .inl none, .inl none, .inl none, .inl none, .inr 0, .inl none, .inr 0, .inr 0, .inr 0, .inr 0, .inr 0, .inl none, .inl none, .inl none, .inl none, .inl none, .inl none, .inr 0, .inr 0, .inr 0, .inr 0]), zo_116, zo_117, zo_118, zo_119]
set_option maxRecDepth 100000 in
noncomputable def zs_196 (n : Nat) : List zSh := [.inl (10, n), zo_0, zo_1, zo_2, zo_3, zo_4, zo_5, zo_6, zo_115, zo_33, zo_11, zo_10, zo_14, zo_13, zo_17, zo_16, zo_20, zo_19, zo_23, zo_22, zo_26, zo_25, zo_29, zo_28, zo_32, zo_31, zo_50, zo_35, zo_10, zo_37, zo_13, zo_39, zo_16, zo_41, zo_19, zo_43, zo_22, zo_45, zo_25, zo_47, zo_28, zo_49, zo_31, zo_67, zo_52, zo_10, zo_54, zo_13, zo_56, zo_16, zo_58, zo_19, zo_60, zo_22, zo_62, zo_25, zo_64, zo_28, zo_66, zo_31, zo_78, zo_71, zo_70, zo_74, zo_73, zo_77, zo_76, zo_86, zo_82, zo_81, zo_85, zo_84, zo_91, zo_88, zo_89, zo_90, zo_98, zo_95, zo_94, zo_97, zo_13, zo_105, zo_100, zo_102, zo_90, zo_104, zo_16, zo_108, zo_107, zo_107, zo_107, zo_107, zo_111, zo_110, zo_110, zo_114, zo_113, .inr (11, [.inl (some 98), .inl (some 99), .inl (some 100), .inl (some 101), .inl none, .inl none, .inl none, .inr 0, .inl none, .inl none, .inr 0, .inl none, .inr 0, .inr 0, .inl none, .inl none, .inr 0, .inl none, .inr 0, .inr 0, .inr 2, .inr 0, .inr 1, .inr 1, .inl none, .inl none, .inl none, .inl none, .inr 0, .inl none, .inr 0, .inr 0, .inr 0, .inr 0, .inr 0, .inl none, .inl none, .inl none, .inl none, .inl none, .inl none, .inr 0, .inr 0, .inr 0, .inr 0]), zo_116, zo_117, zo_118, zo_119, zo_90]
set_option maxRecDepth 100000 in
noncomputable def zs_197 (n : Nat) : List zSh := [.inl (10, n), zo_0, zo_1, zo_2, zo_3, zo_4, zo_5, zo_6, zo_115, zo_33, zo_11, zo_10, zo_14, zo_13, zo_17, zo_16, zo_20, zo_19, zo_23, zo_22, zo_26, zo_25, zo_29, zo_28, zo_32, zo_31, zo_50, zo_35, zo_10, zo_37, zo_13, zo_39, zo_16, zo_41, zo_19, zo_43, zo_22, zo_45, zo_25, zo_47, zo_28, zo_49, zo_31, zo_67, zo_52, zo_10, zo_54, zo_13, zo_56, zo_16, zo_58, zo_19, zo_60, zo_22, zo_62, zo_25, zo_64, zo_28, zo_66, zo_31, zo_78, zo_71, zo_70, zo_74, zo_73, zo_77, zo_76, zo_86, zo_82, zo_81, zo_85, zo_84, zo_91, zo_88, zo_89, zo_90, zo_98, zo_95, zo_94, zo_97, zo_13, zo_105, zo_100, zo_102, zo_90, zo_104, zo_16, zo_108, zo_107, zo_107, zo_107, zo_107, zo_111, zo_110, zo_110, zo_114, zo_113, .inr (11, [.inl (some 98), .inl (some 99), .inl (some 100), .inl (some 101), .inl (some 102), .inl none, .inl none, .inr 0, .inl none, .inl none, .inr 0, .inl none, .inr 0, .inr 0, .inl none, .inl none, .inr 0, .inl none, .inr 0, .inr 0, .inr 2, .inr 0, .inr 1, .inr 1, .inl none, .inl none, .inl none, .inl none, .inr 0, .inl none, .inr 0, .inr 0, .inr 0, .inr 0, .inr 0, .inl none, .inl none, .inl none, .inl none, .inl none, .inl none, .inr 0, .inr 0, .inr 0, .inr 0]), zo_116, zo_117, zo_118, zo_119, zo_90]
set_option maxRecDepth 100000 in
noncomputable def zs_198 (n : Nat) : List zSh := [.inl (10, n), zo_0, zo_1, zo_2, zo_3, zo_4, zo_5, zo_6, zo_115, zo_33, zo_11, zo_10, zo_14, zo_13, zo_17, zo_16, zo_20, zo_19, zo_23, zo_22, zo_26, zo_25, zo_29, zo_28, zo_32, zo_31, zo_50, zo_35, zo_10, zo_37, zo_13, zo_39, zo_16, zo_41, zo_19, zo_43, zo_22, zo_45, zo_25, zo_47, zo_28, zo_49, zo_31, zo_67, zo_52, zo_10, zo_54, zo_13, zo_56, zo_16, zo_58, zo_19, zo_60, zo_22, zo_62, zo_25, zo_64, zo_28, zo_66, zo_31, zo_78, zo_71, zo_70, zo_74, zo_73, zo_77, zo_76, zo_86, zo_82, zo_81, zo_85, zo_84, zo_91, zo_88, zo_89, zo_90, zo_98, zo_95, zo_94, zo_97, zo_13, zo_105, zo_100, zo_102, zo_90, zo_104, zo_16, zo_108, zo_107, zo_107, zo_107, zo_107, zo_111, zo_110, zo_110, zo_114, zo_113, .inr (11, [.inl (some 98), .inl (some 99), .inl (some 100), .inl (some 101), .inl (some 102), .inl none, .inl none, .inr 0, .inl none, .inl none, .inr 0, .inl none, .inr 0, .inr 0, .inl none, .inl none, .inr 0, .inl none, .inr 0, .inr 0, .inr 2, .inr 0, .inr 1, .inr 1, .inl none, .inl none, .inl none, .inl none, .inr 0, .inl none, .inr 0, .inr 0, .inr 0, .inr 0, .inr 0, .inl none, .inl none, .inl none, .inl none, .inl none, .inl none, .inr 0, .inr 0, .inr 0, .inr 0]), zo_116, zo_117, zo_118, zo_119, zo_90, zo_90]
set_option maxRecDepth 100000 in
noncomputable def zs_199 (n : Nat) : List zSh := [.inl (10, n), zo_0, zo_1, zo_2, zo_3, zo_4, zo_5, zo_6, zo_115, zo_33, zo_11, zo_10, zo_14, zo_13, zo_17, zo_16, zo_20, zo_19, zo_23, zo_22, zo_26, zo_25, zo_29, zo_28, zo_32, zo_31, zo_50, zo_35, zo_10, zo_37, zo_13, zo_39, zo_16, zo_41, zo_19, zo_43, zo_22, zo_45, zo_25, zo_47, zo_28, zo_49, zo_31, zo_67, zo_52, zo_10, zo_54, zo_13, zo_56, zo_16, zo_58, zo_19, zo_60, zo_22, zo_62, zo_25, zo_64, zo_28, zo_66, zo_31, zo_78, zo_71, zo_70, zo_74, zo_73, zo_77, zo_76, zo_86, zo_82, zo_81, zo_85, zo_84, zo_91, zo_88, zo_89, zo_90, zo_98, zo_95, zo_94, zo_97, zo_13, zo_105, zo_100, zo_102, zo_90, zo_104, zo_16, zo_108, zo_107, zo_107, zo_107, zo_107, zo_111, zo_110, zo_110, zo_114, zo_113, .inr (11, [.inl (some 98), .inl (some 99), .inl (some 100), .inl (some 101), .inl (some 102), .inl (some 103), .inl none, .inr 0, .inl none, .inl none, .inr 0, .inl none, .inr 0, .inr 0, .inl none, .inl none, .inr 0, .inl none, .inr 0, .inr 0, .inr 2, .inr 0, .inr 1, .inr 1, .inl none, .inl none, .inl none, .inl none, .inr 0, .inl none, .inr 0, .inr 0, .inr 0, .inr 0, .inr 0, .inl none, .inl none, .inl none, .inl none, .inl none, .inl none, .inr 0, .inr 0, .inr 0, .inr 0]), zo_116, zo_117, zo_118, zo_119, zo_90, zo_90]
set_option maxRecDepth 100000 in
noncomputable def zs_200 (n : Nat) : List zSh := [.inl (10, n), zo_0, zo_1, zo_2, zo_3, zo_4, zo_5, zo_6, zo_115, zo_33, zo_11, zo_10, zo_14, zo_13, zo_17, zo_16, zo_20, zo_19, zo_23, zo_22, zo_26, zo_25, zo_29, zo_28, zo_32, zo_31, zo_50, zo_35, zo_10, zo_37, zo_13, zo_39, zo_16, zo_41, zo_19, zo_43, zo_22, zo_45, zo_25, zo_47, zo_28, zo_49, zo_31, zo_67, zo_52, zo_10, zo_54, zo_13, zo_56, zo_16, zo_58, zo_19, zo_60, zo_22, zo_62, zo_25, zo_64, zo_28, zo_66, zo_31, zo_78, zo_71, zo_70, zo_74, zo_73, zo_77, zo_76, zo_86, zo_82, zo_81, zo_85, zo_84, zo_91, zo_88, zo_89, zo_90, zo_98, zo_95, zo_94, zo_97, zo_13, zo_105, zo_100, zo_102, zo_90, zo_104, zo_16, zo_108, zo_107, zo_107, zo_107, zo_107, zo_111, zo_110, zo_110, zo_114, zo_113, .inr (11, [.inl (some 98), .inl (some 99), .inl (some 100), .inl (some 101), .inl (some 102), .inl (some 103), .inl none, .inr 0, .inl none, .inl none, .inr 0, .inl none, .inr 0, .inr 0, .inl none, .inl none, .inr 0, .inl none, .inr 0, .inr 0, .inr 2, .inr 0, .inr 1, .inr 1, .inl none, .inl none, .inl none, .inl none, .inr 0, .inl none, .inr 0, .inr 0, .inr 0, .inr 0, .inr 0, .inl none, .inl none, .inl none, .inl none, .inl none, .inl none, .inr 0, .inr 0, .inr 0, .inr 0]), zo_116, zo_117, zo_118, zo_119, zo_90, zo_90, zo_90]
set_option maxRecDepth 100000 in
noncomputable def zs_201 (n : Nat) : List zSh := [.inl (10, n), zo_0, zo_1, zo_2, zo_3, zo_4, zo_5, zo_6, zo_115, zo_33, zo_11, zo_10, zo_14, zo_13, zo_17, zo_16, zo_20, zo_19, zo_23, zo_22, zo_26, zo_25, zo_29, zo_28, zo_32, zo_31, zo_50, zo_35, zo_10, zo_37, zo_13, zo_39, zo_16, zo_41, zo_19, zo_43, zo_22, zo_45, zo_25, zo_47, zo_28, zo_49, zo_31, zo_67, zo_52, zo_10, zo_54, zo_13, zo_56, zo_16, zo_58, zo_19, zo_60, zo_22, zo_62, zo_25, zo_64, zo_28, zo_66, zo_31, zo_78, zo_71, zo_70, zo_74, zo_73, zo_77, zo_76, zo_86, zo_82, zo_81, zo_85, zo_84, zo_91, zo_88, zo_89, zo_90, zo_98, zo_95, zo_94, zo_97, zo_13, zo_105, zo_100, zo_102, zo_90, zo_104, zo_16, zo_108, zo_107, zo_107, zo_107, zo_107, zo_111, zo_110, zo_110, zo_114, zo_113, .inr (11, [.inl (some 98), .inl (some 99), .inl (some 100), .inl (some 101), .inl (some 102), .inl (some 103), .inl (some 104), .inr 0, .inl none, .inl none, .inr 0, .inl none, .inr 0, .inr 0, .inl none, .inl none, .inr 0, .inl none, .inr 0, .inr 0, .inr 2, .inr 0, .inr 1, .inr 1, .inl none, .inl none, .inl none, .inl none, .inr 0, .inl none, .inr 0, .inr 0, .inr 0, .inr 0, .inr 0, .inl none, .inl none, .inl none, .inl none, .inl none, .inl none, .inr 0, .inr 0, .inr 0, .inr 0]), zo_116, zo_117, zo_118, zo_119, zo_90, zo_90, zo_90]
set_option maxRecDepth 100000 in
noncomputable def zs_202 (n : Nat) : List zSh := [.inl (10, n), zo_0, zo_1, zo_2, zo_3, zo_4, zo_5, zo_6, zo_115, zo_33, zo_11, zo_10, zo_14, zo_13, zo_17, zo_16, zo_20, zo_19, zo_23, zo_22, zo_26, zo_25, zo_29, zo_28, zo_32, zo_31, zo_50, zo_35, zo_10, zo_37, zo_13, zo_39, zo_16, zo_41, zo_19, zo_43, zo_22, zo_45, zo_25, zo_47, zo_28, zo_49, zo_31, zo_67, zo_52, zo_10, zo_54, zo_13, zo_56, zo_16, zo_58, zo_19, zo_60, zo_22, zo_62, zo_25, zo_64, zo_28, zo_66, zo_31, zo_78, zo_71, zo_70, zo_74, zo_73, zo_77, zo_76, zo_86, zo_82, zo_81, zo_85, zo_84, zo_91, zo_88, zo_89, zo_90, zo_98, zo_95, zo_94, zo_97, zo_13, zo_105, zo_100, zo_102, zo_90, zo_104, zo_16, zo_108, zo_107, zo_107, zo_107, zo_107, zo_111, zo_110, zo_110, zo_114, zo_113, .inr (11, [.inl (some 98), .inl (some 99), .inl (some 100), .inl (some 101), .inl (some 102), .inl (some 103), .inl (some 104), .inr 0, .inl none, .inl none, .inr 0, .inl none, .inr 0, .inr 0, .inl none, .inl none, .inr 0, .inl none, .inr 0, .inr 0, .inr 2, .inr 0, .inr 1, .inr 1, .inl none, .inl none, .inl none, .inl none, .inr 0, .inl none, .inr 0, .inr 0, .inr 0, .inr 0, .inr 0, .inl none, .inl none, .inl none, .inl none, .inl none, .inl none, .inr 0, .inr 0, .inr 0, .inr 0]), zo_116, zo_117, zo_118, zo_119, zo_90, zo_90, zo_90, zo_120]
set_option maxRecDepth 100000 in
noncomputable def zs_203 (n : Nat) : List zSh := [.inl (10, n), zo_0, zo_1, zo_2, zo_3, zo_4, zo_5, zo_6, zo_115, zo_33, zo_11, zo_10, zo_14, zo_13, zo_17, zo_16, zo_20, zo_19, zo_23, zo_22, zo_26, zo_25, zo_29, zo_28, zo_32, zo_31, zo_50, zo_35, zo_10, zo_37, zo_13, zo_39, zo_16, zo_41, zo_19, zo_43, zo_22, zo_45, zo_25, zo_47, zo_28, zo_49, zo_31, zo_67, zo_52, zo_10, zo_54, zo_13, zo_56, zo_16, zo_58, zo_19, zo_60, zo_22, zo_62, zo_25, zo_64, zo_28, zo_66, zo_31, zo_78, zo_71, zo_70, zo_74, zo_73, zo_77, zo_76, zo_86, zo_82, zo_81, zo_85, zo_84, zo_91, zo_88, zo_89, zo_90, zo_98, zo_95, zo_94, zo_97, zo_13, zo_105, zo_100, zo_102, zo_90, zo_104, zo_16, zo_108, zo_107, zo_107, zo_107, zo_107, zo_111, zo_110, zo_110, zo_114, zo_113, .inr (11, [.inl (some 98), .inl (some 99), .inl (some 100), .inl (some 101), .inl (some 102), .inl (some 103), .inl (some 104), .inr 0, .inl (some 105), .inl none, .inr 0, .inl none, .inr 0, .inr 0, .inl none, .inl none, .inr 0, .inl none, .inr 0, .inr 0, .inr 2, .inr 0, .inr 1, .inr 1, .inl none, .inl none, .inl none, .inl none, .inr 0, .inl none, .inr 0, .inr 0, .inr 0, .inr 0, .inr 0, .inl none, .inl none, .inl none, .inl none, .inl none, .inl none, .inr 0, .inr 0, .inr 0, .inr 0]), zo_116, zo_117, zo_118, zo_119, zo_90, zo_90, zo_90, zo_120]
set_option maxRecDepth 100000 in
noncomputable def zs_204 (n : Nat) : List zSh := [.inl (10, n), zo_0, zo_1, zo_2, zo_3, zo_4, zo_5, zo_6, zo_115, zo_33, zo_11, zo_10, zo_14, zo_13, zo_17, zo_16, zo_20, zo_19, zo_23, zo_22, zo_26, zo_25, zo_29, zo_28, zo_32, zo_31, zo_50, zo_35, zo_10, zo_37, zo_13, zo_39, zo_16, zo_41, zo_19, zo_43, zo_22, zo_45, zo_25, zo_47, zo_28, zo_49, zo_31, zo_67, zo_52, zo_10, zo_54, zo_13, zo_56, zo_16, zo_58, zo_19, zo_60, zo_22, zo_62, zo_25, zo_64, zo_28, zo_66, zo_31, zo_78, zo_71, zo_70, zo_74, zo_73, zo_77, zo_76, zo_86, zo_82, zo_81, zo_85, zo_84, zo_91, zo_88, zo_89, zo_90, zo_98, zo_95, zo_94, zo_97, zo_13, zo_105, zo_100, zo_102, zo_90, zo_104, zo_16, zo_108, zo_107, zo_107, zo_107, zo_107, zo_111, zo_110, zo_110, zo_114, zo_113, .inr (11, [.inl (some 98), .inl (some 99), .inl (some 100), .inl (some 101), .inl (some 102), .inl (some 103), .inl (some 104), .inr 0, .inl (some 105), .inl none, .inr 0, .inl none, .inr 0, .inr 0, .inl none, .inl none, .inr 0, .inl none, .inr 0, .inr 0, .inr 2, .inr 0, .inr 1, .inr 1, .inl none, .inl none, .inl none, .inl none, .inr 0, .inl none, .inr 0, .inr 0, .inr 0, .inr 0, .inr 0, .inl none, .inl none, .inl none, .inl none, .inl none, .inl none, .inr 0, .inr 0, .inr 0, .inr 0]), zo_116, zo_117, zo_118, zo_119, zo_90, zo_90, zo_90, zo_120, zo_120]
set_option maxRecDepth 100000 in
noncomputable def zs_205 (n : Nat) : List zSh := [.inl (10, n), zo_0, zo_1, zo_2, zo_3, zo_4, zo_5, zo_6, zo_115, zo_33, zo_11, zo_10, zo_14, zo_13, zo_17, zo_16, zo_20, zo_19, zo_23, zo_22, zo_26, zo_25, zo_29, zo_28, zo_32, zo_31, zo_50, zo_35, zo_10, zo_37, zo_13, zo_39, zo_16, zo_41, zo_19, zo_43, zo_22, zo_45, zo_25, zo_47, zo_28, zo_49, zo_31, zo_67, zo_52, zo_10, zo_54, zo_13, zo_56, zo_16, zo_58, zo_19, zo_60, zo_22, zo_62, zo_25, zo_64, zo_28, zo_66, zo_31, zo_78, zo_71, zo_70, zo_74, zo_73, zo_77, zo_76, zo_86, zo_82, zo_81, zo_85, zo_84, zo_91, zo_88, zo_89, zo_90, zo_98, zo_95, zo_94, zo_97, zo_13, zo_105, zo_100, zo_102, zo_90, zo_104, zo_16, zo_108, zo_107, zo_107, zo_107, zo_107, zo_111, zo_110, zo_110, zo_114, zo_113, .inr (11, [.inl (some 98), .inl (some 99), .inl (some 100), .inl (some 101), .inl (some 102), .inl (some 103), .inl (some 104), .inr 0, .inl (some 105), .inl (some 106), .inr 0, .inl none, .inr 0, .inr 0, .inl none, .inl none, .inr 0, .inl none, .inr 0, .inr 0, .inr 2, .inr 0, .inr 1, .inr 1, .inl none, .inl none, .inl none, .inl none, .inr 0, .inl none, .inr 0, .inr 0, .inr 0, .inr 0, .inr 0, .inl none, .inl none, .inl none, .inl none, .inl none, .inl none, .inr 0, .inr 0, .inr 0, .inr 0]), zo_116, zo_117, zo_118, zo_119, zo_90, zo_90, zo_90, zo_120, zo_120]
set_option maxRecDepth 100000 in
noncomputable def zs_206 (n : Nat) : List zSh := [.inl (10, n), zo_0, zo_1, zo_2, zo_3, zo_4, zo_5, zo_6, zo_115, zo_33, zo_11, zo_10, zo_14, zo_13, zo_17, zo_16, zo_20, zo_19, zo_23, zo_22, zo_26, zo_25, zo_29, zo_28, zo_32, zo_31, zo_50, zo_35, zo_10, zo_37, zo_13, zo_39, zo_16, zo_41, zo_19, zo_43, zo_22, zo_45, zo_25, zo_47, zo_28, zo_49, zo_31, zo_67, zo_52, zo_10, zo_54, zo_13, zo_56, zo_16, zo_58, zo_19, zo_60, zo_22, zo_62, zo_25, zo_64, zo_28, zo_66, zo_31, zo_78, zo_71, zo_70, zo_74, zo_73, zo_77, zo_76, zo_86, zo_82, zo_81, zo_85, zo_84, zo_91, zo_88, zo_89, zo_90, zo_98, zo_95, zo_94, zo_97, zo_13, zo_105, zo_100, zo_102, zo_90, zo_104, zo_16, zo_108, zo_107, zo_107, zo_107, zo_107, zo_111, zo_110, zo_110, zo_114, zo_113, .inr (11, [.inl (some 98), .inl (some 99), .inl (some 100), .inl (some 101), .inl (some 102), .inl (some 103), .inl (some 104), .inr 0, .inl (some 105), .inl (some 106), .inr 0, .inl none, .inr 0, .inr 0, .inl none, .inl none, .inr 0, .inl none, .inr 0, .inr 0, .inr 2, .inr 0, .inr 1, .inr 1, .inl none, .inl none, .inl none, .inl none, .inr 0, .inl none, .inr 0, .inr 0, .inr 0, .inr 0, .inr 0, .inl none, .inl none, .inl none, .inl none, .inl none, .inl none, .inr 0, .inr 0, .inr 0, .inr 0]), zo_116, zo_117, zo_118, zo_119, zo_90, zo_90, zo_90, zo_120, zo_120, zo_120]
set_option maxRecDepth 100000 in
noncomputable def zs_207 (n : Nat) : List zSh := [.inl (10, n), zo_0, zo_1, zo_2, zo_3, zo_4, zo_5, zo_6, zo_115, zo_33, zo_11, zo_10, zo_14, zo_13, zo_17, zo_16, zo_20, zo_19, zo_23, zo_22, zo_26, zo_25, zo_29, zo_28, zo_32, zo_31, zo_50, zo_35, zo_10, zo_37, zo_13, zo_39, zo_16, zo_41, zo_19, zo_43, zo_22, zo_45, zo_25, zo_47, zo_28, zo_49, zo_31, zo_67, zo_52, zo_10, zo_54, zo_13, zo_56, zo_16, zo_58, zo_19, zo_60, zo_22, zo_62, zo_25, zo_64, zo_28, zo_66, zo_31, zo_78, zo_71, zo_70, zo_74, zo_73, zo_77, zo_76, zo_86, zo_82, zo_81, zo_85, zo_84, zo_91, zo_88, zo_89, zo_90, zo_98, zo_95, zo_94, zo_97, zo_13, zo_105, zo_100, zo_102, zo_90, zo_104, zo_16, zo_108, zo_107, zo_107, zo_107, zo_107, zo_111, zo_110, zo_110, zo_114, zo_113, .inr (11, [.inl (some 98), .inl (some 99), .inl (some 100), .inl (some 101), .inl (some 102), .inl (some 103), .inl (some 104), .inr 0, .inl (some 105), .inl (some 106), .inr 0, .inl (some 107), .inr 0, .inr 0, .inl none, .inl none, .inr 0, .inl none, .inr 0, .inr 0, .inr 2, .inr 0, .inr 1, .inr 1, .inl none, .inl none, .inl none, .inl none, .inr 0, .inl none, .inr 0, .inr 0, .inr 0, .inr 0, .inr 0, .inl none, .inl none, .inl none, .inl none, .inl none, .inl none, .inr 0, .inr 0, .inr 0, .inr 0]), zo_116, zo_117, zo_118, zo_119, zo_90, zo_90, zo_90, zo_120, zo_120, zo_120]
set_option maxRecDepth 100000 in
noncomputable def zs_208 (n : Nat) : List zSh := [.inl (10, n), zo_0, zo_1, zo_2, zo_3, zo_4, zo_5, zo_6, zo_115, zo_33, zo_11, zo_10, zo_14, zo_13, zo_17, zo_16, zo_20, zo_19, zo_23, zo_22, zo_26, zo_25, zo_29, zo_28, zo_32, zo_31, zo_50, zo_35, zo_10, zo_37, zo_13, zo_39, zo_16, zo_41, zo_19, zo_43, zo_22, zo_45, zo_25, zo_47, zo_28, zo_49, zo_31, zo_67, zo_52, zo_10, zo_54, zo_13, zo_56, zo_16, zo_58, zo_19, zo_60, zo_22, zo_62, zo_25, zo_64, zo_28, zo_66, zo_31, zo_78, zo_71, zo_70, zo_74, zo_73, zo_77, zo_76, zo_86, zo_82, zo_81, zo_85, zo_84, zo_91, zo_88, zo_89, zo_90, zo_98, zo_95, zo_94, zo_97, zo_13, zo_105, zo_100, zo_102, zo_90, zo_104, zo_16, zo_108, zo_107, zo_107, zo_107, zo_107, zo_111, zo_110, zo_110, zo_114, zo_113, .inr (11, [.inl (some 98), .inl (some 99), .inl (some 100), .inl (some 101), .inl (some 102), .inl (some 103), .inl (some 104), .inr 0, .inl (some 105), .inl (some 106), .inr 0, .inl (some 107), .inr 0, .inr 0, .inl none, .inl none, .inr 0, .inl none, .inr 0, .inr 0, .inr 2, .inr 0, .inr 1, .inr 1, .inl none, .inl none, .inl none, .inl none, .inr 0, .inl none, .inr 0, .inr 0, .inr 0, .inr 0, .inr 0, .inl none, .inl none, .inl none, .inl none, .inl none, .inl none, .inr 0, .inr 0, .inr 0, .inr 0]), zo_116, zo_117, zo_118, zo_119, zo_90, zo_90, zo_90, zo_120, zo_120, zo_120, zo_121]
set_option maxRecDepth 100000 in
noncomputable def zs_209 (n : Nat) : List zSh := [.inl (10, n), zo_0, zo_1, zo_2, zo_3, zo_4, zo_5, zo_6, zo_115, zo_33, zo_11, zo_10, zo_14, zo_13, zo_17, zo_16, zo_20, zo_19, zo_23, zo_22, zo_26, zo_25, zo_29, zo_28, zo_32, zo_31, zo_50, zo_35, zo_10, zo_37, zo_13, zo_39, zo_16, zo_41, zo_19, zo_43, zo_22, zo_45, zo_25, zo_47, zo_28, zo_49, zo_31, zo_67, zo_52, zo_10, zo_54, zo_13, zo_56, zo_16, zo_58, zo_19, zo_60, zo_22, zo_62, zo_25, zo_64, zo_28, zo_66, zo_31, zo_78, zo_71, zo_70, zo_74, zo_73, zo_77, zo_76, zo_86, zo_82, zo_81, zo_85, zo_84, zo_91, zo_88, zo_89, zo_90, zo_98, zo_95, zo_94, zo_97, zo_13, zo_105, zo_100, zo_102, zo_90, zo_104, zo_16, zo_108, zo_107, zo_107, zo_107, zo_107, zo_111, zo_110, zo_110, zo_114, zo_113, .inr (11, [.inl (some 98), .inl (some 99), .inl (some 100), .inl (some 101), .inl (some 102), .inl (some 103), .inl (some 104), .inr 0, .inl (some 105), .inl (some 106), .inr 0, .inl (some 107), .inr 0, .inr 0, .inl (some 108), .inl none, .inr 0, .inl none, .inr 0, .inr 0, .inr 2, .inr 0, .inr 1, .inr 1, .inl none, .inl none, .inl none, .inl none, .inr 0, .inl none, .inr 0, .inr 0, .inr 0, .inr 0, .inr 0, .inl none, .inl none, .inl none, .inl none, .inl none, .inl none, .inr 0, .inr 0, .inr 0, .inr 0]), zo_116, zo_117, zo_118, zo_119, zo_90, zo_90, zo_90, zo_120, zo_120, zo_120, zo_121]
set_option maxRecDepth 100000 in
noncomputable def zs_210 (n : Nat) : List zSh := [.inl (10, n), zo_0, zo_1, zo_2, zo_3, zo_4, zo_5, zo_6, zo_115, zo_33, zo_11, zo_10, zo_14, zo_13, zo_17, zo_16, zo_20, zo_19, zo_23, zo_22, zo_26, zo_25, zo_29, zo_28, zo_32, zo_31, zo_50, zo_35, zo_10, zo_37, zo_13, zo_39, zo_16, zo_41, zo_19, zo_43, zo_22, zo_45, zo_25, zo_47, zo_28, zo_49, zo_31, zo_67, zo_52, zo_10, zo_54, zo_13, zo_56, zo_16, zo_58, zo_19, zo_60, zo_22, zo_62, zo_25, zo_64, zo_28, zo_66, zo_31, zo_78, zo_71, zo_70, zo_74, zo_73, zo_77, zo_76, zo_86, zo_82, zo_81, zo_85, zo_84, zo_91, zo_88, zo_89, zo_90, zo_98, zo_95, zo_94, zo_97, zo_13, zo_105, zo_100, zo_102, zo_90, zo_104, zo_16, zo_108, zo_107, zo_107, zo_107, zo_107, zo_111, zo_110, zo_110, zo_114, zo_113, .inr (11, [.inl (some 98), .inl (some 99), .inl (some 100), .inl (some 101), .inl (some 102), .inl (some 103), .inl (some 104), .inr 0, .inl (some 105), .inl (some 106), .inr 0, .inl (some 107), .inr 0, .inr 0, .inl (some 108), .inl none, .inr 0, .inl none, .inr 0, .inr 0, .inr 2, .inr 0, .inr 1, .inr 1, .inl none, .inl none, .inl none, .inl none, .inr 0, .inl none, .inr 0, .inr 0, .inr 0, .inr 0, .inr 0, .inl none, .inl none, .inl none, .inl none, .inl none, .inl none, .inr 0, .inr 0, .inr 0, .inr 0]), zo_116, zo_117, zo_118, zo_119, zo_90, zo_90, zo_90, zo_120, zo_120, zo_120, zo_121, zo_122]
set_option maxRecDepth 100000 in
noncomputable def zs_211 (n : Nat) : List zSh := [.inl (10, n), zo_0, zo_1, zo_2, zo_3, zo_4, zo_5, zo_6, zo_115, zo_33, zo_11, zo_10, zo_14, zo_13, zo_17, zo_16, zo_20, zo_19, zo_23, zo_22, zo_26, zo_25, zo_29, zo_28, zo_32, zo_31, zo_50, zo_35, zo_10, zo_37, zo_13, zo_39, zo_16, zo_41, zo_19, zo_43, zo_22, zo_45, zo_25, zo_47, zo_28, zo_49, zo_31, zo_67, zo_52, zo_10, zo_54, zo_13, zo_56, zo_16, zo_58, zo_19, zo_60, zo_22, zo_62, zo_25, zo_64, zo_28, zo_66, zo_31, zo_78, zo_71, zo_70, zo_74, zo_73, zo_77, zo_76, zo_86, zo_82, zo_81, zo_85, zo_84, zo_91, zo_88, zo_89, zo_90, zo_98, zo_95, zo_94, zo_97, zo_13, zo_105, zo_100, zo_102, zo_90, zo_104, zo_16, zo_108, zo_107, zo_107, zo_107, zo_107, zo_111, zo_110, zo_110, zo_114, zo_113, .inr (11, [.inl (some 98), .inl (some 99), .inl (some 100), .inl (some 101), .inl (some 102), .inl (some 103), .inl (some 104), .inr 0, .inl (some 105), .inl (some 106), .inr 0, .inl (some 107), .inr 0, .inr 0, .inl (some 108), .inl (some 109), .inr 0, .inl none, .inr 0, .inr 0, .inr 2, .inr 0, .inr 1, .inr 1, .inl none, .inl none, .inl none, .inl none, .inr 0, .inl none, .inr 0, .inr 0, .inr 0, .inr 0, .inr 0, .inl none, .inl none, .inl none, .inl none, .inl none, .inl none, .inr 0, .inr 0, .inr 0, .inr 0]), zo_116, zo_117, zo_118, zo_119, zo_90, zo_90, zo_90, zo_120, zo_120, zo_120, zo_121, zo_122]
set_option maxRecDepth 100000 in
noncomputable def zs_212 (n : Nat) : List zSh := [.inl (10, n), zo_0, zo_1, zo_2, zo_3, zo_4, zo_5, zo_6, zo_115, zo_33, zo_11, zo_10, zo_14, zo_13, zo_17, zo_16, zo_20, zo_19, zo_23, zo_22, zo_26, zo_25, zo_29, zo_28, zo_32, zo_31, zo_50, zo_35, zo_10, zo_37, zo_13, zo_39, zo_16, zo_41, zo_19, zo_43, zo_22, zo_45, zo_25, zo_47, zo_28, zo_49, zo_31, zo_67, zo_52, zo_10, zo_54, zo_13, zo_56, zo_16, zo_58, zo_19, zo_60, zo_22, zo_62, zo_25, zo_64, zo_28, zo_66, zo_31, zo_78, zo_71, zo_70, zo_74, zo_73, zo_77, zo_76, zo_86, zo_82, zo_81, zo_85, zo_84, zo_91, zo_88, zo_89, zo_90, zo_98, zo_95, zo_94, zo_97, zo_13, zo_105, zo_100, zo_102, zo_90, zo_104, zo_16, zo_108, zo_107, zo_107, zo_107, zo_107, zo_111, zo_110, zo_110, zo_114, zo_113, .inr (11, [.inl (some 98), .inl (some 99), .inl (some 100), .inl (some 101), .inl (some 102), .inl (some 103), .inl (some 104), .inr 0, .inl (some 105), .inl (some 106), .inr 0, .inl (some 107), .inr 0, .inr 0, .inl (some 108), .inl (some 109), .inr 0, .inl none, .inr 0, .inr 0, .inr 2, .inr 0, .inr 1, .inr 1, .inl none, .inl none, .inl none, .inl none, .inr 0, .inl none, .inr 0, .inr 0, .inr 0, .inr 0, .inr 0, .inl none, .inl none, .inl none, .inl none, .inl none, .inl none, .inr 0, .inr 0, .inr 0, .inr 0]), zo_116, zo_117, zo_118, zo_119, zo_90, zo_90, zo_90, zo_120, zo_120, zo_120, zo_121, zo_122, zo_90]
set_option maxRecDepth 100000 in
noncomputable def zs_213 (n : Nat) : List zSh := [.inl (10, n), zo_0, zo_1, zo_2, zo_3, zo_4, zo_5, zo_6, zo_115, zo_33, zo_11, zo_10, zo_14, zo_13, zo_17, zo_16, zo_20, zo_19, zo_23, zo_22, zo_26, zo_25, zo_29, zo_28, zo_32, zo_31, zo_50, zo_35, zo_10, zo_37, zo_13, zo_39, zo_16, zo_41, zo_19, zo_43, zo_22, zo_45, zo_25, zo_47, zo_28, zo_49, zo_31, zo_67, zo_52, zo_10, zo_54, zo_13, zo_56, zo_16, zo_58, zo_19, zo_60, zo_22, zo_62, zo_25, zo_64, zo_28, zo_66, zo_31, zo_78, zo_71, zo_70, zo_74, zo_73, zo_77, zo_76, zo_86, zo_82, zo_81, zo_85, zo_84, zo_91, zo_88, zo_89, zo_90, zo_98, zo_95, zo_94, zo_97, zo_13, zo_105, zo_100, zo_102, zo_90, zo_104, zo_16, zo_108, zo_107, zo_107, zo_107, zo_107, zo_111, zo_110, zo_110, zo_114, zo_113, .inr (11, [.inl (some 98), .inl (some 99), .inl (some 100), .inl (some 101), .inl (some 102), .inl (some 103), .inl (some 104), .inr 0, .inl (some 105), .inl (some 106), .inr 0, .inl (some 107), .inr 0, .inr 0, .inl (some 108), .inl (some 109), .inr 0, .inl (some 110), .inr 0, .inr 0, .inr 2, .inr 0, .inr 1, .inr 1, .inl none, .inl none, .inl none, .inl none, .inr 0, .inl none, .inr 0, .inr 0, .inr 0, .inr 0, .inr 0, .inl none, .inl none, .inl none, .inl none, .inl none, .inl none, .inr 0, .inr 0, .inr 0, .inr 0]), zo_116, zo_117, zo_118, zo_119, zo_90, zo_90, zo_90, zo_120, zo_120, zo_120, zo_121, zo_122, zo_90]
set_option maxRecDepth 100000 in
noncomputable def zs_214 (n : Nat) : List zSh := [.inl (10, n), zo_0, zo_1, zo_2, zo_3, zo_4, zo_5, zo_6, zo_115, zo_33, zo_11, zo_10, zo_14, zo_13, zo_17, zo_16, zo_20, zo_19, zo_23, zo_22, zo_26, zo_25, zo_29, zo_28, zo_32, zo_31, zo_50, zo_35, zo_10, zo_37, zo_13, zo_39, zo_16, zo_41, zo_19, zo_43, zo_22, zo_45, zo_25, zo_47, zo_28, zo_49, zo_31, zo_67, zo_52, zo_10, zo_54, zo_13, zo_56, zo_16, zo_58, zo_19, zo_60, zo_22, zo_62, zo_25, zo_64, zo_28, zo_66, zo_31, zo_78, zo_71, zo_70, zo_74, zo_73, zo_77, zo_76, zo_86, zo_82, zo_81, zo_85, zo_84, zo_91, zo_88, zo_89, zo_90, zo_98, zo_95, zo_94, zo_97, zo_13, zo_105, zo_100, zo_102, zo_90, zo_104, zo_16, zo_108, zo_107, zo_107, zo_107, zo_107, zo_111, zo_110, zo_110, zo_114, zo_113, .inr (11, [.inl (some 98), .inl (some 99), .inl (some 100), .inl (some 101), .inl (some 102), .inl (some 103), .inl (some 104), .inr 0, .inl (some 105), .inl (some 106), .inr 0, .inl (some 107), .inr 0, .inr 0, .inl (some 108), .inl (some 109), .inr 0, .inl (some 110), .inr 0, .inr 0, .inr 2, .inr 0, .inr 1, .inr 1, .inl none, .inl none, .inl none, .inl none, .inr 0, .inl none, .inr 0, .inr 0, .inr 0, .inr 0, .inr 0, .inl none, .inl none, .inl none, .inl none, .inl none, .inl none, .inr 0, .inr 0, .inr 0, .inr 0]), zo_116, zo_117, zo_118, zo_119, zo_90, zo_90, zo_90, zo_120, zo_120, zo_120, zo_121, zo_122, zo_90, zo_123]
set_option maxRecDepth 100000 in
noncomputable def zs_215 (n : Nat) : List zSh := [.inl (10, n), zo_0, zo_1, zo_2, zo_3, zo_4, zo_5, zo_6, zo_115, zo_33, zo_11, zo_10, zo_14, zo_13, zo_17, zo_16, zo_20, zo_19, zo_23, zo_22, zo_26, zo_25, zo_29, zo_28, zo_32, zo_31, zo_50, zo_35, zo_10, zo_37, zo_13, zo_39, zo_16, zo_41, zo_19, zo_43, zo_22, zo_45, zo_25, zo_47, zo_28, zo_49, zo_31, zo_67, zo_52, zo_10, zo_54, zo_13, zo_56, zo_16, zo_58, zo_19, zo_60, zo_22, zo_62, zo_25, zo_64, zo_28, zo_66, zo_31, zo_78, zo_71, zo_70, zo_74, zo_73, zo_77, zo_76, zo_86, zo_82, zo_81, zo_85, zo_84, zo_91, zo_88, zo_89, zo_90, zo_98, zo_95, zo_94, zo_97, zo_13, zo_105, zo_100, zo_102, zo_90, zo_104, zo_16, zo_108, zo_107, zo_107, zo_107, zo_107, zo_111, zo_110, zo_110, zo_114, zo_113, .inr (11, [.inl (some 98), .inl (some 99), .inl (some 100), .inl (some 101), .inl (some 102), .inl (some 103), .inl (some 104), .inr 0, .inl (some 105), .inl (some 106), .inr 0, .inl (some 107), .inr 0, .inr 0, .inl (some 108), .inl (some 109), .inr 0, .inl (some 110), .inr 0, .inr 0, .inr 2, .inr 0, .inr 1, .inr 1, .inl (some 111), .inl none, .inl none, .inl none, .inr 0, .inl none, .inr 0, .inr 0, .inr 0, .inr 0, .inr 0, .inl none, .inl none, .inl none, .inl none, .inl none, .inl none, .inr 0, .inr 0, .inr 0, .inr 0]), zo_116, zo_117, zo_118, zo_119, zo_90, zo_90, zo_90, zo_120, zo_120, zo_120, zo_121, zo_122, zo_90, zo_123]
set_option maxRecDepth 100000 in
noncomputable def zs_216 (n : Nat) : List zSh := [.inl (10, n), zo_0, zo_1, zo_2, zo_3, zo_4, zo_5, zo_6, zo_115, zo_33, zo_11, zo_10, zo_14, zo_13, zo_17, zo_16, zo_20, zo_19, zo_23, zo_22, zo_26, zo_25, zo_29, zo_28, zo_32, zo_31, zo_50, zo_35, zo_10, zo_37, zo_13, zo_39, zo_16, zo_41, zo_19, zo_43, zo_22, zo_45, zo_25, zo_47, zo_28, zo_49, zo_31, zo_67, zo_52, zo_10, zo_54, zo_13, zo_56, zo_16, zo_58, zo_19, zo_60, zo_22, zo_62, zo_25, zo_64, zo_28, zo_66, zo_31, zo_78, zo_71, zo_70, zo_74, zo_73, zo_77, zo_76, zo_86, zo_82, zo_81, zo_85, zo_84, zo_91, zo_88, zo_89, zo_90, zo_98, zo_95, zo_94, zo_97, zo_13, zo_105, zo_100, zo_102, zo_90, zo_104, zo_16, zo_108, zo_107, zo_107, zo_107, zo_107, zo_111, zo_110, zo_110, zo_114, zo_113, .inr (11, [.inl (some 98), .inl (some 99), .inl (some 100), .inl (some 101), .inl (some 102), .inl (some 103), .inl (some 104), .inr 0, .inl (some 105), .inl (some 106), .inr 0, .inl (some 107), .inr 0, .inr 0, .inl (some 108), .inl (some 109), .inr 0, .inl (some 110), .inr 0, .inr 0, .inr 2, .inr 0, .inr 1, .inr 1, .inl (some 111), .inl none, .inl none, .inl none, .inr 0, .inl none, .inr 0, .inr 0, .inr 0, .inr 0, .inr 0, .inl none, .inl none, .inl none, .inl none, .inl none, .inl none, .inr 0, .inr 0, .inr 0, .inr 0]), zo_116, zo_117, zo_118, zo_119, zo_90, zo_90, zo_90, zo_120, zo_120, zo_120, zo_121, zo_122, zo_90, zo_123, zo_123]
set_option maxRecDepth 100000 in
noncomputable def zs_217 (n : Nat) : List zSh := [.inl (10, n), zo_0, zo_1, zo_2, zo_3, zo_4, zo_5, zo_6, zo_115, zo_33, zo_11, zo_10, zo_14, zo_13, zo_17, zo_16, zo_20, zo_19, zo_23, zo_22, zo_26, zo_25, zo_29, zo_28, zo_32, zo_31, zo_50, zo_35, zo_10, zo_37, zo_13, zo_39, zo_16, zo_41, zo_19, zo_43, zo_22, zo_45, zo_25, zo_47, zo_28, zo_49, zo_31, zo_67, zo_52, zo_10, zo_54, zo_13, zo_56, zo_16, zo_58, zo_19, zo_60, zo_22, zo_62, zo_25, zo_64, zo_28, zo_66, zo_31, zo_78, zo_71, zo_70, zo_74, zo_73, zo_77, zo_76, zo_86, zo_82, zo_81, zo_85, zo_84, zo_91, zo_88, zo_89, zo_90, zo_98, zo_95, zo_94, zo_97, zo_13, zo_105, zo_100, zo_102, zo_90, zo_104, zo_16, zo_108, zo_107, zo_107, zo_107, zo_107, zo_111, zo_110, zo_110, zo_114, zo_113, .inr (11, [.inl (some 98), .inl (some 99), .inl (some 100), .inl (some 101), .inl (some 102), .inl (some 103), .inl (some 104), .inr 0, .inl (some 105), .inl (some 106), .inr 0, .inl (some 107), .inr 0, .inr 0, .inl (some 108), .inl (some 109), .inr 0, .inl (some 110), .inr 0, .inr 0, .inr 2, .inr 0, .inr 1, .inr 1, .inl (some 111), .inl (some 112), .inl none, .inl none, .inr 0, .inl none, .inr 0, .inr 0, .inr 0, .inr 0, .inr 0, .inl none, .inl none, .inl none, .inl none, .inl none, .inl none, .inr 0, .inr 0, .inr 0, .inr 0]), zo_116, zo_117, zo_118, zo_119, zo_90, zo_90, zo_90, zo_120, zo_120, zo_120, zo_121, zo_122, zo_90, zo_123, zo_123]
set_option maxRecDepth 100000 in
noncomputable def zs_218 (n : Nat) : List zSh := [.inl (10, n), zo_0, zo_1, zo_2, zo_3, zo_4, zo_5, zo_6, zo_115, zo_33, zo_11, zo_10, zo_14, zo_13, zo_17, zo_16, zo_20, zo_19, zo_23, zo_22, zo_26, zo_25, zo_29, zo_28, zo_32, zo_31, zo_50, zo_35, zo_10, zo_37, zo_13, zo_39, zo_16, zo_41, zo_19, zo_43, zo_22, zo_45, zo_25, zo_47, zo_28, zo_49, zo_31, zo_67, zo_52, zo_10, zo_54, zo_13, zo_56, zo_16, zo_58, zo_19, zo_60, zo_22, zo_62, zo_25, zo_64, zo_28, zo_66, zo_31, zo_78, zo_71, zo_70, zo_74, zo_73, zo_77, zo_76, zo_86, zo_82, zo_81, zo_85, zo_84, zo_91, zo_88, zo_89, zo_90, zo_98, zo_95, zo_94, zo_97, zo_13, zo_105, zo_100, zo_102, zo_90, zo_104, zo_16, zo_108, zo_107, zo_107, zo_107, zo_107, zo_111, zo_110, zo_110, zo_114, zo_113, .inr (11, [.inl (some 98), .inl (some 99), .inl (some 100), .inl (some 101), .inl (some 102), .inl (some 103), .inl (some 104), .inr 0, .inl (some 105), .inl (some 106), .inr 0, .inl (some 107), .inr 0, .inr 0, .inl (some 108), .inl (some 109), .inr 0, .inl (some 110), .inr 0, .inr 0, .inr 2, .inr 0, .inr 1, .inr 1, .inl (some 111), .inl (some 112), .inl none, .inl none, .inr 0, .inl none, .inr 0, .inr 0, .inr 0, .inr 0, .inr 0, .inl none, .inl none, .inl none, .inl none, .inl none, .inl none, .inr 0, .inr 0, .inr 0, .inr 0]), zo_116, zo_117, zo_118, zo_119, zo_90, zo_90, zo_90, zo_120, zo_120, zo_120, zo_121, zo_122, zo_90, zo_123, zo_123, zo_123]
set_option maxRecDepth 100000 in
noncomputable def zs_219 (n : Nat) : List zSh := [.inl (10, n), zo_0, zo_1, zo_2, zo_3, zo_4, zo_5, zo_6, zo_115, zo_33, zo_11, zo_10, zo_14, zo_13, zo_17, zo_16, zo_20, zo_19, zo_23, zo_22, zo_26, zo_25, zo_29, zo_28, zo_32, zo_31, zo_50, zo_35, zo_10, zo_37, zo_13, zo_39, zo_16, zo_41, zo_19, zo_43, zo_22, zo_45, zo_25, zo_47, zo_28, zo_49, zo_31, zo_67, zo_52, zo_10, zo_54, zo_13, zo_56, zo_16, zo_58, zo_19, zo_60, zo_22, zo_62, zo_25, zo_64, zo_28, zo_66, zo_31, zo_78, zo_71, zo_70, zo_74, zo_73, zo_77, zo_76, zo_86, zo_82, zo_81, zo_85, zo_84, zo_91, zo_88, zo_89, zo_90, zo_98, zo_95, zo_94, zo_97, zo_13, zo_105, zo_100, zo_102, zo_90, zo_104, zo_16, zo_108, zo_107, zo_107, zo_107, zo_107, zo_111, zo_110, zo_110, zo_114, zo_113, .inr (11, [.inl (some 98), .inl (some 99), .inl (some 100), .inl (some 101), .inl (some 102), .inl (some 103), .inl (some 104), .inr 0, .inl (some 105), .inl (some 106), .inr 0, .inl (some 107), .inr 0, .inr 0, .inl (some 108), .inl (some 109), .inr 0, .inl (some 110), .inr 0, .inr 0, .inr 2, .inr 0, .inr 1, .inr 1, .inl (some 111), .inl (some 112), .inl (some 113), .inl none, .inr 0, .inl none, .inr 0, .inr 0, .inr 0, .inr 0, .inr 0, .inl none, .inl none, .inl none, .inl none, .inl none, .inl none, .inr 0, .inr 0, .inr 0, .inr 0]), zo_116, zo_117, zo_118, zo_119, zo_90, zo_90, zo_90, zo_120, zo_120, zo_120, zo_121, zo_122, zo_90, zo_123, zo_123, zo_123]
set_option maxRecDepth 100000 in
noncomputable def zs_220 (n : Nat) : List zSh := [.inl (10, n), zo_0, zo_1, zo_2, zo_3, zo_4, zo_5, zo_6, zo_115, zo_33, zo_11, zo_10, zo_14, zo_13, zo_17, zo_16, zo_20, zo_19, zo_23, zo_22, zo_26, zo_25, zo_29, zo_28, zo_32, zo_31, zo_50, zo_35, zo_10, zo_37, zo_13, zo_39, zo_16, zo_41, zo_19, zo_43, zo_22, zo_45, zo_25, zo_47, zo_28, zo_49, zo_31, zo_67, zo_52, zo_10, zo_54, zo_13, zo_56, zo_16, zo_58, zo_19, zo_60, zo_22, zo_62, zo_25, zo_64, zo_28, zo_66, zo_31, zo_78, zo_71, zo_70, zo_74, zo_73, zo_77, zo_76, zo_86, zo_82, zo_81, zo_85, zo_84, zo_91, zo_88, zo_89, zo_90, zo_98, zo_95, zo_94, zo_97, zo_13, zo_105, zo_100, zo_102, zo_90, zo_104, zo_16, zo_108, zo_107, zo_107, zo_107, zo_107, zo_111, zo_110, zo_110, zo_114, zo_113, .inr (11, [.inl (some 98), .inl (some 99), .inl (some 100), .inl (some 101), .inl (some 102), .inl (some 103), .inl (some 104), .inr 0, .inl (some 105), .inl (some 106), .inr 0, .inl (some 107), .inr 0, .inr 0, .inl (some 108), .inl (some 109), .inr 0, .inl (some 110), .inr 0, .inr 0, .inr 2, .inr 0, .inr 1, .inr 1, .inl (some 111), .inl (some 112), .inl (some 113), .inl none, .inr 0, .inl none, .inr 0, .inr 0, .inr 0, .inr 0, .inr 0, .inl none, .inl none, .inl none, .inl none, .inl none, .inl none, .inr 0, .inr 0, .inr 0, .inr 0]), zo_116, zo_117, zo_118, zo_119, zo_90, zo_90, zo_90, zo_120, zo_120, zo_120, zo_121, zo_122, zo_90, zo_123, zo_123, zo_123, zo_124]
set_option maxRecDepth 100000 in
noncomputable def zs_221 (n : Nat) : List zSh := [.inl (10, n), zo_0, zo_1, zo_2, zo_3, zo_4, zo_5, zo_6, zo_115, zo_33, zo_11, zo_10, zo_14, zo_13, zo_17, zo_16, zo_20, zo_19, zo_23, zo_22, zo_26, zo_25, zo_29, zo_28, zo_32, zo_31, zo_50, zo_35, zo_10, zo_37, zo_13, zo_39, zo_16, zo_41, zo_19, zo_43, zo_22, zo_45, zo_25, zo_47, zo_28, zo_49, zo_31, zo_67, zo_52, zo_10, zo_54, zo_13, zo_56, zo_16, zo_58, zo_19, zo_60, zo_22, zo_62, zo_25, zo_64, zo_28, zo_66, zo_31, zo_78, zo_71, zo_70, zo_74, zo_73, zo_77, zo_76, zo_86, zo_82, zo_81, zo_85, zo_84, zo_91, zo_88, zo_89, zo_90, zo_98, zo_95, zo_94, zo_97, zo_13, zo_105, zo_100, zo_102, zo_90, zo_104, zo_16, zo_108, zo_107, zo_107, zo_107, zo_107, zo_111, zo_110, zo_110, zo_114, zo_113, .inr (11, [.inl (some 98), .inl (some 99), .inl (some 100), .inl (some 101), .inl (some 102), .inl (some 103), .inl (some 104), .inr 0, .inl (some 105), .inl (some 106), .inr 0, .inl (some 107), .inr 0, .inr 0, .inl (some 108), .inl (some 109), .inr 0, .inl (some 110), .inr 0, .inr 0, .inr 2, .inr 0, .inr 1, .inr 1, .inl (some 111), .inl (some 112), .inl (some 113), .inl (some 114), .inr 0, .inl none, .inr 0, .inr 0, .inr 0, .inr 0, .inr 0, .inl none, .inl none, .inl none, .inl none, .inl none, .inl none, .inr 0, .inr 0, .inr 0, .inr 0]), zo_116, zo_117, zo_118, zo_119, zo_90, zo_90, zo_90, zo_120, zo_120, zo_120, zo_121, zo_122, zo_90, zo_123, zo_123, zo_123, zo_124]
set_option maxRecDepth 100000 in
noncomputable def zs_222 (n : Nat) : List zSh := [.inl (10, n), zo_0, zo_1, zo_2, zo_3, zo_4, zo_5, zo_6, zo_115, zo_33, zo_11, zo_10, zo_14, zo_13, zo_17, zo_16, zo_20, zo_19, zo_23, zo_22, zo_26, zo_25, zo_29, zo_28, zo_32, zo_31, zo_50, zo_35, zo_10, zo_37, zo_13, zo_39, zo_16, zo_41, zo_19, zo_43, zo_22, zo_45, zo_25, zo_47, zo_28, zo_49, zo_31, zo_67, zo_52, zo_10, zo_54, zo_13, zo_56, zo_16, zo_58, zo_19, zo_60, zo_22, zo_62, zo_25, zo_64, zo_28, zo_66, zo_31, zo_78, zo_71, zo_70, zo_74, zo_73, zo_77, zo_76, zo_86, zo_82, zo_81, zo_85, zo_84, zo_91, zo_88, zo_89, zo_90, zo_98, zo_95, zo_94, zo_97, zo_13, zo_105, zo_100, zo_102, zo_90, zo_104, zo_16, zo_108, zo_107, zo_107, zo_107, zo_107, zo_111, zo_110, zo_110, zo_114, zo_113, .inr (11, [.inl (some 98), .inl (some 99), .inl (some 100), .inl (some 101), .inl (some 102), .inl (some 103), .inl (some 104), .inr 0, .inl (some 105), .inl (some 106), .inr 0, .inl (some 107), .inr 0, .inr 0, .inl (some 108), .inl (some 109), .inr 0, .inl (some 110), .inr 0, .inr 0, .inr 2, .inr 0, .inr 1, .inr 1, .inl (some 111), .inl (some 112), .inl (some 113), .inl (some 114), .inr 0, .inl none, .inr 0, .inr 0, .inr 0, .inr 0, .inr 0, .inl none, .inl none, .inl none, .inl none, .inl none, .inl none, .inr 0, .inr 0, .inr 0, .inr 0]), zo_116, zo_117, zo_118, zo_119, zo_90, zo_90, zo_90, zo_120, zo_120, zo_120, zo_121, zo_122, zo_90, zo_123, zo_123, zo_123, zo_124, zo_90]
set_option maxRecDepth 100000 in
noncomputable def zs_223 (n : Nat) : List zSh := [.inl (10, n), zo_0, zo_1, zo_2, zo_3, zo_4, zo_5, zo_6, zo_115, zo_33, zo_11, zo_10, zo_14, zo_13, zo_17, zo_16, zo_20, zo_19, zo_23, zo_22, zo_26, zo_25, zo_29, zo_28, zo_32, zo_31, zo_50, zo_35, zo_10, zo_37, zo_13, zo_39, zo_16, zo_41, zo_19, zo_43, zo_22, zo_45, zo_25, zo_47, zo_28, zo_49, zo_31, zo_67, zo_52, zo_10, zo_54, zo_13, zo_56, zo_16, zo_58, zo_19, zo_60, zo_22, zo_62, zo_25, zo_64, zo_28, zo_66, zo_31, zo_78, zo_71, zo_70, zo_74, zo_73, zo_77, zo_76, zo_86, zo_82, zo_81, zo_85, zo_84, zo_91, zo_88, zo_89, zo_90, zo_98, zo_95, zo_94, zo_97, zo_13, zo_105, zo_100, zo_102, zo_90, zo_104, zo_16, zo_108, zo_107, zo_107, zo_107, zo_107, zo_111, zo_110, zo_110, zo_114, zo_113, .inr (11, [.inl (some 98), .inl (some 99), .inl (some 100), .inl (some 101), .inl (some 102), .inl (some 103), .inl (some 104), .inr 0, .inl (some 105), .inl (some 106), .inr 0, .inl (some 107), .inr 0, .inr 0, .inl (some 108), .inl (some 109), .inr 0, .inl (some 110), .inr 0, .inr 0, .inr 2, .inr 0, .inr 1, .inr 1, .inl (some 111), .inl (some 112), .inl (some 113), .inl (some 114), .inr 0, .inl (some 115), .inr 0, .inr 0, .inr 0, .inr 0, .inr 0, .inl none, .inl none, .inl none, .inl none, .inl none, .inl none, .inr 0, .inr 0, .inr 0, .inr 0]), zo_116, zo_117, zo_118, zo_119, zo_90, zo_90, zo_90, zo_120, zo_120, zo_120, zo_121, zo_122, zo_90, zo_123, zo_123, zo_123, zo_124, zo_90]
set_option maxRecDepth 100000 in
noncomputable def zl_83 : List (Nat × Nat × Int) := (97, 31, (-1)) :: zl_82
set_option maxRecDepth 100000 in
noncomputable def zs_224 (n : Nat) : List zSh := [.inl (10, n), zo_0, zo_1, zo_2, zo_3, zo_4, zo_5, zo_6, zo_115, zo_33, zo_11, zo_10, zo_14, zo_13, zo_17, zo_16, zo_20, zo_19, zo_23, zo_22, zo_26, zo_25, zo_29, zo_28, zo_32, zo_31, zo_50, zo_35, zo_10, zo_37, zo_13, zo_39, zo_16, zo_41, zo_19, zo_43, zo_22, zo_45, zo_25, zo_47, zo_28, zo_49, zo_31, zo_67, zo_52, zo_10, zo_54, zo_13, zo_56, zo_16, zo_58, zo_19, zo_60, zo_22, zo_62, zo_25, zo_64, zo_28, zo_66, zo_31, zo_78, zo_71, zo_70, zo_74, zo_73, zo_77, zo_76, zo_86, zo_82, zo_81, zo_85, zo_84, zo_91, zo_88, zo_89, zo_90, zo_98, zo_95, zo_94, zo_97, zo_13, zo_105, zo_100, zo_102, zo_90, zo_104, zo_16, zo_108, zo_107, zo_107, zo_107, zo_107, zo_111, zo_110, zo_110, zo_114, zo_113, .inr (11, [.inl (some 98), .inl (some 99), .inl (some 100), .inl (some 101), .inl (some 102), .inl (some 103), .inl (some 104), .inr 0, .inl (some 105), .inl (some 106), .inr 0, .inl (some 107), .inr 0, .inr 0, .inl (some 108), .inl (some 109), .inr 0, .inl (some 110), .inr 0, .inr 0, .inr 2, .inr 0, .inr 1, .inr 1, .inl (some 111), .inl (some 112), .inl (some 113), .inl (some 114), .inr 0, .inl (some 115), .inr 0, .inr 0, .inr 0, .inr 0, .inr 0, .inl none, .inl none, .inl none, .inl none, .inl none, .inl none, .inr 0, .inr 0, .inr 0, .inr 0]), zo_116, zo_117, zo_118, zo_119, zo_90, zo_90, zo_90, zo_120, zo_120, zo_120, zo_121, zo_122, zo_90, zo_123, zo_123, zo_123, zo_124, zo_90, zo_107]
set_option maxRecDepth 100000 in
noncomputable def zs_225 (n : Nat) : List zSh := [.inl (10, n), zo_0, zo_1, zo_2, zo_3, zo_4, zo_5, zo_6, zo_115, zo_33, zo_11, zo_10, zo_14, zo_13, zo_17, zo_16, zo_20, zo_19, zo_23, zo_22, zo_26, zo_25, zo_29, zo_28, zo_32, zo_31, zo_50, zo_35, zo_10, zo_37, zo_13, zo_39, zo_16, zo_41, zo_19, zo_43, zo_22, zo_45, zo_25, zo_47, zo_28, zo_49, zo_31, zo_67, zo_52, zo_10, zo_54, zo_13, zo_56, zo_16, zo_58, zo_19, zo_60, zo_22, zo_62, zo_25, zo_64, zo_28, zo_66, zo_31, zo_78, zo_71, zo_70, zo_74, zo_73, zo_77, zo_76, zo_86, zo_82, zo_81, zo_85, zo_84, zo_91, zo_88, zo_89, zo_90, zo_98, zo_95, zo_94, zo_97, zo_13, zo_105, zo_100, zo_102, zo_90, zo_104, zo_16, zo_108, zo_107, zo_107, zo_107, zo_107, zo_111, zo_110, zo_110, zo_114, zo_113, .inr (11, [.inl (some 98), .inl (some 99), .inl (some 100), .inl (some 101), .inl (some 102), .inl (some 103), .inl (some 104), .inr 0, .inl (some 105), .inl (some 106), .inr 0, .inl (some 107), .inr 0, .inr 0, .inl (some 108), .inl (some 109), .inr 0, .inl (some 110), .inr 0, .inr 0, .inr 2, .inr 0, .inr 1, .inr 1, .inl (some 111), .inl (some 112), .inl (some 113), .inl (some 114), .inr 0, .inl (some 115), .inr 0, .inr 0, .inr 0, .inr 0, .inr 0, .inl (some 116), .inl none, .inl none, .inl none, .inl none, .inl none, .inr 0, .inr 0, .inr 0, .inr 0]), zo_116, zo_117, zo_118, zo_119, zo_90, zo_90, zo_90, zo_120, zo_120, zo_120, zo_121, zo_122, zo_90, zo_123, zo_123, zo_123, zo_124, zo_90, zo_107]
set_option maxRecDepth 100000 in
noncomputable def zs_226 (n : Nat) : List zSh := [.inl (10, n), zo_0, zo_1, zo_2, zo_3, zo_4, zo_5, zo_6, zo_115, zo_33, zo_11, zo_10, zo_14, zo_13, zo_17, zo_16, zo_20, zo_19, zo_23, zo_22, zo_26, zo_25, zo_29, zo_28, zo_32, zo_31, zo_50, zo_35, zo_10, zo_37, zo_13, zo_39, zo_16, zo_41, zo_19, zo_43, zo_22, zo_45, zo_25, zo_47, zo_28, zo_49, zo_31, zo_67, zo_52, zo_10, zo_54, zo_13, zo_56, zo_16, zo_58, zo_19, zo_60, zo_22, zo_62, zo_25, zo_64, zo_28, zo_66, zo_31, zo_78, zo_71, zo_70, zo_74, zo_73, zo_77, zo_76, zo_86, zo_82, zo_81, zo_85, zo_84, zo_91, zo_88, zo_89, zo_90, zo_98, zo_95, zo_94, zo_97, zo_13, zo_105, zo_100, zo_102, zo_90, zo_104, zo_16, zo_108, zo_107, zo_107, zo_107, zo_107, zo_111, zo_110, zo_110, zo_114, zo_113, .inr (11, [.inl (some 98), .inl (some 99), .inl (some 100), .inl (some 101), .inl (some 102), .inl (some 103), .inl (some 104), .inr 0, .inl (some 105), .inl (some 106), .inr 0, .inl (some 107), .inr 0, .inr 0, .inl (some 108), .inl (some 109), .inr 0, .inl (some 110), .inr 0, .inr 0, .inr 2, .inr 0, .inr 1, .inr 1, .inl (some 111), .inl (some 112), .inl (some 113), .inl (some 114), .inr 0, .inl (some 115), .inr 0, .inr 0, .inr 0, .inr 0, .inr 0, .inl (some 116), .inl none, .inl none, .inl none, .inl none, .inl none, .inr 0, .inr 0, .inr 0, .inr 0]), zo_116, zo_117, zo_118, zo_119, zo_90, zo_90, zo_90, zo_120, zo_120, zo_120, zo_121, zo_122, zo_90, zo_123, zo_123, zo_123, zo_124, zo_90, zo_107, zo_107]
set_option maxRecDepth 100000 in
noncomputable def zs_227 (n : Nat) : List zSh := [.inl (10, n), zo_0, zo_1, zo_2, zo_3, zo_4, zo_5, zo_6, zo_115, zo_33, zo_11, zo_10, zo_14, zo_13, zo_17, zo_16, zo_20, zo_19, zo_23, zo_22, zo_26, zo_25, zo_29, zo_28, zo_32, zo_31, zo_50, zo_35, zo_10, zo_37, zo_13, zo_39, zo_16, zo_41, zo_19, zo_43, zo_22, zo_45, zo_25, zo_47, zo_28, zo_49, zo_31, zo_67, zo_52, zo_10, zo_54, zo_13, zo_56, zo_16, zo_58, zo_19, zo_60, zo_22, zo_62, zo_25, zo_64, zo_28, zo_66, zo_31, zo_78, zo_71, zo_70, zo_74, zo_73, zo_77, zo_76, zo_86, zo_82, zo_81, zo_85, zo_84, zo_91, zo_88, zo_89, zo_90, zo_98, zo_95, zo_94, zo_97, zo_13, zo_105, zo_100, zo_102, zo_90, zo_104, zo_16, zo_108, zo_107, zo_107, zo_107, zo_107, zo_111, zo_110, zo_110, zo_114, zo_113, .inr (11, [.inl (some 98), .inl (some 99), .inl (some 100), .inl (some 101), .inl (some 102), .inl (some 103), .inl (some 104), .inr 0, .inl (some 105), .inl (some 106), .inr 0, .inl (some 107), .inr 0, .inr 0, .inl (some 108), .inl (some 109), .inr 0, .inl (some 110), .inr 0, .inr 0, .inr 2, .inr 0, .inr 1, .inr 1, .inl (some 111), .inl (some 112), .inl (some 113), .inl (some 114), .inr 0, .inl (some 115), .inr 0, .inr 0, .inr 0, .inr 0, .inr 0, .inl (some 116), .inl (some 117), .inl none, .inl none, .inl none, .inl none, .inr 0, .inr 0, .inr 0, .inr 0]), zo_116, zo_117, zo_118, zo_119, zo_90, zo_90, zo_90, zo_120, zo_120, zo_120, zo_121, zo_122, zo_90, zo_123, zo_123, zo_123, zo_124, zo_90, zo_107, zo_107]
set_option maxRecDepth 100000 in
noncomputable def zs_228 (n : Nat) : List zSh := [.inl (10, n), zo_0, zo_1, zo_2, zo_3, zo_4, zo_5, zo_6, zo_115, zo_33, zo_11, zo_10, zo_14, zo_13, zo_17, zo_16, zo_20, zo_19, zo_23, zo_22, zo_26, zo_25, zo_29, zo_28, zo_32, zo_31, zo_50, zo_35, zo_10, zo_37, zo_13, zo_39, zo_16, zo_41, zo_19, zo_43, zo_22, zo_45, zo_25, zo_47, zo_28, zo_49, zo_31, zo_67, zo_52, zo_10, zo_54, zo_13, zo_56, zo_16, zo_58, zo_19, zo_60, zo_22, zo_62, zo_25, zo_64, zo_28, zo_66, zo_31, zo_78, zo_71, zo_70, zo_74, zo_73, zo_77, zo_76, zo_86, zo_82, zo_81, zo_85, zo_84, zo_91, zo_88, zo_89, zo_90, zo_98, zo_95, zo_94, zo_97, zo_13, zo_105, zo_100, zo_102, zo_90, zo_104, zo_16, zo_108, zo_107, zo_107, zo_107, zo_107, zo_111, zo_110, zo_110, zo_114, zo_113, .inr (11, [.inl (some 98), .inl (some 99), .inl (some 100), .inl (some 101), .inl (some 102), .inl (some 103), .inl (some 104), .inr 0, .inl (some 105), .inl (some 106), .inr 0, .inl (some 107), .inr 0, .inr 0, .inl (some 108), .inl (some 109), .inr 0, .inl (some 110), .inr 0, .inr 0, .inr 2, .inr 0, .inr 1, .inr 1, .inl (some 111), .inl (some 112), .inl (some 113), .inl (some 114), .inr 0, .inl (some 115), .inr 0, .inr 0, .inr 0, .inr 0, .inr 0, .inl (some 116), .inl (some 117), .inl none, .inl none, .inl none, .inl none, .inr 0, .inr 0, .inr 0, .inr 0]), zo_116, zo_117, zo_118, zo_119, zo_90, zo_90, zo_90, zo_120, zo_120, zo_120, zo_121, zo_122, zo_90, zo_123, zo_123, zo_123, zo_124, zo_90, zo_107, zo_107, zo_107]
set_option maxRecDepth 100000 in
noncomputable def zs_229 (n : Nat) : List zSh := [.inl (10, n), zo_0, zo_1, zo_2, zo_3, zo_4, zo_5, zo_6, zo_115, zo_33, zo_11, zo_10, zo_14, zo_13, zo_17, zo_16, zo_20, zo_19, zo_23, zo_22, zo_26, zo_25, zo_29, zo_28, zo_32, zo_31, zo_50, zo_35, zo_10, zo_37, zo_13, zo_39, zo_16, zo_41, zo_19, zo_43, zo_22, zo_45, zo_25, zo_47, zo_28, zo_49, zo_31, zo_67, zo_52, zo_10, zo_54, zo_13, zo_56, zo_16, zo_58, zo_19, zo_60, zo_22, zo_62, zo_25, zo_64, zo_28, zo_66, zo_31, zo_78, zo_71, zo_70, zo_74, zo_73, zo_77, zo_76, zo_86, zo_82, zo_81, zo_85, zo_84, zo_91, zo_88, zo_89, zo_90, zo_98, zo_95, zo_94, zo_97, zo_13, zo_105, zo_100, zo_102, zo_90, zo_104, zo_16, zo_108, zo_107, zo_107, zo_107, zo_107, zo_111, zo_110, zo_110, zo_114, zo_113, .inr (11, [.inl (some 98), .inl (some 99), .inl (some 100), .inl (some 101), .inl (some 102), .inl (some 103), .inl (some 104), .inr 0, .inl (some 105), .inl (some 106), .inr 0, .inl (some 107), .inr 0, .inr 0, .inl (some 108), .inl (some 109), .inr 0, .inl (some 110), .inr 0, .inr 0, .inr 2, .inr 0, .inr 1, .inr 1, .inl (some 111), .inl (some 112), .inl (some 113), .inl (some 114), .inr 0, .inl (some 115), .inr 0, .inr 0, .inr 0, .inr 0, .inr 0, .inl (some 116), .inl (some 117), .inl (some 118), .inl none, .inl none, .inl none, .inr 0, .inr 0, .inr 0, .inr 0]), zo_116, zo_117, zo_118, zo_119, zo_90, zo_90, zo_90, zo_120, zo_120, zo_120, zo_121, zo_122, zo_90, zo_123, zo_123, zo_123, zo_124, zo_90, zo_107, zo_107, zo_107]
set_option maxRecDepth 100000 in
noncomputable def zs_230 (n : Nat) : List zSh := [.inl (10, n), zo_0, zo_1, zo_2, zo_3, zo_4, zo_5, zo_6, zo_115, zo_33, zo_11, zo_10, zo_14, zo_13, zo_17, zo_16, zo_20, zo_19, zo_23, zo_22, zo_26, zo_25, zo_29, zo_28, zo_32, zo_31, zo_50, zo_35, zo_10, zo_37, zo_13, zo_39, zo_16, zo_41, zo_19, zo_43, zo_22, zo_45, zo_25, zo_47, zo_28, zo_49, zo_31, zo_67, zo_52, zo_10, zo_54, zo_13, zo_56, zo_16, zo_58, zo_19, zo_60, zo_22, zo_62, zo_25, zo_64, zo_28, zo_66, zo_31, zo_78, zo_71, zo_70, zo_74, zo_73, zo_77, zo_76, zo_86, zo_82, zo_81, zo_85, zo_84, zo_91, zo_88, zo_89, zo_90, zo_98, zo_95, zo_94, zo_97, zo_13, zo_105, zo_100, zo_102, zo_90, zo_104, zo_16, zo_108, zo_107, zo_107, zo_107, zo_107, zo_111, zo_110, zo_110, zo_114, zo_113, .inr (11, [.inl (some 98), .inl (some 99), .inl (some 100), .inl (some 101), .inl (some 102), .inl (some 103), .inl (some 104), .inr 0, .inl (some 105), .inl (some 106), .inr 0, .inl (some 107), .inr 0, .inr 0, .inl (some 108), .inl (some 109), .inr 0, .inl (some 110), .inr 0, .inr 0, .inr 2, .inr 0, .inr 1, .inr 1, .inl (some 111), .inl (some 112), .inl (some 113), .inl (some 114), .inr 0, .inl (some 115), .inr 0, .inr 0, .inr 0, .inr 0, .inr 0, .inl (some 116), .inl (some 117), .inl (some 118), .inl none, .inl none, .inl none, .inr 0, .inr 0, .inr 0, .inr 0]), zo_116, zo_117, zo_118, zo_119, zo_90, zo_90, zo_90, zo_120, zo_120, zo_120, zo_121, zo_122, zo_90, zo_123, zo_123, zo_123, zo_124, zo_90, zo_107, zo_107, zo_107, zo_125]
set_option maxRecDepth 100000 in
noncomputable def zs_231 (n : Nat) : List zSh := [.inl (10, n), zo_0, zo_1, zo_2, zo_3, zo_4, zo_5, zo_6, zo_115, zo_33, zo_11, zo_10, zo_14, zo_13, zo_17, zo_16, zo_20, zo_19, zo_23, zo_22, zo_26, zo_25, zo_29, zo_28, zo_32, zo_31, zo_50, zo_35, zo_10, zo_37, zo_13, zo_39, zo_16, zo_41, zo_19, zo_43, zo_22, zo_45, zo_25, zo_47, zo_28, zo_49, zo_31, zo_67, zo_52, zo_10, zo_54, zo_13, zo_56, zo_16, zo_58, zo_19, zo_60, zo_22, zo_62, zo_25, zo_64, zo_28, zo_66, zo_31, zo_78, zo_71, zo_70, zo_74, zo_73, zo_77, zo_76, zo_86, zo_82, zo_81, zo_85, zo_84, zo_91, zo_88, zo_89, zo_90, zo_98, zo_95, zo_94, zo_97, zo_13, zo_105, zo_100, zo_102, zo_90, zo_104, zo_16, zo_108, zo_107, zo_107, zo_107, zo_107, zo_111, zo_110, zo_110, zo_114, zo_113, .inr (11, [.inl (some 98), .inl (some 99), .inl (some 100), .inl (some 101), .inl (some 102), .inl (some 103), .inl (some 104), .inr 0, .inl (some 105), .inl (some 106), .inr 0, .inl (some 107), .inr 0, .inr 0, .inl (some 108), .inl (some 109), .inr 0, .inl (some 110), .inr 0, .inr 0, .inr 2, .inr 0, .inr 1, .inr 1, .inl (some 111), .inl (some 112), .inl (some 113), .inl (some 114), .inr 0, .inl (some 115), .inr 0, .inr 0, .inr 0, .inr 0, .inr 0, .inl (some 116), .inl (some 117), .inl (some 118), .inl (some 119), .inl none, .inl none, .inr 0, .inr 0, .inr 0, .inr 0]), zo_116, zo_117, zo_118, zo_119, zo_90, zo_90, zo_90, zo_120, zo_120, zo_120, zo_121, zo_122, zo_90, zo_123, zo_123, zo_123, zo_124, zo_90, zo_107, zo_107, zo_107, zo_125]
set_option maxRecDepth 100000 in
noncomputable def zs_232 (n : Nat) : List zSh := [.inl (10, n), zo_0, zo_1, zo_2, zo_3, zo_4, zo_5, zo_6, zo_115, zo_33, zo_11, zo_10, zo_14, zo_13, zo_17, zo_16, zo_20, zo_19, zo_23, zo_22, zo_26, zo_25, zo_29, zo_28, zo_32, zo_31, zo_50, zo_35, zo_10, zo_37, zo_13, zo_39, zo_16, zo_41, zo_19, zo_43, zo_22, zo_45, zo_25, zo_47, zo_28, zo_49, zo_31, zo_67, zo_52, zo_10, zo_54, zo_13, zo_56, zo_16, zo_58, zo_19, zo_60, zo_22, zo_62, zo_25, zo_64, zo_28, zo_66, zo_31, zo_78, zo_71, zo_70, zo_74, zo_73, zo_77, zo_76, zo_86, zo_82, zo_81, zo_85, zo_84, zo_91, zo_88, zo_89, zo_90, zo_98, zo_95, zo_94, zo_97, zo_13, zo_105, zo_100, zo_102, zo_90, zo_104, zo_16, zo_108, zo_107, zo_107, zo_107, zo_107, zo_111, zo_110, zo_110, zo_114, zo_113, .inr (11, [.inl (some 98), .inl (some 99), .inl (some 100), .inl (some 101), .inl (some 102), .inl (some 103), .inl (some 104), .inr 0, .inl (some 105), .inl (some 106), .inr 0, .inl (some 107), .inr 0, .inr 0, .inl (some 108), .inl (some 109), .inr 0, .inl (some 110), .inr 0, .inr 0, .inr 2, .inr 0, .inr 1, .inr 1, .inl (some 111), .inl (some 112), .inl (some 113), .inl (some 114), .inr 0, .inl (some 115), .inr 0, .inr 0, .inr 0, .inr 0, .inr 0, .inl (some 116), .inl (some 117), .inl (some 118), .inl (some 119), .inl none, .inl none, .inr 0, .inr 0, .inr 0, .inr 0]), zo_116, zo_117, zo_118, zo_119, zo_90, zo_90, zo_90, zo_120, zo_120, zo_120, zo_121, zo_122, zo_90, zo_123, zo_123, zo_123, zo_124, zo_90, zo_107, zo_107, zo_107, zo_125, zo_126]
set_option maxRecDepth 100000 in
noncomputable def zs_233 (n : Nat) : List zSh := [.inl (10, n), zo_0, zo_1, zo_2, zo_3, zo_4, zo_5, zo_6, zo_115, zo_33, zo_11, zo_10, zo_14, zo_13, zo_17, zo_16, zo_20, zo_19, zo_23, zo_22, zo_26, zo_25, zo_29, zo_28, zo_32, zo_31, zo_50, zo_35, zo_10, zo_37, zo_13, zo_39, zo_16, zo_41, zo_19, zo_43, zo_22, zo_45, zo_25, zo_47, zo_28, zo_49, zo_31, zo_67, zo_52, zo_10, zo_54, zo_13, zo_56, zo_16, zo_58, zo_19, zo_60, zo_22, zo_62, zo_25, zo_64, zo_28, zo_66, zo_31, zo_78, zo_71, zo_70, zo_74, zo_73, zo_77, zo_76, zo_86, zo_82, zo_81, zo_85, zo_84, zo_91, zo_88, zo_89, zo_90, zo_98, zo_95, zo_94, zo_97, zo_13, zo_105, zo_100, zo_102, zo_90, zo_104, zo_16, zo_108, zo_107, zo_107, zo_107, zo_107, zo_111, zo_110, zo_110, zo_114, zo_113, .inr (11, [.inl (some 98), .inl (some 99), .inl (some 100), .inl (some 101), .inl (some 102), .inl (some 103), .inl (some 104), .inr 0, .inl (some 105), .inl (some 106), .inr 0, .inl (some 107), .inr 0, .inr 0, .inl (some 108), .inl (some 109), .inr 0, .inl (some 110), .inr 0, .inr 0, .inr 2, .inr 0, .inr 1, .inr 1, .inl (some 111), .inl (some 112), .inl (some 113), .inl (some 114), .inr 0, .inl (some 115), .inr 0, .inr 0, .inr 0, .inr 0, .inr 0, .inl (some 116), .inl (some 117), .inl (some 118), .inl (some 119), .inl (some 120), .inl none, .inr 0, .inr 0, .inr 0, .inr 0]), zo_116, zo_117, zo_118, zo_119, zo_90, zo_90, zo_90, zo_120, zo_120, zo_120, zo_121, zo_122, zo_90, zo_123, zo_123, zo_123, zo_124, zo_90, zo_107, zo_107, zo_107, zo_125, zo_126]
set_option maxRecDepth 100000 in
noncomputable def zs_234 (n : Nat) : List zSh := [.inl (10, n), zo_0, zo_1, zo_2, zo_3, zo_4, zo_5, zo_6, zo_115, zo_33, zo_11, zo_10, zo_14, zo_13, zo_17, zo_16, zo_20, zo_19, zo_23, zo_22, zo_26, zo_25, zo_29, zo_28, zo_32, zo_31, zo_50, zo_35, zo_10, zo_37, zo_13, zo_39, zo_16, zo_41, zo_19, zo_43, zo_22, zo_45, zo_25, zo_47, zo_28, zo_49, zo_31, zo_67, zo_52, zo_10, zo_54, zo_13, zo_56, zo_16, zo_58, zo_19, zo_60, zo_22, zo_62, zo_25, zo_64, zo_28, zo_66, zo_31, zo_78, zo_71, zo_70, zo_74, zo_73, zo_77, zo_76, zo_86, zo_82, zo_81, zo_85, zo_84, zo_91, zo_88, zo_89, zo_90, zo_98, zo_95, zo_94, zo_97, zo_13, zo_105, zo_100, zo_102, zo_90, zo_104, zo_16, zo_108, zo_107, zo_107, zo_107, zo_107, zo_111, zo_110, zo_110, zo_114, zo_113, .inr (11, [.inl (some 98), .inl (some 99), .inl (some 100), .inl (some 101), .inl (some 102), .inl (some 103), .inl (some 104), .inr 0, .inl (some 105), .inl (some 106), .inr 0, .inl (some 107), .inr 0, .inr 0, .inl (some 108), .inl (some 109), .inr 0, .inl (some 110), .inr 0, .inr 0, .inr 2, .inr 0, .inr 1, .inr 1, .inl (some 111), .inl (some 112), .inl (some 113), .inl (some 114), .inr 0, .inl (some 115), .inr 0, .inr 0, .inr 0, .inr 0, .inr 0, .inl (some 116), .inl (some 117), .inl (some 118), .inl (some 119), .inl (some 120), .inl none, .inr 0, .inr 0, .inr 0, .inr 0]), zo_116, zo_117, zo_118, zo_119, zo_90, zo_90, zo_90, zo_120, zo_120, zo_120, zo_121, zo_122, zo_90, zo_123, zo_123, zo_123, zo_124, zo_90, zo_107, zo_107, zo_107, zo_125, zo_126, zo_126]
set_option maxRecDepth 100000 in
noncomputable def zs_235 (n : Nat) : List zSh := [.inl (10, n), zo_0, zo_1, zo_2, zo_3, zo_4, zo_5, zo_6, zo_115, zo_33, zo_11, zo_10, zo_14, zo_13, zo_17, zo_16, zo_20, zo_19, zo_23, zo_22, zo_26, zo_25, zo_29, zo_28, zo_32, zo_31, zo_50, zo_35, zo_10, zo_37, zo_13, zo_39, zo_16, zo_41, zo_19, zo_43, zo_22, zo_45, zo_25, zo_47, zo_28, zo_49, zo_31, zo_67, zo_52, zo_10, zo_54, zo_13, zo_56, zo_16, zo_58, zo_19, zo_60, zo_22, zo_62, zo_25, zo_64, zo_28, zo_66, zo_31, zo_78, zo_71, zo_70, zo_74, zo_73, zo_77, zo_76, zo_86, zo_82, zo_81, zo_85, zo_84, zo_91, zo_88, zo_89, zo_90, zo_98, zo_95, zo_94, zo_97, zo_13, zo_105, zo_100, zo_102, zo_90, zo_104, zo_16, zo_108, zo_107, zo_107, zo_107, zo_107, zo_111, zo_110, zo_110, zo_114, zo_113, .inr (11, [.inl (some 98), .inl (some 99), .inl (some 100), .inl (some 101), .inl (some 102), .inl (some 103), .inl (some 104), .inr 0, .inl (some 105), .inl (some 106), .inr 0, .inl (some 107), .inr 0, .inr 0, .inl (some 108), .inl (some 109), .inr 0, .inl (some 110), .inr 0, .inr 0, .inr 2, .inr 0, .inr 1, .inr 1, .inl (some 111), .inl (some 112), .inl (some 113), .inl (some 114), .inr 0, .inl (some 115), .inr 0, .inr 0, .inr 0, .inr 0, .inr 0, .inl (some 116), .inl (some 117), .inl (some 118), .inl (some 119), .inl (some 120), .inl (some 121), .inr 0, .inr 0, .inr 0, .inr 0]), zo_116, zo_117, zo_118, zo_119, zo_90, zo_90, zo_90, zo_120, zo_120, zo_120, zo_121, zo_122, zo_90, zo_123, zo_123, zo_123, zo_124, zo_90, zo_107, zo_107, zo_107, zo_125, zo_126, zo_126]
set_option maxRecDepth 100000 in
noncomputable def zl_84 : List (Nat × Nat × Int) := (98, 7, 30) :: zl_83
set_option maxRecDepth 100000 in
noncomputable def zl_85 : List (Nat × Nat × Int) := (98, 8, 20) :: zl_84
set_option maxRecDepth 100000 in
theorem qc_1 (n : Nat) (xs : Nat → Int32) {d : Nat} (hd : 1 ≤ d) : qR d 100 (0, zini [.inr (.inr (some 10)), .inl 14, .inl 4] 3, []) (zs_3 n, qml (zxc xs) zl_0, 0, 0) (fun r w' => r = none ∧ ∃ a b, w' = (zs_5 n, qml (zxc xs) zl_2, a, b)) := by
  have hz := zp_100
  have hd0 : 0 < d := by omega
  show qR d 100 (0, [.inr (.inr (some 10)), .inl 14, .inl 4], []) (zs_3 n, qml (zxc xs) zl_0, 0, 0) _
  refine qR_w (c' := (13, [.inr (.inr (some 10)), .inl 14, .inl 4], [])) (w' := (zs_3 n, qml (zxc xs) zl_1, 0, 0)) 7 hd0 hz (by rfl) ?_
  refine qR_w (c' := (22, [.inr (.inr (some 10)), .inl 14, .inl 4], [])) (w' := (zs_3 n, qml (zxc xs) zl_2, 0, 0)) 5 hd0 hz (by rfl) ?_
  refine qR_w (c' := (34, [.inr (.inr (some 10)), .inl 14, .inl 4], [.inl 56, .inr (.inr (some 10))])) (w' := (zs_3 n, qml (zxc xs) zl_2, 0, 0)) 8 hd0 hz (by rfl) ?_
  refine qR_z (c' := (36, [.inr (.inr (some 10)), .inl 14, .inl 4], [.inr (.inr (some 11)), .inr (.inr (some 10))])) (S' := zs_4 n) (r := 11) (a' := 1) (b' := 56) hd0 hz rfl rfl (fun j => qml_z rfl rfl) ?_
  refine qR_w (c' := (39, [.inr (.inr (some 10)), .inl 14, .inl 4], [])) (w' := (zs_5 n, qml (zxc xs) zl_2, 1, 56)) 1 hd0 hz (by rfl) ?_
  exact qR_ret hd0 hz rfl rfl ⟨rfl, _, _, rfl⟩
set_option maxRecDepth 100000 in
theorem qc_2 (n : Nat) (xs : Nat → Int32) {d : Nat} (hd : 1 ≤ d) : qR d 100 (0, zini [.inr (.inr (some 12)), .inl 20, .inl 3] 3, []) (zs_7 n, qml (zxc xs) zl_2, 0, 0) (fun r w' => r = none ∧ ∃ a b, w' = (zs_9 n, qml (zxc xs) zl_4, a, b)) := by
  have hz := zp_100
  have hd0 : 0 < d := by omega
  show qR d 100 (0, [.inr (.inr (some 12)), .inl 20, .inl 3], []) (zs_7 n, qml (zxc xs) zl_2, 0, 0) _
  refine qR_w (c' := (13, [.inr (.inr (some 12)), .inl 20, .inl 3], [])) (w' := (zs_7 n, qml (zxc xs) zl_3, 0, 0)) 7 hd0 hz (by rfl) ?_
  refine qR_w (c' := (22, [.inr (.inr (some 12)), .inl 20, .inl 3], [])) (w' := (zs_7 n, qml (zxc xs) zl_4, 0, 0)) 5 hd0 hz (by rfl) ?_
  refine qR_w (c' := (34, [.inr (.inr (some 12)), .inl 20, .inl 3], [.inl 60, .inr (.inr (some 12))])) (w' := (zs_7 n, qml (zxc xs) zl_4, 0, 0)) 8 hd0 hz (by rfl) ?_
  refine qR_z (c' := (36, [.inr (.inr (some 12)), .inl 20, .inl 3], [.inr (.inr (some 13)), .inr (.inr (some 12))])) (S' := zs_8 n) (r := 13) (a' := 1) (b' := 60) hd0 hz rfl rfl (fun j => qml_z rfl rfl) ?_
  refine qR_w (c' := (39, [.inr (.inr (some 12)), .inl 20, .inl 3], [])) (w' := (zs_9 n, qml (zxc xs) zl_4, 1, 60)) 1 hd0 hz (by rfl) ?_
  exact qR_ret hd0 hz rfl rfl ⟨rfl, _, _, rfl⟩
set_option maxRecDepth 100000 in
theorem qc_3 (n : Nat) (xs : Nat → Int32) {d : Nat} (hd : 1 ≤ d) : qR d 100 (0, zini [.inr (.inr (some 14)), .inl 4, .inl 2] 3, []) (zs_11 n, qml (zxc xs) zl_4, 0, 0) (fun r w' => r = none ∧ ∃ a b, w' = (zs_13 n, qml (zxc xs) zl_6, a, b)) := by
  have hz := zp_100
  have hd0 : 0 < d := by omega
  show qR d 100 (0, [.inr (.inr (some 14)), .inl 4, .inl 2], []) (zs_11 n, qml (zxc xs) zl_4, 0, 0) _
  refine qR_w (c' := (13, [.inr (.inr (some 14)), .inl 4, .inl 2], [])) (w' := (zs_11 n, qml (zxc xs) zl_5, 0, 0)) 7 hd0 hz (by rfl) ?_
  refine qR_w (c' := (22, [.inr (.inr (some 14)), .inl 4, .inl 2], [])) (w' := (zs_11 n, qml (zxc xs) zl_6, 0, 0)) 5 hd0 hz (by rfl) ?_
  refine qR_w (c' := (34, [.inr (.inr (some 14)), .inl 4, .inl 2], [.inl 8, .inr (.inr (some 14))])) (w' := (zs_11 n, qml (zxc xs) zl_6, 0, 0)) 8 hd0 hz (by rfl) ?_
  refine qR_z (c' := (36, [.inr (.inr (some 14)), .inl 4, .inl 2], [.inr (.inr (some 15)), .inr (.inr (some 14))])) (S' := zs_12 n) (r := 15) (a' := 1) (b' := 8) hd0 hz rfl rfl (fun j => qml_z rfl rfl) ?_
  refine qR_w (c' := (39, [.inr (.inr (some 14)), .inl 4, .inl 2], [])) (w' := (zs_13 n, qml (zxc xs) zl_6, 1, 8)) 1 hd0 hz (by rfl) ?_
  exact qR_ret hd0 hz rfl rfl ⟨rfl, _, _, rfl⟩
set_option maxRecDepth 100000 in
theorem qc_4 (n : Nat) (xs : Nat → Int32) {d : Nat} (hd : 1 ≤ d) : qR d 100 (0, zini [.inr (.inr (some 16)), .inl 40, .inl 5] 3, []) (zs_15 n, qml (zxc xs) zl_6, 0, 0) (fun r w' => r = none ∧ ∃ a b, w' = (zs_17 n, qml (zxc xs) zl_8, a, b)) := by
  have hz := zp_100
  have hd0 : 0 < d := by omega
  show qR d 100 (0, [.inr (.inr (some 16)), .inl 40, .inl 5], []) (zs_15 n, qml (zxc xs) zl_6, 0, 0) _
  refine qR_w (c' := (13, [.inr (.inr (some 16)), .inl 40, .inl 5], [])) (w' := (zs_15 n, qml (zxc xs) zl_7, 0, 0)) 7 hd0 hz (by rfl) ?_
  refine qR_w (c' := (22, [.inr (.inr (some 16)), .inl 40, .inl 5], [])) (w' := (zs_15 n, qml (zxc xs) zl_8, 0, 0)) 5 hd0 hz (by rfl) ?_
  refine qR_w (c' := (34, [.inr (.inr (some 16)), .inl 40, .inl 5], [.inl 200, .inr (.inr (some 16))])) (w' := (zs_15 n, qml (zxc xs) zl_8, 0, 0)) 8 hd0 hz (by rfl) ?_
  refine qR_z (c' := (36, [.inr (.inr (some 16)), .inl 40, .inl 5], [.inr (.inr (some 17)), .inr (.inr (some 16))])) (S' := zs_16 n) (r := 17) (a' := 1) (b' := 200) hd0 hz rfl rfl (fun j => qml_z rfl rfl) ?_
  refine qR_w (c' := (39, [.inr (.inr (some 16)), .inl 40, .inl 5], [])) (w' := (zs_17 n, qml (zxc xs) zl_8, 1, 200)) 1 hd0 hz (by rfl) ?_
  exact qR_ret hd0 hz rfl rfl ⟨rfl, _, _, rfl⟩
set_option maxRecDepth 100000 in
theorem qc_5 (n : Nat) (xs : Nat → Int32) {d : Nat} (hd : 1 ≤ d) : qR d 100 (0, zini [.inr (.inr (some 18)), .inl 250, .inl 11] 3, []) (zs_19 n, qml (zxc xs) zl_8, 0, 0) (fun r w' => r = none ∧ ∃ a b, w' = (zs_21 n, qml (zxc xs) zl_10, a, b)) := by
  have hz := zp_100
  have hd0 : 0 < d := by omega
  show qR d 100 (0, [.inr (.inr (some 18)), .inl 250, .inl 11], []) (zs_19 n, qml (zxc xs) zl_8, 0, 0) _
  refine qR_w (c' := (13, [.inr (.inr (some 18)), .inl 250, .inl 11], [])) (w' := (zs_19 n, qml (zxc xs) zl_9, 0, 0)) 7 hd0 hz (by rfl) ?_
  refine qR_w (c' := (22, [.inr (.inr (some 18)), .inl 250, .inl 11], [])) (w' := (zs_19 n, qml (zxc xs) zl_10, 0, 0)) 5 hd0 hz (by rfl) ?_
  refine qR_w (c' := (34, [.inr (.inr (some 18)), .inl 250, .inl 11], [.inl 2750, .inr (.inr (some 18))])) (w' := (zs_19 n, qml (zxc xs) zl_10, 0, 0)) 8 hd0 hz (by rfl) ?_
  refine qR_z (c' := (36, [.inr (.inr (some 18)), .inl 250, .inl 11], [.inr (.inr (some 19)), .inr (.inr (some 18))])) (S' := zs_20 n) (r := 19) (a' := 1) (b' := 2750) hd0 hz rfl rfl (fun j => qml_z rfl rfl) ?_
  refine qR_w (c' := (39, [.inr (.inr (some 18)), .inl 250, .inl 11], [])) (w' := (zs_21 n, qml (zxc xs) zl_10, 1, 2750)) 1 hd0 hz (by rfl) ?_
  exact qR_ret hd0 hz rfl rfl ⟨rfl, _, _, rfl⟩
set_option maxRecDepth 100000 in
theorem qc_6 (n : Nat) (xs : Nat → Int32) {d : Nat} (hd : 1 ≤ d) : qR d 100 (0, zini [.inr (.inr (some 20)), .inl 8, .inl 81] 3, []) (zs_23 n, qml (zxc xs) zl_10, 0, 0) (fun r w' => r = none ∧ ∃ a b, w' = (zs_25 n, qml (zxc xs) zl_12, a, b)) := by
  have hz := zp_100
  have hd0 : 0 < d := by omega
  show qR d 100 (0, [.inr (.inr (some 20)), .inl 8, .inl 81], []) (zs_23 n, qml (zxc xs) zl_10, 0, 0) _
  refine qR_w (c' := (13, [.inr (.inr (some 20)), .inl 8, .inl 81], [])) (w' := (zs_23 n, qml (zxc xs) zl_11, 0, 0)) 7 hd0 hz (by rfl) ?_
  refine qR_w (c' := (22, [.inr (.inr (some 20)), .inl 8, .inl 81], [])) (w' := (zs_23 n, qml (zxc xs) zl_12, 0, 0)) 5 hd0 hz (by rfl) ?_
  refine qR_w (c' := (34, [.inr (.inr (some 20)), .inl 8, .inl 81], [.inl 648, .inr (.inr (some 20))])) (w' := (zs_23 n, qml (zxc xs) zl_12, 0, 0)) 8 hd0 hz (by rfl) ?_
  refine qR_z (c' := (36, [.inr (.inr (some 20)), .inl 8, .inl 81], [.inr (.inr (some 21)), .inr (.inr (some 20))])) (S' := zs_24 n) (r := 21) (a' := 1) (b' := 648) hd0 hz rfl rfl (fun j => qml_z rfl rfl) ?_
  refine qR_w (c' := (39, [.inr (.inr (some 20)), .inl 8, .inl 81], [])) (w' := (zs_25 n, qml (zxc xs) zl_12, 1, 648)) 1 hd0 hz (by rfl) ?_
  exact qR_ret hd0 hz rfl rfl ⟨rfl, _, _, rfl⟩
set_option maxRecDepth 100000 in
theorem qc_7 (n : Nat) (xs : Nat → Int32) {d : Nat} (hd : 1 ≤ d) : qR d 100 (0, zini [.inr (.inr (some 22)), .inl 10, .inl 164] 3, []) (zs_27 n, qml (zxc xs) zl_12, 0, 0) (fun r w' => r = none ∧ ∃ a b, w' = (zs_29 n, qml (zxc xs) zl_14, a, b)) := by
  have hz := zp_100
  have hd0 : 0 < d := by omega
  show qR d 100 (0, [.inr (.inr (some 22)), .inl 10, .inl 164], []) (zs_27 n, qml (zxc xs) zl_12, 0, 0) _
  refine qR_w (c' := (13, [.inr (.inr (some 22)), .inl 10, .inl 164], [])) (w' := (zs_27 n, qml (zxc xs) zl_13, 0, 0)) 7 hd0 hz (by rfl) ?_
  refine qR_w (c' := (22, [.inr (.inr (some 22)), .inl 10, .inl 164], [])) (w' := (zs_27 n, qml (zxc xs) zl_14, 0, 0)) 5 hd0 hz (by rfl) ?_
  refine qR_w (c' := (34, [.inr (.inr (some 22)), .inl 10, .inl 164], [.inl 1640, .inr (.inr (some 22))])) (w' := (zs_27 n, qml (zxc xs) zl_14, 0, 0)) 8 hd0 hz (by rfl) ?_
  refine qR_z (c' := (36, [.inr (.inr (some 22)), .inl 10, .inl 164], [.inr (.inr (some 23)), .inr (.inr (some 22))])) (S' := zs_28 n) (r := 23) (a' := 1) (b' := 1640) hd0 hz rfl rfl (fun j => qml_z rfl rfl) ?_
  refine qR_w (c' := (39, [.inr (.inr (some 22)), .inl 10, .inl 164], [])) (w' := (zs_29 n, qml (zxc xs) zl_14, 1, 1640)) 1 hd0 hz (by rfl) ?_
  exact qR_ret hd0 hz rfl rfl ⟨rfl, _, _, rfl⟩
set_option maxRecDepth 100000 in
theorem qc_8 (n : Nat) (xs : Nat → Int32) {d : Nat} (hd : 1 ≤ d) : qR d 100 (0, zini [.inr (.inr (some 24)), .inl 12, .inl 2] 3, []) (zs_31 n, qml (zxc xs) zl_14, 0, 0) (fun r w' => r = none ∧ ∃ a b, w' = (zs_33 n, qml (zxc xs) zl_16, a, b)) := by
  have hz := zp_100
  have hd0 : 0 < d := by omega
  show qR d 100 (0, [.inr (.inr (some 24)), .inl 12, .inl 2], []) (zs_31 n, qml (zxc xs) zl_14, 0, 0) _
  refine qR_w (c' := (13, [.inr (.inr (some 24)), .inl 12, .inl 2], [])) (w' := (zs_31 n, qml (zxc xs) zl_15, 0, 0)) 7 hd0 hz (by rfl) ?_
  refine qR_w (c' := (22, [.inr (.inr (some 24)), .inl 12, .inl 2], [])) (w' := (zs_31 n, qml (zxc xs) zl_16, 0, 0)) 5 hd0 hz (by rfl) ?_
  refine qR_w (c' := (34, [.inr (.inr (some 24)), .inl 12, .inl 2], [.inl 24, .inr (.inr (some 24))])) (w' := (zs_31 n, qml (zxc xs) zl_16, 0, 0)) 8 hd0 hz (by rfl) ?_
  refine qR_z (c' := (36, [.inr (.inr (some 24)), .inl 12, .inl 2], [.inr (.inr (some 25)), .inr (.inr (some 24))])) (S' := zs_32 n) (r := 25) (a' := 1) (b' := 24) hd0 hz rfl rfl (fun j => qml_z rfl rfl) ?_
  refine qR_w (c' := (39, [.inr (.inr (some 24)), .inl 12, .inl 2], [])) (w' := (zs_33 n, qml (zxc xs) zl_16, 1, 24)) 1 hd0 hz (by rfl) ?_
  exact qR_ret hd0 hz rfl rfl ⟨rfl, _, _, rfl⟩
set_option maxRecDepth 100000 in
theorem qc_9 (n : Nat) (xs : Nat → Int32) {d : Nat} (hd : 2 ≤ d) : qR d 17 (0, zini [.inr (.inr (some 9))] 1, []) (zs_2 n, qml (zxc xs) zl_0, 0, 0) (fun r w' => r = none ∧ ∃ a b, w' = (zs_34 n, qml (zxc xs) zl_18, a, b)) := by
  have hz := zp_17
  have hd0 : 0 < d := by omega
  show qR d 17 (0, [.inr (.inr (some 9))], []) (zs_2 n, qml (zxc xs) zl_0, 0, 0) _
  refine qR_w (c' := (5, [.inr (.inr (some 9))], [.inr (.inr (some 9))])) (w' := (zs_2 n, qml (zxc xs) zl_0, 0, 0)) 3 hd0 hz (by rfl) ?_
  refine qR_z (c' := (8, [.inr (.inr (some 9))], [.inr (.inr (some 10)), .inr (.inr (some 9))])) (S' := zs_3 n) (r := 10) (a' := 1) (b' := 4) hd0 hz rfl rfl (fun j => qml_z rfl rfl) ?_
  refine qR_w (c' := (12, [.inr (.inr (some 9))], [.inl 4, .inl 14, .inr (.inr (some 10)), .inr (.inr (some 10)), .inr (.inr (some 9))])) (w' := (zs_3 n, qml (zxc xs) zl_0, 1, 4)) 3 hd0 hz (by rfl) ?_
  refine qR_call hd0 hz zp_100 rfl rfl (Nat.le_of_ble_eq_true rfl) ⟨by omega, by omega⟩ (qc_1 n xs (by omega)) (fun r w1 hr => ?_)
  obtain ⟨rfl, a9, b9, rfl⟩ := hr
  show qR d 17 (15, [.inr (.inr (some 9))], [.inr (.inr (some 10)), .inr (.inr (some 9))]) (zs_5 n, qml (zxc xs) zl_2, 2, 60004) _
  refine qR_w (c' := (18, [.inr (.inr (some 9))], [])) (w' := (zs_6 n, qml (zxc xs) zl_2, 2, 60004)) 1 hd0 hz (by rfl) ?_
  refine qR_w (c' := (19, [.inr (.inr (some 9))], [.inr (.inr (some 9))])) (w' := (zs_6 n, qml (zxc xs) zl_2, 2, 60004)) 1 hd0 hz (by rfl) ?_
  refine qR_z (c' := (22, [.inr (.inr (some 9))], [.inr (.inr (some 12)), .inr (.inr (some 9))])) (S' := zs_7 n) (r := 12) (a' := 3) (b' := 60008) hd0 hz rfl rfl (fun j => qml_z rfl rfl) ?_
  refine qR_w (c' := (26, [.inr (.inr (some 9))], [.inl 3, .inl 20, .inr (.inr (some 12)), .inr (.inr (some 12)), .inr (.inr (some 9))])) (w' := (zs_7 n, qml (zxc xs) zl_2, 3, 60008)) 3 hd0 hz (by rfl) ?_
  refine qR_call hd0 hz zp_100 rfl rfl (Nat.le_of_ble_eq_true rfl) ⟨by omega, by omega⟩ (qc_2 n xs (by omega)) (fun r w1 hr => ?_)
  obtain ⟨rfl, a9, b9, rfl⟩ := hr
  show qR d 17 (29, [.inr (.inr (some 9))], [.inr (.inr (some 12)), .inr (.inr (some 9))]) (zs_9 n, qml (zxc xs) zl_4, 4, 120008) _
  refine qR_w (c' := (32, [.inr (.inr (some 9))], [])) (w' := (zs_10 n, qml (zxc xs) zl_4, 4, 120008)) 1 hd0 hz (by rfl) ?_
  refine qR_w (c' := (33, [.inr (.inr (some 9))], [.inr (.inr (some 9))])) (w' := (zs_10 n, qml (zxc xs) zl_4, 4, 120008)) 1 hd0 hz (by rfl) ?_
  refine qR_z (c' := (36, [.inr (.inr (some 9))], [.inr (.inr (some 14)), .inr (.inr (some 9))])) (S' := zs_11 n) (r := 14) (a' := 5) (b' := 120012) hd0 hz rfl rfl (fun j => qml_z rfl rfl) ?_
  refine qR_w (c' := (39, [.inr (.inr (some 9))], [.inl 2, .inl 4, .inr (.inr (some 14)), .inr (.inr (some 14)), .inr (.inr (some 9))])) (w' := (zs_11 n, qml (zxc xs) zl_4, 5, 120012)) 3 hd0 hz (by rfl) ?_
  refine qR_call hd0 hz zp_100 rfl rfl (Nat.le_of_ble_eq_true rfl) ⟨by omega, by omega⟩ (qc_3 n xs (by omega)) (fun r w1 hr => ?_)
  obtain ⟨rfl, a9, b9, rfl⟩ := hr
  show qR d 17 (42, [.inr (.inr (some 9))], [.inr (.inr (some 14)), .inr (.inr (some 9))]) (zs_13 n, qml (zxc xs) zl_6, 6, 180012) _
  refine qR_w (c' := (45, [.inr (.inr (some 9))], [])) (w' := (zs_14 n, qml (zxc xs) zl_6, 6, 180012)) 1 hd0 hz (by rfl) ?_
  refine qR_w (c' := (46, [.inr (.inr (some 9))], [.inr (.inr (some 9))])) (w' := (zs_14 n, qml (zxc xs) zl_6, 6, 180012)) 1 hd0 hz (by rfl) ?_
  refine qR_z (c' := (49, [.inr (.inr (some 9))], [.inr (.inr (some 16)), .inr (.inr (some 9))])) (S' := zs_15 n) (r := 16) (a' := 7) (b' := 180016) hd0 hz rfl rfl (fun j => qml_z rfl rfl) ?_
  refine qR_w (c' := (53, [.inr (.inr (some 9))], [.inl 5, .inl 40, .inr (.inr (some 16)), .inr (.inr (some 16)), .inr (.inr (some 9))])) (w' := (zs_15 n, qml (zxc xs) zl_6, 7, 180016)) 3 hd0 hz (by rfl) ?_
  refine qR_call hd0 hz zp_100 rfl rfl (Nat.le_of_ble_eq_true rfl) ⟨by omega, by omega⟩ (qc_4 n xs (by omega)) (fun r w1 hr => ?_)
  obtain ⟨rfl, a9, b9, rfl⟩ := hr
  show qR d 17 (56, [.inr (.inr (some 9))], [.inr (.inr (some 16)), .inr (.inr (some 9))]) (zs_17 n, qml (zxc xs) zl_8, 8, 240016) _
  refine qR_w (c' := (59, [.inr (.inr (some 9))], [])) (w' := (zs_18 n, qml (zxc xs) zl_8, 8, 240016)) 1 hd0 hz (by rfl) ?_
  refine qR_w (c' := (60, [.inr (.inr (some 9))], [.inr (.inr (some 9))])) (w' := (zs_18 n, qml (zxc xs) zl_8, 8, 240016)) 1 hd0 hz (by rfl) ?_
  refine qR_z (c' := (63, [.inr (.inr (some 9))], [.inr (.inr (some 18)), .inr (.inr (some 9))])) (S' := zs_19 n) (r := 18) (a' := 9) (b' := 240020) hd0 hz rfl rfl (fun j => qml_z rfl rfl) ?_
  refine qR_w (c' := (69, [.inr (.inr (some 9))], [.inl 11, .inl 250, .inr (.inr (some 18)), .inr (.inr (some 18)), .inr (.inr (some 9))])) (w' := (zs_19 n, qml (zxc xs) zl_8, 9, 240020)) 3 hd0 hz (by rfl) ?_
  refine qR_call hd0 hz zp_100 rfl rfl (Nat.le_of_ble_eq_true rfl) ⟨by omega, by omega⟩ (qc_5 n xs (by omega)) (fun r w1 hr => ?_)
  obtain ⟨rfl, a9, b9, rfl⟩ := hr
  show qR d 17 (72, [.inr (.inr (some 9))], [.inr (.inr (some 18)), .inr (.inr (some 9))]) (zs_21 n, qml (zxc xs) zl_10, 10, 300020) _
  refine qR_w (c' := (75, [.inr (.inr (some 9))], [])) (w' := (zs_22 n, qml (zxc xs) zl_10, 10, 300020)) 1 hd0 hz (by rfl) ?_
  refine qR_w (c' := (76, [.inr (.inr (some 9))], [.inr (.inr (some 9))])) (w' := (zs_22 n, qml (zxc xs) zl_10, 10, 300020)) 1 hd0 hz (by rfl) ?_
  refine qR_z (c' := (79, [.inr (.inr (some 9))], [.inr (.inr (some 20)), .inr (.inr (some 9))])) (S' := zs_23 n) (r := 20) (a' := 11) (b' := 300024) hd0 hz rfl rfl (fun j => qml_z rfl rfl) ?_
  refine qR_w (c' := (84, [.inr (.inr (some 9))], [.inl 81, .inl 8, .inr (.inr (some 20)), .inr (.inr (some 20)), .inr (.inr (some 9))])) (w' := (zs_23 n, qml (zxc xs) zl_10, 11, 300024)) 3 hd0 hz (by rfl) ?_
  refine qR_call hd0 hz zp_100 rfl rfl (Nat.le_of_ble_eq_true rfl) ⟨by omega, by omega⟩ (qc_6 n xs (by omega)) (fun r w1 hr => ?_)
  obtain ⟨rfl, a9, b9, rfl⟩ := hr
  show qR d 17 (87, [.inr (.inr (some 9))], [.inr (.inr (some 20)), .inr (.inr (some 9))]) (zs_25 n, qml (zxc xs) zl_12, 12, 360024) _
  refine qR_w (c' := (90, [.inr (.inr (some 9))], [])) (w' := (zs_26 n, qml (zxc xs) zl_12, 12, 360024)) 1 hd0 hz (by rfl) ?_
  refine qR_w (c' := (91, [.inr (.inr (some 9))], [.inr (.inr (some 9))])) (w' := (zs_26 n, qml (zxc xs) zl_12, 12, 360024)) 1 hd0 hz (by rfl) ?_
  refine qR_z (c' := (94, [.inr (.inr (some 9))], [.inr (.inr (some 22)), .inr (.inr (some 9))])) (S' := zs_27 n) (r := 22) (a' := 13) (b' := 360028) hd0 hz rfl rfl (fun j => qml_z rfl rfl) ?_
  refine qR_w (c' := (100, [.inr (.inr (some 9))], [.inl 164, .inl 10, .inr (.inr (some 22)), .inr (.inr (some 22)), .inr (.inr (some 9))])) (w' := (zs_27 n, qml (zxc xs) zl_12, 13, 360028)) 3 hd0 hz (by rfl) ?_
  refine qR_call hd0 hz zp_100 rfl rfl (Nat.le_of_ble_eq_true rfl) ⟨by omega, by omega⟩ (qc_7 n xs (by omega)) (fun r w1 hr => ?_)
  obtain ⟨rfl, a9, b9, rfl⟩ := hr
  show qR d 17 (103, [.inr (.inr (some 9))], [.inr (.inr (some 22)), .inr (.inr (some 9))]) (zs_29 n, qml (zxc xs) zl_14, 14, 420028) _
  refine qR_w (c' := (106, [.inr (.inr (some 9))], [])) (w' := (zs_30 n, qml (zxc xs) zl_14, 14, 420028)) 1 hd0 hz (by rfl) ?_
  refine qR_w (c' := (107, [.inr (.inr (some 9))], [.inr (.inr (some 9))])) (w' := (zs_30 n, qml (zxc xs) zl_14, 14, 420028)) 1 hd0 hz (by rfl) ?_
  refine qR_z (c' := (110, [.inr (.inr (some 9))], [.inr (.inr (some 24)), .inr (.inr (some 9))])) (S' := zs_31 n) (r := 24) (a' := 15) (b' := 420032) hd0 hz rfl rfl (fun j => qml_z rfl rfl) ?_
  refine qR_w (c' := (114, [.inr (.inr (some 9))], [.inl 2, .inl 12, .inr (.inr (some 24)), .inr (.inr (some 24)), .inr (.inr (some 9))])) (w' := (zs_31 n, qml (zxc xs) zl_14, 15, 420032)) 3 hd0 hz (by rfl) ?_
  refine qR_call hd0 hz zp_100 rfl rfl (Nat.le_of_ble_eq_true rfl) ⟨by omega, by omega⟩ (qc_8 n xs (by omega)) (fun r w1 hr => ?_)
  obtain ⟨rfl, a9, b9, rfl⟩ := hr
  show qR d 17 (117, [.inr (.inr (some 9))], [.inr (.inr (some 24)), .inr (.inr (some 9))]) (zs_33 n, qml (zxc xs) zl_16, 16, 480032) _
  refine qR_w (c' := (120, [.inr (.inr (some 9))], [])) (w' := (zs_34 n, qml (zxc xs) zl_16, 16, 480032)) 1 hd0 hz (by rfl) ?_
  refine qR_w (c' := (126, [.inr (.inr (some 9))], [])) (w' := (zs_34 n, qml (zxc xs) zl_17, 16, 480032)) 3 hd0 hz (by rfl) ?_
  refine qR_w (c' := (132, [.inr (.inr (some 9))], [])) (w' := (zs_34 n, qml (zxc xs) zl_18, 16, 480032)) 3 hd0 hz (by rfl) ?_
  exact qR_ret hd0 hz rfl rfl ⟨rfl, _, _, rfl⟩
set_option maxRecDepth 100000 in
theorem qc_10 (n : Nat) (xs : Nat → Int32) {d : Nat} (hd : 1 ≤ d) : qR d 100 (0, zini [.inr (.inr (some 27)), .inl 14, .inl 4] 3, []) (zs_37 n, qml (zxc xs) zl_18, 0, 0) (fun r w' => r = none ∧ ∃ a b, w' = (zs_39 n, qml (zxc xs) zl_20, a, b)) := by
  have hz := zp_100
  have hd0 : 0 < d := by omega
  show qR d 100 (0, [.inr (.inr (some 27)), .inl 14, .inl 4], []) (zs_37 n, qml (zxc xs) zl_18, 0, 0) _
  refine qR_w (c' := (13, [.inr (.inr (some 27)), .inl 14, .inl 4], [])) (w' := (zs_37 n, qml (zxc xs) zl_19, 0, 0)) 7 hd0 hz (by rfl) ?_
  refine qR_w (c' := (22, [.inr (.inr (some 27)), .inl 14, .inl 4], [])) (w' := (zs_37 n, qml (zxc xs) zl_20, 0, 0)) 5 hd0 hz (by rfl) ?_
  refine qR_w (c' := (34, [.inr (.inr (some 27)), .inl 14, .inl 4], [.inl 56, .inr (.inr (some 27))])) (w' := (zs_37 n, qml (zxc xs) zl_20, 0, 0)) 8 hd0 hz (by rfl) ?_
  refine qR_z (c' := (36, [.inr (.inr (some 27)), .inl 14, .inl 4], [.inr (.inr (some 28)), .inr (.inr (some 27))])) (S' := zs_38 n) (r := 28) (a' := 1) (b' := 56) hd0 hz rfl rfl (fun j => qml_z rfl rfl) ?_
  refine qR_w (c' := (39, [.inr (.inr (some 27)), .inl 14, .inl 4], [])) (w' := (zs_39 n, qml (zxc xs) zl_20, 1, 56)) 1 hd0 hz (by rfl) ?_
  exact qR_ret hd0 hz rfl rfl ⟨rfl, _, _, rfl⟩
set_option maxRecDepth 100000 in
theorem qc_11 (n : Nat) (xs : Nat → Int32) {d : Nat} (hd : 1 ≤ d) : qR d 100 (0, zini [.inr (.inr (some 29)), .inl 20, .inl 3] 3, []) (zs_41 n, qml (zxc xs) zl_20, 0, 0) (fun r w' => r = none ∧ ∃ a b, w' = (zs_43 n, qml (zxc xs) zl_22, a, b)) := by
  have hz := zp_100
  have hd0 : 0 < d := by omega
  show qR d 100 (0, [.inr (.inr (some 29)), .inl 20, .inl 3], []) (zs_41 n, qml (zxc xs) zl_20, 0, 0) _
  refine qR_w (c' := (13, [.inr (.inr (some 29)), .inl 20, .inl 3], [])) (w' := (zs_41 n, qml (zxc xs) zl_21, 0, 0)) 7 hd0 hz (by rfl) ?_
  refine qR_w (c' := (22, [.inr (.inr (some 29)), .inl 20, .inl 3], [])) (w' := (zs_41 n, qml (zxc xs) zl_22, 0, 0)) 5 hd0 hz (by rfl) ?_
  refine qR_w (c' := (34, [.inr (.inr (some 29)), .inl 20, .inl 3], [.inl 60, .inr (.inr (some 29))])) (w' := (zs_41 n, qml (zxc xs) zl_22, 0, 0)) 8 hd0 hz (by rfl) ?_
  refine qR_z (c' := (36, [.inr (.inr (some 29)), .inl 20, .inl 3], [.inr (.inr (some 30)), .inr (.inr (some 29))])) (S' := zs_42 n) (r := 30) (a' := 1) (b' := 60) hd0 hz rfl rfl (fun j => qml_z rfl rfl) ?_
  refine qR_w (c' := (39, [.inr (.inr (some 29)), .inl 20, .inl 3], [])) (w' := (zs_43 n, qml (zxc xs) zl_22, 1, 60)) 1 hd0 hz (by rfl) ?_
  exact qR_ret hd0 hz rfl rfl ⟨rfl, _, _, rfl⟩
set_option maxRecDepth 100000 in
theorem qc_12 (n : Nat) (xs : Nat → Int32) {d : Nat} (hd : 1 ≤ d) : qR d 100 (0, zini [.inr (.inr (some 31)), .inl 4, .inl 2] 3, []) (zs_45 n, qml (zxc xs) zl_22, 0, 0) (fun r w' => r = none ∧ ∃ a b, w' = (zs_47 n, qml (zxc xs) zl_24, a, b)) := by
  have hz := zp_100
  have hd0 : 0 < d := by omega
  show qR d 100 (0, [.inr (.inr (some 31)), .inl 4, .inl 2], []) (zs_45 n, qml (zxc xs) zl_22, 0, 0) _
  refine qR_w (c' := (13, [.inr (.inr (some 31)), .inl 4, .inl 2], [])) (w' := (zs_45 n, qml (zxc xs) zl_23, 0, 0)) 7 hd0 hz (by rfl) ?_
  refine qR_w (c' := (22, [.inr (.inr (some 31)), .inl 4, .inl 2], [])) (w' := (zs_45 n, qml (zxc xs) zl_24, 0, 0)) 5 hd0 hz (by rfl) ?_
  refine qR_w (c' := (34, [.inr (.inr (some 31)), .inl 4, .inl 2], [.inl 8, .inr (.inr (some 31))])) (w' := (zs_45 n, qml (zxc xs) zl_24, 0, 0)) 8 hd0 hz (by rfl) ?_
  refine qR_z (c' := (36, [.inr (.inr (some 31)), .inl 4, .inl 2], [.inr (.inr (some 32)), .inr (.inr (some 31))])) (S' := zs_46 n) (r := 32) (a' := 1) (b' := 8) hd0 hz rfl rfl (fun j => qml_z rfl rfl) ?_
  refine qR_w (c' := (39, [.inr (.inr (some 31)), .inl 4, .inl 2], [])) (w' := (zs_47 n, qml (zxc xs) zl_24, 1, 8)) 1 hd0 hz (by rfl) ?_
  exact qR_ret hd0 hz rfl rfl ⟨rfl, _, _, rfl⟩
set_option maxRecDepth 100000 in
theorem qc_13 (n : Nat) (xs : Nat → Int32) {d : Nat} (hd : 1 ≤ d) : qR d 100 (0, zini [.inr (.inr (some 33)), .inl 40, .inl 5] 3, []) (zs_49 n, qml (zxc xs) zl_24, 0, 0) (fun r w' => r = none ∧ ∃ a b, w' = (zs_51 n, qml (zxc xs) zl_26, a, b)) := by
  have hz := zp_100
  have hd0 : 0 < d := by omega
  show qR d 100 (0, [.inr (.inr (some 33)), .inl 40, .inl 5], []) (zs_49 n, qml (zxc xs) zl_24, 0, 0) _
  refine qR_w (c' := (13, [.inr (.inr (some 33)), .inl 40, .inl 5], [])) (w' := (zs_49 n, qml (zxc xs) zl_25, 0, 0)) 7 hd0 hz (by rfl) ?_
  refine qR_w (c' := (22, [.inr (.inr (some 33)), .inl 40, .inl 5], [])) (w' := (zs_49 n, qml (zxc xs) zl_26, 0, 0)) 5 hd0 hz (by rfl) ?_
  refine qR_w (c' := (34, [.inr (.inr (some 33)), .inl 40, .inl 5], [.inl 200, .inr (.inr (some 33))])) (w' := (zs_49 n, qml (zxc xs) zl_26, 0, 0)) 8 hd0 hz (by rfl) ?_
  refine qR_z (c' := (36, [.inr (.inr (some 33)), .inl 40, .inl 5], [.inr (.inr (some 34)), .inr (.inr (some 33))])) (S' := zs_50 n) (r := 34) (a' := 1) (b' := 200) hd0 hz rfl rfl (fun j => qml_z rfl rfl) ?_
  refine qR_w (c' := (39, [.inr (.inr (some 33)), .inl 40, .inl 5], [])) (w' := (zs_51 n, qml (zxc xs) zl_26, 1, 200)) 1 hd0 hz (by rfl) ?_
  exact qR_ret hd0 hz rfl rfl ⟨rfl, _, _, rfl⟩
set_option maxRecDepth 100000 in
theorem qc_14 (n : Nat) (xs : Nat → Int32) {d : Nat} (hd : 1 ≤ d) : qR d 100 (0, zini [.inr (.inr (some 35)), .inl 250, .inl 11] 3, []) (zs_53 n, qml (zxc xs) zl_26, 0, 0) (fun r w' => r = none ∧ ∃ a b, w' = (zs_55 n, qml (zxc xs) zl_28, a, b)) := by
  have hz := zp_100
  have hd0 : 0 < d := by omega
  show qR d 100 (0, [.inr (.inr (some 35)), .inl 250, .inl 11], []) (zs_53 n, qml (zxc xs) zl_26, 0, 0) _
  refine qR_w (c' := (13, [.inr (.inr (some 35)), .inl 250, .inl 11], [])) (w' := (zs_53 n, qml (zxc xs) zl_27, 0, 0)) 7 hd0 hz (by rfl) ?_
  refine qR_w (c' := (22, [.inr (.inr (some 35)), .inl 250, .inl 11], [])) (w' := (zs_53 n, qml (zxc xs) zl_28, 0, 0)) 5 hd0 hz (by rfl) ?_
  refine qR_w (c' := (34, [.inr (.inr (some 35)), .inl 250, .inl 11], [.inl 2750, .inr (.inr (some 35))])) (w' := (zs_53 n, qml (zxc xs) zl_28, 0, 0)) 8 hd0 hz (by rfl) ?_
  refine qR_z (c' := (36, [.inr (.inr (some 35)), .inl 250, .inl 11], [.inr (.inr (some 36)), .inr (.inr (some 35))])) (S' := zs_54 n) (r := 36) (a' := 1) (b' := 2750) hd0 hz rfl rfl (fun j => qml_z rfl rfl) ?_
  refine qR_w (c' := (39, [.inr (.inr (some 35)), .inl 250, .inl 11], [])) (w' := (zs_55 n, qml (zxc xs) zl_28, 1, 2750)) 1 hd0 hz (by rfl) ?_
  exact qR_ret hd0 hz rfl rfl ⟨rfl, _, _, rfl⟩
set_option maxRecDepth 100000 in
theorem qc_15 (n : Nat) (xs : Nat → Int32) {d : Nat} (hd : 1 ≤ d) : qR d 100 (0, zini [.inr (.inr (some 37)), .inl 8, .inl 81] 3, []) (zs_57 n, qml (zxc xs) zl_28, 0, 0) (fun r w' => r = none ∧ ∃ a b, w' = (zs_59 n, qml (zxc xs) zl_30, a, b)) := by
  have hz := zp_100
  have hd0 : 0 < d := by omega
  show qR d 100 (0, [.inr (.inr (some 37)), .inl 8, .inl 81], []) (zs_57 n, qml (zxc xs) zl_28, 0, 0) _
  refine qR_w (c' := (13, [.inr (.inr (some 37)), .inl 8, .inl 81], [])) (w' := (zs_57 n, qml (zxc xs) zl_29, 0, 0)) 7 hd0 hz (by rfl) ?_
  refine qR_w (c' := (22, [.inr (.inr (some 37)), .inl 8, .inl 81], [])) (w' := (zs_57 n, qml (zxc xs) zl_30, 0, 0)) 5 hd0 hz (by rfl) ?_
  refine qR_w (c' := (34, [.inr (.inr (some 37)), .inl 8, .inl 81], [.inl 648, .inr (.inr (some 37))])) (w' := (zs_57 n, qml (zxc xs) zl_30, 0, 0)) 8 hd0 hz (by rfl) ?_
  refine qR_z (c' := (36, [.inr (.inr (some 37)), .inl 8, .inl 81], [.inr (.inr (some 38)), .inr (.inr (some 37))])) (S' := zs_58 n) (r := 38) (a' := 1) (b' := 648) hd0 hz rfl rfl (fun j => qml_z rfl rfl) ?_
  refine qR_w (c' := (39, [.inr (.inr (some 37)), .inl 8, .inl 81], [])) (w' := (zs_59 n, qml (zxc xs) zl_30, 1, 648)) 1 hd0 hz (by rfl) ?_
  exact qR_ret hd0 hz rfl rfl ⟨rfl, _, _, rfl⟩
set_option maxRecDepth 100000 in
theorem qc_16 (n : Nat) (xs : Nat → Int32) {d : Nat} (hd : 1 ≤ d) : qR d 100 (0, zini [.inr (.inr (some 39)), .inl 10, .inl 164] 3, []) (zs_61 n, qml (zxc xs) zl_30, 0, 0) (fun r w' => r = none ∧ ∃ a b, w' = (zs_63 n, qml (zxc xs) zl_32, a, b)) := by
  have hz := zp_100
  have hd0 : 0 < d := by omega
  show qR d 100 (0, [.inr (.inr (some 39)), .inl 10, .inl 164], []) (zs_61 n, qml (zxc xs) zl_30, 0, 0) _
  refine qR_w (c' := (13, [.inr (.inr (some 39)), .inl 10, .inl 164], [])) (w' := (zs_61 n, qml (zxc xs) zl_31, 0, 0)) 7 hd0 hz (by rfl) ?_
  refine qR_w (c' := (22, [.inr (.inr (some 39)), .inl 10, .inl 164], [])) (w' := (zs_61 n, qml (zxc xs) zl_32, 0, 0)) 5 hd0 hz (by rfl) ?_
  refine qR_w (c' := (34, [.inr (.inr (some 39)), .inl 10, .inl 164], [.inl 1640, .inr (.inr (some 39))])) (w' := (zs_61 n, qml (zxc xs) zl_32, 0, 0)) 8 hd0 hz (by rfl) ?_
  refine qR_z (c' := (36, [.inr (.inr (some 39)), .inl 10, .inl 164], [.inr (.inr (some 40)), .inr (.inr (some 39))])) (S' := zs_62 n) (r := 40) (a' := 1) (b' := 1640) hd0 hz rfl rfl (fun j => qml_z rfl rfl) ?_
  refine qR_w (c' := (39, [.inr (.inr (some 39)), .inl 10, .inl 164], [])) (w' := (zs_63 n, qml (zxc xs) zl_32, 1, 1640)) 1 hd0 hz (by rfl) ?_
  exact qR_ret hd0 hz rfl rfl ⟨rfl, _, _, rfl⟩
set_option maxRecDepth 100000 in
theorem qc_17 (n : Nat) (xs : Nat → Int32) {d : Nat} (hd : 1 ≤ d) : qR d 100 (0, zini [.inr (.inr (some 41)), .inl 12, .inl 2] 3, []) (zs_65 n, qml (zxc xs) zl_32, 0, 0) (fun r w' => r = none ∧ ∃ a b, w' = (zs_67 n, qml (zxc xs) zl_34, a, b)) := by
  have hz := zp_100
  have hd0 : 0 < d := by omega
  show qR d 100 (0, [.inr (.inr (some 41)), .inl 12, .inl 2], []) (zs_65 n, qml (zxc xs) zl_32, 0, 0) _
  refine qR_w (c' := (13, [.inr (.inr (some 41)), .inl 12, .inl 2], [])) (w' := (zs_65 n, qml (zxc xs) zl_33, 0, 0)) 7 hd0 hz (by rfl) ?_
  refine qR_w (c' := (22, [.inr (.inr (some 41)), .inl 12, .inl 2], [])) (w' := (zs_65 n, qml (zxc xs) zl_34, 0, 0)) 5 hd0 hz (by rfl) ?_
  refine qR_w (c' := (34, [.inr (.inr (some 41)), .inl 12, .inl 2], [.inl 24, .inr (.inr (some 41))])) (w' := (zs_65 n, qml (zxc xs) zl_34, 0, 0)) 8 hd0 hz (by rfl) ?_
  refine qR_z (c' := (36, [.inr (.inr (some 41)), .inl 12, .inl 2], [.inr (.inr (some 42)), .inr (.inr (some 41))])) (S' := zs_66 n) (r := 42) (a' := 1) (b' := 24) hd0 hz rfl rfl (fun j => qml_z rfl rfl) ?_
  refine qR_w (c' := (39, [.inr (.inr (some 41)), .inl 12, .inl 2], [])) (w' := (zs_67 n, qml (zxc xs) zl_34, 1, 24)) 1 hd0 hz (by rfl) ?_
  exact qR_ret hd0 hz rfl rfl ⟨rfl, _, _, rfl⟩
set_option maxRecDepth 100000 in
theorem qc_18 (n : Nat) (xs : Nat → Int32) {d : Nat} (hd : 2 ≤ d) : qR d 17 (0, zini [.inr (.inr (some 26))] 1, []) (zs_36 n, qml (zxc xs) zl_18, 0, 0) (fun r w' => r = none ∧ ∃ a b, w' = (zs_68 n, qml (zxc xs) zl_36, a, b)) := by
  have hz := zp_17
  have hd0 : 0 < d := by omega
  show qR d 17 (0, [.inr (.inr (some 26))], []) (zs_36 n, qml (zxc xs) zl_18, 0, 0) _
  refine qR_w (c' := (5, [.inr (.inr (some 26))], [.inr (.inr (some 26))])) (w' := (zs_36 n, qml (zxc xs) zl_18, 0, 0)) 3 hd0 hz (by rfl) ?_
  refine qR_z (c' := (8, [.inr (.inr (some 26))], [.inr (.inr (some 27)), .inr (.inr (some 26))])) (S' := zs_37 n) (r := 27) (a' := 1) (b' := 4) hd0 hz rfl rfl (fun j => qml_z rfl rfl) ?_
  refine qR_w (c' := (12, [.inr (.inr (some 26))], [.inl 4, .inl 14, .inr (.inr (some 27)), .inr (.inr (some 27)), .inr (.inr (some 26))])) (w' := (zs_37 n, qml (zxc xs) zl_18, 1, 4)) 3 hd0 hz (by rfl) ?_
  refine qR_call hd0 hz zp_100 rfl rfl (Nat.le_of_ble_eq_true rfl) ⟨by omega, by omega⟩ (qc_10 n xs (by omega)) (fun r w1 hr => ?_)
  obtain ⟨rfl, a9, b9, rfl⟩ := hr
  show qR d 17 (15, [.inr (.inr (some 26))], [.inr (.inr (some 27)), .inr (.inr (some 26))]) (zs_39 n, qml (zxc xs) zl_20, 2, 60004) _
  refine qR_w (c' := (18, [.inr (.inr (some 26))], [])) (w' := (zs_40 n, qml (zxc xs) zl_20, 2, 60004)) 1 hd0 hz (by rfl) ?_
  refine qR_w (c' := (19, [.inr (.inr (some 26))], [.inr (.inr (some 26))])) (w' := (zs_40 n, qml (zxc xs) zl_20, 2, 60004)) 1 hd0 hz (by rfl) ?_
  refine qR_z (c' := (22, [.inr (.inr (some 26))], [.inr (.inr (some 29)), .inr (.inr (some 26))])) (S' := zs_41 n) (r := 29) (a' := 3) (b' := 60008) hd0 hz rfl rfl (fun j => qml_z rfl rfl) ?_
  refine qR_w (c' := (26, [.inr (.inr (some 26))], [.inl 3, .inl 20, .inr (.inr (some 29)), .inr (.inr (some 29)), .inr (.inr (some 26))])) (w' := (zs_41 n, qml (zxc xs) zl_20, 3, 60008)) 3 hd0 hz (by rfl) ?_
  refine qR_call hd0 hz zp_100 rfl rfl (Nat.le_of_ble_eq_true rfl) ⟨by omega, by omega⟩ (qc_11 n xs (by omega)) (fun r w1 hr => ?_)
  obtain ⟨rfl, a9, b9, rfl⟩ := hr
  show qR d 17 (29, [.inr (.inr (some 26))], [.inr (.inr (some 29)), .inr (.inr (some 26))]) (zs_43 n, qml (zxc xs) zl_22, 4, 120008) _
  refine qR_w (c' := (32, [.inr (.inr (some 26))], [])) (w' := (zs_44 n, qml (zxc xs) zl_22, 4, 120008)) 1 hd0 hz (by rfl) ?_
  refine qR_w (c' := (33, [.inr (.inr (some 26))], [.inr (.inr (some 26))])) (w' := (zs_44 n, qml (zxc xs) zl_22, 4, 120008)) 1 hd0 hz (by rfl) ?_
  refine qR_z (c' := (36, [.inr (.inr (some 26))], [.inr (.inr (some 31)), .inr (.inr (some 26))])) (S' := zs_45 n) (r := 31) (a' := 5) (b' := 120012) hd0 hz rfl rfl (fun j => qml_z rfl rfl) ?_
  refine qR_w (c' := (39, [.inr (.inr (some 26))], [.inl 2, .inl 4, .inr (.inr (some 31)), .inr (.inr (some 31)), .inr (.inr (some 26))])) (w' := (zs_45 n, qml (zxc xs) zl_22, 5, 120012)) 3 hd0 hz (by rfl) ?_
  refine qR_call hd0 hz zp_100 rfl rfl (Nat.le_of_ble_eq_true rfl) ⟨by omega, by omega⟩ (qc_12 n xs (by omega)) (fun r w1 hr => ?_)
  obtain ⟨rfl, a9, b9, rfl⟩ := hr
  show qR d 17 (42, [.inr (.inr (some 26))], [.inr (.inr (some 31)), .inr (.inr (some 26))]) (zs_47 n, qml (zxc xs) zl_24, 6, 180012) _
  refine qR_w (c' := (45, [.inr (.inr (some 26))], [])) (w' := (zs_48 n, qml (zxc xs) zl_24, 6, 180012)) 1 hd0 hz (by rfl) ?_
  refine qR_w (c' := (46, [.inr (.inr (some 26))], [.inr (.inr (some 26))])) (w' := (zs_48 n, qml (zxc xs) zl_24, 6, 180012)) 1 hd0 hz (by rfl) ?_
  refine qR_z (c' := (49, [.inr (.inr (some 26))], [.inr (.inr (some 33)), .inr (.inr (some 26))])) (S' := zs_49 n) (r := 33) (a' := 7) (b' := 180016) hd0 hz rfl rfl (fun j => qml_z rfl rfl) ?_
  refine qR_w (c' := (53, [.inr (.inr (some 26))], [.inl 5, .inl 40, .inr (.inr (some 33)), .inr (.inr (some 33)), .inr (.inr (some 26))])) (w' := (zs_49 n, qml (zxc xs) zl_24, 7, 180016)) 3 hd0 hz (by rfl) ?_
  refine qR_call hd0 hz zp_100 rfl rfl (Nat.le_of_ble_eq_true rfl) ⟨by omega, by omega⟩ (qc_13 n xs (by omega)) (fun r w1 hr => ?_)
  obtain ⟨rfl, a9, b9, rfl⟩ := hr
  show qR d 17 (56, [.inr (.inr (some 26))], [.inr (.inr (some 33)), .inr (.inr (some 26))]) (zs_51 n, qml (zxc xs) zl_26, 8, 240016) _
  refine qR_w (c' := (59, [.inr (.inr (some 26))], [])) (w' := (zs_52 n, qml (zxc xs) zl_26, 8, 240016)) 1 hd0 hz (by rfl) ?_
  refine qR_w (c' := (60, [.inr (.inr (some 26))], [.inr (.inr (some 26))])) (w' := (zs_52 n, qml (zxc xs) zl_26, 8, 240016)) 1 hd0 hz (by rfl) ?_
  refine qR_z (c' := (63, [.inr (.inr (some 26))], [.inr (.inr (some 35)), .inr (.inr (some 26))])) (S' := zs_53 n) (r := 35) (a' := 9) (b' := 240020) hd0 hz rfl rfl (fun j => qml_z rfl rfl) ?_
  refine qR_w (c' := (69, [.inr (.inr (some 26))], [.inl 11, .inl 250, .inr (.inr (some 35)), .inr (.inr (some 35)), .inr (.inr (some 26))])) (w' := (zs_53 n, qml (zxc xs) zl_26, 9, 240020)) 3 hd0 hz (by rfl) ?_
  refine qR_call hd0 hz zp_100 rfl rfl (Nat.le_of_ble_eq_true rfl) ⟨by omega, by omega⟩ (qc_14 n xs (by omega)) (fun r w1 hr => ?_)
  obtain ⟨rfl, a9, b9, rfl⟩ := hr
  show qR d 17 (72, [.inr (.inr (some 26))], [.inr (.inr (some 35)), .inr (.inr (some 26))]) (zs_55 n, qml (zxc xs) zl_28, 10, 300020) _
  refine qR_w (c' := (75, [.inr (.inr (some 26))], [])) (w' := (zs_56 n, qml (zxc xs) zl_28, 10, 300020)) 1 hd0 hz (by rfl) ?_
  refine qR_w (c' := (76, [.inr (.inr (some 26))], [.inr (.inr (some 26))])) (w' := (zs_56 n, qml (zxc xs) zl_28, 10, 300020)) 1 hd0 hz (by rfl) ?_
  refine qR_z (c' := (79, [.inr (.inr (some 26))], [.inr (.inr (some 37)), .inr (.inr (some 26))])) (S' := zs_57 n) (r := 37) (a' := 11) (b' := 300024) hd0 hz rfl rfl (fun j => qml_z rfl rfl) ?_
  refine qR_w (c' := (84, [.inr (.inr (some 26))], [.inl 81, .inl 8, .inr (.inr (some 37)), .inr (.inr (some 37)), .inr (.inr (some 26))])) (w' := (zs_57 n, qml (zxc xs) zl_28, 11, 300024)) 3 hd0 hz (by rfl) ?_
  refine qR_call hd0 hz zp_100 rfl rfl (Nat.le_of_ble_eq_true rfl) ⟨by omega, by omega⟩ (qc_15 n xs (by omega)) (fun r w1 hr => ?_)
  obtain ⟨rfl, a9, b9, rfl⟩ := hr
  show qR d 17 (87, [.inr (.inr (some 26))], [.inr (.inr (some 37)), .inr (.inr (some 26))]) (zs_59 n, qml (zxc xs) zl_30, 12, 360024) _
  refine qR_w (c' := (90, [.inr (.inr (some 26))], [])) (w' := (zs_60 n, qml (zxc xs) zl_30, 12, 360024)) 1 hd0 hz (by rfl) ?_
  refine qR_w (c' := (91, [.inr (.inr (some 26))], [.inr (.inr (some 26))])) (w' := (zs_60 n, qml (zxc xs) zl_30, 12, 360024)) 1 hd0 hz (by rfl) ?_
  refine qR_z (c' := (94, [.inr (.inr (some 26))], [.inr (.inr (some 39)), .inr (.inr (some 26))])) (S' := zs_61 n) (r := 39) (a' := 13) (b' := 360028) hd0 hz rfl rfl (fun j => qml_z rfl rfl) ?_
  refine qR_w (c' := (100, [.inr (.inr (some 26))], [.inl 164, .inl 10, .inr (.inr (some 39)), .inr (.inr (some 39)), .inr (.inr (some 26))])) (w' := (zs_61 n, qml (zxc xs) zl_30, 13, 360028)) 3 hd0 hz (by rfl) ?_
  refine qR_call hd0 hz zp_100 rfl rfl (Nat.le_of_ble_eq_true rfl) ⟨by omega, by omega⟩ (qc_16 n xs (by omega)) (fun r w1 hr => ?_)
  obtain ⟨rfl, a9, b9, rfl⟩ := hr
  show qR d 17 (103, [.inr (.inr (some 26))], [.inr (.inr (some 39)), .inr (.inr (some 26))]) (zs_63 n, qml (zxc xs) zl_32, 14, 420028) _
  refine qR_w (c' := (106, [.inr (.inr (some 26))], [])) (w' := (zs_64 n, qml (zxc xs) zl_32, 14, 420028)) 1 hd0 hz (by rfl) ?_
  refine qR_w (c' := (107, [.inr (.inr (some 26))], [.inr (.inr (some 26))])) (w' := (zs_64 n, qml (zxc xs) zl_32, 14, 420028)) 1 hd0 hz (by rfl) ?_
  refine qR_z (c' := (110, [.inr (.inr (some 26))], [.inr (.inr (some 41)), .inr (.inr (some 26))])) (S' := zs_65 n) (r := 41) (a' := 15) (b' := 420032) hd0 hz rfl rfl (fun j => qml_z rfl rfl) ?_
  refine qR_w (c' := (114, [.inr (.inr (some 26))], [.inl 2, .inl 12, .inr (.inr (some 41)), .inr (.inr (some 41)), .inr (.inr (some 26))])) (w' := (zs_65 n, qml (zxc xs) zl_32, 15, 420032)) 3 hd0 hz (by rfl) ?_
  refine qR_call hd0 hz zp_100 rfl rfl (Nat.le_of_ble_eq_true rfl) ⟨by omega, by omega⟩ (qc_17 n xs (by omega)) (fun r w1 hr => ?_)
  obtain ⟨rfl, a9, b9, rfl⟩ := hr
  show qR d 17 (117, [.inr (.inr (some 26))], [.inr (.inr (some 41)), .inr (.inr (some 26))]) (zs_67 n, qml (zxc xs) zl_34, 16, 480032) _
  refine qR_w (c' := (120, [.inr (.inr (some 26))], [])) (w' := (zs_68 n, qml (zxc xs) zl_34, 16, 480032)) 1 hd0 hz (by rfl) ?_
  refine qR_w (c' := (126, [.inr (.inr (some 26))], [])) (w' := (zs_68 n, qml (zxc xs) zl_35, 16, 480032)) 3 hd0 hz (by rfl) ?_
  refine qR_w (c' := (132, [.inr (.inr (some 26))], [])) (w' := (zs_68 n, qml (zxc xs) zl_36, 16, 480032)) 3 hd0 hz (by rfl) ?_
  exact qR_ret hd0 hz rfl rfl ⟨rfl, _, _, rfl⟩
set_option maxRecDepth 100000 in
theorem qc_19 (n : Nat) (xs : Nat → Int32) {d : Nat} (hd : 1 ≤ d) : qR d 100 (0, zini [.inr (.inr (some 44)), .inl 14, .inl 4] 3, []) (zs_71 n, qml (zxc xs) zl_36, 0, 0) (fun r w' => r = none ∧ ∃ a b, w' = (zs_73 n, qml (zxc xs) zl_38, a, b)) := by
  have hz := zp_100
  have hd0 : 0 < d := by omega
  show qR d 100 (0, [.inr (.inr (some 44)), .inl 14, .inl 4], []) (zs_71 n, qml (zxc xs) zl_36, 0, 0) _
  refine qR_w (c' := (13, [.inr (.inr (some 44)), .inl 14, .inl 4], [])) (w' := (zs_71 n, qml (zxc xs) zl_37, 0, 0)) 7 hd0 hz (by rfl) ?_
  refine qR_w (c' := (22, [.inr (.inr (some 44)), .inl 14, .inl 4], [])) (w' := (zs_71 n, qml (zxc xs) zl_38, 0, 0)) 5 hd0 hz (by rfl) ?_
  refine qR_w (c' := (34, [.inr (.inr (some 44)), .inl 14, .inl 4], [.inl 56, .inr (.inr (some 44))])) (w' := (zs_71 n, qml (zxc xs) zl_38, 0, 0)) 8 hd0 hz (by rfl) ?_
  refine qR_z (c' := (36, [.inr (.inr (some 44)), .inl 14, .inl 4], [.inr (.inr (some 45)), .inr (.inr (some 44))])) (S' := zs_72 n) (r := 45) (a' := 1) (b' := 56) hd0 hz rfl rfl (fun j => qml_z rfl rfl) ?_
  refine qR_w (c' := (39, [.inr (.inr (some 44)), .inl 14, .inl 4], [])) (w' := (zs_73 n, qml (zxc xs) zl_38, 1, 56)) 1 hd0 hz (by rfl) ?_
  exact qR_ret hd0 hz rfl rfl ⟨rfl, _, _, rfl⟩
set_option maxRecDepth 100000 in
theorem qc_20 (n : Nat) (xs : Nat → Int32) {d : Nat} (hd : 1 ≤ d) : qR d 100 (0, zini [.inr (.inr (some 46)), .inl 20, .inl 3] 3, []) (zs_75 n, qml (zxc xs) zl_38, 0, 0) (fun r w' => r = none ∧ ∃ a b, w' = (zs_77 n, qml (zxc xs) zl_40, a, b)) := by
  have hz := zp_100
  have hd0 : 0 < d := by omega
  show qR d 100 (0, [.inr (.inr (some 46)), .inl 20, .inl 3], []) (zs_75 n, qml (zxc xs) zl_38, 0, 0) _
  refine qR_w (c' := (13, [.inr (.inr (some 46)), .inl 20, .inl 3], [])) (w' := (zs_75 n, qml (zxc xs) zl_39, 0, 0)) 7 hd0 hz (by rfl) ?_
  refine qR_w (c' := (22, [.inr (.inr (some 46)), .inl 20, .inl 3], [])) (w' := (zs_75 n, qml (zxc xs) zl_40, 0, 0)) 5 hd0 hz (by rfl) ?_
  refine qR_w (c' := (34, [.inr (.inr (some 46)), .inl 20, .inl 3], [.inl 60, .inr (.inr (some 46))])) (w' := (zs_75 n, qml (zxc xs) zl_40, 0, 0)) 8 hd0 hz (by rfl) ?_
  refine qR_z (c' := (36, [.inr (.inr (some 46)), .inl 20, .inl 3], [.inr (.inr (some 47)), .inr (.inr (some 46))])) (S' := zs_76 n) (r := 47) (a' := 1) (b' := 60) hd0 hz rfl rfl (fun j => qml_z rfl rfl) ?_
  refine qR_w (c' := (39, [.inr (.inr (some 46)), .inl 20, .inl 3], [])) (w' := (zs_77 n, qml (zxc xs) zl_40, 1, 60)) 1 hd0 hz (by rfl) ?_
  exact qR_ret hd0 hz rfl rfl ⟨rfl, _, _, rfl⟩
set_option maxRecDepth 100000 in
theorem qc_21 (n : Nat) (xs : Nat → Int32) {d : Nat} (hd : 1 ≤ d) : qR d 100 (0, zini [.inr (.inr (some 48)), .inl 4, .inl 2] 3, []) (zs_79 n, qml (zxc xs) zl_40, 0, 0) (fun r w' => r = none ∧ ∃ a b, w' = (zs_81 n, qml (zxc xs) zl_42, a, b)) := by
  have hz := zp_100
  have hd0 : 0 < d := by omega
  show qR d 100 (0, [.inr (.inr (some 48)), .inl 4, .inl 2], []) (zs_79 n, qml (zxc xs) zl_40, 0, 0) _
  refine qR_w (c' := (13, [.inr (.inr (some 48)), .inl 4, .inl 2], [])) (w' := (zs_79 n, qml (zxc xs) zl_41, 0, 0)) 7 hd0 hz (by rfl) ?_
  refine qR_w (c' := (22, [.inr (.inr (some 48)), .inl 4, .inl 2], [])) (w' := (zs_79 n, qml (zxc xs) zl_42, 0, 0)) 5 hd0 hz (by rfl) ?_
  refine qR_w (c' := (34, [.inr (.inr (some 48)), .inl 4, .inl 2], [.inl 8, .inr (.inr (some 48))])) (w' := (zs_79 n, qml (zxc xs) zl_42, 0, 0)) 8 hd0 hz (by rfl) ?_
  refine qR_z (c' := (36, [.inr (.inr (some 48)), .inl 4, .inl 2], [.inr (.inr (some 49)), .inr (.inr (some 48))])) (S' := zs_80 n) (r := 49) (a' := 1) (b' := 8) hd0 hz rfl rfl (fun j => qml_z rfl rfl) ?_
  refine qR_w (c' := (39, [.inr (.inr (some 48)), .inl 4, .inl 2], [])) (w' := (zs_81 n, qml (zxc xs) zl_42, 1, 8)) 1 hd0 hz (by rfl) ?_
  exact qR_ret hd0 hz rfl rfl ⟨rfl, _, _, rfl⟩
set_option maxRecDepth 100000 in
theorem qc_22 (n : Nat) (xs : Nat → Int32) {d : Nat} (hd : 1 ≤ d) : qR d 100 (0, zini [.inr (.inr (some 50)), .inl 40, .inl 5] 3, []) (zs_83 n, qml (zxc xs) zl_42, 0, 0) (fun r w' => r = none ∧ ∃ a b, w' = (zs_85 n, qml (zxc xs) zl_44, a, b)) := by
  have hz := zp_100
  have hd0 : 0 < d := by omega
  show qR d 100 (0, [.inr (.inr (some 50)), .inl 40, .inl 5], []) (zs_83 n, qml (zxc xs) zl_42, 0, 0) _
  refine qR_w (c' := (13, [.inr (.inr (some 50)), .inl 40, .inl 5], [])) (w' := (zs_83 n, qml (zxc xs) zl_43, 0, 0)) 7 hd0 hz (by rfl) ?_
  refine qR_w (c' := (22, [.inr (.inr (some 50)), .inl 40, .inl 5], [])) (w' := (zs_83 n, qml (zxc xs) zl_44, 0, 0)) 5 hd0 hz (by rfl) ?_
  refine qR_w (c' := (34, [.inr (.inr (some 50)), .inl 40, .inl 5], [.inl 200, .inr (.inr (some 50))])) (w' := (zs_83 n, qml (zxc xs) zl_44, 0, 0)) 8 hd0 hz (by rfl) ?_
  refine qR_z (c' := (36, [.inr (.inr (some 50)), .inl 40, .inl 5], [.inr (.inr (some 51)), .inr (.inr (some 50))])) (S' := zs_84 n) (r := 51) (a' := 1) (b' := 200) hd0 hz rfl rfl (fun j => qml_z rfl rfl) ?_
  refine qR_w (c' := (39, [.inr (.inr (some 50)), .inl 40, .inl 5], [])) (w' := (zs_85 n, qml (zxc xs) zl_44, 1, 200)) 1 hd0 hz (by rfl) ?_
  exact qR_ret hd0 hz rfl rfl ⟨rfl, _, _, rfl⟩
set_option maxRecDepth 100000 in
theorem qc_23 (n : Nat) (xs : Nat → Int32) {d : Nat} (hd : 1 ≤ d) : qR d 100 (0, zini [.inr (.inr (some 52)), .inl 250, .inl 11] 3, []) (zs_87 n, qml (zxc xs) zl_44, 0, 0) (fun r w' => r = none ∧ ∃ a b, w' = (zs_89 n, qml (zxc xs) zl_46, a, b)) := by
  have hz := zp_100
  have hd0 : 0 < d := by omega
  show qR d 100 (0, [.inr (.inr (some 52)), .inl 250, .inl 11], []) (zs_87 n, qml (zxc xs) zl_44, 0, 0) _
  refine qR_w (c' := (13, [.inr (.inr (some 52)), .inl 250, .inl 11], [])) (w' := (zs_87 n, qml (zxc xs) zl_45, 0, 0)) 7 hd0 hz (by rfl) ?_
  refine qR_w (c' := (22, [.inr (.inr (some 52)), .inl 250, .inl 11], [])) (w' := (zs_87 n, qml (zxc xs) zl_46, 0, 0)) 5 hd0 hz (by rfl) ?_
  refine qR_w (c' := (34, [.inr (.inr (some 52)), .inl 250, .inl 11], [.inl 2750, .inr (.inr (some 52))])) (w' := (zs_87 n, qml (zxc xs) zl_46, 0, 0)) 8 hd0 hz (by rfl) ?_
  refine qR_z (c' := (36, [.inr (.inr (some 52)), .inl 250, .inl 11], [.inr (.inr (some 53)), .inr (.inr (some 52))])) (S' := zs_88 n) (r := 53) (a' := 1) (b' := 2750) hd0 hz rfl rfl (fun j => qml_z rfl rfl) ?_
  refine qR_w (c' := (39, [.inr (.inr (some 52)), .inl 250, .inl 11], [])) (w' := (zs_89 n, qml (zxc xs) zl_46, 1, 2750)) 1 hd0 hz (by rfl) ?_
  exact qR_ret hd0 hz rfl rfl ⟨rfl, _, _, rfl⟩
set_option maxRecDepth 100000 in
theorem qc_24 (n : Nat) (xs : Nat → Int32) {d : Nat} (hd : 1 ≤ d) : qR d 100 (0, zini [.inr (.inr (some 54)), .inl 8, .inl 81] 3, []) (zs_91 n, qml (zxc xs) zl_46, 0, 0) (fun r w' => r = none ∧ ∃ a b, w' = (zs_93 n, qml (zxc xs) zl_48, a, b)) := by
  have hz := zp_100
  have hd0 : 0 < d := by omega
  show qR d 100 (0, [.inr (.inr (some 54)), .inl 8, .inl 81], []) (zs_91 n, qml (zxc xs) zl_46, 0, 0) _
  refine qR_w (c' := (13, [.inr (.inr (some 54)), .inl 8, .inl 81], [])) (w' := (zs_91 n, qml (zxc xs) zl_47, 0, 0)) 7 hd0 hz (by rfl) ?_
  refine qR_w (c' := (22, [.inr (.inr (some 54)), .inl 8, .inl 81], [])) (w' := (zs_91 n, qml (zxc xs) zl_48, 0, 0)) 5 hd0 hz (by rfl) ?_
  refine qR_w (c' := (34, [.inr (.inr (some 54)), .inl 8, .inl 81], [.inl 648, .inr (.inr (some 54))])) (w' := (zs_91 n, qml (zxc xs) zl_48, 0, 0)) 8 hd0 hz (by rfl) ?_
  refine qR_z (c' := (36, [.inr (.inr (some 54)), .inl 8, .inl 81], [.inr (.inr (some 55)), .inr (.inr (some 54))])) (S' := zs_92 n) (r := 55) (a' := 1) (b' := 648) hd0 hz rfl rfl (fun j => qml_z rfl rfl) ?_
  refine qR_w (c' := (39, [.inr (.inr (some 54)), .inl 8, .inl 81], [])) (w' := (zs_93 n, qml (zxc xs) zl_48, 1, 648)) 1 hd0 hz (by rfl) ?_
  exact qR_ret hd0 hz rfl rfl ⟨rfl, _, _, rfl⟩
set_option maxRecDepth 100000 in
theorem qc_25 (n : Nat) (xs : Nat → Int32) {d : Nat} (hd : 1 ≤ d) : qR d 100 (0, zini [.inr (.inr (some 56)), .inl 10, .inl 164] 3, []) (zs_95 n, qml (zxc xs) zl_48, 0, 0) (fun r w' => r = none ∧ ∃ a b, w' = (zs_97 n, qml (zxc xs) zl_50, a, b)) := by
  have hz := zp_100
  have hd0 : 0 < d := by omega
  show qR d 100 (0, [.inr (.inr (some 56)), .inl 10, .inl 164], []) (zs_95 n, qml (zxc xs) zl_48, 0, 0) _
  refine qR_w (c' := (13, [.inr (.inr (some 56)), .inl 10, .inl 164], [])) (w' := (zs_95 n, qml (zxc xs) zl_49, 0, 0)) 7 hd0 hz (by rfl) ?_
  refine qR_w (c' := (22, [.inr (.inr (some 56)), .inl 10, .inl 164], [])) (w' := (zs_95 n, qml (zxc xs) zl_50, 0, 0)) 5 hd0 hz (by rfl) ?_
  refine qR_w (c' := (34, [.inr (.inr (some 56)), .inl 10, .inl 164], [.inl 1640, .inr (.inr (some 56))])) (w' := (zs_95 n, qml (zxc xs) zl_50, 0, 0)) 8 hd0 hz (by rfl) ?_
  refine qR_z (c' := (36, [.inr (.inr (some 56)), .inl 10, .inl 164], [.inr (.inr (some 57)), .inr (.inr (some 56))])) (S' := zs_96 n) (r := 57) (a' := 1) (b' := 1640) hd0 hz rfl rfl (fun j => qml_z rfl rfl) ?_
  refine qR_w (c' := (39, [.inr (.inr (some 56)), .inl 10, .inl 164], [])) (w' := (zs_97 n, qml (zxc xs) zl_50, 1, 1640)) 1 hd0 hz (by rfl) ?_
  exact qR_ret hd0 hz rfl rfl ⟨rfl, _, _, rfl⟩
set_option maxRecDepth 100000 in
theorem qc_26 (n : Nat) (xs : Nat → Int32) {d : Nat} (hd : 1 ≤ d) : qR d 100 (0, zini [.inr (.inr (some 58)), .inl 12, .inl 2] 3, []) (zs_99 n, qml (zxc xs) zl_50, 0, 0) (fun r w' => r = none ∧ ∃ a b, w' = (zs_101 n, qml (zxc xs) zl_52, a, b)) := by
  have hz := zp_100
  have hd0 : 0 < d := by omega
  show qR d 100 (0, [.inr (.inr (some 58)), .inl 12, .inl 2], []) (zs_99 n, qml (zxc xs) zl_50, 0, 0) _
  refine qR_w (c' := (13, [.inr (.inr (some 58)), .inl 12, .inl 2], [])) (w' := (zs_99 n, qml (zxc xs) zl_51, 0, 0)) 7 hd0 hz (by rfl) ?_
  refine qR_w (c' := (22, [.inr (.inr (some 58)), .inl 12, .inl 2], [])) (w' := (zs_99 n, qml (zxc xs) zl_52, 0, 0)) 5 hd0 hz (by rfl) ?_
  refine qR_w (c' := (34, [.inr (.inr (some 58)), .inl 12, .inl 2], [.inl 24, .inr (.inr (some 58))])) (w' := (zs_99 n, qml (zxc xs) zl_52, 0, 0)) 8 hd0 hz (by rfl) ?_
  refine qR_z (c' := (36, [.inr (.inr (some 58)), .inl 12, .inl 2], [.inr (.inr (some 59)), .inr (.inr (some 58))])) (S' := zs_100 n) (r := 59) (a' := 1) (b' := 24) hd0 hz rfl rfl (fun j => qml_z rfl rfl) ?_
  refine qR_w (c' := (39, [.inr (.inr (some 58)), .inl 12, .inl 2], [])) (w' := (zs_101 n, qml (zxc xs) zl_52, 1, 24)) 1 hd0 hz (by rfl) ?_
  exact qR_ret hd0 hz rfl rfl ⟨rfl, _, _, rfl⟩
set_option maxRecDepth 100000 in
theorem qc_27 (n : Nat) (xs : Nat → Int32) {d : Nat} (hd : 2 ≤ d) : qR d 17 (0, zini [.inr (.inr (some 43))] 1, []) (zs_70 n, qml (zxc xs) zl_36, 0, 0) (fun r w' => r = none ∧ ∃ a b, w' = (zs_102 n, qml (zxc xs) zl_54, a, b)) := by
  have hz := zp_17
  have hd0 : 0 < d := by omega
  show qR d 17 (0, [.inr (.inr (some 43))], []) (zs_70 n, qml (zxc xs) zl_36, 0, 0) _
  refine qR_w (c' := (5, [.inr (.inr (some 43))], [.inr (.inr (some 43))])) (w' := (zs_70 n, qml (zxc xs) zl_36, 0, 0)) 3 hd0 hz (by rfl) ?_
  refine qR_z (c' := (8, [.inr (.inr (some 43))], [.inr (.inr (some 44)), .inr (.inr (some 43))])) (S' := zs_71 n) (r := 44) (a' := 1) (b' := 4) hd0 hz rfl rfl (fun j => qml_z rfl rfl) ?_
  refine qR_w (c' := (12, [.inr (.inr (some 43))], [.inl 4, .inl 14, .inr (.inr (some 44)), .inr (.inr (some 44)), .inr (.inr (some 43))])) (w' := (zs_71 n, qml (zxc xs) zl_36, 1, 4)) 3 hd0 hz (by rfl) ?_
  refine qR_call hd0 hz zp_100 rfl rfl (Nat.le_of_ble_eq_true rfl) ⟨by omega, by omega⟩ (qc_19 n xs (by omega)) (fun r w1 hr => ?_)
  obtain ⟨rfl, a9, b9, rfl⟩ := hr
  show qR d 17 (15, [.inr (.inr (some 43))], [.inr (.inr (some 44)), .inr (.inr (some 43))]) (zs_73 n, qml (zxc xs) zl_38, 2, 60004) _
  refine qR_w (c' := (18, [.inr (.inr (some 43))], [])) (w' := (zs_74 n, qml (zxc xs) zl_38, 2, 60004)) 1 hd0 hz (by rfl) ?_
  refine qR_w (c' := (19, [.inr (.inr (some 43))], [.inr (.inr (some 43))])) (w' := (zs_74 n, qml (zxc xs) zl_38, 2, 60004)) 1 hd0 hz (by rfl) ?_
  refine qR_z (c' := (22, [.inr (.inr (some 43))], [.inr (.inr (some 46)), .inr (.inr (some 43))])) (S' := zs_75 n) (r := 46) (a' := 3) (b' := 60008) hd0 hz rfl rfl (fun j => qml_z rfl rfl) ?_
  refine qR_w (c' := (26, [.inr (.inr (some 43))], [.inl 3, .inl 20, .inr (.inr (some 46)), .inr (.inr (some 46)), .inr (.inr (some 43))])) (w' := (zs_75 n, qml (zxc xs) zl_38, 3, 60008)) 3 hd0 hz (by rfl) ?_
  refine qR_call hd0 hz zp_100 rfl rfl (Nat.le_of_ble_eq_true rfl) ⟨by omega, by omega⟩ (qc_20 n xs (by omega)) (fun r w1 hr => ?_)
  obtain ⟨rfl, a9, b9, rfl⟩ := hr
  show qR d 17 (29, [.inr (.inr (some 43))], [.inr (.inr (some 46)), .inr (.inr (some 43))]) (zs_77 n, qml (zxc xs) zl_40, 4, 120008) _
  refine qR_w (c' := (32, [.inr (.inr (some 43))], [])) (w' := (zs_78 n, qml (zxc xs) zl_40, 4, 120008)) 1 hd0 hz (by rfl) ?_
  refine qR_w (c' := (33, [.inr (.inr (some 43))], [.inr (.inr (some 43))])) (w' := (zs_78 n, qml (zxc xs) zl_40, 4, 120008)) 1 hd0 hz (by rfl) ?_
  refine qR_z (c' := (36, [.inr (.inr (some 43))], [.inr (.inr (some 48)), .inr (.inr (some 43))])) (S' := zs_79 n) (r := 48) (a' := 5) (b' := 120012) hd0 hz rfl rfl (fun j => qml_z rfl rfl) ?_
  refine qR_w (c' := (39, [.inr (.inr (some 43))], [.inl 2, .inl 4, .inr (.inr (some 48)), .inr (.inr (some 48)), .inr (.inr (some 43))])) (w' := (zs_79 n, qml (zxc xs) zl_40, 5, 120012)) 3 hd0 hz (by rfl) ?_
  refine qR_call hd0 hz zp_100 rfl rfl (Nat.le_of_ble_eq_true rfl) ⟨by omega, by omega⟩ (qc_21 n xs (by omega)) (fun r w1 hr => ?_)
  obtain ⟨rfl, a9, b9, rfl⟩ := hr
  show qR d 17 (42, [.inr (.inr (some 43))], [.inr (.inr (some 48)), .inr (.inr (some 43))]) (zs_81 n, qml (zxc xs) zl_42, 6, 180012) _
  refine qR_w (c' := (45, [.inr (.inr (some 43))], [])) (w' := (zs_82 n, qml (zxc xs) zl_42, 6, 180012)) 1 hd0 hz (by rfl) ?_
  refine qR_w (c' := (46, [.inr (.inr (some 43))], [.inr (.inr (some 43))])) (w' := (zs_82 n, qml (zxc xs) zl_42, 6, 180012)) 1 hd0 hz (by rfl) ?_
  refine qR_z (c' := (49, [.inr (.inr (some 43))], [.inr (.inr (some 50)), .inr (.inr (some 43))])) (S' := zs_83 n) (r := 50) (a' := 7) (b' := 180016) hd0 hz rfl rfl (fun j => qml_z rfl rfl) ?_
  refine qR_w (c' := (53, [.inr (.inr (some 43))], [.inl 5, .inl 40, .inr (.inr (some 50)), .inr (.inr (some 50)), .inr (.inr (some 43))])) (w' := (zs_83 n, qml (zxc xs) zl_42, 7, 180016)) 3 hd0 hz (by rfl) ?_
  refine qR_call hd0 hz zp_100 rfl rfl (Nat.le_of_ble_eq_true rfl) ⟨by omega, by omega⟩ (qc_22 n xs (by omega)) (fun r w1 hr => ?_)
  obtain ⟨rfl, a9, b9, rfl⟩ := hr
  show qR d 17 (56, [.inr (.inr (some 43))], [.inr (.inr (some 50)), .inr (.inr (some 43))]) (zs_85 n, qml (zxc xs) zl_44, 8, 240016) _
  refine qR_w (c' := (59, [.inr (.inr (some 43))], [])) (w' := (zs_86 n, qml (zxc xs) zl_44, 8, 240016)) 1 hd0 hz (by rfl) ?_
  refine qR_w (c' := (60, [.inr (.inr (some 43))], [.inr (.inr (some 43))])) (w' := (zs_86 n, qml (zxc xs) zl_44, 8, 240016)) 1 hd0 hz (by rfl) ?_
  refine qR_z (c' := (63, [.inr (.inr (some 43))], [.inr (.inr (some 52)), .inr (.inr (some 43))])) (S' := zs_87 n) (r := 52) (a' := 9) (b' := 240020) hd0 hz rfl rfl (fun j => qml_z rfl rfl) ?_
  refine qR_w (c' := (69, [.inr (.inr (some 43))], [.inl 11, .inl 250, .inr (.inr (some 52)), .inr (.inr (some 52)), .inr (.inr (some 43))])) (w' := (zs_87 n, qml (zxc xs) zl_44, 9, 240020)) 3 hd0 hz (by rfl) ?_
  refine qR_call hd0 hz zp_100 rfl rfl (Nat.le_of_ble_eq_true rfl) ⟨by omega, by omega⟩ (qc_23 n xs (by omega)) (fun r w1 hr => ?_)
  obtain ⟨rfl, a9, b9, rfl⟩ := hr
  show qR d 17 (72, [.inr (.inr (some 43))], [.inr (.inr (some 52)), .inr (.inr (some 43))]) (zs_89 n, qml (zxc xs) zl_46, 10, 300020) _
  refine qR_w (c' := (75, [.inr (.inr (some 43))], [])) (w' := (zs_90 n, qml (zxc xs) zl_46, 10, 300020)) 1 hd0 hz (by rfl) ?_
  refine qR_w (c' := (76, [.inr (.inr (some 43))], [.inr (.inr (some 43))])) (w' := (zs_90 n, qml (zxc xs) zl_46, 10, 300020)) 1 hd0 hz (by rfl) ?_
  refine qR_z (c' := (79, [.inr (.inr (some 43))], [.inr (.inr (some 54)), .inr (.inr (some 43))])) (S' := zs_91 n) (r := 54) (a' := 11) (b' := 300024) hd0 hz rfl rfl (fun j => qml_z rfl rfl) ?_
  refine qR_w (c' := (84, [.inr (.inr (some 43))], [.inl 81, .inl 8, .inr (.inr (some 54)), .inr (.inr (some 54)), .inr (.inr (some 43))])) (w' := (zs_91 n, qml (zxc xs) zl_46, 11, 300024)) 3 hd0 hz (by rfl) ?_
  refine qR_call hd0 hz zp_100 rfl rfl (Nat.le_of_ble_eq_true rfl) ⟨by omega, by omega⟩ (qc_24 n xs (by omega)) (fun r w1 hr => ?_)
  obtain ⟨rfl, a9, b9, rfl⟩ := hr
  show qR d 17 (87, [.inr (.inr (some 43))], [.inr (.inr (some 54)), .inr (.inr (some 43))]) (zs_93 n, qml (zxc xs) zl_48, 12, 360024) _
  refine qR_w (c' := (90, [.inr (.inr (some 43))], [])) (w' := (zs_94 n, qml (zxc xs) zl_48, 12, 360024)) 1 hd0 hz (by rfl) ?_
  refine qR_w (c' := (91, [.inr (.inr (some 43))], [.inr (.inr (some 43))])) (w' := (zs_94 n, qml (zxc xs) zl_48, 12, 360024)) 1 hd0 hz (by rfl) ?_
  refine qR_z (c' := (94, [.inr (.inr (some 43))], [.inr (.inr (some 56)), .inr (.inr (some 43))])) (S' := zs_95 n) (r := 56) (a' := 13) (b' := 360028) hd0 hz rfl rfl (fun j => qml_z rfl rfl) ?_
  refine qR_w (c' := (100, [.inr (.inr (some 43))], [.inl 164, .inl 10, .inr (.inr (some 56)), .inr (.inr (some 56)), .inr (.inr (some 43))])) (w' := (zs_95 n, qml (zxc xs) zl_48, 13, 360028)) 3 hd0 hz (by rfl) ?_
  refine qR_call hd0 hz zp_100 rfl rfl (Nat.le_of_ble_eq_true rfl) ⟨by omega, by omega⟩ (qc_25 n xs (by omega)) (fun r w1 hr => ?_)
  obtain ⟨rfl, a9, b9, rfl⟩ := hr
  show qR d 17 (103, [.inr (.inr (some 43))], [.inr (.inr (some 56)), .inr (.inr (some 43))]) (zs_97 n, qml (zxc xs) zl_50, 14, 420028) _
  refine qR_w (c' := (106, [.inr (.inr (some 43))], [])) (w' := (zs_98 n, qml (zxc xs) zl_50, 14, 420028)) 1 hd0 hz (by rfl) ?_
  refine qR_w (c' := (107, [.inr (.inr (some 43))], [.inr (.inr (some 43))])) (w' := (zs_98 n, qml (zxc xs) zl_50, 14, 420028)) 1 hd0 hz (by rfl) ?_
  refine qR_z (c' := (110, [.inr (.inr (some 43))], [.inr (.inr (some 58)), .inr (.inr (some 43))])) (S' := zs_99 n) (r := 58) (a' := 15) (b' := 420032) hd0 hz rfl rfl (fun j => qml_z rfl rfl) ?_
  refine qR_w (c' := (114, [.inr (.inr (some 43))], [.inl 2, .inl 12, .inr (.inr (some 58)), .inr (.inr (some 58)), .inr (.inr (some 43))])) (w' := (zs_99 n, qml (zxc xs) zl_50, 15, 420032)) 3 hd0 hz (by rfl) ?_
  refine qR_call hd0 hz zp_100 rfl rfl (Nat.le_of_ble_eq_true rfl) ⟨by omega, by omega⟩ (qc_26 n xs (by omega)) (fun r w1 hr => ?_)
  obtain ⟨rfl, a9, b9, rfl⟩ := hr
  show qR d 17 (117, [.inr (.inr (some 43))], [.inr (.inr (some 58)), .inr (.inr (some 43))]) (zs_101 n, qml (zxc xs) zl_52, 16, 480032) _
  refine qR_w (c' := (120, [.inr (.inr (some 43))], [])) (w' := (zs_102 n, qml (zxc xs) zl_52, 16, 480032)) 1 hd0 hz (by rfl) ?_
  refine qR_w (c' := (126, [.inr (.inr (some 43))], [])) (w' := (zs_102 n, qml (zxc xs) zl_53, 16, 480032)) 3 hd0 hz (by rfl) ?_
  refine qR_w (c' := (132, [.inr (.inr (some 43))], [])) (w' := (zs_102 n, qml (zxc xs) zl_54, 16, 480032)) 3 hd0 hz (by rfl) ?_
  exact qR_ret hd0 hz rfl rfl ⟨rfl, _, _, rfl⟩
set_option maxRecDepth 100000 in
theorem qc_28 (n : Nat) (xs : Nat → Int32) {d : Nat} (hd : 1 ≤ d) : qR d 100 (0, zini [.inr (.inr (some 61)), .inl 250, .inl 4] 3, []) (zs_105 n, qml (zxc xs) zl_54, 0, 0) (fun r w' => r = none ∧ ∃ a b, w' = (zs_107 n, qml (zxc xs) zl_56, a, b)) := by
  have hz := zp_100
  have hd0 : 0 < d := by omega
  show qR d 100 (0, [.inr (.inr (some 61)), .inl 250, .inl 4], []) (zs_105 n, qml (zxc xs) zl_54, 0, 0) _
  refine qR_w (c' := (13, [.inr (.inr (some 61)), .inl 250, .inl 4], [])) (w' := (zs_105 n, qml (zxc xs) zl_55, 0, 0)) 7 hd0 hz (by rfl) ?_
  refine qR_w (c' := (22, [.inr (.inr (some 61)), .inl 250, .inl 4], [])) (w' := (zs_105 n, qml (zxc xs) zl_56, 0, 0)) 5 hd0 hz (by rfl) ?_
  refine qR_w (c' := (34, [.inr (.inr (some 61)), .inl 250, .inl 4], [.inl 1000, .inr (.inr (some 61))])) (w' := (zs_105 n, qml (zxc xs) zl_56, 0, 0)) 8 hd0 hz (by rfl) ?_
  refine qR_z (c' := (36, [.inr (.inr (some 61)), .inl 250, .inl 4], [.inr (.inr (some 62)), .inr (.inr (some 61))])) (S' := zs_106 n) (r := 62) (a' := 1) (b' := 1000) hd0 hz rfl rfl (fun j => qml_z rfl rfl) ?_
  refine qR_w (c' := (39, [.inr (.inr (some 61)), .inl 250, .inl 4], [])) (w' := (zs_107 n, qml (zxc xs) zl_56, 1, 1000)) 1 hd0 hz (by rfl) ?_
  exact qR_ret hd0 hz rfl rfl ⟨rfl, _, _, rfl⟩
set_option maxRecDepth 100000 in
theorem qc_29 (n : Nat) (xs : Nat → Int32) {d : Nat} (hd : 1 ≤ d) : qR d 100 (0, zini [.inr (.inr (some 63)), .inl 280, .inl 4] 3, []) (zs_109 n, qml (zxc xs) zl_56, 0, 0) (fun r w' => r = none ∧ ∃ a b, w' = (zs_111 n, qml (zxc xs) zl_58, a, b)) := by
  have hz := zp_100
  have hd0 : 0 < d := by omega
  show qR d 100 (0, [.inr (.inr (some 63)), .inl 280, .inl 4], []) (zs_109 n, qml (zxc xs) zl_56, 0, 0) _
  refine qR_w (c' := (13, [.inr (.inr (some 63)), .inl 280, .inl 4], [])) (w' := (zs_109 n, qml (zxc xs) zl_57, 0, 0)) 7 hd0 hz (by rfl) ?_
  refine qR_w (c' := (22, [.inr (.inr (some 63)), .inl 280, .inl 4], [])) (w' := (zs_109 n, qml (zxc xs) zl_58, 0, 0)) 5 hd0 hz (by rfl) ?_
  refine qR_w (c' := (34, [.inr (.inr (some 63)), .inl 280, .inl 4], [.inl 1120, .inr (.inr (some 63))])) (w' := (zs_109 n, qml (zxc xs) zl_58, 0, 0)) 8 hd0 hz (by rfl) ?_
  refine qR_z (c' := (36, [.inr (.inr (some 63)), .inl 280, .inl 4], [.inr (.inr (some 64)), .inr (.inr (some 63))])) (S' := zs_110 n) (r := 64) (a' := 1) (b' := 1120) hd0 hz rfl rfl (fun j => qml_z rfl rfl) ?_
  refine qR_w (c' := (39, [.inr (.inr (some 63)), .inl 280, .inl 4], [])) (w' := (zs_111 n, qml (zxc xs) zl_58, 1, 1120)) 1 hd0 hz (by rfl) ?_
  exact qR_ret hd0 hz rfl rfl ⟨rfl, _, _, rfl⟩
set_option maxRecDepth 100000 in
theorem qc_30 (n : Nat) (xs : Nat → Int32) {d : Nat} (hd : 1 ≤ d) : qR d 100 (0, zini [.inr (.inr (some 65)), .inl 250, .inl 1] 3, []) (zs_113 n, qml (zxc xs) zl_58, 0, 0) (fun r w' => r = none ∧ ∃ a b, w' = (zs_115 n, qml (zxc xs) zl_60, a, b)) := by
  have hz := zp_100
  have hd0 : 0 < d := by omega
  show qR d 100 (0, [.inr (.inr (some 65)), .inl 250, .inl 1], []) (zs_113 n, qml (zxc xs) zl_58, 0, 0) _
  refine qR_w (c' := (13, [.inr (.inr (some 65)), .inl 250, .inl 1], [])) (w' := (zs_113 n, qml (zxc xs) zl_59, 0, 0)) 7 hd0 hz (by rfl) ?_
  refine qR_w (c' := (22, [.inr (.inr (some 65)), .inl 250, .inl 1], [])) (w' := (zs_113 n, qml (zxc xs) zl_60, 0, 0)) 5 hd0 hz (by rfl) ?_
  refine qR_w (c' := (34, [.inr (.inr (some 65)), .inl 250, .inl 1], [.inl 250, .inr (.inr (some 65))])) (w' := (zs_113 n, qml (zxc xs) zl_60, 0, 0)) 8 hd0 hz (by rfl) ?_
  refine qR_z (c' := (36, [.inr (.inr (some 65)), .inl 250, .inl 1], [.inr (.inr (some 66)), .inr (.inr (some 65))])) (S' := zs_114 n) (r := 66) (a' := 1) (b' := 250) hd0 hz rfl rfl (fun j => qml_z rfl rfl) ?_
  refine qR_w (c' := (39, [.inr (.inr (some 65)), .inl 250, .inl 1], [])) (w' := (zs_115 n, qml (zxc xs) zl_60, 1, 250)) 1 hd0 hz (by rfl) ?_
  exact qR_ret hd0 hz rfl rfl ⟨rfl, _, _, rfl⟩
set_option maxRecDepth 100000 in
theorem qc_31 (n : Nat) (xs : Nat → Int32) {d : Nat} (hd : 2 ≤ d) : qR d 40 (0, zini [.inr (.inr (some 60)), .inr (.inr (some 9))] 2, []) (zs_104 n, qml (zxc xs) zl_54, 0, 0) (fun r w' => r = none ∧ ∃ a b, w' = (zs_117 n, qml (zxc xs) zl_60, a, b)) := by
  have hz := zp_40
  have hd0 : 0 < d := by omega
  show qR d 40 (0, [.inr (.inr (some 60)), .inr (.inr (some 9))], []) (zs_104 n, qml (zxc xs) zl_54, 0, 0) _
  refine qR_w (c' := (5, [.inr (.inr (some 60)), .inr (.inr (some 9))], [.inr (.inr (some 60))])) (w' := (zs_104 n, qml (zxc xs) zl_54, 0, 0)) 3 hd0 hz (by rfl) ?_
  refine qR_z (c' := (8, [.inr (.inr (some 60)), .inr (.inr (some 9))], [.inr (.inr (some 61)), .inr (.inr (some 60))])) (S' := zs_105 n) (r := 61) (a' := 1) (b' := 4) hd0 hz rfl rfl (fun j => qml_z rfl rfl) ?_
  refine qR_w (c' := (13, [.inr (.inr (some 60)), .inr (.inr (some 9))], [.inl 4, .inl 250, .inr (.inr (some 61)), .inr (.inr (some 61)), .inr (.inr (some 60))])) (w' := (zs_105 n, qml (zxc xs) zl_54, 1, 4)) 3 hd0 hz (by rfl) ?_
  refine qR_call hd0 hz zp_100 rfl rfl (Nat.le_of_ble_eq_true rfl) ⟨by omega, by omega⟩ (qc_28 n xs (by omega)) (fun r w1 hr => ?_)
  obtain ⟨rfl, a9, b9, rfl⟩ := hr
  show qR d 40 (16, [.inr (.inr (some 60)), .inr (.inr (some 9))], [.inr (.inr (some 61)), .inr (.inr (some 60))]) (zs_107 n, qml (zxc xs) zl_56, 2, 60004) _
  refine qR_w (c' := (19, [.inr (.inr (some 60)), .inr (.inr (some 9))], [])) (w' := (zs_108 n, qml (zxc xs) zl_56, 2, 60004)) 1 hd0 hz (by rfl) ?_
  refine qR_w (c' := (20, [.inr (.inr (some 60)), .inr (.inr (some 9))], [.inr (.inr (some 60))])) (w' := (zs_108 n, qml (zxc xs) zl_56, 2, 60004)) 1 hd0 hz (by rfl) ?_
  refine qR_z (c' := (23, [.inr (.inr (some 60)), .inr (.inr (some 9))], [.inr (.inr (some 63)), .inr (.inr (some 60))])) (S' := zs_109 n) (r := 63) (a' := 3) (b' := 60008) hd0 hz rfl rfl (fun j => qml_z rfl rfl) ?_
  refine qR_w (c' := (28, [.inr (.inr (some 60)), .inr (.inr (some 9))], [.inl 4, .inl 280, .inr (.inr (some 63)), .inr (.inr (some 63)), .inr (.inr (some 60))])) (w' := (zs_109 n, qml (zxc xs) zl_56, 3, 60008)) 3 hd0 hz (by rfl) ?_
  refine qR_call hd0 hz zp_100 rfl rfl (Nat.le_of_ble_eq_true rfl) ⟨by omega, by omega⟩ (qc_29 n xs (by omega)) (fun r w1 hr => ?_)
  obtain ⟨rfl, a9, b9, rfl⟩ := hr
  show qR d 40 (31, [.inr (.inr (some 60)), .inr (.inr (some 9))], [.inr (.inr (some 63)), .inr (.inr (some 60))]) (zs_111 n, qml (zxc xs) zl_58, 4, 120008) _
  refine qR_w (c' := (34, [.inr (.inr (some 60)), .inr (.inr (some 9))], [])) (w' := (zs_112 n, qml (zxc xs) zl_58, 4, 120008)) 1 hd0 hz (by rfl) ?_
  refine qR_w (c' := (35, [.inr (.inr (some 60)), .inr (.inr (some 9))], [.inr (.inr (some 60))])) (w' := (zs_112 n, qml (zxc xs) zl_58, 4, 120008)) 1 hd0 hz (by rfl) ?_
  refine qR_z (c' := (38, [.inr (.inr (some 60)), .inr (.inr (some 9))], [.inr (.inr (some 65)), .inr (.inr (some 60))])) (S' := zs_113 n) (r := 65) (a' := 5) (b' := 120012) hd0 hz rfl rfl (fun j => qml_z rfl rfl) ?_
  refine qR_w (c' := (43, [.inr (.inr (some 60)), .inr (.inr (some 9))], [.inl 1, .inl 250, .inr (.inr (some 65)), .inr (.inr (some 65)), .inr (.inr (some 60))])) (w' := (zs_113 n, qml (zxc xs) zl_58, 5, 120012)) 3 hd0 hz (by rfl) ?_
  refine qR_call hd0 hz zp_100 rfl rfl (Nat.le_of_ble_eq_true rfl) ⟨by omega, by omega⟩ (qc_30 n xs (by omega)) (fun r w1 hr => ?_)
  obtain ⟨rfl, a9, b9, rfl⟩ := hr
  show qR d 40 (46, [.inr (.inr (some 60)), .inr (.inr (some 9))], [.inr (.inr (some 65)), .inr (.inr (some 60))]) (zs_115 n, qml (zxc xs) zl_60, 6, 180012) _
  refine qR_w (c' := (49, [.inr (.inr (some 60)), .inr (.inr (some 9))], [])) (w' := (zs_116 n, qml (zxc xs) zl_60, 6, 180012)) 1 hd0 hz (by rfl) ?_
  refine qR_w (c' := (54, [.inr (.inr (some 60)), .inr (.inr (some 9))], [])) (w' := (zs_117 n, qml (zxc xs) zl_60, 6, 180012)) 3 hd0 hz (by rfl) ?_
  exact qR_ret hd0 hz rfl rfl ⟨rfl, _, _, rfl⟩
set_option maxRecDepth 100000 in
theorem qc_32 (n : Nat) (xs : Nat → Int32) {d : Nat} (hd : 1 ≤ d) : qR d 100 (0, zini [.inr (.inr (some 68)), .inl 1, .inl 81] 3, []) (zs_120 n, qml (zxc xs) zl_60, 0, 0) (fun r w' => r = none ∧ ∃ a b, w' = (zs_122 n, qml (zxc xs) zl_62, a, b)) := by
  have hz := zp_100
  have hd0 : 0 < d := by omega
  show qR d 100 (0, [.inr (.inr (some 68)), .inl 1, .inl 81], []) (zs_120 n, qml (zxc xs) zl_60, 0, 0) _
  refine qR_w (c' := (13, [.inr (.inr (some 68)), .inl 1, .inl 81], [])) (w' := (zs_120 n, qml (zxc xs) zl_61, 0, 0)) 7 hd0 hz (by rfl) ?_
  refine qR_w (c' := (22, [.inr (.inr (some 68)), .inl 1, .inl 81], [])) (w' := (zs_120 n, qml (zxc xs) zl_62, 0, 0)) 5 hd0 hz (by rfl) ?_
  refine qR_w (c' := (34, [.inr (.inr (some 68)), .inl 1, .inl 81], [.inl 81, .inr (.inr (some 68))])) (w' := (zs_120 n, qml (zxc xs) zl_62, 0, 0)) 8 hd0 hz (by rfl) ?_
  refine qR_z (c' := (36, [.inr (.inr (some 68)), .inl 1, .inl 81], [.inr (.inr (some 69)), .inr (.inr (some 68))])) (S' := zs_121 n) (r := 69) (a' := 1) (b' := 81) hd0 hz rfl rfl (fun j => qml_z rfl rfl) ?_
  refine qR_w (c' := (39, [.inr (.inr (some 68)), .inl 1, .inl 81], [])) (w' := (zs_122 n, qml (zxc xs) zl_62, 1, 81)) 1 hd0 hz (by rfl) ?_
  exact qR_ret hd0 hz rfl rfl ⟨rfl, _, _, rfl⟩
set_option maxRecDepth 100000 in
theorem qc_33 (n : Nat) (xs : Nat → Int32) {d : Nat} (hd : 1 ≤ d) : qR d 100 (0, zini [.inr (.inr (some 70)), .inl 80, .inl 1] 3, []) (zs_124 n, qml (zxc xs) zl_62, 0, 0) (fun r w' => r = none ∧ ∃ a b, w' = (zs_126 n, qml (zxc xs) zl_64, a, b)) := by
  have hz := zp_100
  have hd0 : 0 < d := by omega
  show qR d 100 (0, [.inr (.inr (some 70)), .inl 80, .inl 1], []) (zs_124 n, qml (zxc xs) zl_62, 0, 0) _
  refine qR_w (c' := (13, [.inr (.inr (some 70)), .inl 80, .inl 1], [])) (w' := (zs_124 n, qml (zxc xs) zl_63, 0, 0)) 7 hd0 hz (by rfl) ?_
  refine qR_w (c' := (22, [.inr (.inr (some 70)), .inl 80, .inl 1], [])) (w' := (zs_124 n, qml (zxc xs) zl_64, 0, 0)) 5 hd0 hz (by rfl) ?_
  refine qR_w (c' := (34, [.inr (.inr (some 70)), .inl 80, .inl 1], [.inl 80, .inr (.inr (some 70))])) (w' := (zs_124 n, qml (zxc xs) zl_64, 0, 0)) 8 hd0 hz (by rfl) ?_
  refine qR_z (c' := (36, [.inr (.inr (some 70)), .inl 80, .inl 1], [.inr (.inr (some 71)), .inr (.inr (some 70))])) (S' := zs_125 n) (r := 71) (a' := 1) (b' := 80) hd0 hz rfl rfl (fun j => qml_z rfl rfl) ?_
  refine qR_w (c' := (39, [.inr (.inr (some 70)), .inl 80, .inl 1], [])) (w' := (zs_126 n, qml (zxc xs) zl_64, 1, 80)) 1 hd0 hz (by rfl) ?_
  exact qR_ret hd0 hz rfl rfl ⟨rfl, _, _, rfl⟩
set_option maxRecDepth 100000 in
theorem qc_34 (n : Nat) (xs : Nat → Int32) {d : Nat} (hd : 2 ≤ d) : qR d 73 (0, zini [.inr (.inr (some 67)), .inr (.inr (some 20))] 2, []) (zs_119 n, qml (zxc xs) zl_60, 0, 0) (fun r w' => r = none ∧ ∃ a b, w' = (zs_128 n, qml (zxc xs) zl_64, a, b)) := by
  have hz := zp_73
  have hd0 : 0 < d := by omega
  show qR d 73 (0, [.inr (.inr (some 67)), .inr (.inr (some 20))], []) (zs_119 n, qml (zxc xs) zl_60, 0, 0) _
  refine qR_w (c' := (5, [.inr (.inr (some 67)), .inr (.inr (some 20))], [.inr (.inr (some 67))])) (w' := (zs_119 n, qml (zxc xs) zl_60, 0, 0)) 3 hd0 hz (by rfl) ?_
  refine qR_z (c' := (8, [.inr (.inr (some 67)), .inr (.inr (some 20))], [.inr (.inr (some 68)), .inr (.inr (some 67))])) (S' := zs_120 n) (r := 68) (a' := 1) (b' := 4) hd0 hz rfl rfl (fun j => qml_z rfl rfl) ?_
  refine qR_w (c' := (12, [.inr (.inr (some 67)), .inr (.inr (some 20))], [.inl 81, .inl 1, .inr (.inr (some 68)), .inr (.inr (some 68)), .inr (.inr (some 67))])) (w' := (zs_120 n, qml (zxc xs) zl_60, 1, 4)) 3 hd0 hz (by rfl) ?_
  refine qR_call hd0 hz zp_100 rfl rfl (Nat.le_of_ble_eq_true rfl) ⟨by omega, by omega⟩ (qc_32 n xs (by omega)) (fun r w1 hr => ?_)
  obtain ⟨rfl, a9, b9, rfl⟩ := hr
  show qR d 73 (15, [.inr (.inr (some 67)), .inr (.inr (some 20))], [.inr (.inr (some 68)), .inr (.inr (some 67))]) (zs_122 n, qml (zxc xs) zl_62, 2, 60004) _
  refine qR_w (c' := (18, [.inr (.inr (some 67)), .inr (.inr (some 20))], [])) (w' := (zs_123 n, qml (zxc xs) zl_62, 2, 60004)) 1 hd0 hz (by rfl) ?_
  refine qR_w (c' := (19, [.inr (.inr (some 67)), .inr (.inr (some 20))], [.inr (.inr (some 67))])) (w' := (zs_123 n, qml (zxc xs) zl_62, 2, 60004)) 1 hd0 hz (by rfl) ?_
  refine qR_z (c' := (22, [.inr (.inr (some 67)), .inr (.inr (some 20))], [.inr (.inr (some 70)), .inr (.inr (some 67))])) (S' := zs_124 n) (r := 70) (a' := 3) (b' := 60008) hd0 hz rfl rfl (fun j => qml_z rfl rfl) ?_
  refine qR_w (c' := (26, [.inr (.inr (some 67)), .inr (.inr (some 20))], [.inl 1, .inl 80, .inr (.inr (some 70)), .inr (.inr (some 70)), .inr (.inr (some 67))])) (w' := (zs_124 n, qml (zxc xs) zl_62, 3, 60008)) 3 hd0 hz (by rfl) ?_
  refine qR_call hd0 hz zp_100 rfl rfl (Nat.le_of_ble_eq_true rfl) ⟨by omega, by omega⟩ (qc_33 n xs (by omega)) (fun r w1 hr => ?_)
  obtain ⟨rfl, a9, b9, rfl⟩ := hr
  show qR d 73 (29, [.inr (.inr (some 67)), .inr (.inr (some 20))], [.inr (.inr (some 70)), .inr (.inr (some 67))]) (zs_126 n, qml (zxc xs) zl_64, 4, 120008) _
  refine qR_w (c' := (32, [.inr (.inr (some 67)), .inr (.inr (some 20))], [])) (w' := (zs_127 n, qml (zxc xs) zl_64, 4, 120008)) 1 hd0 hz (by rfl) ?_
  refine qR_w (c' := (37, [.inr (.inr (some 67)), .inr (.inr (some 20))], [])) (w' := (zs_128 n, qml (zxc xs) zl_64, 4, 120008)) 3 hd0 hz (by rfl) ?_
  exact qR_ret hd0 hz rfl rfl ⟨rfl, _, _, rfl⟩
set_option maxRecDepth 100000 in
theorem qc_35 (n : Nat) (xs : Nat → Int32) {d : Nat} (hd : 1 ≤ d) : qR d 55 (0, zini [.inr (.inr (some 72))] 1, []) (zs_130 n, qml (zxc xs) zl_64, 0, 0) (fun r w' => r = none ∧ ∃ a b, w' = (zs_136 n, qml (zxc xs) zl_64, a, b)) := by
  have hz := zp_55
  have hd0 : 0 < d := by omega
  show qR d 55 (0, [.inr (.inr (some 72))], []) (zs_130 n, qml (zxc xs) zl_64, 0, 0) _
  refine qR_w (c' := (7, [.inr (.inr (some 72))], [.inl 80, .inr (.inr (some 72))])) (w' := (zs_130 n, qml (zxc xs) zl_64, 0, 0)) 4 hd0 hz (by rfl) ?_
  refine qR_z (c' := (9, [.inr (.inr (some 72))], [.inr (.inr (some 73)), .inr (.inr (some 72))])) (S' := zs_131 n) (r := 73) (a' := 1) (b' := 80) hd0 hz rfl rfl (fun j => qml_z rfl rfl) ?_
  refine qR_w (c' := (12, [.inr (.inr (some 72))], [])) (w' := (zs_132 n, qml (zxc xs) zl_64, 1, 80)) 1 hd0 hz (by rfl) ?_
  refine qR_w (c' := (15, [.inr (.inr (some 72))], [.inl 15, .inr (.inr (some 72))])) (w' := (zs_132 n, qml (zxc xs) zl_64, 1, 80)) 2 hd0 hz (by rfl) ?_
  refine qR_z (c' := (17, [.inr (.inr (some 72))], [.inr (.inr (some 74)), .inr (.inr (some 72))])) (S' := zs_133 n) (r := 74) (a' := 2) (b' := 95) hd0 hz rfl rfl (fun j => qml_z rfl rfl) ?_
  refine qR_w (c' := (20, [.inr (.inr (some 72))], [])) (w' := (zs_134 n, qml (zxc xs) zl_64, 2, 95)) 1 hd0 hz (by rfl) ?_
  refine qR_w (c' := (23, [.inr (.inr (some 72))], [.inl 14, .inr (.inr (some 72))])) (w' := (zs_134 n, qml (zxc xs) zl_64, 2, 95)) 2 hd0 hz (by rfl) ?_
  refine qR_z (c' := (25, [.inr (.inr (some 72))], [.inr (.inr (some 75)), .inr (.inr (some 72))])) (S' := zs_135 n) (r := 75) (a' := 3) (b' := 109) hd0 hz rfl rfl (fun j => qml_z rfl rfl) ?_
  refine qR_w (c' := (28, [.inr (.inr (some 72))], [])) (w' := (zs_136 n, qml (zxc xs) zl_64, 3, 109)) 1 hd0 hz (by rfl) ?_
  exact qR_ret hd0 hz rfl rfl ⟨rfl, _, _, rfl⟩
set_option maxRecDepth 100000 in
theorem qc_36 (n : Nat) (xs : Nat → Int32) {d : Nat} (hd : 1 ≤ d) : qR d 100 (0, zini [.inr (.inr (some 77)), .inl 1, .inl 164] 3, []) (zs_139 n, qml (zxc xs) zl_64, 0, 0) (fun r w' => r = none ∧ ∃ a b, w' = (zs_141 n, qml (zxc xs) zl_66, a, b)) := by
  have hz := zp_100
  have hd0 : 0 < d := by omega
  show qR d 100 (0, [.inr (.inr (some 77)), .inl 1, .inl 164], []) (zs_139 n, qml (zxc xs) zl_64, 0, 0) _
  refine qR_w (c' := (13, [.inr (.inr (some 77)), .inl 1, .inl 164], [])) (w' := (zs_139 n, qml (zxc xs) zl_65, 0, 0)) 7 hd0 hz (by rfl) ?_
  refine qR_w (c' := (22, [.inr (.inr (some 77)), .inl 1, .inl 164], [])) (w' := (zs_139 n, qml (zxc xs) zl_66, 0, 0)) 5 hd0 hz (by rfl) ?_
  refine qR_w (c' := (34, [.inr (.inr (some 77)), .inl 1, .inl 164], [.inl 164, .inr (.inr (some 77))])) (w' := (zs_139 n, qml (zxc xs) zl_66, 0, 0)) 8 hd0 hz (by rfl) ?_
  refine qR_z (c' := (36, [.inr (.inr (some 77)), .inl 1, .inl 164], [.inr (.inr (some 78)), .inr (.inr (some 77))])) (S' := zs_140 n) (r := 78) (a' := 1) (b' := 164) hd0 hz rfl rfl (fun j => qml_z rfl rfl) ?_
  refine qR_w (c' := (39, [.inr (.inr (some 77)), .inl 1, .inl 164], [])) (w' := (zs_141 n, qml (zxc xs) zl_66, 1, 164)) 1 hd0 hz (by rfl) ?_
  exact qR_ret hd0 hz rfl rfl ⟨rfl, _, _, rfl⟩
set_option maxRecDepth 100000 in
theorem qc_37 (n : Nat) (xs : Nat → Int32) {d : Nat} (hd : 1 ≤ d) : qR d 100 (0, zini [.inr (.inr (some 79)), .inl 20, .inl 3] 3, []) (zs_143 n, qml (zxc xs) zl_66, 0, 0) (fun r w' => r = none ∧ ∃ a b, w' = (zs_145 n, qml (zxc xs) zl_68, a, b)) := by
  have hz := zp_100
  have hd0 : 0 < d := by omega
  show qR d 100 (0, [.inr (.inr (some 79)), .inl 20, .inl 3], []) (zs_143 n, qml (zxc xs) zl_66, 0, 0) _
  refine qR_w (c' := (13, [.inr (.inr (some 79)), .inl 20, .inl 3], [])) (w' := (zs_143 n, qml (zxc xs) zl_67, 0, 0)) 7 hd0 hz (by rfl) ?_
  refine qR_w (c' := (22, [.inr (.inr (some 79)), .inl 20, .inl 3], [])) (w' := (zs_143 n, qml (zxc xs) zl_68, 0, 0)) 5 hd0 hz (by rfl) ?_
  refine qR_w (c' := (34, [.inr (.inr (some 79)), .inl 20, .inl 3], [.inl 60, .inr (.inr (some 79))])) (w' := (zs_143 n, qml (zxc xs) zl_68, 0, 0)) 8 hd0 hz (by rfl) ?_
  refine qR_z (c' := (36, [.inr (.inr (some 79)), .inl 20, .inl 3], [.inr (.inr (some 80)), .inr (.inr (some 79))])) (S' := zs_144 n) (r := 80) (a' := 1) (b' := 60) hd0 hz rfl rfl (fun j => qml_z rfl rfl) ?_
  refine qR_w (c' := (39, [.inr (.inr (some 79)), .inl 20, .inl 3], [])) (w' := (zs_145 n, qml (zxc xs) zl_68, 1, 60)) 1 hd0 hz (by rfl) ?_
  exact qR_ret hd0 hz rfl rfl ⟨rfl, _, _, rfl⟩
set_option maxRecDepth 100000 in
theorem qc_38 (n : Nat) (xs : Nat → Int32) {d : Nat} (hd : 1 ≤ d) : qR d 107 (0, zini [.inr (.inr (some 77)), .inl 0, .inl 2, .inl 5] 4, []) (zs_149 n, qml (zxc xs) zl_68, 0, 0) (fun r w' => r = none ∧ ∃ a b, w' = (zs_149 n, qml (zxc xs) zl_69, a, b)) := by
  have hz := zp_107
  have hd0 : 0 < d := by omega
  show qR d 107 (0, [.inr (.inr (some 77)), .inl 0, .inl 2, .inl 5], []) (zs_149 n, qml (zxc xs) zl_68, 0, 0) _
  refine qR_w (c' := (39, [.inr (.inr (some 77)), .inl 0, .inl 2, .inl 5], [])) (w' := (zs_149 n, qml (zxc xs) zl_69, 0, 0)) 22 hd0 hz (by rfl) ?_
  exact qR_ret hd0 hz rfl rfl ⟨rfl, _, _, rfl⟩
set_option maxRecDepth 100000 in
theorem qc_39 (n : Nat) (xs : Nat → Int32) {d : Nat} (hd : 1 ≤ d) : qR d 107 (0, zini [.inr (.inr (some 77)), .inl 0, .inl 3, .inl (-8)] 4, []) (zs_149 n, qml (zxc xs) zl_69, 0, 0) (fun r w' => r = none ∧ ∃ a b, w' = (zs_149 n, qml (zxc xs) zl_70, a, b)) := by
  have hz := zp_107
  have hd0 : 0 < d := by omega
  show qR d 107 (0, [.inr (.inr (some 77)), .inl 0, .inl 3, .inl (-8)], []) (zs_149 n, qml (zxc xs) zl_69, 0, 0) _
  refine qR_w (c' := (39, [.inr (.inr (some 77)), .inl 0, .inl 3, .inl (-8)], [])) (w' := (zs_149 n, qml (zxc xs) zl_70, 0, 0)) 22 hd0 hz (by rfl) ?_
  exact qR_ret hd0 hz rfl rfl ⟨rfl, _, _, rfl⟩
set_option maxRecDepth 100000 in
theorem qc_40 (n : Nat) (xs : Nat → Int32) {d : Nat} (hd : 1 ≤ d) : qR d 107 (0, zini [.inr (.inr (some 77)), .inl 0, .inl 4, .inl 39] 4, []) (zs_149 n, qml (zxc xs) zl_70, 0, 0) (fun r w' => r = none ∧ ∃ a b, w' = (zs_149 n, qml (zxc xs) zl_71, a, b)) := by
  have hz := zp_107
  have hd0 : 0 < d := by omega
  show qR d 107 (0, [.inr (.inr (some 77)), .inl 0, .inl 4, .inl 39], []) (zs_149 n, qml (zxc xs) zl_70, 0, 0) _
  refine qR_w (c' := (39, [.inr (.inr (some 77)), .inl 0, .inl 4, .inl 39], [])) (w' := (zs_149 n, qml (zxc xs) zl_71, 0, 0)) 22 hd0 hz (by rfl) ?_
  exact qR_ret hd0 hz rfl rfl ⟨rfl, _, _, rfl⟩
set_option maxRecDepth 100000 in
theorem qc_41 (n : Nat) (xs : Nat → Int32) {d : Nat} (hd : 1 ≤ d) : qR d 107 (0, zini [.inr (.inr (some 77)), .inl 0, .inl 5, .inl (-17)] 4, []) (zs_149 n, qml (zxc xs) zl_71, 0, 0) (fun r w' => r = none ∧ ∃ a b, w' = (zs_149 n, qml (zxc xs) zl_72, a, b)) := by
  have hz := zp_107
  have hd0 : 0 < d := by omega
  show qR d 107 (0, [.inr (.inr (some 77)), .inl 0, .inl 5, .inl (-17)], []) (zs_149 n, qml (zxc xs) zl_71, 0, 0) _
  refine qR_w (c' := (39, [.inr (.inr (some 77)), .inl 0, .inl 5, .inl (-17)], [])) (w' := (zs_149 n, qml (zxc xs) zl_72, 0, 0)) 22 hd0 hz (by rfl) ?_
  exact qR_ret hd0 hz rfl rfl ⟨rfl, _, _, rfl⟩
set_option maxRecDepth 100000 in
theorem qc_42 (n : Nat) (xs : Nat → Int32) {d : Nat} (hd : 1 ≤ d) : qR d 107 (0, zini [.inr (.inr (some 77)), .inl 0, .inl 6, .inl (-11)] 4, []) (zs_149 n, qml (zxc xs) zl_72, 0, 0) (fun r w' => r = none ∧ ∃ a b, w' = (zs_149 n, qml (zxc xs) zl_73, a, b)) := by
  have hz := zp_107
  have hd0 : 0 < d := by omega
  show qR d 107 (0, [.inr (.inr (some 77)), .inl 0, .inl 6, .inl (-11)], []) (zs_149 n, qml (zxc xs) zl_72, 0, 0) _
  refine qR_w (c' := (39, [.inr (.inr (some 77)), .inl 0, .inl 6, .inl (-11)], [])) (w' := (zs_149 n, qml (zxc xs) zl_73, 0, 0)) 22 hd0 hz (by rfl) ?_
  exact qR_ret hd0 hz rfl rfl ⟨rfl, _, _, rfl⟩
set_option maxRecDepth 100000 in
theorem qc_43 (n : Nat) (xs : Nat → Int32) {d : Nat} (hd : 1 ≤ d) : qR d 107 (0, zini [.inr (.inr (some 77)), .inl 0, .inl 7, .inl (-5)] 4, []) (zs_149 n, qml (zxc xs) zl_73, 0, 0) (fun r w' => r = none ∧ ∃ a b, w' = (zs_149 n, qml (zxc xs) zl_74, a, b)) := by
  have hz := zp_107
  have hd0 : 0 < d := by omega
  show qR d 107 (0, [.inr (.inr (some 77)), .inl 0, .inl 7, .inl (-5)], []) (zs_149 n, qml (zxc xs) zl_73, 0, 0) _
  refine qR_w (c' := (39, [.inr (.inr (some 77)), .inl 0, .inl 7, .inl (-5)], [])) (w' := (zs_149 n, qml (zxc xs) zl_74, 0, 0)) 22 hd0 hz (by rfl) ?_
  exact qR_ret hd0 hz rfl rfl ⟨rfl, _, _, rfl⟩
set_option maxRecDepth 100000 in
theorem qc_44 (n : Nat) (xs : Nat → Int32) {d : Nat} (hd : 2 ≤ d) : qR d 28 (0, zini [.inr (.inr (some 76)), .inl 2, .inr (.inr (some 2))] 4, []) (zs_149 n, qml (zxc xs) zl_68, 0, 0) (fun r w' => r = none ∧ ∃ a b, w' = (zs_149 n, qml (zxc xs) zl_74, a, b)) := by
  have hz := zp_28
  have hd0 : 0 < d := by omega
  show qR d 28 (0, [.inr (.inr (some 76)), .inl 2, .inr (.inr (some 2)), zN], []) (zs_149 n, qml (zxc xs) zl_68, 0, 0) _
  refine qR_w (c' := (8, [.inr (.inr (some 76)), .inl 2, .inr (.inr (some 2)), zN], [.inl 5, .inl 2, .inl 0, .inr (.inr (some 77))])) (w' := (zs_149 n, qml (zxc xs) zl_68, 0, 0)) 6 hd0 hz (by rfl) ?_
  refine qR_call hd0 hz zp_107 rfl rfl (Nat.le_of_ble_eq_true rfl) ⟨by omega, by omega⟩ (qc_38 n xs (by omega)) (fun r w1 hr => ?_)
  obtain ⟨rfl, a9, b9, rfl⟩ := hr
  show qR d 28 (11, [.inr (.inr (some 76)), .inl 2, .inr (.inr (some 2)), zN], []) (zs_149 n, qml (zxc xs) zl_69, 0, 0) _
  refine qR_w (c' := (32, [.inr (.inr (some 76)), .inl 2, .inr (.inr (some 2)), .inl 0], [.inl (-8), .inl 3, .inl 0, .inr (.inr (some 77))])) (w' := (zs_149 n, qml (zxc xs) zl_69, 0, 0)) 17 hd0 hz (by rfl) ?_
  refine qR_call hd0 hz zp_107 rfl rfl (Nat.le_of_ble_eq_true rfl) ⟨by omega, by omega⟩ (qc_39 n xs (by omega)) (fun r w1 hr => ?_)
  obtain ⟨rfl, a9, b9, rfl⟩ := hr
  show qR d 28 (35, [.inr (.inr (some 76)), .inl 2, .inr (.inr (some 2)), .inl 0], []) (zs_149 n, qml (zxc xs) zl_70, 0, 0) _
  refine qR_w (c' := (32, [.inr (.inr (some 76)), .inl 2, .inr (.inr (some 2)), .inl 1], [.inl 39, .inl 4, .inl 0, .inr (.inr (some 77))])) (w' := (zs_149 n, qml (zxc xs) zl_70, 0, 0)) 17 hd0 hz (by rfl) ?_
  refine qR_call hd0 hz zp_107 rfl rfl (Nat.le_of_ble_eq_true rfl) ⟨by omega, by omega⟩ (qc_40 n xs (by omega)) (fun r w1 hr => ?_)
  obtain ⟨rfl, a9, b9, rfl⟩ := hr
  show qR d 28 (35, [.inr (.inr (some 76)), .inl 2, .inr (.inr (some 2)), .inl 1], []) (zs_149 n, qml (zxc xs) zl_71, 0, 0) _
  refine qR_w (c' := (32, [.inr (.inr (some 76)), .inl 2, .inr (.inr (some 2)), .inl 2], [.inl (-17), .inl 5, .inl 0, .inr (.inr (some 77))])) (w' := (zs_149 n, qml (zxc xs) zl_71, 0, 0)) 17 hd0 hz (by rfl) ?_
  refine qR_call hd0 hz zp_107 rfl rfl (Nat.le_of_ble_eq_true rfl) ⟨by omega, by omega⟩ (qc_41 n xs (by omega)) (fun r w1 hr => ?_)
  obtain ⟨rfl, a9, b9, rfl⟩ := hr
  show qR d 28 (35, [.inr (.inr (some 76)), .inl 2, .inr (.inr (some 2)), .inl 2], []) (zs_149 n, qml (zxc xs) zl_72, 0, 0) _
  refine qR_w (c' := (32, [.inr (.inr (some 76)), .inl 2, .inr (.inr (some 2)), .inl 3], [.inl (-11), .inl 6, .inl 0, .inr (.inr (some 77))])) (w' := (zs_149 n, qml (zxc xs) zl_72, 0, 0)) 17 hd0 hz (by rfl) ?_
  refine qR_call hd0 hz zp_107 rfl rfl (Nat.le_of_ble_eq_true rfl) ⟨by omega, by omega⟩ (qc_42 n xs (by omega)) (fun r w1 hr => ?_)
  obtain ⟨rfl, a9, b9, rfl⟩ := hr
  show qR d 28 (35, [.inr (.inr (some 76)), .inl 2, .inr (.inr (some 2)), .inl 3], []) (zs_149 n, qml (zxc xs) zl_73, 0, 0) _
  refine qR_w (c' := (32, [.inr (.inr (some 76)), .inl 2, .inr (.inr (some 2)), .inl 4], [.inl (-5), .inl 7, .inl 0, .inr (.inr (some 77))])) (w' := (zs_149 n, qml (zxc xs) zl_73, 0, 0)) 17 hd0 hz (by rfl) ?_
  refine qR_call hd0 hz zp_107 rfl rfl (Nat.le_of_ble_eq_true rfl) ⟨by omega, by omega⟩ (qc_43 n xs (by omega)) (fun r w1 hr => ?_)
  obtain ⟨rfl, a9, b9, rfl⟩ := hr
  show qR d 28 (35, [.inr (.inr (some 76)), .inl 2, .inr (.inr (some 2)), .inl 4], []) (zs_149 n, qml (zxc xs) zl_74, 0, 0) _
  refine qR_w (c' := (41, [.inr (.inr (some 76)), .inl 2, .inr (.inr (some 2)), .inl 5], [])) (w' := (zs_149 n, qml (zxc xs) zl_74, 0, 0)) 6 hd0 hz (by rfl) ?_
  exact qR_ret hd0 hz rfl rfl ⟨rfl, _, _, rfl⟩
set_option maxRecDepth 100000 in
theorem qc_45 (n : Nat) (xs : Nat → Int32) {d : Nat} (hd : 1 ≤ d) : qR d 107 (0, zini [.inr (.inr (some 77)), .inl 0, .inl 83, .inl 3] 4, []) (zs_149 n, qml (zxc xs) zl_74, 0, 0) (fun r w' => r = none ∧ ∃ a b, w' = (zs_149 n, qml (zxc xs) zl_75, a, b)) := by
  have hz := zp_107
  have hd0 : 0 < d := by omega
  show qR d 107 (0, [.inr (.inr (some 77)), .inl 0, .inl 83, .inl 3], []) (zs_149 n, qml (zxc xs) zl_74, 0, 0) _
  refine qR_w (c' := (39, [.inr (.inr (some 77)), .inl 0, .inl 83, .inl 3], [])) (w' := (zs_149 n, qml (zxc xs) zl_75, 0, 0)) 22 hd0 hz (by rfl) ?_
  exact qR_ret hd0 hz rfl rfl ⟨rfl, _, _, rfl⟩
set_option maxRecDepth 100000 in
theorem qc_46 (n : Nat) (xs : Nat → Int32) {d : Nat} (hd : 1 ≤ d) : qR d 107 (0, zini [.inr (.inr (some 77)), .inl 0, .inl 84, .inl (-13)] 4, []) (zs_149 n, qml (zxc xs) zl_75, 0, 0) (fun r w' => r = none ∧ ∃ a b, w' = (zs_149 n, qml (zxc xs) zl_76, a, b)) := by
  have hz := zp_107
  have hd0 : 0 < d := by omega
  show qR d 107 (0, [.inr (.inr (some 77)), .inl 0, .inl 84, .inl (-13)], []) (zs_149 n, qml (zxc xs) zl_75, 0, 0) _
  refine qR_w (c' := (39, [.inr (.inr (some 77)), .inl 0, .inl 84, .inl (-13)], [])) (w' := (zs_149 n, qml (zxc xs) zl_76, 0, 0)) 22 hd0 hz (by rfl) ?_
  exact qR_ret hd0 hz rfl rfl ⟨rfl, _, _, rfl⟩
set_option maxRecDepth 100000 in
theorem qc_47 (n : Nat) (xs : Nat → Int32) {d : Nat} (hd : 1 ≤ d) : qR d 107 (0, zini [.inr (.inr (some 77)), .inl 0, .inl 85, .inl 10] 4, []) (zs_149 n, qml (zxc xs) zl_76, 0, 0) (fun r w' => r = none ∧ ∃ a b, w' = (zs_149 n, qml (zxc xs) zl_77, a, b)) := by
  have hz := zp_107
  have hd0 : 0 < d := by omega
  show qR d 107 (0, [.inr (.inr (some 77)), .inl 0, .inl 85, .inl 10], []) (zs_149 n, qml (zxc xs) zl_76, 0, 0) _
  refine qR_w (c' := (39, [.inr (.inr (some 77)), .inl 0, .inl 85, .inl 10], [])) (w' := (zs_149 n, qml (zxc xs) zl_77, 0, 0)) 22 hd0 hz (by rfl) ?_
  exact qR_ret hd0 hz rfl rfl ⟨rfl, _, _, rfl⟩
set_option maxRecDepth 100000 in
theorem qc_48 (n : Nat) (xs : Nat → Int32) {d : Nat} (hd : 1 ≤ d) : qR d 107 (0, zini [.inr (.inr (some 77)), .inl 0, .inl 86, .inl (-22)] 4, []) (zs_149 n, qml (zxc xs) zl_77, 0, 0) (fun r w' => r = none ∧ ∃ a b, w' = (zs_149 n, qml (zxc xs) zl_78, a, b)) := by
  have hz := zp_107
  have hd0 : 0 < d := by omega
  show qR d 107 (0, [.inr (.inr (some 77)), .inl 0, .inl 86, .inl (-22)], []) (zs_149 n, qml (zxc xs) zl_77, 0, 0) _
  refine qR_w (c' := (39, [.inr (.inr (some 77)), .inl 0, .inl 86, .inl (-22)], [])) (w' := (zs_149 n, qml (zxc xs) zl_78, 0, 0)) 22 hd0 hz (by rfl) ?_
  exact qR_ret hd0 hz rfl rfl ⟨rfl, _, _, rfl⟩
set_option maxRecDepth 100000 in
theorem qc_49 (n : Nat) (xs : Nat → Int32) {d : Nat} (hd : 2 ≤ d) : qR d 28 (0, zini [.inr (.inr (some 76)), .inl 83, .inr (.inr (some 3))] 4, []) (zs_149 n, qml (zxc xs) zl_74, 0, 0) (fun r w' => r = none ∧ ∃ a b, w' = (zs_149 n, qml (zxc xs) zl_78, a, b)) := by
  have hz := zp_28
  have hd0 : 0 < d := by omega
  show qR d 28 (0, [.inr (.inr (some 76)), .inl 83, .inr (.inr (some 3)), zN], []) (zs_149 n, qml (zxc xs) zl_74, 0, 0) _
  refine qR_w (c' := (8, [.inr (.inr (some 76)), .inl 83, .inr (.inr (some 3)), zN], [.inl 3, .inl 83, .inl 0, .inr (.inr (some 77))])) (w' := (zs_149 n, qml (zxc xs) zl_74, 0, 0)) 6 hd0 hz (by rfl) ?_
  refine qR_call hd0 hz zp_107 rfl rfl (Nat.le_of_ble_eq_true rfl) ⟨by omega, by omega⟩ (qc_45 n xs (by omega)) (fun r w1 hr => ?_)
  obtain ⟨rfl, a9, b9, rfl⟩ := hr
  show qR d 28 (11, [.inr (.inr (some 76)), .inl 83, .inr (.inr (some 3)), zN], []) (zs_149 n, qml (zxc xs) zl_75, 0, 0) _
  refine qR_w (c' := (32, [.inr (.inr (some 76)), .inl 83, .inr (.inr (some 3)), .inl 0], [.inl (-13), .inl 84, .inl 0, .inr (.inr (some 77))])) (w' := (zs_149 n, qml (zxc xs) zl_75, 0, 0)) 17 hd0 hz (by rfl) ?_
  refine qR_call hd0 hz zp_107 rfl rfl (Nat.le_of_ble_eq_true rfl) ⟨by omega, by omega⟩ (qc_46 n xs (by omega)) (fun r w1 hr => ?_)
  obtain ⟨rfl, a9, b9, rfl⟩ := hr
  show qR d 28 (35, [.inr (.inr (some 76)), .inl 83, .inr (.inr (some 3)), .inl 0], []) (zs_149 n, qml (zxc xs) zl_76, 0, 0) _
  refine qR_w (c' := (32, [.inr (.inr (some 76)), .inl 83, .inr (.inr (some 3)), .inl 1], [.inl 10, .inl 85, .inl 0, .inr (.inr (some 77))])) (w' := (zs_149 n, qml (zxc xs) zl_76, 0, 0)) 17 hd0 hz (by rfl) ?_
  refine qR_call hd0 hz zp_107 rfl rfl (Nat.le_of_ble_eq_true rfl) ⟨by omega, by omega⟩ (qc_47 n xs (by omega)) (fun r w1 hr => ?_)
  obtain ⟨rfl, a9, b9, rfl⟩ := hr
  show qR d 28 (35, [.inr (.inr (some 76)), .inl 83, .inr (.inr (some 3)), .inl 1], []) (zs_149 n, qml (zxc xs) zl_77, 0, 0) _
  refine qR_w (c' := (32, [.inr (.inr (some 76)), .inl 83, .inr (.inr (some 3)), .inl 2], [.inl (-22), .inl 86, .inl 0, .inr (.inr (some 77))])) (w' := (zs_149 n, qml (zxc xs) zl_77, 0, 0)) 17 hd0 hz (by rfl) ?_
  refine qR_call hd0 hz zp_107 rfl rfl (Nat.le_of_ble_eq_true rfl) ⟨by omega, by omega⟩ (qc_48 n xs (by omega)) (fun r w1 hr => ?_)
  obtain ⟨rfl, a9, b9, rfl⟩ := hr
  show qR d 28 (35, [.inr (.inr (some 76)), .inl 83, .inr (.inr (some 3)), .inl 2], []) (zs_149 n, qml (zxc xs) zl_78, 0, 0) _
  refine qR_w (c' := (41, [.inr (.inr (some 76)), .inl 83, .inr (.inr (some 3)), .inl 3], [])) (w' := (zs_149 n, qml (zxc xs) zl_78, 0, 0)) 6 hd0 hz (by rfl) ?_
  exact qR_ret hd0 hz rfl rfl ⟨rfl, _, _, rfl⟩
set_option maxRecDepth 100000 in
theorem qc_50 (n : Nat) (xs : Nat → Int32) {d : Nat} (hd : 3 ≤ d) : qR d 27 (0, zini [.inr (.inr (some 76)), .inr (.inr (some 9)), .inr (.inr (some 60)), .inr (.inr (some 72))] 4, []) (zs_138 n, qml (zxc xs) zl_64, 0, 0) (fun r w' => r = none ∧ ∃ a b, w' = (zs_149 n, qml (zxc xs) zl_78, a, b)) := by
  have hz := zp_27
  have hd0 : 0 < d := by omega
  show qR d 27 (0, [.inr (.inr (some 76)), .inr (.inr (some 9)), .inr (.inr (some 60)), .inr (.inr (some 72))], []) (zs_138 n, qml (zxc xs) zl_64, 0, 0) _
  refine qR_w (c' := (5, [.inr (.inr (some 76)), .inr (.inr (some 9)), .inr (.inr (some 60)), .inr (.inr (some 72))], [.inr (.inr (some 76))])) (w' := (zs_138 n, qml (zxc xs) zl_64, 0, 0)) 3 hd0 hz (by rfl) ?_
  refine qR_z (c' := (8, [.inr (.inr (some 76)), .inr (.inr (some 9)), .inr (.inr (some 60)), .inr (.inr (some 72))], [.inr (.inr (some 77)), .inr (.inr (some 76))])) (S' := zs_139 n) (r := 77) (a' := 1) (b' := 4) hd0 hz rfl rfl (fun j => qml_z rfl rfl) ?_
  refine qR_w (c' := (13, [.inr (.inr (some 76)), .inr (.inr (some 9)), .inr (.inr (some 60)), .inr (.inr (some 72))], [.inl 164, .inl 1, .inr (.inr (some 77)), .inr (.inr (some 77)), .inr (.inr (some 76))])) (w' := (zs_139 n, qml (zxc xs) zl_64, 1, 4)) 3 hd0 hz (by rfl) ?_
  refine qR_call hd0 hz zp_100 rfl rfl (Nat.le_of_ble_eq_true rfl) ⟨by omega, by omega⟩ (qc_36 n xs (by omega)) (fun r w1 hr => ?_)
  obtain ⟨rfl, a9, b9, rfl⟩ := hr
  show qR d 27 (16, [.inr (.inr (some 76)), .inr (.inr (some 9)), .inr (.inr (some 60)), .inr (.inr (some 72))], [.inr (.inr (some 77)), .inr (.inr (some 76))]) (zs_141 n, qml (zxc xs) zl_66, 2, 60004) _
  refine qR_w (c' := (19, [.inr (.inr (some 76)), .inr (.inr (some 9)), .inr (.inr (some 60)), .inr (.inr (some 72))], [])) (w' := (zs_142 n, qml (zxc xs) zl_66, 2, 60004)) 1 hd0 hz (by rfl) ?_
  refine qR_w (c' := (20, [.inr (.inr (some 76)), .inr (.inr (some 9)), .inr (.inr (some 60)), .inr (.inr (some 72))], [.inr (.inr (some 76))])) (w' := (zs_142 n, qml (zxc xs) zl_66, 2, 60004)) 1 hd0 hz (by rfl) ?_
  refine qR_z (c' := (23, [.inr (.inr (some 76)), .inr (.inr (some 9)), .inr (.inr (some 60)), .inr (.inr (some 72))], [.inr (.inr (some 79)), .inr (.inr (some 76))])) (S' := zs_143 n) (r := 79) (a' := 3) (b' := 60008) hd0 hz rfl rfl (fun j => qml_z rfl rfl) ?_
  refine qR_w (c' := (27, [.inr (.inr (some 76)), .inr (.inr (some 9)), .inr (.inr (some 60)), .inr (.inr (some 72))], [.inl 3, .inl 20, .inr (.inr (some 79)), .inr (.inr (some 79)), .inr (.inr (some 76))])) (w' := (zs_143 n, qml (zxc xs) zl_66, 3, 60008)) 3 hd0 hz (by rfl) ?_
  refine qR_call hd0 hz zp_100 rfl rfl (Nat.le_of_ble_eq_true rfl) ⟨by omega, by omega⟩ (qc_37 n xs (by omega)) (fun r w1 hr => ?_)
  obtain ⟨rfl, a9, b9, rfl⟩ := hr
  show qR d 27 (30, [.inr (.inr (some 76)), .inr (.inr (some 9)), .inr (.inr (some 60)), .inr (.inr (some 72))], [.inr (.inr (some 79)), .inr (.inr (some 76))]) (zs_145 n, qml (zxc xs) zl_68, 4, 120008) _
  refine qR_w (c' := (33, [.inr (.inr (some 76)), .inr (.inr (some 9)), .inr (.inr (some 60)), .inr (.inr (some 72))], [])) (w' := (zs_146 n, qml (zxc xs) zl_68, 4, 120008)) 1 hd0 hz (by rfl) ?_
  refine qR_w (c' := (38, [.inr (.inr (some 76)), .inr (.inr (some 9)), .inr (.inr (some 60)), .inr (.inr (some 72))], [])) (w' := (zs_147 n, qml (zxc xs) zl_68, 4, 120008)) 3 hd0 hz (by rfl) ?_
  refine qR_w (c' := (43, [.inr (.inr (some 76)), .inr (.inr (some 9)), .inr (.inr (some 60)), .inr (.inr (some 72))], [])) (w' := (zs_148 n, qml (zxc xs) zl_68, 4, 120008)) 3 hd0 hz (by rfl) ?_
  refine qR_w (c' := (48, [.inr (.inr (some 76)), .inr (.inr (some 9)), .inr (.inr (some 60)), .inr (.inr (some 72))], [])) (w' := (zs_149 n, qml (zxc xs) zl_68, 4, 120008)) 3 hd0 hz (by rfl) ?_
  refine qR_w (c' := (53, [.inr (.inr (some 76)), .inr (.inr (some 9)), .inr (.inr (some 60)), .inr (.inr (some 72))], [.inr (.inr (some 2)), .inl 2, .inr (.inr (some 76))])) (w' := (zs_149 n, qml (zxc xs) zl_68, 4, 120008)) 3 hd0 hz (by rfl) ?_
  refine qR_call hd0 hz zp_28 rfl rfl (Nat.le_of_ble_eq_true rfl) ⟨by omega, by omega⟩ (qc_44 n xs (by omega)) (fun r w1 hr => ?_)
  obtain ⟨rfl, a9, b9, rfl⟩ := hr
  show qR d 27 (56, [.inr (.inr (some 76)), .inr (.inr (some 9)), .inr (.inr (some 60)), .inr (.inr (some 72))], []) (zs_149 n, qml (zxc xs) zl_74, 4, 120008) _
  refine qR_w (c' := (62, [.inr (.inr (some 76)), .inr (.inr (some 9)), .inr (.inr (some 60)), .inr (.inr (some 72))], [.inr (.inr (some 3)), .inl 83, .inr (.inr (some 76))])) (w' := (zs_149 n, qml (zxc xs) zl_74, 4, 120008)) 3 hd0 hz (by rfl) ?_
  refine qR_call hd0 hz zp_28 rfl rfl (Nat.le_of_ble_eq_true rfl) ⟨by omega, by omega⟩ (qc_49 n xs (by omega)) (fun r w1 hr => ?_)
  obtain ⟨rfl, a9, b9, rfl⟩ := hr
  show qR d 27 (65, [.inr (.inr (some 76)), .inr (.inr (some 9)), .inr (.inr (some 60)), .inr (.inr (some 72))], []) (zs_149 n, qml (zxc xs) zl_78, 4, 120008) _
  exact qR_ret hd0 hz rfl rfl ⟨rfl, _, _, rfl⟩
set_option maxRecDepth 100000 in
theorem qc_51 (n : Nat) (xs : Nat → Int32) {d : Nat} (hd : 1 ≤ d) : qR d 100 (0, zini [.inr (.inr (some 83)), .inl 14, .inl 1] 3, []) (zs_154 n, qml (zxc xs) zl_78, 0, 0) (fun r w' => r = none ∧ ∃ a b, w' = (zs_156 n, qml (zxc xs) zl_80, a, b)) := by
  have hz := zp_100
  have hd0 : 0 < d := by omega
  show qR d 100 (0, [.inr (.inr (some 83)), .inl 14, .inl 1], []) (zs_154 n, qml (zxc xs) zl_78, 0, 0) _
  refine qR_w (c' := (13, [.inr (.inr (some 83)), .inl 14, .inl 1], [])) (w' := (zs_154 n, qml (zxc xs) zl_79, 0, 0)) 7 hd0 hz (by rfl) ?_
  refine qR_w (c' := (22, [.inr (.inr (some 83)), .inl 14, .inl 1], [])) (w' := (zs_154 n, qml (zxc xs) zl_80, 0, 0)) 5 hd0 hz (by rfl) ?_
  refine qR_w (c' := (34, [.inr (.inr (some 83)), .inl 14, .inl 1], [.inl 14, .inr (.inr (some 83))])) (w' := (zs_154 n, qml (zxc xs) zl_80, 0, 0)) 8 hd0 hz (by rfl) ?_
  refine qR_z (c' := (36, [.inr (.inr (some 83)), .inl 14, .inl 1], [.inr (.inr (some 84)), .inr (.inr (some 83))])) (S' := zs_155 n) (r := 84) (a' := 1) (b' := 14) hd0 hz rfl rfl (fun j => qml_z rfl rfl) ?_
  refine qR_w (c' := (39, [.inr (.inr (some 83)), .inl 14, .inl 1], [])) (w' := (zs_156 n, qml (zxc xs) zl_80, 1, 14)) 1 hd0 hz (by rfl) ?_
  exact qR_ret hd0 hz rfl rfl ⟨rfl, _, _, rfl⟩
set_option maxRecDepth 100000 in
theorem qc_52 (n : Nat) (xs : Nat → Int32) {d : Nat} (hd : 1 ≤ d) : qR d 100 (0, zini [.inr (.inr (some 85)), .inl 8, .inl 1] 3, []) (zs_158 n, qml (zxc xs) zl_80, 0, 0) (fun r w' => r = none ∧ ∃ a b, w' = (zs_160 n, qml (zxc xs) zl_82, a, b)) := by
  have hz := zp_100
  have hd0 : 0 < d := by omega
  show qR d 100 (0, [.inr (.inr (some 85)), .inl 8, .inl 1], []) (zs_158 n, qml (zxc xs) zl_80, 0, 0) _
  refine qR_w (c' := (13, [.inr (.inr (some 85)), .inl 8, .inl 1], [])) (w' := (zs_158 n, qml (zxc xs) zl_81, 0, 0)) 7 hd0 hz (by rfl) ?_
  refine qR_w (c' := (22, [.inr (.inr (some 85)), .inl 8, .inl 1], [])) (w' := (zs_158 n, qml (zxc xs) zl_82, 0, 0)) 5 hd0 hz (by rfl) ?_
  refine qR_w (c' := (34, [.inr (.inr (some 85)), .inl 8, .inl 1], [.inl 8, .inr (.inr (some 85))])) (w' := (zs_158 n, qml (zxc xs) zl_82, 0, 0)) 8 hd0 hz (by rfl) ?_
  refine qR_z (c' := (36, [.inr (.inr (some 85)), .inl 8, .inl 1], [.inr (.inr (some 86)), .inr (.inr (some 85))])) (S' := zs_159 n) (r := 86) (a' := 1) (b' := 8) hd0 hz rfl rfl (fun j => qml_z rfl rfl) ?_
  refine qR_w (c' := (39, [.inr (.inr (some 85)), .inl 8, .inl 1], [])) (w' := (zs_160 n, qml (zxc xs) zl_82, 1, 8)) 1 hd0 hz (by rfl) ?_
  exact qR_ret hd0 hz rfl rfl ⟨rfl, _, _, rfl⟩
set_option maxRecDepth 100000 in
theorem qc_53 (n : Nat) (xs : Nat → Int32) {d : Nat} (hd : 2 ≤ d) : qR d 111 (0, zini [.inr (.inr (some 81)), .inr (.inr (some 9))] 2, []) (zs_151 n, qml (zxc xs) zl_78, 0, 0) (fun r w' => r = none ∧ ∃ a b, w' = (zs_162 n, qml (zxc xs) zl_82, a, b)) := by
  have hz := zp_111
  have hd0 : 0 < d := by omega
  show qR d 111 (0, [.inr (.inr (some 81)), .inr (.inr (some 9))], []) (zs_151 n, qml (zxc xs) zl_78, 0, 0) _
  refine qR_w (c' := (8, [.inr (.inr (some 81)), .inr (.inr (some 9))], [.inl 16384, .inr (.inr (some 81))])) (w' := (zs_151 n, qml (zxc xs) zl_78, 0, 0)) 4 hd0 hz (by rfl) ?_
  refine qR_z (c' := (10, [.inr (.inr (some 81)), .inr (.inr (some 9))], [.inr (.inr (some 82)), .inr (.inr (some 81))])) (S' := zs_152 n) (r := 82) (a' := 1) (b' := 16384) hd0 hz rfl rfl (fun j => qml_z rfl rfl) ?_
  refine qR_w (c' := (13, [.inr (.inr (some 81)), .inr (.inr (some 9))], [])) (w' := (zs_153 n, qml (zxc xs) zl_78, 1, 16384)) 1 hd0 hz (by rfl) ?_
  refine qR_w (c' := (14, [.inr (.inr (some 81)), .inr (.inr (some 9))], [.inr (.inr (some 81))])) (w' := (zs_153 n, qml (zxc xs) zl_78, 1, 16384)) 1 hd0 hz (by rfl) ?_
  refine qR_z (c' := (17, [.inr (.inr (some 81)), .inr (.inr (some 9))], [.inr (.inr (some 83)), .inr (.inr (some 81))])) (S' := zs_154 n) (r := 83) (a' := 2) (b' := 16388) hd0 hz rfl rfl (fun j => qml_z rfl rfl) ?_
  refine qR_w (c' := (21, [.inr (.inr (some 81)), .inr (.inr (some 9))], [.inl 1, .inl 14, .inr (.inr (some 83)), .inr (.inr (some 83)), .inr (.inr (some 81))])) (w' := (zs_154 n, qml (zxc xs) zl_78, 2, 16388)) 3 hd0 hz (by rfl) ?_
  refine qR_call hd0 hz zp_100 rfl rfl (Nat.le_of_ble_eq_true rfl) ⟨by omega, by omega⟩ (qc_51 n xs (by omega)) (fun r w1 hr => ?_)
  obtain ⟨rfl, a9, b9, rfl⟩ := hr
  show qR d 111 (24, [.inr (.inr (some 81)), .inr (.inr (some 9))], [.inr (.inr (some 83)), .inr (.inr (some 81))]) (zs_156 n, qml (zxc xs) zl_80, 3, 76388) _
  refine qR_w (c' := (27, [.inr (.inr (some 81)), .inr (.inr (some 9))], [])) (w' := (zs_157 n, qml (zxc xs) zl_80, 3, 76388)) 1 hd0 hz (by rfl) ?_
  refine qR_w (c' := (28, [.inr (.inr (some 81)), .inr (.inr (some 9))], [.inr (.inr (some 81))])) (w' := (zs_157 n, qml (zxc xs) zl_80, 3, 76388)) 1 hd0 hz (by rfl) ?_
  refine qR_z (c' := (31, [.inr (.inr (some 81)), .inr (.inr (some 9))], [.inr (.inr (some 85)), .inr (.inr (some 81))])) (S' := zs_158 n) (r := 85) (a' := 4) (b' := 76392) hd0 hz rfl rfl (fun j => qml_z rfl rfl) ?_
  refine qR_w (c' := (35, [.inr (.inr (some 81)), .inr (.inr (some 9))], [.inl 1, .inl 8, .inr (.inr (some 85)), .inr (.inr (some 85)), .inr (.inr (some 81))])) (w' := (zs_158 n, qml (zxc xs) zl_80, 4, 76392)) 3 hd0 hz (by rfl) ?_
  refine qR_call hd0 hz zp_100 rfl rfl (Nat.le_of_ble_eq_true rfl) ⟨by omega, by omega⟩ (qc_52 n xs (by omega)) (fun r w1 hr => ?_)
  obtain ⟨rfl, a9, b9, rfl⟩ := hr
  show qR d 111 (38, [.inr (.inr (some 81)), .inr (.inr (some 9))], [.inr (.inr (some 85)), .inr (.inr (some 81))]) (zs_160 n, qml (zxc xs) zl_82, 5, 136392) _
  refine qR_w (c' := (41, [.inr (.inr (some 81)), .inr (.inr (some 9))], [])) (w' := (zs_161 n, qml (zxc xs) zl_82, 5, 136392)) 1 hd0 hz (by rfl) ?_
  refine qR_w (c' := (46, [.inr (.inr (some 81)), .inr (.inr (some 9))], [])) (w' := (zs_162 n, qml (zxc xs) zl_82, 5, 136392)) 3 hd0 hz (by rfl) ?_
  exact qR_ret hd0 hz rfl rfl ⟨rfl, _, _, rfl⟩
set_option maxRecDepth 100000 in
theorem qc_54 (n : Nat) (xs : Nat → Int32) {d : Nat} (hd : 1 ≤ d) : qR d 67 (0, zini [.inr (.inr (some 87)), .inr (.inr (some 9))] 2, []) (zs_164 n, qml (zxc xs) zl_82, 0, 0) (fun r w' => r = none ∧ ∃ a b, w' = (zs_173 n, qml (zxc xs) zl_82, a, b)) := by
  have hz := zp_67
  have hd0 : 0 < d := by omega
  show qR d 67 (0, [.inr (.inr (some 87)), .inr (.inr (some 9))], []) (zs_164 n, qml (zxc xs) zl_82, 0, 0) _
  refine qR_w (c' := (7, [.inr (.inr (some 87)), .inr (.inr (some 9))], [.inl 9, .inr (.inr (some 87))])) (w' := (zs_164 n, qml (zxc xs) zl_82, 0, 0)) 4 hd0 hz (by rfl) ?_
  refine qR_z (c' := (9, [.inr (.inr (some 87)), .inr (.inr (some 9))], [.inr (.inr (some 88)), .inr (.inr (some 87))])) (S' := zs_165 n) (r := 88) (a' := 1) (b' := 9) hd0 hz rfl rfl (fun j => qml_z rfl rfl) ?_
  refine qR_w (c' := (12, [.inr (.inr (some 87)), .inr (.inr (some 9))], [])) (w' := (zs_166 n, qml (zxc xs) zl_82, 1, 9)) 1 hd0 hz (by rfl) ?_
  refine qR_w (c' := (15, [.inr (.inr (some 87)), .inr (.inr (some 9))], [.inl 9, .inr (.inr (some 87))])) (w' := (zs_166 n, qml (zxc xs) zl_82, 1, 9)) 2 hd0 hz (by rfl) ?_
  refine qR_z (c' := (17, [.inr (.inr (some 87)), .inr (.inr (some 9))], [.inr (.inr (some 89)), .inr (.inr (some 87))])) (S' := zs_167 n) (r := 89) (a' := 2) (b' := 18) hd0 hz rfl rfl (fun j => qml_z rfl rfl) ?_
  refine qR_w (c' := (20, [.inr (.inr (some 87)), .inr (.inr (some 9))], [])) (w' := (zs_168 n, qml (zxc xs) zl_82, 2, 18)) 1 hd0 hz (by rfl) ?_
  refine qR_w (c' := (23, [.inr (.inr (some 87)), .inr (.inr (some 9))], [.inl 9, .inr (.inr (some 87))])) (w' := (zs_168 n, qml (zxc xs) zl_82, 2, 18)) 2 hd0 hz (by rfl) ?_
  refine qR_z (c' := (25, [.inr (.inr (some 87)), .inr (.inr (some 9))], [.inr (.inr (some 90)), .inr (.inr (some 87))])) (S' := zs_169 n) (r := 90) (a' := 3) (b' := 27) hd0 hz rfl rfl (fun j => qml_z rfl rfl) ?_
  refine qR_w (c' := (28, [.inr (.inr (some 87)), .inr (.inr (some 9))], [])) (w' := (zs_170 n, qml (zxc xs) zl_82, 3, 27)) 1 hd0 hz (by rfl) ?_
  refine qR_w (c' := (31, [.inr (.inr (some 87)), .inr (.inr (some 9))], [.inl 9, .inr (.inr (some 87))])) (w' := (zs_170 n, qml (zxc xs) zl_82, 3, 27)) 2 hd0 hz (by rfl) ?_
  refine qR_z (c' := (33, [.inr (.inr (some 87)), .inr (.inr (some 9))], [.inr (.inr (some 91)), .inr (.inr (some 87))])) (S' := zs_171 n) (r := 91) (a' := 4) (b' := 36) hd0 hz rfl rfl (fun j => qml_z rfl rfl) ?_
  refine qR_w (c' := (36, [.inr (.inr (some 87)), .inr (.inr (some 9))], [])) (w' := (zs_172 n, qml (zxc xs) zl_82, 4, 36)) 1 hd0 hz (by rfl) ?_
  refine qR_w (c' := (41, [.inr (.inr (some 87)), .inr (.inr (some 9))], [])) (w' := (zs_173 n, qml (zxc xs) zl_82, 4, 36)) 3 hd0 hz (by rfl) ?_
  exact qR_ret hd0 hz rfl rfl ⟨rfl, _, _, rfl⟩
set_option maxRecDepth 100000 in
theorem qc_55 (n : Nat) (xs : Nat → Int32) {d : Nat} (hd : 1 ≤ d) : qR d 5 (0, zini [.inr (.inr (some 92)), .inr (.inr (some 9)), .inr (.inr (some 60))] 3, []) (zs_175 n, qml (zxc xs) zl_82, 0, 0) (fun r w' => r = none ∧ ∃ a b, w' = (zs_181 n, qml (zxc xs) zl_82, a, b)) := by
  have hz := zp_5
  have hd0 : 0 < d := by omega
  show qR d 5 (0, [.inr (.inr (some 92)), .inr (.inr (some 9)), .inr (.inr (some 60))], []) (zs_175 n, qml (zxc xs) zl_82, 0, 0) _
  refine qR_w (c' := (7, [.inr (.inr (some 92)), .inr (.inr (some 9)), .inr (.inr (some 60))], [.inl 10, .inr (.inr (some 92))])) (w' := (zs_175 n, qml (zxc xs) zl_82, 0, 0)) 4 hd0 hz (by rfl) ?_
  refine qR_z (c' := (9, [.inr (.inr (some 92)), .inr (.inr (some 9)), .inr (.inr (some 60))], [.inr (.inr (some 93)), .inr (.inr (some 92))])) (S' := zs_176 n) (r := 93) (a' := 1) (b' := 10) hd0 hz rfl rfl (fun j => qml_z rfl rfl) ?_
  refine qR_w (c' := (12, [.inr (.inr (some 92)), .inr (.inr (some 9)), .inr (.inr (some 60))], [])) (w' := (zs_177 n, qml (zxc xs) zl_82, 1, 10)) 1 hd0 hz (by rfl) ?_
  refine qR_w (c' := (15, [.inr (.inr (some 92)), .inr (.inr (some 9)), .inr (.inr (some 60))], [.inl 10, .inr (.inr (some 92))])) (w' := (zs_177 n, qml (zxc xs) zl_82, 1, 10)) 2 hd0 hz (by rfl) ?_
  refine qR_z (c' := (17, [.inr (.inr (some 92)), .inr (.inr (some 9)), .inr (.inr (some 60))], [.inr (.inr (some 94)), .inr (.inr (some 92))])) (S' := zs_178 n) (r := 94) (a' := 2) (b' := 20) hd0 hz rfl rfl (fun j => qml_z rfl rfl) ?_
  refine qR_w (c' := (20, [.inr (.inr (some 92)), .inr (.inr (some 9)), .inr (.inr (some 60))], [])) (w' := (zs_179 n, qml (zxc xs) zl_82, 2, 20)) 1 hd0 hz (by rfl) ?_
  refine qR_w (c' := (25, [.inr (.inr (some 92)), .inr (.inr (some 9)), .inr (.inr (some 60))], [])) (w' := (zs_180 n, qml (zxc xs) zl_82, 2, 20)) 3 hd0 hz (by rfl) ?_
  refine qR_w (c' := (30, [.inr (.inr (some 92)), .inr (.inr (some 9)), .inr (.inr (some 60))], [])) (w' := (zs_181 n, qml (zxc xs) zl_82, 2, 20)) 3 hd0 hz (by rfl) ?_
  exact qR_ret hd0 hz rfl rfl ⟨rfl, _, _, rfl⟩
set_option maxRecDepth 100000 in
theorem qc_56 (n : Nat) (xs : Nat → Int32) {d : Nat} (hd : 1 ≤ d) : qR d 0 (0, zini [.inr (.inr (some 95))] 1, []) (zs_183 n, qml (zxc xs) zl_82, 0, 0) (fun r w' => r = none ∧ ∃ a b, w' = (zs_185 n, qml (zxc xs) zl_82, a, b)) := by
  have hz := zp_0
  have hd0 : 0 < d := by omega
  show qR d 0 (0, [.inr (.inr (some 95))], []) (zs_183 n, qml (zxc xs) zl_82, 0, 0) _
  refine qR_w (c' := (7, [.inr (.inr (some 95))], [.inl 12, .inr (.inr (some 95))])) (w' := (zs_183 n, qml (zxc xs) zl_82, 0, 0)) 4 hd0 hz (by rfl) ?_
  refine qR_z (c' := (9, [.inr (.inr (some 95))], [.inr (.inr (some 96)), .inr (.inr (some 95))])) (S' := zs_184 n) (r := 96) (a' := 1) (b' := 12) hd0 hz rfl rfl (fun j => qml_z rfl rfl) ?_
  refine qR_w (c' := (12, [.inr (.inr (some 95))], [])) (w' := (zs_185 n, qml (zxc xs) zl_82, 1, 12)) 1 hd0 hz (by rfl) ?_
  exact qR_ret hd0 hz rfl rfl ⟨rfl, _, _, rfl⟩
set_option maxRecDepth 100000 in
theorem qc_57 (n : Nat) (xs : Nat → Int32) {d : Nat} (hd : 4 ≤ d) : qR d 122 (0, zini [.inr (.inr (some 8))] 1, []) (zs_1 n, qml (zxc xs) zl_0, 0, 0) (fun r w' => r = none ∧ ∃ a b, w' = (zs_186 n, qml (zxc xs) zl_82, a, b)) := by
  have hz := zp_122
  have hd0 : 0 < d := by omega
  show qR d 122 (0, [.inr (.inr (some 8))], []) (zs_1 n, qml (zxc xs) zl_0, 0, 0) _
  refine qR_w (c' := (5, [.inr (.inr (some 8))], [.inr (.inr (some 8))])) (w' := (zs_1 n, qml (zxc xs) zl_0, 0, 0)) 3 hd0 hz (by rfl) ?_
  refine qR_z (c' := (8, [.inr (.inr (some 8))], [.inr (.inr (some 9)), .inr (.inr (some 8))])) (S' := zs_2 n) (r := 9) (a' := 1) (b' := 10) hd0 hz rfl rfl (fun j => qml_z rfl rfl) ?_
  refine qR_w (c' := (9, [.inr (.inr (some 8))], [.inr (.inr (some 9)), .inr (.inr (some 9)), .inr (.inr (some 8))])) (w' := (zs_2 n, qml (zxc xs) zl_0, 1, 10)) 1 hd0 hz (by rfl) ?_
  refine qR_call hd0 hz zp_17 rfl rfl (Nat.le_of_ble_eq_true rfl) ⟨by omega, by omega⟩ (qc_9 n xs (by omega)) (fun r w1 hr => ?_)
  obtain ⟨rfl, a9, b9, rfl⟩ := hr
  show qR d 122 (12, [.inr (.inr (some 8))], [.inr (.inr (some 9)), .inr (.inr (some 8))]) (zs_34 n, qml (zxc xs) zl_18, 17, 480042) _
  refine qR_w (c' := (15, [.inr (.inr (some 8))], [])) (w' := (zs_35 n, qml (zxc xs) zl_18, 17, 480042)) 1 hd0 hz (by rfl) ?_
  refine qR_w (c' := (16, [.inr (.inr (some 8))], [.inr (.inr (some 8))])) (w' := (zs_35 n, qml (zxc xs) zl_18, 17, 480042)) 1 hd0 hz (by rfl) ?_
  refine qR_z (c' := (19, [.inr (.inr (some 8))], [.inr (.inr (some 26)), .inr (.inr (some 8))])) (S' := zs_36 n) (r := 26) (a' := 18) (b' := 480052) hd0 hz rfl rfl (fun j => qml_z rfl rfl) ?_
  refine qR_w (c' := (20, [.inr (.inr (some 8))], [.inr (.inr (some 26)), .inr (.inr (some 26)), .inr (.inr (some 8))])) (w' := (zs_36 n, qml (zxc xs) zl_18, 18, 480052)) 1 hd0 hz (by rfl) ?_
  refine qR_call hd0 hz zp_17 rfl rfl (Nat.le_of_ble_eq_true rfl) ⟨by omega, by omega⟩ (qc_18 n xs (by omega)) (fun r w1 hr => ?_)
  obtain ⟨rfl, a9, b9, rfl⟩ := hr
  show qR d 122 (23, [.inr (.inr (some 8))], [.inr (.inr (some 26)), .inr (.inr (some 8))]) (zs_68 n, qml (zxc xs) zl_36, 34, 960084) _
  refine qR_w (c' := (26, [.inr (.inr (some 8))], [])) (w' := (zs_69 n, qml (zxc xs) zl_36, 34, 960084)) 1 hd0 hz (by rfl) ?_
  refine qR_w (c' := (27, [.inr (.inr (some 8))], [.inr (.inr (some 8))])) (w' := (zs_69 n, qml (zxc xs) zl_36, 34, 960084)) 1 hd0 hz (by rfl) ?_
  refine qR_z (c' := (30, [.inr (.inr (some 8))], [.inr (.inr (some 43)), .inr (.inr (some 8))])) (S' := zs_70 n) (r := 43) (a' := 35) (b' := 960094) hd0 hz rfl rfl (fun j => qml_z rfl rfl) ?_
  refine qR_w (c' := (31, [.inr (.inr (some 8))], [.inr (.inr (some 43)), .inr (.inr (some 43)), .inr (.inr (some 8))])) (w' := (zs_70 n, qml (zxc xs) zl_36, 35, 960094)) 1 hd0 hz (by rfl) ?_
  refine qR_call hd0 hz zp_17 rfl rfl (Nat.le_of_ble_eq_true rfl) ⟨by omega, by omega⟩ (qc_27 n xs (by omega)) (fun r w1 hr => ?_)
  obtain ⟨rfl, a9, b9, rfl⟩ := hr
  show qR d 122 (34, [.inr (.inr (some 8))], [.inr (.inr (some 43)), .inr (.inr (some 8))]) (zs_102 n, qml (zxc xs) zl_54, 51, 1440126) _
  refine qR_w (c' := (37, [.inr (.inr (some 8))], [])) (w' := (zs_103 n, qml (zxc xs) zl_54, 51, 1440126)) 1 hd0 hz (by rfl) ?_
  refine qR_w (c' := (38, [.inr (.inr (some 8))], [.inr (.inr (some 8))])) (w' := (zs_103 n, qml (zxc xs) zl_54, 51, 1440126)) 1 hd0 hz (by rfl) ?_
  refine qR_z (c' := (41, [.inr (.inr (some 8))], [.inr (.inr (some 60)), .inr (.inr (some 8))])) (S' := zs_104 n) (r := 60) (a' := 52) (b' := 1440130) hd0 hz rfl rfl (fun j => qml_z rfl rfl) ?_
  refine qR_w (c' := (46, [.inr (.inr (some 8))], [.inr (.inr (some 9)), .inr (.inr (some 60)), .inr (.inr (some 60)), .inr (.inr (some 8))])) (w' := (zs_104 n, qml (zxc xs) zl_54, 52, 1440130)) 3 hd0 hz (by rfl) ?_
  refine qR_call hd0 hz zp_40 rfl rfl (Nat.le_of_ble_eq_true rfl) ⟨by omega, by omega⟩ (qc_31 n xs (by omega)) (fun r w1 hr => ?_)
  obtain ⟨rfl, a9, b9, rfl⟩ := hr
  show qR d 122 (49, [.inr (.inr (some 8))], [.inr (.inr (some 60)), .inr (.inr (some 8))]) (zs_117 n, qml (zxc xs) zl_60, 58, 1620142) _
  refine qR_w (c' := (52, [.inr (.inr (some 8))], [])) (w' := (zs_118 n, qml (zxc xs) zl_60, 58, 1620142)) 1 hd0 hz (by rfl) ?_
  refine qR_w (c' := (53, [.inr (.inr (some 8))], [.inr (.inr (some 8))])) (w' := (zs_118 n, qml (zxc xs) zl_60, 58, 1620142)) 1 hd0 hz (by rfl) ?_
  refine qR_z (c' := (56, [.inr (.inr (some 8))], [.inr (.inr (some 67)), .inr (.inr (some 8))])) (S' := zs_119 n) (r := 67) (a' := 59) (b' := 1620154) hd0 hz rfl rfl (fun j => qml_z rfl rfl) ?_
  refine qR_w (c' := (64, [.inr (.inr (some 8))], [.inr (.inr (some 20)), .inr (.inr (some 67)), .inr (.inr (some 67)), .inr (.inr (some 8))])) (w' := (zs_119 n, qml (zxc xs) zl_60, 59, 1620154)) 4 hd0 hz (by rfl) ?_
  refine qR_call hd0 hz zp_73 rfl rfl (Nat.le_of_ble_eq_true rfl) ⟨by omega, by omega⟩ (qc_34 n xs (by omega)) (fun r w1 hr => ?_)
  obtain ⟨rfl, a9, b9, rfl⟩ := hr
  show qR d 122 (67, [.inr (.inr (some 8))], [.inr (.inr (some 67)), .inr (.inr (some 8))]) (zs_128 n, qml (zxc xs) zl_64, 63, 1740162) _
  refine qR_w (c' := (70, [.inr (.inr (some 8))], [])) (w' := (zs_129 n, qml (zxc xs) zl_64, 63, 1740162)) 1 hd0 hz (by rfl) ?_
  refine qR_w (c' := (71, [.inr (.inr (some 8))], [.inr (.inr (some 8))])) (w' := (zs_129 n, qml (zxc xs) zl_64, 63, 1740162)) 1 hd0 hz (by rfl) ?_
  refine qR_z (c' := (74, [.inr (.inr (some 8))], [.inr (.inr (some 72)), .inr (.inr (some 8))])) (S' := zs_130 n) (r := 72) (a' := 64) (b' := 1740168) hd0 hz rfl rfl (fun j => qml_z rfl rfl) ?_
  refine qR_w (c' := (75, [.inr (.inr (some 8))], [.inr (.inr (some 72)), .inr (.inr (some 72)), .inr (.inr (some 8))])) (w' := (zs_130 n, qml (zxc xs) zl_64, 64, 1740168)) 1 hd0 hz (by rfl) ?_
  refine qR_call hd0 hz zp_55 rfl rfl (Nat.le_of_ble_eq_true rfl) ⟨by omega, by omega⟩ (qc_35 n xs (by omega)) (fun r w1 hr => ?_)
  obtain ⟨rfl, a9, b9, rfl⟩ := hr
  show qR d 122 (78, [.inr (.inr (some 8))], [.inr (.inr (some 72)), .inr (.inr (some 8))]) (zs_136 n, qml (zxc xs) zl_64, 67, 1920168) _
  refine qR_w (c' := (81, [.inr (.inr (some 8))], [])) (w' := (zs_137 n, qml (zxc xs) zl_64, 67, 1920168)) 1 hd0 hz (by rfl) ?_
  refine qR_w (c' := (82, [.inr (.inr (some 8))], [.inr (.inr (some 8))])) (w' := (zs_137 n, qml (zxc xs) zl_64, 67, 1920168)) 1 hd0 hz (by rfl) ?_
  refine qR_z (c' := (85, [.inr (.inr (some 8))], [.inr (.inr (some 76)), .inr (.inr (some 8))])) (S' := zs_138 n) (r := 76) (a' := 68) (b' := 1920173) hd0 hz rfl rfl (fun j => qml_z rfl rfl) ?_
  refine qR_w (c' := (98, [.inr (.inr (some 8))], [.inr (.inr (some 72)), .inr (.inr (some 60)), .inr (.inr (some 9)), .inr (.inr (some 76)), .inr (.inr (some 76)), .inr (.inr (some 8))])) (w' := (zs_138 n, qml (zxc xs) zl_64, 68, 1920173)) 7 hd0 hz (by rfl) ?_
  refine qR_call hd0 hz zp_27 rfl rfl (Nat.le_of_ble_eq_true rfl) ⟨by omega, by omega⟩ (qc_50 n xs (by omega)) (fun r w1 hr => ?_)
  obtain ⟨rfl, a9, b9, rfl⟩ := hr
  show qR d 122 (101, [.inr (.inr (some 8))], [.inr (.inr (some 76)), .inr (.inr (some 8))]) (zs_149 n, qml (zxc xs) zl_78, 72, 2040181) _
  refine qR_w (c' := (104, [.inr (.inr (some 8))], [])) (w' := (zs_150 n, qml (zxc xs) zl_78, 72, 2040181)) 1 hd0 hz (by rfl) ?_
  refine qR_w (c' := (105, [.inr (.inr (some 8))], [.inr (.inr (some 8))])) (w' := (zs_150 n, qml (zxc xs) zl_78, 72, 2040181)) 1 hd0 hz (by rfl) ?_
  refine qR_z (c' := (108, [.inr (.inr (some 8))], [.inr (.inr (some 81)), .inr (.inr (some 8))])) (S' := zs_151 n) (r := 81) (a' := 73) (b' := 2040187) hd0 hz rfl rfl (fun j => qml_z rfl rfl) ?_
  refine qR_w (c' := (113, [.inr (.inr (some 8))], [.inr (.inr (some 9)), .inr (.inr (some 81)), .inr (.inr (some 81)), .inr (.inr (some 8))])) (w' := (zs_151 n, qml (zxc xs) zl_78, 73, 2040187)) 3 hd0 hz (by rfl) ?_
  refine qR_call hd0 hz zp_111 rfl rfl (Nat.le_of_ble_eq_true rfl) ⟨by omega, by omega⟩ (qc_53 n xs (by omega)) (fun r w1 hr => ?_)
  obtain ⟨rfl, a9, b9, rfl⟩ := hr
  show qR d 122 (116, [.inr (.inr (some 8))], [.inr (.inr (some 81)), .inr (.inr (some 8))]) (zs_162 n, qml (zxc xs) zl_82, 78, 2220195) _
  refine qR_w (c' := (119, [.inr (.inr (some 8))], [])) (w' := (zs_163 n, qml (zxc xs) zl_82, 78, 2220195)) 1 hd0 hz (by rfl) ?_
  refine qR_w (c' := (120, [.inr (.inr (some 8))], [.inr (.inr (some 8))])) (w' := (zs_163 n, qml (zxc xs) zl_82, 78, 2220195)) 1 hd0 hz (by rfl) ?_
  refine qR_z (c' := (123, [.inr (.inr (some 8))], [.inr (.inr (some 87)), .inr (.inr (some 8))])) (S' := zs_164 n) (r := 87) (a' := 79) (b' := 2220202) hd0 hz rfl rfl (fun j => qml_z rfl rfl) ?_
  refine qR_w (c' := (128, [.inr (.inr (some 8))], [.inr (.inr (some 9)), .inr (.inr (some 87)), .inr (.inr (some 87)), .inr (.inr (some 8))])) (w' := (zs_164 n, qml (zxc xs) zl_82, 79, 2220202)) 3 hd0 hz (by rfl) ?_
  refine qR_call hd0 hz zp_67 rfl rfl (Nat.le_of_ble_eq_true rfl) ⟨by omega, by omega⟩ (qc_54 n xs (by omega)) (fun r w1 hr => ?_)
  obtain ⟨rfl, a9, b9, rfl⟩ := hr
  show qR d 122 (131, [.inr (.inr (some 8))], [.inr (.inr (some 87)), .inr (.inr (some 8))]) (zs_173 n, qml (zxc xs) zl_82, 83, 2460202) _
  refine qR_w (c' := (134, [.inr (.inr (some 8))], [])) (w' := (zs_174 n, qml (zxc xs) zl_82, 83, 2460202)) 1 hd0 hz (by rfl) ?_
  refine qR_w (c' := (135, [.inr (.inr (some 8))], [.inr (.inr (some 8))])) (w' := (zs_174 n, qml (zxc xs) zl_82, 83, 2460202)) 1 hd0 hz (by rfl) ?_
  refine qR_z (c' := (138, [.inr (.inr (some 8))], [.inr (.inr (some 92)), .inr (.inr (some 8))])) (S' := zs_175 n) (r := 92) (a' := 84) (b' := 2460210) hd0 hz rfl rfl (fun j => qml_z rfl rfl) ?_
  refine qR_w (c' := (147, [.inr (.inr (some 8))], [.inr (.inr (some 60)), .inr (.inr (some 9)), .inr (.inr (some 92)), .inr (.inr (some 92)), .inr (.inr (some 8))])) (w' := (zs_175 n, qml (zxc xs) zl_82, 84, 2460210)) 5 hd0 hz (by rfl) ?_
  refine qR_call hd0 hz zp_5 rfl rfl (Nat.le_of_ble_eq_true rfl) ⟨by omega, by omega⟩ (qc_55 n xs (by omega)) (fun r w1 hr => ?_)
  obtain ⟨rfl, a9, b9, rfl⟩ := hr
  show qR d 122 (150, [.inr (.inr (some 8))], [.inr (.inr (some 92)), .inr (.inr (some 8))]) (zs_181 n, qml (zxc xs) zl_82, 86, 2580210) _
  refine qR_w (c' := (153, [.inr (.inr (some 8))], [])) (w' := (zs_182 n, qml (zxc xs) zl_82, 86, 2580210)) 1 hd0 hz (by rfl) ?_
  refine qR_w (c' := (154, [.inr (.inr (some 8))], [.inr (.inr (some 8))])) (w' := (zs_182 n, qml (zxc xs) zl_82, 86, 2580210)) 1 hd0 hz (by rfl) ?_
  refine qR_z (c' := (157, [.inr (.inr (some 8))], [.inr (.inr (some 95)), .inr (.inr (some 8))])) (S' := zs_183 n) (r := 95) (a' := 87) (b' := 2580213) hd0 hz rfl rfl (fun j => qml_z rfl rfl) ?_
  refine qR_w (c' := (158, [.inr (.inr (some 8))], [.inr (.inr (some 95)), .inr (.inr (some 95)), .inr (.inr (some 8))])) (w' := (zs_183 n, qml (zxc xs) zl_82, 87, 2580213)) 1 hd0 hz (by rfl) ?_
  refine qR_call hd0 hz zp_0 rfl rfl (Nat.le_of_ble_eq_true rfl) ⟨by omega, by omega⟩ (qc_56 n xs (by omega)) (fun r w1 hr => ?_)
  obtain ⟨rfl, a9, b9, rfl⟩ := hr
  show qR d 122 (161, [.inr (.inr (some 8))], [.inr (.inr (some 95)), .inr (.inr (some 8))]) (zs_185 n, qml (zxc xs) zl_82, 88, 2640213) _
  refine qR_w (c' := (164, [.inr (.inr (some 8))], [])) (w' := (zs_186 n, qml (zxc xs) zl_82, 88, 2640213)) 1 hd0 hz (by rfl) ?_
  exact qR_ret hd0 hz rfl rfl ⟨rfl, _, _, rfl⟩
set_option maxRecDepth 100000 in
theorem qc_58 (n : Nat) (xs : Nat → Int32) {d : Nat} (hd : 1 ≤ d) : qR d 181 (0, zini [.inr (.inr (some 97))] 1, []) (zs_187 n, qml (zxc xs) zl_82, 0, 0) (fun r w' => r = none ∧ ∃ a b, w' = (zs_235 n, qml (zxc xs) zl_85, a, b)) := by
  have hz := zp_181
  have hd0 : 0 < d := by omega
  show qR d 181 (0, [.inr (.inr (some 97))], []) (zs_187 n, qml (zxc xs) zl_82, 0, 0) _
  refine qR_w (c' := (8, [.inr (.inr (some 97))], [.inl 5664, .inr (.inr (some 97))])) (w' := (zs_187 n, qml (zxc xs) zl_82, 0, 0)) 4 hd0 hz (by rfl) ?_
  refine qR_z (c' := (10, [.inr (.inr (some 97))], [.inr (.inr (some 98)), .inr (.inr (some 97))])) (S' := zs_188 n) (r := 98) (a' := 1) (b' := 5664) hd0 hz rfl rfl (fun j => qml_z rfl rfl) ?_
  refine qR_w (c' := (13, [.inr (.inr (some 97))], [])) (w' := (zs_189 n, qml (zxc xs) zl_82, 1, 5664)) 1 hd0 hz (by rfl) ?_
  refine qR_w (c' := (17, [.inr (.inr (some 97))], [.inl 11328, .inr (.inr (some 97))])) (w' := (zs_189 n, qml (zxc xs) zl_82, 1, 5664)) 2 hd0 hz (by rfl) ?_
  refine qR_z (c' := (19, [.inr (.inr (some 97))], [.inr (.inr (some 99)), .inr (.inr (some 97))])) (S' := zs_190 n) (r := 99) (a' := 2) (b' := 16992) hd0 hz rfl rfl (fun j => qml_z rfl rfl) ?_
  refine qR_w (c' := (22, [.inr (.inr (some 97))], [])) (w' := (zs_191 n, qml (zxc xs) zl_82, 2, 16992)) 1 hd0 hz (by rfl) ?_
  refine qR_w (c' := (24, [.inr (.inr (some 97))], [.inl 2, .inr (.inr (some 97))])) (w' := (zs_191 n, qml (zxc xs) zl_82, 2, 16992)) 2 hd0 hz (by rfl) ?_
  refine qR_z (c' := (26, [.inr (.inr (some 97))], [.inr (.inr (some 100)), .inr (.inr (some 97))])) (S' := zs_192 n) (r := 100) (a' := 3) (b' := 16994) hd0 hz rfl rfl (fun j => qml_z rfl rfl) ?_
  refine qR_w (c' := (29, [.inr (.inr (some 97))], [])) (w' := (zs_193 n, qml (zxc xs) zl_82, 3, 16994)) 1 hd0 hz (by rfl) ?_
  refine qR_w (c' := (33, [.inr (.inr (some 97))], [.inl 250, .inr (.inr (some 97))])) (w' := (zs_193 n, qml (zxc xs) zl_82, 3, 16994)) 2 hd0 hz (by rfl) ?_
  refine qR_z (c' := (35, [.inr (.inr (some 97))], [.inr (.inr (some 101)), .inr (.inr (some 97))])) (S' := zs_194 n) (r := 101) (a' := 4) (b' := 17244) hd0 hz rfl rfl (fun j => qml_z rfl rfl) ?_
  refine qR_w (c' := (38, [.inr (.inr (some 97))], [])) (w' := (zs_195 n, qml (zxc xs) zl_82, 4, 17244)) 1 hd0 hz (by rfl) ?_
  refine qR_w (c' := (41, [.inr (.inr (some 97))], [.inl 14, .inr (.inr (some 97))])) (w' := (zs_195 n, qml (zxc xs) zl_82, 4, 17244)) 2 hd0 hz (by rfl) ?_
  refine qR_z (c' := (43, [.inr (.inr (some 97))], [.inr (.inr (some 102)), .inr (.inr (some 97))])) (S' := zs_196 n) (r := 102) (a' := 5) (b' := 17258) hd0 hz rfl rfl (fun j => qml_z rfl rfl) ?_
  refine qR_w (c' := (46, [.inr (.inr (some 97))], [])) (w' := (zs_197 n, qml (zxc xs) zl_82, 5, 17258)) 1 hd0 hz (by rfl) ?_
  refine qR_w (c' := (49, [.inr (.inr (some 97))], [.inl 14, .inr (.inr (some 97))])) (w' := (zs_197 n, qml (zxc xs) zl_82, 5, 17258)) 2 hd0 hz (by rfl) ?_
  refine qR_z (c' := (51, [.inr (.inr (some 97))], [.inr (.inr (some 103)), .inr (.inr (some 97))])) (S' := zs_198 n) (r := 103) (a' := 6) (b' := 17272) hd0 hz rfl rfl (fun j => qml_z rfl rfl) ?_
  refine qR_w (c' := (54, [.inr (.inr (some 97))], [])) (w' := (zs_199 n, qml (zxc xs) zl_82, 6, 17272)) 1 hd0 hz (by rfl) ?_
  refine qR_w (c' := (57, [.inr (.inr (some 97))], [.inl 14, .inr (.inr (some 97))])) (w' := (zs_199 n, qml (zxc xs) zl_82, 6, 17272)) 2 hd0 hz (by rfl) ?_
  refine qR_z (c' := (59, [.inr (.inr (some 97))], [.inr (.inr (some 104)), .inr (.inr (some 97))])) (S' := zs_200 n) (r := 104) (a' := 7) (b' := 17286) hd0 hz rfl rfl (fun j => qml_z rfl rfl) ?_
  refine qR_w (c' := (62, [.inr (.inr (some 97))], [])) (w' := (zs_201 n, qml (zxc xs) zl_82, 7, 17286)) 1 hd0 hz (by rfl) ?_
  refine qR_w (c' := (65, [.inr (.inr (some 97))], [.inl 90, .inr (.inr (some 97))])) (w' := (zs_201 n, qml (zxc xs) zl_82, 7, 17286)) 2 hd0 hz (by rfl) ?_
  refine qR_z (c' := (67, [.inr (.inr (some 97))], [.inr (.inr (some 105)), .inr (.inr (some 97))])) (S' := zs_202 n) (r := 105) (a' := 8) (b' := 17376) hd0 hz rfl rfl (fun j => qml_z rfl rfl) ?_
  refine qR_w (c' := (70, [.inr (.inr (some 97))], [])) (w' := (zs_203 n, qml (zxc xs) zl_82, 8, 17376)) 1 hd0 hz (by rfl) ?_
  refine qR_w (c' := (73, [.inr (.inr (some 97))], [.inl 90, .inr (.inr (some 97))])) (w' := (zs_203 n, qml (zxc xs) zl_82, 8, 17376)) 2 hd0 hz (by rfl) ?_
  refine qR_z (c' := (75, [.inr (.inr (some 97))], [.inr (.inr (some 106)), .inr (.inr (some 97))])) (S' := zs_204 n) (r := 106) (a' := 9) (b' := 17466) hd0 hz rfl rfl (fun j => qml_z rfl rfl) ?_
  refine qR_w (c' := (78, [.inr (.inr (some 97))], [])) (w' := (zs_205 n, qml (zxc xs) zl_82, 9, 17466)) 1 hd0 hz (by rfl) ?_
  refine qR_w (c' := (81, [.inr (.inr (some 97))], [.inl 90, .inr (.inr (some 97))])) (w' := (zs_205 n, qml (zxc xs) zl_82, 9, 17466)) 2 hd0 hz (by rfl) ?_
  refine qR_z (c' := (83, [.inr (.inr (some 97))], [.inr (.inr (some 107)), .inr (.inr (some 97))])) (S' := zs_206 n) (r := 107) (a' := 10) (b' := 17556) hd0 hz rfl rfl (fun j => qml_z rfl rfl) ?_
  refine qR_w (c' := (86, [.inr (.inr (some 97))], [])) (w' := (zs_207 n, qml (zxc xs) zl_82, 10, 17556)) 1 hd0 hz (by rfl) ?_
  refine qR_w (c' := (89, [.inr (.inr (some 97))], [.inl 8, .inr (.inr (some 97))])) (w' := (zs_207 n, qml (zxc xs) zl_82, 10, 17556)) 2 hd0 hz (by rfl) ?_
  refine qR_z (c' := (91, [.inr (.inr (some 97))], [.inr (.inr (some 108)), .inr (.inr (some 97))])) (S' := zs_208 n) (r := 108) (a' := 11) (b' := 17564) hd0 hz rfl rfl (fun j => qml_z rfl rfl) ?_
  refine qR_w (c' := (94, [.inr (.inr (some 97))], [])) (w' := (zs_209 n, qml (zxc xs) zl_82, 11, 17564)) 1 hd0 hz (by rfl) ?_
  refine qR_w (c' := (97, [.inr (.inr (some 97))], [.inl 90, .inr (.inr (some 97))])) (w' := (zs_209 n, qml (zxc xs) zl_82, 11, 17564)) 2 hd0 hz (by rfl) ?_
  refine qR_z (c' := (99, [.inr (.inr (some 97))], [.inr (.inr (some 109)), .inr (.inr (some 97))])) (S' := zs_210 n) (r := 109) (a' := 12) (b' := 17654) hd0 hz rfl rfl (fun j => qml_z rfl rfl) ?_
  refine qR_w (c' := (102, [.inr (.inr (some 97))], [])) (w' := (zs_211 n, qml (zxc xs) zl_82, 12, 17654)) 1 hd0 hz (by rfl) ?_
  refine qR_w (c' := (105, [.inr (.inr (some 97))], [.inl 14, .inr (.inr (some 97))])) (w' := (zs_211 n, qml (zxc xs) zl_82, 12, 17654)) 2 hd0 hz (by rfl) ?_
  refine qR_z (c' := (107, [.inr (.inr (some 97))], [.inr (.inr (some 110)), .inr (.inr (some 97))])) (S' := zs_212 n) (r := 110) (a' := 13) (b' := 17668) hd0 hz rfl rfl (fun j => qml_z rfl rfl) ?_
  refine qR_w (c' := (110, [.inr (.inr (some 97))], [])) (w' := (zs_213 n, qml (zxc xs) zl_82, 13, 17668)) 1 hd0 hz (by rfl) ?_
  refine qR_w (c' := (113, [.inr (.inr (some 97))], [.inl 20, .inr (.inr (some 97))])) (w' := (zs_213 n, qml (zxc xs) zl_82, 13, 17668)) 2 hd0 hz (by rfl) ?_
  refine qR_z (c' := (115, [.inr (.inr (some 97))], [.inr (.inr (some 111)), .inr (.inr (some 97))])) (S' := zs_214 n) (r := 111) (a' := 14) (b' := 17688) hd0 hz rfl rfl (fun j => qml_z rfl rfl) ?_
  refine qR_w (c' := (118, [.inr (.inr (some 97))], [])) (w' := (zs_215 n, qml (zxc xs) zl_82, 14, 17688)) 1 hd0 hz (by rfl) ?_
  refine qR_w (c' := (121, [.inr (.inr (some 97))], [.inl 20, .inr (.inr (some 97))])) (w' := (zs_215 n, qml (zxc xs) zl_82, 14, 17688)) 2 hd0 hz (by rfl) ?_
  refine qR_z (c' := (123, [.inr (.inr (some 97))], [.inr (.inr (some 112)), .inr (.inr (some 97))])) (S' := zs_216 n) (r := 112) (a' := 15) (b' := 17708) hd0 hz rfl rfl (fun j => qml_z rfl rfl) ?_
  refine qR_w (c' := (126, [.inr (.inr (some 97))], [])) (w' := (zs_217 n, qml (zxc xs) zl_82, 15, 17708)) 1 hd0 hz (by rfl) ?_
  refine qR_w (c' := (129, [.inr (.inr (some 97))], [.inl 20, .inr (.inr (some 97))])) (w' := (zs_217 n, qml (zxc xs) zl_82, 15, 17708)) 2 hd0 hz (by rfl) ?_
  refine qR_z (c' := (131, [.inr (.inr (some 97))], [.inr (.inr (some 113)), .inr (.inr (some 97))])) (S' := zs_218 n) (r := 113) (a' := 16) (b' := 17728) hd0 hz rfl rfl (fun j => qml_z rfl rfl) ?_
  refine qR_w (c' := (134, [.inr (.inr (some 97))], [])) (w' := (zs_219 n, qml (zxc xs) zl_82, 16, 17728)) 1 hd0 hz (by rfl) ?_
  refine qR_w (c' := (137, [.inr (.inr (some 97))], [.inl 49152, .inr (.inr (some 97))])) (w' := (zs_219 n, qml (zxc xs) zl_82, 16, 17728)) 2 hd0 hz (by rfl) ?_
  refine qR_z (c' := (139, [.inr (.inr (some 97))], [.inr (.inr (some 114)), .inr (.inr (some 97))])) (S' := zs_220 n) (r := 114) (a' := 17) (b' := 66880) hd0 hz rfl rfl (fun j => qml_z rfl rfl) ?_
  refine qR_w (c' := (142, [.inr (.inr (some 97))], [])) (w' := (zs_221 n, qml (zxc xs) zl_82, 17, 66880)) 1 hd0 hz (by rfl) ?_
  refine qR_w (c' := (145, [.inr (.inr (some 97))], [.inl 14, .inr (.inr (some 97))])) (w' := (zs_221 n, qml (zxc xs) zl_82, 17, 66880)) 2 hd0 hz (by rfl) ?_
  refine qR_z (c' := (147, [.inr (.inr (some 97))], [.inr (.inr (some 115)), .inr (.inr (some 97))])) (S' := zs_222 n) (r := 115) (a' := 18) (b' := 66894) hd0 hz rfl rfl (fun j => qml_z rfl rfl) ?_
  refine qR_w (c' := (150, [.inr (.inr (some 97))], [])) (w' := (zs_223 n, qml (zxc xs) zl_82, 18, 66894)) 1 hd0 hz (by rfl) ?_
  refine qR_w (c' := (155, [.inr (.inr (some 97))], [])) (w' := (zs_223 n, qml (zxc xs) zl_83, 18, 66894)) 3 hd0 hz (by rfl) ?_
  refine qR_w (c' := (158, [.inr (.inr (some 97))], [.inl 9, .inr (.inr (some 97))])) (w' := (zs_223 n, qml (zxc xs) zl_83, 18, 66894)) 2 hd0 hz (by rfl) ?_
  refine qR_z (c' := (160, [.inr (.inr (some 97))], [.inr (.inr (some 116)), .inr (.inr (some 97))])) (S' := zs_224 n) (r := 116) (a' := 19) (b' := 66903) hd0 hz rfl rfl (fun j => qml_z rfl rfl) ?_
  refine qR_w (c' := (163, [.inr (.inr (some 97))], [])) (w' := (zs_225 n, qml (zxc xs) zl_83, 19, 66903)) 1 hd0 hz (by rfl) ?_
  refine qR_w (c' := (166, [.inr (.inr (some 97))], [.inl 9, .inr (.inr (some 97))])) (w' := (zs_225 n, qml (zxc xs) zl_83, 19, 66903)) 2 hd0 hz (by rfl) ?_
  refine qR_z (c' := (168, [.inr (.inr (some 97))], [.inr (.inr (some 117)), .inr (.inr (some 97))])) (S' := zs_226 n) (r := 117) (a' := 20) (b' := 66912) hd0 hz rfl rfl (fun j => qml_z rfl rfl) ?_
  refine qR_w (c' := (171, [.inr (.inr (some 97))], [])) (w' := (zs_227 n, qml (zxc xs) zl_83, 20, 66912)) 1 hd0 hz (by rfl) ?_
  refine qR_w (c' := (174, [.inr (.inr (some 97))], [.inl 9, .inr (.inr (some 97))])) (w' := (zs_227 n, qml (zxc xs) zl_83, 20, 66912)) 2 hd0 hz (by rfl) ?_
  refine qR_z (c' := (176, [.inr (.inr (some 97))], [.inr (.inr (some 118)), .inr (.inr (some 97))])) (S' := zs_228 n) (r := 118) (a' := 21) (b' := 66921) hd0 hz rfl rfl (fun j => qml_z rfl rfl) ?_
  refine qR_w (c' := (179, [.inr (.inr (some 97))], [])) (w' := (zs_229 n, qml (zxc xs) zl_83, 21, 66921)) 1 hd0 hz (by rfl) ?_
  refine qR_w (c' := (183, [.inr (.inr (some 97))], [.inl 756, .inr (.inr (some 97))])) (w' := (zs_229 n, qml (zxc xs) zl_83, 21, 66921)) 2 hd0 hz (by rfl) ?_
  refine qR_z (c' := (185, [.inr (.inr (some 97))], [.inr (.inr (some 119)), .inr (.inr (some 97))])) (S' := zs_230 n) (r := 119) (a' := 22) (b' := 67677) hd0 hz rfl rfl (fun j => qml_z rfl rfl) ?_
  refine qR_w (c' := (188, [.inr (.inr (some 97))], [])) (w' := (zs_231 n, qml (zxc xs) zl_83, 22, 67677)) 1 hd0 hz (by rfl) ?_
  refine qR_w (c' := (191, [.inr (.inr (some 97))], [.inl 6, .inr (.inr (some 97))])) (w' := (zs_231 n, qml (zxc xs) zl_83, 22, 67677)) 2 hd0 hz (by rfl) ?_
  refine qR_z (c' := (193, [.inr (.inr (some 97))], [.inr (.inr (some 120)), .inr (.inr (some 97))])) (S' := zs_232 n) (r := 120) (a' := 23) (b' := 67683) hd0 hz rfl rfl (fun j => qml_z rfl rfl) ?_
  refine qR_w (c' := (196, [.inr (.inr (some 97))], [])) (w' := (zs_233 n, qml (zxc xs) zl_83, 23, 67683)) 1 hd0 hz (by rfl) ?_
  refine qR_w (c' := (199, [.inr (.inr (some 97))], [.inl 6, .inr (.inr (some 97))])) (w' := (zs_233 n, qml (zxc xs) zl_83, 23, 67683)) 2 hd0 hz (by rfl) ?_
  refine qR_z (c' := (201, [.inr (.inr (some 97))], [.inr (.inr (some 121)), .inr (.inr (some 97))])) (S' := zs_234 n) (r := 121) (a' := 24) (b' := 67689) hd0 hz rfl rfl (fun j => qml_z rfl rfl) ?_
  refine qR_w (c' := (204, [.inr (.inr (some 97))], [])) (w' := (zs_235 n, qml (zxc xs) zl_83, 24, 67689)) 1 hd0 hz (by rfl) ?_
  refine qR_w (c' := (213, [.inr (.inr (some 97))], [])) (w' := (zs_235 n, qml (zxc xs) zl_84, 24, 67689)) 5 hd0 hz (by rfl) ?_
  refine qR_w (c' := (222, [.inr (.inr (some 97))], [])) (w' := (zs_235 n, qml (zxc xs) zl_85, 24, 67689)) 5 hd0 hz (by rfl) ?_
  exact qR_ret hd0 hz rfl rfl ⟨rfl, _, _, rfl⟩
set_option maxRecDepth 100000 in
theorem qc_law (n : Nat) (xs : Nat → Int32) {Q : Option zV → zW → Prop} (K : qR 300 311 (18, [.inr (.inr (some 0)), .inr (.inr (some 8)), .inr (.inr (some 97)), .inl 0], []) (zSH n, qml (zxc xs) zl_85, 114, 4080270) Q) : qR 300 311 (0, zini [.inr (.inr (some 0))] 4, []) (zxS n, zxc xs, 0, 0) Q := by
  have hz := zp_311
  show qR 300 311 (0, [.inr (.inr (some 0)), zN, zN, zN], []) (zs_0 n, qml (zxc xs) zl_0, 0, 0) _
  refine qR_z (c' := (3, [.inr (.inr (some 0)), zN, zN, zN], [.inr (.inr (some 8))])) (S' := zs_1 n) (r := 8) (a' := 1) (b' := 12) (by decide : 0 < 300) hz rfl rfl (fun j => qml_z rfl rfl) ?_
  refine qR_blk (c' := (4, [.inr (.inr (some 0)), zN, zN, zN], [.inr (.inr (some 8)), .inr (.inr (some 8))])) (w' := (zs_1 n, qml (zxc xs) zl_0, 1, 12)) 1 (by decide : 0 < 300) hz rfl ?_
  refine qR_call (by decide : 0 < 300) hz zp_122 rfl rfl (Nat.le_of_ble_eq_true rfl) ⟨by omega, by omega⟩ (qc_57 n xs (by decide)) (fun r w1 hr => ?_)
  obtain ⟨rfl, a9, b9, rfl⟩ := hr
  show qR 300 311 (7, [.inr (.inr (some 0)), zN, zN, zN], [.inr (.inr (some 8))]) (zs_186 n, qml (zxc xs) zl_82, 89, 2640225) _
  refine qR_blk (c' := (8, [.inr (.inr (some 0)), .inr (.inr (some 8)), zN, zN], [])) (w' := (zs_186 n, qml (zxc xs) zl_82, 89, 2640225)) 1 (by decide : 0 < 300) hz rfl ?_
  refine qR_z (c' := (11, [.inr (.inr (some 0)), .inr (.inr (some 8)), zN, zN], [.inr (.inr (some 97))])) (S' := zs_187 n) (r := 97) (a' := 90) (b' := 2640270) (by decide : 0 < 300) hz rfl rfl (fun j => qml_z rfl rfl) ?_
  refine qR_blk (c' := (12, [.inr (.inr (some 0)), .inr (.inr (some 8)), zN, zN], [.inr (.inr (some 97)), .inr (.inr (some 97))])) (w' := (zs_187 n, qml (zxc xs) zl_82, 90, 2640270)) 1 (by decide : 0 < 300) hz rfl ?_
  refine qR_call (by decide : 0 < 300) hz zp_181 rfl rfl (Nat.le_of_ble_eq_true rfl) ⟨by omega, by omega⟩ (qc_58 n xs (by decide)) (fun r w1 hr => ?_)
  obtain ⟨rfl, a9, b9, rfl⟩ := hr
  show qR 300 311 (15, [.inr (.inr (some 0)), .inr (.inr (some 8)), zN, zN], [.inr (.inr (some 97))]) (zs_235 n, qml (zxc xs) zl_85, 114, 4080270) _
  refine qR_blk (c' := (18, [.inr (.inr (some 0)), .inr (.inr (some 8)), .inr (.inr (some 97)), .inl 0], [])) (w' := (zs_235 n, qml (zxc xs) zl_85, 114, 4080270)) 3 (by decide : 0 < 300) hz rfl ?_
  exact K
