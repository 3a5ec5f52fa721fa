set_option maxRecDepth 100000 in
theorem zcw_130 : zCw 130 := ztg (c := 2) (j := 228) (w := Cond.code yX10_second cX10_second 7 (some .int)) rfl rfl
set_option maxRecDepth 100000 in
theorem zmc_130 : zMc 130 := zmc_of zck_X10_second
set_option maxRecDepth 100000 in
theorem zcw_131 : zCw 131 := ztg (c := 2) (j := 236) (w := Cond.code yX10_moderate cX10_moderate 6 (some .int)) rfl rfl
set_option maxRecDepth 100000 in
theorem zmc_131 : zMc 131 := zmc_of zck_X10_moderate
set_option maxRecDepth 100000 in
theorem zcw_132 : zCw 132 := ztg (c := 3) (j := 8) (w := Cond.code yX10_scale cX10_scale 8 (some .int)) rfl rfl
set_option maxRecDepth 100000 in
theorem zmc_132 : zMc 132 := zmc_of zck_X10_scale
set_option maxRecDepth 100000 in
theorem zcw_133 : zCw 133 := ztg (c := 3) (j := 12) (w := Cond.code yX10_excuse cX10_excuse 6 (some .int)) rfl rfl
set_option maxRecDepth 100000 in
theorem zmc_133 : zMc 133 := zmc_of zck_X10_excuse
set_option maxRecDepth 100000 in
theorem zcw_134 : zCw 134 := ztg (c := 3) (j := 16) (w := Cond.code yX10_strike cX10_strike 5 (some .int)) rfl rfl
set_option maxRecDepth 100000 in
theorem zmc_134 : zMc 134 := zmc_of zck_X10_strike
set_option maxRecDepth 100000 in
theorem zcw_135 : zCw 135 := ztg (c := 3) (j := 20) (w := Cond.code yX10_degree cX10_degree 5 (some .int)) rfl rfl
set_option maxRecDepth 100000 in
theorem zmc_135 : zMc 135 := zmc_of zck_X10_degree
set_option maxRecDepth 100000 in
theorem zcw_136 : zCw 136 := ztg (c := 3) (j := 24) (w := Cond.code yX10_appeal cX10_appeal 5 (some .int)) rfl rfl
set_option maxRecDepth 100000 in
theorem zmc_136 : zMc 136 := zmc_of zck_X10_appeal
set_option maxRecDepth 100000 in
theorem zcw_137 : zCw 137 := ztg (c := 3) (j := 28) (w := Cond.code yX10_days cX10_days 3 (some .int)) rfl rfl
