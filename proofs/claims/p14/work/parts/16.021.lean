set_option maxRecDepth 100000 in
theorem zmc_137 : zMc 137 := zmc_of zck_X10_days
set_option maxRecDepth 100000 in
theorem zcw_138 : zCw 138 := ztg (c := 3) (j := 32) (w := Cond.code yX10_about cX10_about 3 (some .int)) rfl rfl
set_option maxRecDepth 100000 in
theorem zmc_138 : zMc 138 := zmc_of zck_X10_about
set_option maxRecDepth 100000 in
theorem zcw_139 : zCw 139 := ztg (c := 3) (j := 36) (w := Cond.code yX10_counts cX10_counts 3 (some .int)) rfl rfl
set_option maxRecDepth 100000 in
theorem zmc_139 : zMc 139 := zmc_of zck_X10_counts
set_option maxRecDepth 100000 in
theorem zcw_140 : zCw 140 := ztg (c := 3) (j := 107) (w := Cond.code yX10_step cX10_step 4 (some .int)) rfl rfl
set_option maxRecDepth 100000 in
theorem zmc_140 : zMc 140 := zmc_of zck_X10_step
set_option maxRecDepth 100000 in
theorem zcw_141 : zCw 141 := ztg (c := 3) (j := 112) (w := Cond.code yX10_outcome cX10_outcome 5 (some .int)) rfl rfl
set_option maxRecDepth 100000 in
theorem zmc_141 : zMc 141 := zmc_of zck_X10_outcome
set_option maxRecDepth 100000 in
theorem zcw_142 : zCw 142 := ztg (c := 3) (j := 128) (w := Cond.code yX10_passed cX10_passed 4 (some .int)) rfl rfl
set_option maxRecDepth 100000 in
theorem zmc_142 : zMc 142 := zmc_of zck_X10_passed
set_option maxRecDepth 100000 in
theorem zcw_143 : zCw 143 := ztg (c := 3) (j := 198) (w := Cond.code yX10_grade cX10_grade 4 (some .int)) rfl rfl
set_option maxRecDepth 100000 in
theorem zmc_143 : zMc 143 := zmc_of zck_X10_grade
set_option maxRecDepth 100000 in
theorem zcw_144 : zCw 144 := ztg (c := 3) (j := 230) (w := Cond.code yX10_number cX10_number 5 (some .long)) rfl rfl
set_option maxRecDepth 100000 in
theorem zmc_144 : zMc 144 := zmc_of zck_X10_number
