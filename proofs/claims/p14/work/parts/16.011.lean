set_option maxRecDepth 100000 in
theorem zmc_62 : zMc 62 := zmc_of zck_X5_work
set_option maxRecDepth 100000 in
theorem zcw_63 : zCw 63 := ztg (c := 3) (j := 178) (w := Cond.code yX5_apply cX5_apply 11 (none)) rfl rfl
set_option maxRecDepth 100000 in
theorem zmc_63 : zMc 63 := zmc_of zck_X5_apply
set_option maxRecDepth 100000 in
theorem zcw_64 : zCw 64 := ztg (c := 3) (j := 194) (w := Cond.code yX5_ofTwo cX5_ofTwo 5 (some .long)) rfl rfl
set_option maxRecDepth 100000 in
theorem zmc_64 : zMc 64 := zmc_of zck_X5_ofTwo
set_option maxRecDepth 100000 in
theorem zcw_65 : zCw 65 := ztg (c := 3) (j := 174) (w := Cond.code yX5_push cX5_push 3 (none)) rfl rfl
set_option maxRecDepth 100000 in
theorem zmc_65 : zMc 65 := zmc_of zck_X5_push
set_option maxRecDepth 100000 in
theorem zcw_66 : zCw 66 := ztg (c := 3) (j := 186) (w := Cond.code yX5_pop cX5_pop 1 (some .long)) rfl rfl
set_option maxRecDepth 100000 in
theorem zmc_66 : zMc 66 := zmc_of zck_X5_pop
set_option maxRecDepth 100000 in
theorem zcw_67 : zCw 67 := ztg (c := 2) (j := 30) (w := Cond.code yX6_init cX6_init 2 (none)) rfl rfl
set_option maxRecDepth 100000 in
theorem zmc_67 : zMc 67 := zmc_of zck_X6_init
set_option maxRecDepth 100000 in
theorem zcw_68 : zCw 68 := ztg (c := 5) (j := 109) (w := Cond.code yX6_setHours cX6_setHours 4 (some .int)) rfl rfl
set_option maxRecDepth 100000 in
theorem zmc_68 : zMc 68 := zmc_of zck_X6_setHours
set_option maxRecDepth 100000 in
theorem zcw_69 : zCw 69 := ztg (c := 5) (j := 133) (w := Cond.code yX6_hourAt cX6_hourAt 2 (some .int)) rfl rfl
set_option maxRecDepth 100000 in
theorem zmc_69 : zMc 69 := zmc_of zck_X6_hourAt
