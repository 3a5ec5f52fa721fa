set_option maxRecDepth 100000 in
theorem zmc_47 : zMc 47 := zmc_of zck_X4_stepOf
set_option maxRecDepth 100000 in
theorem zcw_48 : zCw 48 := ztg (c := 3) (j := 44) (w := Cond.code yX4_sift cX4_sift 7 (none)) rfl rfl
set_option maxRecDepth 100000 in
theorem zmc_48 : zMc 48 := zmc_of zck_X4_sift
set_option maxRecDepth 100000 in
theorem zcw_49 : zCw 49 := ztg (c := 3) (j := 57) (w := Cond.code yX4_gather cX4_gather 3 (none)) rfl rfl
set_option maxRecDepth 100000 in
theorem zmc_49 : zMc 49 := zmc_of zck_X4_gather
set_option maxRecDepth 100000 in
theorem zcw_50 : zCw 50 := ztg (c := 3) (j := 69) (w := Cond.code yX4_gatherOne cX4_gatherOne 2 (none)) rfl rfl
set_option maxRecDepth 100000 in
theorem zmc_50 : zMc 50 := zmc_of zck_X4_gatherOne
set_option maxRecDepth 100000 in
theorem zcw_51 : zCw 51 := ztg (c := 3) (j := 82) (w := Cond.code yX4_bringFirst cX4_bringFirst 4 (none)) rfl rfl
set_option maxRecDepth 100000 in
theorem zmc_51 : zMc 51 := zmc_of zck_X4_bringFirst
set_option maxRecDepth 100000 in
theorem zcw_52 : zCw 52 := ztg (c := 3) (j := 73) (w := Cond.code yX4_rowOf cX4_rowOf 2 (some .int)) rfl rfl
set_option maxRecDepth 100000 in
theorem zmc_52 : zMc 52 := zmc_of zck_X4_rowOf
set_option maxRecDepth 100000 in
theorem zcw_53 : zCw 53 := ztg (c := 3) (j := 91) (w := Cond.code yX4_bothOf cX4_bothOf 2 (some .int)) rfl rfl
set_option maxRecDepth 100000 in
theorem zmc_53 : zMc 53 := zmc_of zck_X4_bothOf
set_option maxRecDepth 100000 in
theorem zcw_54 : zCw 54 := ztg (c := 3) (j := 101) (w := Cond.code yX4_scaledOf cX4_scaledOf 10 (some .int)) rfl rfl
set_option maxRecDepth 100000 in
theorem zmc_54 : zMc 54 := zmc_of zck_X4_scaledOf
