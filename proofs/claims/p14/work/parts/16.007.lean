set_option maxRecDepth 100000 in
theorem zmc_32 : zMc 32 := zmc_of zck_X3_passedOf
set_option maxRecDepth 100000 in
theorem zcw_33 : zCw 33 := ztg (c := 3) (j := 202) (w := Cond.code yX3_classOf cX3_classOf 3 (some .int)) rfl rfl
set_option maxRecDepth 100000 in
theorem zmc_33 : zMc 33 := zmc_of zck_X3_classOf
set_option maxRecDepth 100000 in
theorem zcw_34 : zCw 34 := ztg (c := 3) (j := 219) (w := Cond.code yX3_classWith cX3_classWith 5 (some .int)) rfl rfl
set_option maxRecDepth 100000 in
theorem zmc_34 : zMc 34 := zmc_of zck_X3_classWith
set_option maxRecDepth 100000 in
theorem zcw_35 : zCw 35 := ztg (c := 4) (j := 2) (w := Cond.code yX3_edgeOf cX3_edgeOf 6 (some .int)) rfl rfl
set_option maxRecDepth 100000 in
theorem zmc_35 : zMc 35 := zmc_of zck_X3_edgeOf
set_option maxRecDepth 100000 in
theorem zcw_36 : zCw 36 := ztg (c := 4) (j := 15) (w := Cond.code yX3_rollOf cX3_rollOf 7 (some .int)) rfl rfl
set_option maxRecDepth 100000 in
theorem zmc_36 : zMc 36 := zmc_of zck_X3_rollOf
set_option maxRecDepth 100000 in
theorem zcw_37 : zCw 37 := ztg (c := 4) (j := 25) (w := Cond.code yX3_hangingOn cX3_hangingOn 7 (some .int)) rfl rfl
set_option maxRecDepth 100000 in
theorem zmc_37 : zMc 37 := zmc_of zck_X3_hangingOn
set_option maxRecDepth 100000 in
theorem zcw_38 : zCw 38 := ztg (c := 3) (j := 146) (w := Cond.code yX3_setInCourse cX3_setInCourse 5 (none)) rfl rfl
set_option maxRecDepth 100000 in
theorem zmc_38 : zMc 38 := zmc_of zck_X3_setInCourse
set_option maxRecDepth 100000 in
theorem zcw_39 : zCw 39 := ztg (c := 3) (j := 207) (w := Cond.code yX3_setAlone cX3_setAlone 10 (none)) rfl rfl
set_option maxRecDepth 100000 in
theorem zmc_39 : zMc 39 := zmc_of zck_X3_setAlone
