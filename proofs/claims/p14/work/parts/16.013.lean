set_option maxRecDepth 100000 in
theorem zmc_77 : zMc 77 := zmc_of zck_X7_takeUnit
set_option maxRecDepth 100000 in
theorem zcw_78 : zCw 78 := ztg (c := 4) (j := 213) (w := Cond.code yX7_takeBehindUnit cX7_takeBehindUnit 1 (none)) rfl rfl
set_option maxRecDepth 100000 in
theorem zmc_78 : zMc 78 := zmc_of zck_X7_takeBehindUnit
set_option maxRecDepth 100000 in
theorem zcw_79 : zCw 79 := ztg (c := 4) (j := 196) (w := Cond.code yX7_takeNumber cX7_takeNumber 1 (none)) rfl rfl
set_option maxRecDepth 100000 in
theorem zmc_79 : zMc 79 := zmc_of zck_X7_takeNumber
set_option maxRecDepth 100000 in
theorem zcw_80 : zCw 80 := ztg (c := 4) (j := 209) (w := Cond.code yX7_openOne cX7_openOne 1 (none)) rfl rfl
set_option maxRecDepth 100000 in
theorem zmc_80 : zMc 80 := zmc_of zck_X7_openOne
set_option maxRecDepth 100000 in
theorem zcw_81 : zCw 81 := ztg (c := 5) (j := 11) (w := Cond.code yX7_closeOne cX7_closeOne 1 (none)) rfl rfl
set_option maxRecDepth 100000 in
theorem zmc_81 : zMc 81 := zmc_of zck_X7_closeOne
set_option maxRecDepth 100000 in
theorem zcw_82 : zCw 82 := ztg (c := 5) (j := 3) (w := Cond.code yX7_turnIfToElse cX7_turnIfToElse 1 (none)) rfl rfl
set_option maxRecDepth 100000 in
theorem zmc_82 : zMc 82 := zmc_of zck_X7_turnIfToElse
set_option maxRecDepth 100000 in
theorem zcw_83 : zCw 83 := ztg (c := 5) (j := 7) (w := Cond.code yX7_endCases cX7_endCases 1 (none)) rfl rfl
set_option maxRecDepth 100000 in
theorem zmc_83 : zMc 83 := zmc_of zck_X7_endCases
set_option maxRecDepth 100000 in
theorem zcw_84 : zCw 84 := ztg (c := 4) (j := 222) (w := Cond.code yX7_emitDownTo cX7_emitDownTo 3 (none)) rfl rfl
set_option maxRecDepth 100000 in
theorem zmc_84 : zMc 84 := zmc_of zck_X7_emitDownTo
