set_option maxRecDepth 100000 in
theorem zcw_10 : zCw 10 := ztg (c := 5) (j := 191) (w := Cond.code yX1_meanMore cX1_meanMore 1 (some .int)) rfl rfl
set_option maxRecDepth 100000 in
theorem zmc_10 : zMc 10 := zmc_of zck_X1_meanMore
set_option maxRecDepth 100000 in
theorem zcw_11 : zCw 11 := ztg (c := 5) (j := 141) (w := Cond.code yX1_isHard cX1_isHard 4 (some .boolean)) rfl rfl
set_option maxRecDepth 100000 in
theorem zmc_11 : zMc 11 := zmc_of zck_X1_isHard
set_option maxRecDepth 100000 in
theorem zcw_12 : zCw 12 := ztg (c := 5) (j := 162) (w := Cond.code yX1_countTail cX1_countTail 3 (none)) rfl rfl
set_option maxRecDepth 100000 in
theorem zmc_12 : zMc 12 := zmc_of zck_X1_countTail
set_option maxRecDepth 100000 in
theorem zcw_13 : zCw 13 := ztg (c := 5) (j := 166) (w := Cond.code yX1_multiply cX1_multiply 5 (none)) rfl rfl
set_option maxRecDepth 100000 in
theorem zmc_13 : zMc 13 := zmc_of zck_X1_multiply
set_option maxRecDepth 100000 in
theorem zcw_14 : zCw 14 := ztg (c := 5) (j := 170) (w := Cond.code yX1_divide cX1_divide 5 (none)) rfl rfl
set_option maxRecDepth 100000 in
theorem zmc_14 : zMc 14 := zmc_of zck_X1_divide
set_option maxRecDepth 100000 in
theorem zcw_15 : zCw 15 := ztg (c := 5) (j := 174) (w := Cond.code yX1_addWaysToTail cX1_addWaysToTail 4 (none)) rfl rfl
set_option maxRecDepth 100000 in
theorem zmc_15 : zMc 15 := zmc_of zck_X1_addWaysToTail
set_option maxRecDepth 100000 in
theorem zcw_16 : zCw 16 := ztg (c := 5) (j := 178) (w := Cond.code yX1_isAtMostPower cX1_isAtMostPower 7 (some .boolean)) rfl rfl
set_option maxRecDepth 100000 in
theorem zmc_16 : zMc 16 := zmc_of zck_X1_isAtMostPower
set_option maxRecDepth 100000 in
theorem zcw_17 : zCw 17 := ztg (c := 1) (j := 34) (w := Cond.code yX2_init cX2_init 1 (none)) rfl rfl
