set_option maxRecDepth 100000 in
theorem zmc_2 : zMc 2 := zmc_of zck_X0_rivals
set_option maxRecDepth 100000 in
theorem zcw_3 : zCw 3 := ztg (c := 5) (j := 212) (w := Cond.code yX0_search cX0_search 8 (none)) rfl rfl
set_option maxRecDepth 100000 in
theorem zmc_3 : zMc 3 := zmc_of zck_X0_search
set_option maxRecDepth 100000 in
theorem zcw_4 : zCw 4 := ztg (c := 5) (j := 216) (w := Cond.code yX0_prepare cX0_prepare 7 (some .int)) rfl rfl
set_option maxRecDepth 100000 in
theorem zmc_4 : zMc 4 := zmc_of zck_X0_prepare
set_option maxRecDepth 100000 in
theorem zcw_5 : zCw 5 := ztg (c := 2) (j := 58) (w := Cond.code yX1_init cX1_init 3 (none)) rfl rfl
set_option maxRecDepth 100000 in
theorem zmc_5 : zMc 5 := zmc_of zck_X1_init
set_option maxRecDepth 100000 in
theorem zcw_6 : zCw 6 := ztg (c := 5) (j := 145) (w := Cond.code yX1_gather cX1_gather 3 (none)) rfl rfl
set_option maxRecDepth 100000 in
theorem zmc_6 : zMc 6 := zmc_of zck_X1_gather
set_option maxRecDepth 100000 in
theorem zcw_7 : zCw 7 := ztg (c := 5) (j := 157) (w := Cond.code yX1_addPair cX1_addPair 4 (none)) rfl rfl
set_option maxRecDepth 100000 in
theorem zmc_7 : zMc 7 := zmc_of zck_X1_addPair
set_option maxRecDepth 100000 in
theorem zcw_8 : zCw 8 := ztg (c := 5) (j := 183) (w := Cond.code yX1_differing cX1_differing 1 (some .int)) rfl rfl
set_option maxRecDepth 100000 in
theorem zmc_8 : zMc 8 := zmc_of zck_X1_differing
set_option maxRecDepth 100000 in
theorem zcw_9 : zCw 9 := ztg (c := 5) (j := 187) (w := Cond.code yX1_above cX1_above 1 (some .int)) rfl rfl
set_option maxRecDepth 100000 in
theorem zmc_9 : zMc 9 := zmc_of zck_X1_above
