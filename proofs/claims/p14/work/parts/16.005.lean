set_option maxRecDepth 100000 in
theorem zmc_17 : zMc 17 := zmc_of zck_X2_init
set_option maxRecDepth 100000 in
theorem zcw_18 : zCw 18 := ztg (c := 2) (j := 222) (w := Cond.code yX2_enter cX2_enter 7 (some .int)) rfl rfl
set_option maxRecDepth 100000 in
theorem zmc_18 : zMc 18 := zmc_of zck_X2_enter
set_option maxRecDepth 100000 in
theorem zcw_19 : zCw 19 := ztg (c := 2) (j := 232) (w := Cond.code yX2_isA cX2_isA 3 (some .boolean)) rfl rfl
set_option maxRecDepth 100000 in
theorem zmc_19 : zMc 19 := zmc_of zck_X2_isA
set_option maxRecDepth 100000 in
theorem zcw_20 : zCw 20 := ztg (c := 2) (j := 192) (w := Cond.code yX2_isStanding cX2_isStanding 5 (some .boolean)) rfl rfl
set_option maxRecDepth 100000 in
theorem zmc_20 : zMc 20 := zmc_of zck_X2_isStanding
set_option maxRecDepth 100000 in
theorem zcw_21 : zCw 21 := ztg (c := 6) (j := 24) (w := Cond.code yX2_howMany cX2_howMany 2 (some .int)) rfl rfl
set_option maxRecDepth 100000 in
theorem zmc_21 : zMc 21 := zmc_of zck_X2_howMany
set_option maxRecDepth 100000 in
theorem zcw_22 : zCw 22 := ztg (c := 6) (j := 29) (w := Cond.code yX2_standing cX2_standing 3 (some .int)) rfl rfl
set_option maxRecDepth 100000 in
theorem zmc_22 : zMc 22 := zmc_of zck_X2_standing
set_option maxRecDepth 100000 in
theorem zcw_23 : zCw 23 := ztg (c := 6) (j := 38) (w := Cond.code yX2_sumUp cX2_sumUp 4 (some .long)) rfl rfl
set_option maxRecDepth 100000 in
theorem zmc_23 : zMc 23 := zmc_of zck_X2_sumUp
set_option maxRecDepth 100000 in
theorem zcw_24 : zCw 24 := ztg (c := 6) (j := 44) (w := Cond.code yX2_sumUpRows cX2_sumUpRows 8 (some .long)) rfl rfl
set_option maxRecDepth 100000 in
theorem zmc_24 : zMc 24 := zmc_of zck_X2_sumUpRows
