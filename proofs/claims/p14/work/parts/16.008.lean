set_option maxRecDepth 100000 in
theorem zcw_40 : zCw 40 := ztg (c := 1) (j := 115) (w := Cond.code yX4_init cX4_init 2 (none)) rfl rfl
set_option maxRecDepth 100000 in
theorem zmc_40 : zMc 40 := zmc_of zck_X4_init
set_option maxRecDepth 100000 in
theorem zcw_41 : zCw 41 := ztg (c := 3) (j := 40) (w := Cond.code yX4_learn cX4_learn 5 (none)) rfl rfl
set_option maxRecDepth 100000 in
theorem zmc_41 : zMc 41 := zmc_of zck_X4_learn
set_option maxRecDepth 100000 in
theorem zcw_42 : zCw 42 := ztg (c := 3) (j := 65) (w := Cond.code yX4_holds cX4_holds 2 (some .boolean)) rfl rfl
set_option maxRecDepth 100000 in
theorem zmc_42 : zMc 42 := zmc_of zck_X4_holds
set_option maxRecDepth 100000 in
theorem zcw_43 : zCw 43 := ztg (c := 5) (j := 153) (w := Cond.code yX4_secondOf cX4_secondOf 2 (some .int)) rfl rfl
set_option maxRecDepth 100000 in
theorem zmc_43 : zMc 43 := zmc_of zck_X4_secondOf
set_option maxRecDepth 100000 in
theorem zcw_44 : zCw 44 := ztg (c := 3) (j := 116) (w := Cond.code yX4_finalOf cX4_finalOf 3 (some .int)) rfl rfl
set_option maxRecDepth 100000 in
theorem zmc_44 : zMc 44 := zmc_of zck_X4_finalOf
set_option maxRecDepth 100000 in
theorem zcw_45 : zCw 45 := ztg (c := 3) (j := 120) (w := Cond.code yX4_triesOf cX4_triesOf 3 (some .int)) rfl rfl
set_option maxRecDepth 100000 in
theorem zmc_45 : zMc 45 := zmc_of zck_X4_triesOf
set_option maxRecDepth 100000 in
theorem zcw_46 : zCw 46 := ztg (c := 3) (j := 124) (w := Cond.code yX4_excusedOf cX4_excusedOf 3 (some .int)) rfl rfl
set_option maxRecDepth 100000 in
theorem zmc_46 : zMc 46 := zmc_of zck_X4_excusedOf
set_option maxRecDepth 100000 in
theorem zcw_47 : zCw 47 := ztg (c := 3) (j := 88) (w := Cond.code yX4_stepOf cX4_stepOf 4 (some .int)) rfl rfl
