set_option maxRecDepth 100000 in
theorem zmc_107 : zMc 107 := zmc_of zck_X8_set
set_option maxRecDepth 100000 in
theorem zcw_108 : zCw 108 := ztg (c := 3) (j := 77) (w := Cond.code yX8_add cX8_add 4 (none)) rfl rfl
set_option maxRecDepth 100000 in
theorem zmc_108 : zMc 108 := zmc_of zck_X8_add
set_option maxRecDepth 100000 in
theorem zcw_109 : zCw 109 := ztg (c := 3) (j := 49) (w := Cond.code yX8_fillColumn cX8_fillColumn 5 (none)) rfl rfl
set_option maxRecDepth 100000 in
theorem zmc_109 : zMc 109 := zmc_of zck_X8_fillColumn
set_option maxRecDepth 100000 in
theorem zcw_110 : zCw 110 := ztg (c := 6) (j := 8) (w := Cond.code yX8_takeOver cX8_takeOver 2 (none)) rfl rfl
set_option maxRecDepth 100000 in
theorem zmc_110 : zMc 110 := zmc_of zck_X8_takeOver
set_option maxRecDepth 100000 in
theorem zcw_111 : zCw 111 := ztg (c := 2) (j := 3) (w := Cond.code yX9_init cX9_init 2 (none)) rfl rfl
set_option maxRecDepth 100000 in
theorem zmc_111 : zMc 111 := zmc_of zck_X9_init
set_option maxRecDepth 100000 in
theorem zcw_112 : zCw 112 := ztg (c := 5) (j := 49) (w := Cond.code yX9_lead cX9_lead 5 (none)) rfl rfl
set_option maxRecDepth 100000 in
theorem zmc_112 : zMc 112 := zmc_of zck_X9_lead
set_option maxRecDepth 100000 in
theorem zcw_113 : zCw 113 := ztg (c := 5) (j := 54) (w := Cond.code yX9_termsFrom cX9_termsFrom 3 (some .int)) rfl rfl
set_option maxRecDepth 100000 in
theorem zmc_113 : zMc 113 := zmc_of zck_X9_termsFrom
set_option maxRecDepth 100000 in
theorem zcw_114 : zCw 114 := ztg (c := 5) (j := 92) (w := Cond.code yX9_setAt cX9_setAt 7 (some .int)) rfl rfl
set_option maxRecDepth 100000 in
theorem zmc_114 : zMc 114 := zmc_of zck_X9_setAt
