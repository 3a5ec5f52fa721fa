set_option maxRecDepth 100000 in
theorem zcw_25 : zCw 25 := ztg (c := 6) (j := 48) (w := Cond.code yX2_sumUpTexts cX2_sumUpTexts 8 (some .long)) rfl rfl
set_option maxRecDepth 100000 in
theorem zmc_25 : zMc 25 := zmc_of zck_X2_sumUpTexts
set_option maxRecDepth 100000 in
theorem zcw_26 : zCw 26 := ztg (c := 6) (j := 4) (w := Cond.code yX2_takeOver cX2_takeOver 2 (none)) rfl rfl
set_option maxRecDepth 100000 in
theorem zmc_26 : zMc 26 := zmc_of zck_X2_takeOver
set_option maxRecDepth 100000 in
theorem zcw_27 : zCw 27 := ztg (c := 1) (j := 207) (w := Cond.code yX3_init cX3_init 4 (none)) rfl rfl
set_option maxRecDepth 100000 in
theorem zmc_27 : zMc 27 := zmc_of zck_X3_init
set_option maxRecDepth 100000 in
theorem zcw_28 : zCw 28 := ztg (c := 1) (j := 216) (w := Cond.code yX3_putCode cX3_putCode 4 (none)) rfl rfl
set_option maxRecDepth 100000 in
theorem zmc_28 : zMc 28 := zmc_of zck_X3_putCode
set_option maxRecDepth 100000 in
theorem zcw_29 : zCw 29 := ztg (c := 3) (j := 136) (w := Cond.code yX3_bindingOf cX3_bindingOf 5 (some .int)) rfl rfl
set_option maxRecDepth 100000 in
theorem zmc_29 : zMc 29 := zmc_of zck_X3_bindingOf
set_option maxRecDepth 100000 in
theorem zcw_30 : zCw 30 := ztg (c := 3) (j := 140) (w := Cond.code yX3_latestOf cX3_latestOf 8 (some .int)) rfl rfl
set_option maxRecDepth 100000 in
theorem zmc_30 : zMc 30 := zmc_of zck_X3_latestOf
set_option maxRecDepth 100000 in
theorem zcw_31 : zCw 31 := ztg (c := 3) (j := 164) (w := Cond.code yX3_rowsOf cX3_rowsOf 2 (some (.object "SenateRoll$Rows"))) rfl rfl
set_option maxRecDepth 100000 in
theorem zmc_31 : zMc 31 := zmc_of zck_X3_rowsOf
set_option maxRecDepth 100000 in
theorem zcw_32 : zCw 32 := ztg (c := 3) (j := 132) (w := Cond.code yX3_passedOf cX3_passedOf 6 (some .int)) rfl rfl
