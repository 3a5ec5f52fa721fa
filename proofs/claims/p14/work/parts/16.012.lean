set_option maxRecDepth 100000 in
theorem zcw_70 : zCw 70 := ztg (c := 5) (j := 113) (w := Cond.code yX6_sittersOf cX6_sittersOf 4 (some .int)) rfl rfl
set_option maxRecDepth 100000 in
theorem zmc_70 : zMc 70 := zmc_of zck_X6_sittersOf
set_option maxRecDepth 100000 in
theorem zcw_71 : zCw 71 := ztg (c := 5) (j := 119) (w := Cond.code yX6_place cX6_place 7 (some .boolean)) rfl rfl
set_option maxRecDepth 100000 in
theorem zmc_71 : zMc 71 := zmc_of zck_X6_place
set_option maxRecDepth 100000 in
theorem zcw_72 : zCw 72 := ztg (c := 5) (j := 123) (w := Cond.code yX6_takes cX6_takes 3 (some .boolean)) rfl rfl
set_option maxRecDepth 100000 in
theorem zmc_72 : zMc 72 := zmc_of zck_X6_takes
set_option maxRecDepth 100000 in
theorem zcw_73 : zCw 73 := ztg (c := 1) (j := 136) (w := Cond.code yX7_init cX7_init 2 (none)) rfl rfl
set_option maxRecDepth 100000 in
theorem zmc_73 : zMc 73 := zmc_of zck_X7_init
set_option maxRecDepth 100000 in
theorem zcw_74 : zCw 74 := ztg (c := 5) (j := 23) (w := Cond.code yX7_code cX7_code 1 (some (.object "SenateRoll$Rows"))) rfl rfl
set_option maxRecDepth 100000 in
theorem zmc_74 : zMc 74 := zmc_of zck_X7_code
set_option maxRecDepth 100000 in
theorem zcw_75 : zCw 75 := ztg (c := 4) (j := 46) (w := Cond.code yX7_read cX7_read 3 (some .int)) rfl rfl
set_option maxRecDepth 100000 in
theorem zmc_75 : zMc 75 := zmc_of zck_X7_read
set_option maxRecDepth 100000 in
theorem zcw_76 : zCw 76 := ztg (c := 5) (j := 32) (w := Cond.code yX7_copyTo cX7_copyTo 5 (none)) rfl rfl
set_option maxRecDepth 100000 in
theorem zmc_76 : zMc 76 := zmc_of zck_X7_copyTo
set_option maxRecDepth 100000 in
theorem zcw_77 : zCw 77 := ztg (c := 4) (j := 192) (w := Cond.code yX7_takeUnit cX7_takeUnit 1 (none)) rfl rfl
