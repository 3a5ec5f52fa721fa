set_option maxRecDepth 100000 in
theorem zcw_100 : zCw 100 := ztg (c := 1) (j := 40) (w := Cond.code yX8_init cX8_init 3 (none)) rfl rfl
set_option maxRecDepth 100000 in
theorem zmc_100 : zMc 100 := zmc_of zck_X8_init
set_option maxRecDepth 100000 in
theorem zcw_101 : zCw 101 := ztg (c := 2) (j := 152) (w := Cond.code yX8_size cX8_size 1 (some .int)) rfl rfl
set_option maxRecDepth 100000 in
theorem zmc_101 : zMc 101 := zmc_of zck_X8_size
set_option maxRecDepth 100000 in
theorem zcw_102 : zCw 102 := ztg (c := 2) (j := 176) (w := Cond.code yX8_has cX8_has 2 (some .boolean)) rfl rfl
set_option maxRecDepth 100000 in
theorem zmc_102 : zMc 102 := zmc_of zck_X8_has
set_option maxRecDepth 100000 in
theorem zcw_103 : zCw 103 := ztg (c := 2) (j := 156) (w := Cond.code yX8_open cX8_open 1 (some .int)) rfl rfl
set_option maxRecDepth 100000 in
theorem zmc_103 : zMc 103 := zmc_of zck_X8_open
set_option maxRecDepth 100000 in
theorem zcw_104 : zCw 104 := ztg (c := 3) (j := 61) (w := Cond.code yX8_drop cX8_drop 1 (none)) rfl rfl
set_option maxRecDepth 100000 in
theorem zmc_104 : zMc 104 := zmc_of zck_X8_drop
set_option maxRecDepth 100000 in
theorem zcw_105 : zCw 105 := ztg (c := 4) (j := 231) (w := Cond.code yX8_dropLast cX8_dropLast 1 (none)) rfl rfl
set_option maxRecDepth 100000 in
theorem zmc_105 : zMc 105 := zmc_of zck_X8_dropLast
set_option maxRecDepth 100000 in
theorem zcw_106 : zCw 106 := ztg (c := 2) (j := 184) (w := Cond.code yX8_get cX8_get 3 (some .int)) rfl rfl
set_option maxRecDepth 100000 in
theorem zmc_106 : zMc 106 := zmc_of zck_X8_get
set_option maxRecDepth 100000 in
theorem zcw_107 : zCw 107 := ztg (c := 1) (j := 220) (w := Cond.code yX8_set cX8_set 4 (none)) rfl rfl
