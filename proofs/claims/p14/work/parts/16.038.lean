set_option maxRecDepth 100000 in
theorem zcw_265 : zCw 265 := ztg (c := 8) (j := 60) (w := Cond.code yX11_findLeft cX11_findLeft 9 (none)) rfl rfl
set_option maxRecDepth 100000 in
theorem zmc_265 : zMc 265 := zmc_of zck_X11_findLeft
set_option maxRecDepth 100000 in
theorem zcw_266 : zCw 266 := ztg (c := 8) (j := 52) (w := Cond.code yX11_isWay cX11_isWay 7 (some .boolean)) rfl rfl
set_option maxRecDepth 100000 in
theorem zmc_266 : zMc 266 := zmc_of zck_X11_isWay
set_option maxRecDepth 100000 in
theorem zcw_267 : zCw 267 := ztg (c := 8) (j := 56) (w := Cond.code yX11_findWay cX11_findWay 8 (some .int)) rfl rfl
set_option maxRecDepth 100000 in
theorem zmc_267 : zMc 267 := zmc_of zck_X11_findWay
set_option maxRecDepth 100000 in
theorem zcw_268 : zCw 268 := ztg (c := 8) (j := 48) (w := Cond.code yX11_way cX11_way 7 (some .int)) rfl rfl
set_option maxRecDepth 100000 in
theorem zmc_268 : zMc 268 := zmc_of zck_X11_way
set_option maxRecDepth 100000 in
theorem zcw_269 : zCw 269 := ztg (c := 8) (j := 87) (w := Cond.code yX11_takes cX11_takes 9 (some .int)) rfl rfl
set_option maxRecDepth 100000 in
theorem zmc_269 : zMc 269 := zmc_of zck_X11_takes
set_option maxRecDepth 100000 in
theorem zcw_270 : zCw 270 := ztg (c := 8) (j := 83) (w := Cond.code yX11_wayAt cX11_wayAt 12 (some .int)) rfl rfl
set_option maxRecDepth 100000 in
theorem zmc_270 : zMc 270 := zmc_of zck_X11_wayAt
set_option maxRecDepth 100000 in
theorem zcw_271 : zCw 271 := ztg (c := 8) (j := 91) (w := Cond.code yX11_sits cX11_sits 5 (some .int)) rfl rfl
set_option maxRecDepth 100000 in
theorem zmc_271 : zMc 271 := zmc_of zck_X11_sits
set_option maxRecDepth 100000 in
theorem zcw_272 : zCw 272 := ztg (c := 8) (j := 107) (w := Cond.code yX11_sitting cX11_sitting 4 (some .int)) rfl rfl
