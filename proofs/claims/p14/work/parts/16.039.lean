set_option maxRecDepth 100000 in
theorem zmc_272 : zMc 272 := zmc_of zck_X11_sitting
set_option maxRecDepth 100000 in
theorem zcw_273 : zCw 273 := ztg (c := 8) (j := 115) (w := Cond.code yX11_areApart cX11_areApart 5 (some .boolean)) rfl rfl
set_option maxRecDepth 100000 in
theorem zmc_273 : zMc 273 := zmc_of zck_X11_areApart
set_option maxRecDepth 100000 in
theorem zcw_274 : zCw 274 := ztg (c := 8) (j := 111) (w := Cond.code yX11_isGood cX11_isGood 5 (some .boolean)) rfl rfl
set_option maxRecDepth 100000 in
theorem zmc_274 : zMc 274 := zmc_of zck_X11_isGood
set_option maxRecDepth 100000 in
theorem zcw_275 : zCw 275 := ztg (c := 8) (j := 119) (w := Cond.code yX11_nextHours cX11_nextHours 5 (some .boolean)) rfl rfl
set_option maxRecDepth 100000 in
theorem zmc_275 : zMc 275 := zmc_of zck_X11_nextHours
set_option maxRecDepth 100000 in
theorem zcw_276 : zCw 276 := ztg (c := 8) (j := 103) (w := Cond.code yX11_findHours cX11_findHours 5 (some .int)) rfl rfl
set_option maxRecDepth 100000 in
theorem zmc_276 : zMc 276 := zmc_of zck_X11_findHours
set_option maxRecDepth 100000 in
theorem zcw_277 : zCw 277 := ztg (c := 8) (j := 99) (w := Cond.code yX11_whyHours cX11_whyHours 4 (some .int)) rfl rfl
set_option maxRecDepth 100000 in
theorem zmc_277 : zMc 277 := zmc_of zck_X11_whyHours
set_option maxRecDepth 100000 in
theorem zcw_278 : zCw 278 := ztg (c := 8) (j := 95) (w := Cond.code yX11_hours cX11_hours 4 (some .int)) rfl rfl
set_option maxRecDepth 100000 in
theorem zmc_278 : zMc 278 := zmc_of zck_X11_hours
set_option maxRecDepth 100000 in
theorem zcw_279 : zCw 279 := ztg (c := 8) (j := 123) (w := Cond.code yX11_hourOf cX11_hourOf 6 (some .int)) rfl rfl
set_option maxRecDepth 100000 in
theorem zmc_279 : zMc 279 := zmc_of zck_X11_hourOf
