set_option maxRecDepth 100000 in
theorem zcw_280 : zCw 280 := ztg (c := 8) (j := 135) (w := Cond.code yX11_findHabit cX11_findHabit 5 (none)) rfl rfl
set_option maxRecDepth 100000 in
theorem zmc_280 : zMc 280 := zmc_of zck_X11_findHabit
set_option maxRecDepth 100000 in
theorem zcw_281 : zCw 281 := ztg (c := 8) (j := 139) (w := Cond.code yX11_findTail cX11_findTail 8 (none)) rfl rfl
set_option maxRecDepth 100000 in
theorem zmc_281 : zMc 281 := zmc_of zck_X11_findTail
set_option maxRecDepth 100000 in
theorem zcw_282 : zCw 282 := ztg (c := 8) (j := 144) (w := Cond.code yX11_isRare cX11_isRare 8 (some .boolean)) rfl rfl
set_option maxRecDepth 100000 in
theorem zmc_282 : zMc 282 := zmc_of zck_X11_isRare
set_option maxRecDepth 100000 in
theorem zcw_283 : zCw 283 := ztg (c := 8) (j := 131) (w := Cond.code yX11_isHard cX11_isHard 4 (some .int)) rfl rfl
set_option maxRecDepth 100000 in
theorem zmc_283 : zMc 283 := zmc_of zck_X11_isHard
set_option maxRecDepth 100000 in
theorem zcw_284 : zCw 284 := ztg (c := 8) (j := 127) (w := Cond.code yX11_habit cX11_habit 4 (some .int)) rfl rfl
set_option maxRecDepth 100000 in
theorem zmc_284 : zMc 284 := zmc_of zck_X11_habit
set_option maxRecDepth 100000 in
theorem zcw_285 : zCw 285 := ztg (c := 8) (j := 149) (w := Cond.code yX11_odds cX11_odds 3 (some .int)) rfl rfl
set_option maxRecDepth 100000 in
theorem zmc_285 : zMc 285 := zmc_of zck_X11_odds
set_option maxRecDepth 100000 in
theorem zcw_286 : zCw 286 := ztg (c := 8) (j := 153) (w := Cond.code yX11_line cX11_line 3 (some .int)) rfl rfl
set_option maxRecDepth 100000 in
theorem zmc_286 : zMc 286 := zmc_of zck_X11_line
set_option maxRecDepth 100000 in
theorem zcw_287 : zCw 287 := ztg (c := 8) (j := 157) (w := Cond.code yX11_clear cX11_clear 2 (some .int)) rfl rfl
