set_option maxRecDepth 100000 in
theorem zmc_257 : zMc 257 := zmc_of zck_X11_ordain
set_option maxRecDepth 100000 in
theorem zcw_258 : zCw 258 := ztg (c := 8) (j := 40) (w := Cond.code yX11_choose cX11_choose 4 (some .int)) rfl rfl
set_option maxRecDepth 100000 in
theorem zmc_258 : zMc 258 := zmc_of zck_X11_choose
set_option maxRecDepth 100000 in
theorem zcw_259 : zCw 259 := ztg (c := 8) (j := 44) (w := Cond.code yX11_binds cX11_binds 3 (some .int)) rfl rfl
set_option maxRecDepth 100000 in
theorem zmc_259 : zMc 259 := zmc_of zck_X11_binds
set_option maxRecDepth 100000 in
theorem zcw_260 : zCw 260 := ztg (c := 8) (j := 68) (w := Cond.code yX11_mayTake cX11_mayTake 7 (some .int)) rfl rfl
set_option maxRecDepth 100000 in
theorem zmc_260 : zMc 260 := zmc_of zck_X11_mayTake
set_option maxRecDepth 100000 in
theorem zcw_261 : zCw 261 := ztg (c := 8) (j := 64) (w := Cond.code yX11_findMay cX11_findMay 5 (none)) rfl rfl
set_option maxRecDepth 100000 in
theorem zmc_261 : zMc 261 := zmc_of zck_X11_findMay
set_option maxRecDepth 100000 in
theorem zcw_262 : zCw 262 := ztg (c := 8) (j := 76) (w := Cond.code yX11_spread cX11_spread 4 (some .int)) rfl rfl
set_option maxRecDepth 100000 in
theorem zmc_262 : zMc 262 := zmc_of zck_X11_spread
set_option maxRecDepth 100000 in
theorem zcw_263 : zCw 263 := ztg (c := 8) (j := 79) (w := Cond.code yX11_next cX11_next 3 (some .int)) rfl rfl
set_option maxRecDepth 100000 in
theorem zmc_263 : zMc 263 := zmc_of zck_X11_next
set_option maxRecDepth 100000 in
theorem zcw_264 : zCw 264 := ztg (c := 8) (j := 72) (w := Cond.code yX11_along cX11_along 2 (some .int)) rfl rfl
set_option maxRecDepth 100000 in
theorem zmc_264 : zMc 264 := zmc_of zck_X11_along
