set_option maxRecDepth 100000 in
theorem zcw_220 : zCw 220 := ztg (c := 7) (j := 167) (w := Cond.code yX11_emits cX11_emits 3 (none)) rfl rfl
set_option maxRecDepth 100000 in
theorem zmc_220 : zMc 220 := zmc_of zck_X11_emits
set_option maxRecDepth 100000 in
theorem zcw_221 : zCw 221 := ztg (c := 7) (j := 163) (w := Cond.code yX11_holds cX11_holds 1 (some .int)) rfl rfl
set_option maxRecDepth 100000 in
theorem zmc_221 : zMc 221 := zmc_of zck_X11_holds
set_option maxRecDepth 100000 in
theorem zcw_222 : zCw 222 := ztg (c := 7) (j := 171) (w := Cond.code yX11_top cX11_top 1 (some .int)) rfl rfl
set_option maxRecDepth 100000 in
theorem zmc_222 : zMc 222 := zmc_of zck_X11_top
set_option maxRecDepth 100000 in
theorem zcw_223 : zCw 223 := ztg (c := 7) (j := 175) (w := Cond.code yX11_waitsWith cX11_waitsWith 2 (none)) rfl rfl
set_option maxRecDepth 100000 in
theorem zmc_223 : zMc 223 := zmc_of zck_X11_waitsWith
set_option maxRecDepth 100000 in
theorem zcw_224 : zCw 224 := ztg (c := 7) (j := 160) (w := Cond.code yX11_settles cX11_settles 2 (none)) rfl rfl
set_option maxRecDepth 100000 in
theorem zmc_224 : zMc 224 := zmc_of zck_X11_settles
set_option maxRecDepth 100000 in
theorem zcw_225 : zCw 225 := ztg (c := 7) (j := 183) (w := Cond.code yX11_settlesCase cX11_settlesCase 1 (some .boolean)) rfl rfl
set_option maxRecDepth 100000 in
theorem zmc_225 : zMc 225 := zmc_of zck_X11_settlesCase
set_option maxRecDepth 100000 in
theorem zcw_226 : zCw 226 := ztg (c := 7) (j := 179) (w := Cond.code yX11_settlesValue cX11_settlesValue 1 (some .boolean)) rfl rfl
set_option maxRecDepth 100000 in
theorem zmc_226 : zMc 226 := zmc_of zck_X11_settlesValue
set_option maxRecDepth 100000 in
theorem zcw_227 : zCw 227 := ztg (c := 7) (j := 190) (w := Cond.code yX11_signOf cX11_signOf 1 (some .int)) rfl rfl
