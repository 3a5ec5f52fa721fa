set_option maxRecDepth 100000 in
theorem zcw_250 : zCw 250 := ztg (c := 8) (j := 3) (w := Cond.code yX11_roll cX11_roll 4 (some .int)) rfl rfl
set_option maxRecDepth 100000 in
theorem zmc_250 : zMc 250 := zmc_of zck_X11_roll
set_option maxRecDepth 100000 in
theorem zcw_251 : zCw 251 := ztg (c := 8) (j := 11) (w := Cond.code yX11_hangs cX11_hangs 7 (some .int)) rfl rfl
set_option maxRecDepth 100000 in
theorem zmc_251 : zMc 251 := zmc_of zck_X11_hangs
set_option maxRecDepth 100000 in
theorem zcw_252 : zCw 252 := ztg (c := 8) (j := 18) (w := Cond.code yX11_isText cX11_isText 1 (some .boolean)) rfl rfl
set_option maxRecDepth 100000 in
theorem zmc_252 : zMc 252 := zmc_of zck_X11_isText
set_option maxRecDepth 100000 in
theorem zcw_253 : zCw 253 := ztg (c := 8) (j := 15) (w := Cond.code yX11_write cX11_write 4 (some .int)) rfl rfl
set_option maxRecDepth 100000 in
theorem zmc_253 : zMc 253 := zmc_of zck_X11_write
set_option maxRecDepth 100000 in
theorem zcw_254 : zCw 254 := ztg (c := 8) (j := 22) (w := Cond.code yX11_erase cX11_erase 3 (some .int)) rfl rfl
set_option maxRecDepth 100000 in
theorem zmc_254 : zMc 254 := zmc_of zck_X11_erase
set_option maxRecDepth 100000 in
theorem zcw_255 : zCw 255 := ztg (c := 8) (j := 26) (w := Cond.code yX11_fault cX11_fault 2 (some .int)) rfl rfl
set_option maxRecDepth 100000 in
theorem zmc_255 : zMc 255 := zmc_of zck_X11_fault
set_option maxRecDepth 100000 in
theorem zcw_256 : zCw 256 := ztg (c := 8) (j := 30) (w := Cond.code yX11_tells cX11_tells 6 (some .long)) rfl rfl
set_option maxRecDepth 100000 in
theorem zmc_256 : zMc 256 := zmc_of zck_X11_tells
set_option maxRecDepth 100000 in
theorem zcw_257 : zCw 257 := ztg (c := 8) (j := 36) (w := Cond.code yX11_ordain cX11_ordain 7 (some .int)) rfl rfl
