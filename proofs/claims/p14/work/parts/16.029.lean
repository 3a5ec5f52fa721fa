set_option maxRecDepth 100000 in
theorem zmc_197 : zMc 197 := zmc_of zck_X11_isFull
set_option maxRecDepth 100000 in
theorem zcw_198 : zCw 198 := ztg (c := 7) (j := 24) (w := Cond.code yX11_isMark cX11_isMark 2 (some .boolean)) rfl rfl
set_option maxRecDepth 100000 in
theorem zmc_198 : zMc 198 := zmc_of zck_X11_isMark
set_option maxRecDepth 100000 in
theorem zcw_199 : zCw 199 := ztg (c := 7) (j := 40) (w := Cond.code yX11_dayOf cX11_dayOf 2 (some .int)) rfl rfl
set_option maxRecDepth 100000 in
theorem zmc_199 : zMc 199 := zmc_of zck_X11_dayOf
set_option maxRecDepth 100000 in
theorem zcw_200 : zCw 200 := ztg (c := 7) (j := 36) (w := Cond.code yX11_isBy cX11_isBy 3 (some .boolean)) rfl rfl
set_option maxRecDepth 100000 in
theorem zmc_200 : zMc 200 := zmc_of zck_X11_isBy
set_option maxRecDepth 100000 in
theorem zcw_201 : zCw 201 := ztg (c := 7) (j := 1) (w := Cond.code yX11_mark cX11_mark 7 (some .int)) rfl rfl
set_option maxRecDepth 100000 in
theorem zmc_201 : zMc 201 := zmc_of zck_X11_mark
set_option maxRecDepth 100000 in
theorem zcw_202 : zCw 202 := ztg (c := 7) (j := 20) (w := Cond.code yX11_second cX11_second 6 (some .int)) rfl rfl
set_option maxRecDepth 100000 in
theorem zmc_202 : zMc 202 := zmc_of zck_X11_second
set_option maxRecDepth 100000 in
theorem zcw_203 : zCw 203 := ztg (c := 7) (j := 32) (w := Cond.code yX11_moderate cX11_moderate 5 (some .int)) rfl rfl
set_option maxRecDepth 100000 in
theorem zmc_203 : zMc 203 := zmc_of zck_X11_moderate
set_option maxRecDepth 100000 in
theorem zcw_204 : zCw 204 := ztg (c := 7) (j := 44) (w := Cond.code yX11_scale cX11_scale 7 (some .int)) rfl rfl
set_option maxRecDepth 100000 in
theorem zmc_204 : zMc 204 := zmc_of zck_X11_scale
