set_option maxRecDepth 100000 in
theorem zmc_242 : zMc 242 := zmc_of zck_X11_readsClass
set_option maxRecDepth 100000 in
theorem zcw_243 : zCw 243 := ztg (c := 7) (j := 215) (w := Cond.code yX11_gradeOf cX11_gradeOf 3 (some .int)) rfl rfl
set_option maxRecDepth 100000 in
theorem zmc_243 : zMc 243 := zmc_of zck_X11_gradeOf
set_option maxRecDepth 100000 in
theorem zcw_244 : zCw 244 := ztg (c := 8) (j := 7) (w := Cond.code yX11_rollOf cX11_rollOf 6 (some .int)) rfl rfl
set_option maxRecDepth 100000 in
theorem zmc_244 : zMc 244 := zmc_of zck_X11_rollOf
set_option maxRecDepth 100000 in
theorem zcw_245 : zCw 245 := ztg (c := 7) (j := 112) (w := Cond.code yX11_isAsked cX11_isAsked 4 (some .boolean)) rfl rfl
set_option maxRecDepth 100000 in
theorem zmc_245 : zMc 245 := zmc_of zck_X11_isAsked
set_option maxRecDepth 100000 in
theorem zcw_246 : zCw 246 := ztg (c := 7) (j := 108) (w := Cond.code yX11_passed cX11_passed 4 (some .int)) rfl rfl
set_option maxRecDepth 100000 in
theorem zmc_246 : zMc 246 := zmc_of zck_X11_passed
set_option maxRecDepth 100000 in
theorem zcw_247 : zCw 247 := ztg (c := 7) (j := 211) (w := Cond.code yX11_grade cX11_grade 4 (some .int)) rfl rfl
set_option maxRecDepth 100000 in
theorem zmc_247 : zMc 247 := zmc_of zck_X11_grade
set_option maxRecDepth 100000 in
theorem zcw_248 : zCw 248 := ztg (c := 7) (j := 234) (w := Cond.code yX11_number cX11_number 5 (some .long)) rfl rfl
set_option maxRecDepth 100000 in
theorem zmc_248 : zMc 248 := zmc_of zck_X11_number
set_option maxRecDepth 100000 in
theorem zcw_249 : zCw 249 := ztg (c := 7) (j := 239) (w := Cond.code yX11_edge cX11_edge 7 (some .int)) rfl rfl
set_option maxRecDepth 100000 in
theorem zmc_249 : zMc 249 := zmc_of zck_X11_edge
