set_option maxRecDepth 100000 in
theorem zcw_235 : zCw 235 := ztg (c := 7) (j := 198) (w := Cond.code yX11_goes cX11_goes 3 (some .long)) rfl rfl
set_option maxRecDepth 100000 in
theorem zmc_235 : zMc 235 := zmc_of zck_X11_goes
set_option maxRecDepth 100000 in
theorem zcw_236 : zCw 236 := ztg (c := 7) (j := 124) (w := Cond.code yX11_latestOf cX11_latestOf 7 (some .int)) rfl rfl
set_option maxRecDepth 100000 in
theorem zmc_236 : zMc 236 := zmc_of zck_X11_latestOf
set_option maxRecDepth 100000 in
theorem zcw_237 : zCw 237 := ztg (c := 7) (j := 120) (w := Cond.code yX11_bindsOf cX11_bindsOf 5 (some .int)) rfl rfl
set_option maxRecDepth 100000 in
theorem zmc_237 : zMc 237 := zmc_of zck_X11_bindsOf
set_option maxRecDepth 100000 in
theorem zcw_238 : zCw 238 := ztg (c := 7) (j := 194) (w := Cond.code yX11_courseNames cX11_courseNames 3 (none)) rfl rfl
set_option maxRecDepth 100000 in
theorem zmc_238 : zMc 238 := zmc_of zck_X11_courseNames
set_option maxRecDepth 100000 in
theorem zcw_239 : zCw 239 := ztg (c := 7) (j := 227) (w := Cond.code yX11_aloneNames cX11_aloneNames 2 (none)) rfl rfl
set_option maxRecDepth 100000 in
theorem zmc_239 : zMc 239 := zmc_of zck_X11_aloneNames
set_option maxRecDepth 100000 in
theorem zcw_240 : zCw 240 := ztg (c := 7) (j := 116) (w := Cond.code yX11_findStudent cX11_findStudent 7 (none)) rfl rfl
set_option maxRecDepth 100000 in
theorem zmc_240 : zMc 240 := zmc_of zck_X11_findStudent
set_option maxRecDepth 100000 in
theorem zcw_241 : zCw 241 := ztg (c := 7) (j := 223) (w := Cond.code yX11_classOf cX11_classOf 4 (some .int)) rfl rfl
set_option maxRecDepth 100000 in
theorem zmc_241 : zMc 241 := zmc_of zck_X11_classOf
set_option maxRecDepth 100000 in
theorem zcw_242 : zCw 242 := ztg (c := 7) (j := 219) (w := Cond.code yX11_readsClass cX11_readsClass 4 (some .int)) rfl rfl
