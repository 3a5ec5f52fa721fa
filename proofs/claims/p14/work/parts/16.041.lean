set_option maxRecDepth 100000 in
theorem zmc_287 : zMc 287 := zmc_of zck_X11_clear
set_option maxRecDepth 100000 in
theorem zcw_288 : zCw 288 := ztg (c := 8) (j := 165) (w := Cond.code yX11_sumOf cX11_sumOf 4 (some .int)) rfl rfl
set_option maxRecDepth 100000 in
theorem zmc_288 : zMc 288 := zmc_of zck_X11_sumOf
set_option maxRecDepth 100000 in
theorem zcw_289 : zCw 289 := ztg (c := 8) (j := 161) (w := Cond.code yX11_doubt cX11_doubt 7 (some .int)) rfl rfl
set_option maxRecDepth 100000 in
theorem zmc_289 : zMc 289 := zmc_of zck_X11_doubt
set_option maxRecDepth 100000 in
theorem zcw_290 : zCw 290 := ztg (c := 8) (j := 169) (w := Cond.code yX11_image cX11_image 3 (some .int)) rfl rfl
set_option maxRecDepth 100000 in
theorem zmc_290 : zMc 290 := zmc_of zck_X11_image
set_option maxRecDepth 100000 in
theorem zcw_291 : zCw 291 := ztg (c := 8) (j := 173) (w := Cond.code yX11_from cX11_from 3 (some .int)) rfl rfl
set_option maxRecDepth 100000 in
theorem zmc_291 : zMc 291 := zmc_of zck_X11_from
set_option maxRecDepth 100000 in
theorem zcw_292 : zCw 292 := ztg (c := 8) (j := 181) (w := Cond.code yX11_countOf cX11_countOf 4 (some .int)) rfl rfl
set_option maxRecDepth 100000 in
theorem zmc_292 : zMc 292 := zmc_of zck_X11_countOf
set_option maxRecDepth 100000 in
theorem zcw_293 : zCw 293 := ztg (c := 8) (j := 177) (w := Cond.code yX11_count cX11_count 2 (some .int)) rfl rfl
set_option maxRecDepth 100000 in
theorem zmc_293 : zMc 293 := zmc_of zck_X11_count
set_option maxRecDepth 100000 in
theorem zcw_294 : zCw 294 := ztg (c := 8) (j := 191) (w := Cond.code yX11_mixed cX11_mixed 8 (some .long)) rfl rfl
set_option maxRecDepth 100000 in
theorem zmc_294 : zMc 294 := zmc_of zck_X11_mixed
