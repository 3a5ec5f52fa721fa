set_option maxRecDepth 100000 in
theorem zmc_212 : zMc 212 := zmc_of zck_X11_counts
set_option maxRecDepth 100000 in
theorem zcw_213 : zCw 213 := ztg (c := 7) (j := 88) (w := Cond.code yX11_lastOf cX11_lastOf 4 (some .int)) rfl rfl
set_option maxRecDepth 100000 in
theorem zmc_213 : zMc 213 := zmc_of zck_X11_lastOf
set_option maxRecDepth 100000 in
theorem zcw_214 : zCw 214 := ztg (c := 7) (j := 92) (w := Cond.code yX11_scaledFor cX11_scaledFor 3 (some .int)) rfl rfl
set_option maxRecDepth 100000 in
theorem zmc_214 : zMc 214 := zmc_of zck_X11_scaledFor
set_option maxRecDepth 100000 in
theorem zcw_215 : zCw 215 := ztg (c := 7) (j := 96) (w := Cond.code yX11_isLater cX11_isLater 4 (some .boolean)) rfl rfl
set_option maxRecDepth 100000 in
theorem zmc_215 : zMc 215 := zmc_of zck_X11_isLater
set_option maxRecDepth 100000 in
theorem zcw_216 : zCw 216 := ztg (c := 7) (j := 84) (w := Cond.code yX11_stepOf cX11_stepOf 8 (some .int)) rfl rfl
set_option maxRecDepth 100000 in
theorem zmc_216 : zMc 216 := zmc_of zck_X11_stepOf
set_option maxRecDepth 100000 in
theorem zcw_217 : zCw 217 := ztg (c := 7) (j := 80) (w := Cond.code yX11_step cX11_step 4 (some .int)) rfl rfl
set_option maxRecDepth 100000 in
theorem zmc_217 : zMc 217 := zmc_of zck_X11_step
set_option maxRecDepth 100000 in
theorem zcw_218 : zCw 218 := ztg (c := 7) (j := 104) (w := Cond.code yX11_findCourses cX11_findCourses 5 (none)) rfl rfl
set_option maxRecDepth 100000 in
theorem zmc_218 : zMc 218 := zmc_of zck_X11_findCourses
set_option maxRecDepth 100000 in
theorem zcw_219 : zCw 219 := ztg (c := 7) (j := 100) (w := Cond.code yX11_outcome cX11_outcome 5 (some .int)) rfl rfl
set_option maxRecDepth 100000 in
theorem zmc_219 : zMc 219 := zmc_of zck_X11_outcome
