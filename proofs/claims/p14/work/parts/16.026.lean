set_option maxRecDepth 100000 in
theorem zcw_175 : zCw 175 := ztg (c := 2) (j := 212) (w := Cond.code yX10_isCourse cX10_isCourse 2 (some .boolean)) rfl rfl
set_option maxRecDepth 100000 in
theorem zmc_175 : zMc 175 := zmc_of zck_X10_isCourse
set_option maxRecDepth 100000 in
theorem zcw_176 : zCw 176 := ztg (c := 6) (j := 0) (w := Cond.code yX10_imageAt cX10_imageAt 2 (some (.object "SenateRoll$House"))) rfl rfl
set_option maxRecDepth 100000 in
theorem zmc_176 : zMc 176 := zmc_of zck_X10_imageAt
set_option maxRecDepth 100000 in
theorem zcw_177 : zCw 177 := ztg (c := 2) (j := 148) (w := Cond.code yX10_allCourses cX10_allCourses 1 (some .int)) rfl rfl
set_option maxRecDepth 100000 in
theorem zmc_177 : zMc 177 := zmc_of zck_X10_allCourses
set_option maxRecDepth 100000 in
theorem zcw_178 : zCw 178 := ztg (c := 3) (j := 0) (w := Cond.code yX10_isKnownAfter cX10_isKnownAfter 3 (some .boolean)) rfl rfl
set_option maxRecDepth 100000 in
theorem zmc_178 : zMc 178 := zmc_of zck_X10_isKnownAfter
set_option maxRecDepth 100000 in
theorem zcw_179 : zCw 179 := ztg (c := 3) (j := 4) (w := Cond.code yX10_enterBy cX10_enterBy 4 (some .int)) rfl rfl
set_option maxRecDepth 100000 in
theorem zmc_179 : zMc 179 := zmc_of zck_X10_enterBy
set_option maxRecDepth 100000 in
theorem zcw_180 : zCw 180 := ztg (c := 6) (j := 199) (w := Cond.code yX11_in cX11_in 3 (some .boolean)) rfl rfl
set_option maxRecDepth 100000 in
theorem zmc_180 : zMc 180 := zmc_of zck_X11_in
set_option maxRecDepth 100000 in
theorem zcw_181 : zCw 181 := ztg (c := 6) (j := 53) (w := Cond.code yX11_init cX11_init 1 (none)) rfl rfl
set_option maxRecDepth 100000 in
theorem zmc_181 : zMc 181 := zmc_of zck_X11_init
set_option maxRecDepth 100000 in
theorem zcw_182 : zCw 182 := ztg (c := 6) (j := 222) (w := Cond.code yX11_is cX11_is 3 (some .boolean)) rfl rfl
