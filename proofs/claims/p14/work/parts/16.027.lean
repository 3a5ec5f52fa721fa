set_option maxRecDepth 100000 in
theorem zmc_182 : zMc 182 := zmc_of zck_X11_is
set_option maxRecDepth 100000 in
theorem zcw_183 : zCw 183 := ztg (c := 6) (j := 203) (w := Cond.code yX11_one cX11_one 2 (some .int)) rfl rfl
set_option maxRecDepth 100000 in
theorem zmc_183 : zMc 183 := zmc_of zck_X11_one
set_option maxRecDepth 100000 in
theorem zcw_184 : zCw 184 := ztg (c := 6) (j := 210) (w := Cond.code yX11_isDay cX11_isDay 1 (some .boolean)) rfl rfl
set_option maxRecDepth 100000 in
theorem zmc_184 : zMc 184 := zmc_of zck_X11_isDay
set_option maxRecDepth 100000 in
theorem zcw_185 : zCw 185 := ztg (c := 7) (j := 4) (w := Cond.code yX11_isMarkNumber cX11_isMarkNumber 1 (some .boolean)) rfl rfl
set_option maxRecDepth 100000 in
theorem zmc_185 : zMc 185 := zmc_of zck_X11_isMarkNumber
set_option maxRecDepth 100000 in
theorem zcw_186 : zCw 186 := ztg (c := 6) (j := 237) (w := Cond.code yX11_sizeOf cX11_sizeOf 3 (some .int)) rfl rfl
set_option maxRecDepth 100000 in
theorem zmc_186 : zMc 186 := zmc_of zck_X11_sizeOf
set_option maxRecDepth 100000 in
theorem zcw_187 : zCw 187 := ztg (c := 6) (j := 196) (w := Cond.code yX11_course cX11_course 6 (some .int)) rfl rfl
set_option maxRecDepth 100000 in
theorem zmc_187 : zMc 187 := zmc_of zck_X11_course
set_option maxRecDepth 100000 in
theorem zcw_188 : zCw 188 := ztg (c := 6) (j := 207) (w := Cond.code yX11_student cX11_student 3 (some .int)) rfl rfl
set_option maxRecDepth 100000 in
theorem zmc_188 : zMc 188 := zmc_of zck_X11_student
set_option maxRecDepth 100000 in
theorem zcw_189 : zCw 189 := ztg (c := 6) (j := 214) (w := Cond.code yX11_board cX11_board 3 (some .int)) rfl rfl
set_option maxRecDepth 100000 in
theorem zmc_189 : zMc 189 := zmc_of zck_X11_board
