set_option maxRecDepth 100000 in
theorem zcw_190 : zCw 190 := ztg (c := 6) (j := 218) (w := Cond.code yX11_meeting cX11_meeting 6 (some .int)) rfl rfl
set_option maxRecDepth 100000 in
theorem zmc_190 : zMc 190 := zmc_of zck_X11_meeting
set_option maxRecDepth 100000 in
theorem zcw_191 : zCw 191 := ztg (c := 6) (j := 226) (w := Cond.code yX11_tear cX11_tear 4 (some .int)) rfl rfl
set_option maxRecDepth 100000 in
theorem zmc_191 : zMc 191 := zmc_of zck_X11_tear
set_option maxRecDepth 100000 in
theorem zcw_192 : zCw 192 := ztg (c := 6) (j := 234) (w := Cond.code yX11_isStanding cX11_isStanding 4 (some .boolean)) rfl rfl
set_option maxRecDepth 100000 in
theorem zmc_192 : zMc 192 := zmc_of zck_X11_isStanding
set_option maxRecDepth 100000 in
theorem zcw_193 : zCw 193 := ztg (c := 6) (j := 230) (w := Cond.code yX11_stands cX11_stands 2 (some .int)) rfl rfl
set_option maxRecDepth 100000 in
theorem zmc_193 : zMc 193 := zmc_of zck_X11_stands
set_option maxRecDepth 100000 in
theorem zcw_194 : zCw 194 := ztg (c := 7) (j := 28) (w := Cond.code yX11_act cX11_act 3 (some .int)) rfl rfl
set_option maxRecDepth 100000 in
theorem zmc_194 : zMc 194 := zmc_of zck_X11_act
set_option maxRecDepth 100000 in
theorem zcw_195 : zCw 195 := ztg (c := 7) (j := 16) (w := Cond.code yX11_puts cX11_puts 3 (none)) rfl rfl
set_option maxRecDepth 100000 in
theorem zmc_195 : zMc 195 := zmc_of zck_X11_puts
set_option maxRecDepth 100000 in
theorem zcw_196 : zCw 196 := ztg (c := 7) (j := 12) (w := Cond.code yX11_begins cX11_begins 6 (none)) rfl rfl
set_option maxRecDepth 100000 in
theorem zmc_196 : zMc 196 := zmc_of zck_X11_begins
set_option maxRecDepth 100000 in
theorem zcw_197 : zCw 197 := ztg (c := 7) (j := 8) (w := Cond.code yX11_isFull cX11_isFull 1 (some .boolean)) rfl rfl
