set_option maxRecDepth 100000 in
theorem zcw_205 : zCw 205 := ztg (c := 7) (j := 48) (w := Cond.code yX11_excuse cX11_excuse 5 (some .int)) rfl rfl
set_option maxRecDepth 100000 in
theorem zmc_205 : zMc 205 := zmc_of zck_X11_excuse
set_option maxRecDepth 100000 in
theorem zcw_206 : zCw 206 := ztg (c := 7) (j := 52) (w := Cond.code yX11_strike cX11_strike 4 (some .int)) rfl rfl
set_option maxRecDepth 100000 in
theorem zmc_206 : zMc 206 := zmc_of zck_X11_strike
set_option maxRecDepth 100000 in
theorem zcw_207 : zCw 207 := ztg (c := 7) (j := 56) (w := Cond.code yX11_degree cX11_degree 4 (some .int)) rfl rfl
set_option maxRecDepth 100000 in
theorem zmc_207 : zMc 207 := zmc_of zck_X11_degree
set_option maxRecDepth 100000 in
theorem zcw_208 : zCw 208 := ztg (c := 7) (j := 60) (w := Cond.code yX11_appeal cX11_appeal 3 (some .int)) rfl rfl
set_option maxRecDepth 100000 in
theorem zmc_208 : zMc 208 := zmc_of zck_X11_appeal
set_option maxRecDepth 100000 in
theorem zcw_209 : zCw 209 := ztg (c := 7) (j := 64) (w := Cond.code yX11_days cX11_days 3 (some .int)) rfl rfl
set_option maxRecDepth 100000 in
theorem zmc_209 : zMc 209 := zmc_of zck_X11_days
set_option maxRecDepth 100000 in
theorem zcw_210 : zCw 210 := ztg (c := 7) (j := 68) (w := Cond.code yX11_about cX11_about 3 (some .int)) rfl rfl
set_option maxRecDepth 100000 in
theorem zmc_210 : zMc 210 := zmc_of zck_X11_about
set_option maxRecDepth 100000 in
theorem zcw_211 : zCw 211 := ztg (c := 7) (j := 76) (w := Cond.code yX11_finds cX11_finds 3 (none)) rfl rfl
set_option maxRecDepth 100000 in
theorem zmc_211 : zMc 211 := zmc_of zck_X11_finds
set_option maxRecDepth 100000 in
theorem zcw_212 : zCw 212 := ztg (c := 7) (j := 72) (w := Cond.code yX11_counts cX11_counts 3 (some .int)) rfl rfl
