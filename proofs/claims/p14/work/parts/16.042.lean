set_option maxRecDepth 100000 in
theorem zcw_295 : zCw 295 := ztg (c := 8) (j := 185) (w := Cond.code yX11_digest cX11_digest 4 (some .long)) rfl rfl
set_option maxRecDepth 100000 in
theorem zmc_295 : zMc 295 := zmc_of zck_X11_digest
set_option maxRecDepth 100000 in
theorem zcw_296 : zCw 296 := ztg (c := 2) (j := 197) (w := Cond.code yJ6_bitCount_0f7a4 cJ6_bitCount_0f7a4 1 (some .int)) rfl rfl
set_option maxRecDepth 100000 in
theorem zmc_296 : zMc 296 := zmc_of zck_J6_bitCount_0f7a4
set_option maxRecDepth 100000 in
theorem zcw_297 : zCw 297 := ztg (c := 5) (j := 222) (w := Cond.code yJ6_numberOfTrailingZeros_0f7a4 cJ6_numberOfTrailingZeros_0f7a4 2 (some .int)) rfl rfl
set_option maxRecDepth 100000 in
theorem zmc_297 : zMc 297 := zmc_of zck_J6_numberOfTrailingZeros_0f7a4
set_option maxRecDepth 100000 in
theorem zcw_298 : zCw 298 := ztg (c := 3) (j := 153) (w := Cond.code yJ7_fill_d0a16 cJ7_fill_d0a16 5 (none)) rfl rfl
set_option maxRecDepth 100000 in
theorem zmc_298 : zMc 298 := zmc_of zck_J7_fill_d0a16
set_option maxRecDepth 100000 in
theorem zcw_299 : zCw 299 := ztg (c := 4) (j := 90) (w := Cond.code yJ0_charAt_5068e cJ0_charAt_5068e 2 (some .char)) rfl rfl
set_option maxRecDepth 100000 in
theorem zmc_299 : zMc 299 := zmc_of zck_J0_charAt_5068e
set_option maxRecDepth 100000 in
theorem zcw_300 : zCw 300 := ztg (c := 4) (j := 133) (w := Cond.code yJ0_indexOf_0f7a4 cJ0_indexOf_0f7a4 2 (some .int)) rfl rfl
set_option maxRecDepth 100000 in
theorem zmc_300 : zMc 300 := zmc_of zck_J0_indexOf_0f7a4
set_option maxRecDepth 100000 in
theorem zcw_301 : zCw 301 := ztg (c := 4) (j := 137) (w := Cond.code yJ0_indexOf_7cf53 cJ0_indexOf_7cf53 3 (some .int)) rfl rfl
set_option maxRecDepth 100000 in
theorem zmc_301 : zMc 301 := zmc_of zck_J0_indexOf_7cf53
set_option maxRecDepth 100000 in
theorem zcw_302 : zCw 302 := ztg (c := 4) (j := 80) (w := Cond.code yJ0_length_8abf5 cJ0_length_8abf5 1 (some .int)) rfl rfl
