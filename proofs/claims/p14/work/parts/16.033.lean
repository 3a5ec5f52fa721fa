set_option maxRecDepth 100000 in
theorem zmc_227 : zMc 227 := zmc_of zck_X11_signOf
set_option maxRecDepth 100000 in
theorem zcw_228 : zCw 228 := ztg (c := 7) (j := 156) (w := Cond.code yX11_goesOn cX11_goesOn 3 (some .boolean)) rfl rfl
set_option maxRecDepth 100000 in
theorem zmc_228 : zMc 228 := zmc_of zck_X11_goesOn
set_option maxRecDepth 100000 in
theorem zcw_229 : zCw 229 := ztg (c := 7) (j := 132) (w := Cond.code yX11_wordAt cX11_wordAt 7 (some .long)) rfl rfl
set_option maxRecDepth 100000 in
theorem zmc_229 : zMc 229 := zmc_of zck_X11_wordAt
set_option maxRecDepth 100000 in
theorem zcw_230 : zCw 230 := ztg (c := 7) (j := 137) (w := Cond.code yX11_wordOf cX11_wordOf 2 (some .int)) rfl rfl
set_option maxRecDepth 100000 in
theorem zmc_230 : zMc 230 := zmc_of zck_X11_wordOf
set_option maxRecDepth 100000 in
theorem zcw_231 : zCw 231 := ztg (c := 7) (j := 128) (w := Cond.code yX11_reads cX11_reads 8 (some .int)) rfl rfl
set_option maxRecDepth 100000 in
theorem zmc_231 : zMc 231 := zmc_of zck_X11_reads
set_option maxRecDepth 100000 in
theorem zcw_232 : zCw 232 := ztg (c := 7) (j := 187) (w := Cond.code yX11_closes cX11_closes 1 (some .int)) rfl rfl
set_option maxRecDepth 100000 in
theorem zmc_232 : zMc 232 := zmc_of zck_X11_closes
set_option maxRecDepth 100000 in
theorem zcw_233 : zCw 233 := ztg (c := 7) (j := 202) (w := Cond.code yX11_bestOf cX11_bestOf 6 (some .long)) rfl rfl
set_option maxRecDepth 100000 in
theorem zmc_233 : zMc 233 := zmc_of zck_X11_bestOf
set_option maxRecDepth 100000 in
theorem zcw_234 : zCw 234 := ztg (c := 7) (j := 207) (w := Cond.code yX11_twoOf cX11_twoOf 6 (some .long)) rfl rfl
set_option maxRecDepth 100000 in
theorem zmc_234 : zMc 234 := zmc_of zck_X11_twoOf
