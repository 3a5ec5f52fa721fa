set_option maxRecDepth 100000 in
theorem zmc_302 : zMc 302 := zmc_of zck_J0_length_8abf5
set_option maxRecDepth 100000 in
theorem zcw_303 : zCw 303 := ztg (c := 4) (j := 84) (w := Cond.code yJ0_coder_7d493 cJ0_coder_7d493 1 (some .byte)) rfl rfl
set_option maxRecDepth 100000 in
theorem zmc_303 : zMc 303 := zmc_of zck_J0_coder_7d493
set_option maxRecDepth 100000 in
theorem zcw_304 : zCw 304 := ztg (c := 4) (j := 94) (w := Cond.code yJ0_isLatin1_aae02 cJ0_isLatin1_aae02 1 (some .boolean)) rfl rfl
set_option maxRecDepth 100000 in
theorem zmc_304 : zMc 304 := zmc_of zck_J0_isLatin1_aae02
set_option maxRecDepth 100000 in
theorem zcw_305 : zCw 305 := ztg (c := 4) (j := 100) (w := Cond.code yJ0_checkIndex_df160 cJ0_checkIndex_df160 2 (none)) rfl rfl
set_option maxRecDepth 100000 in
theorem zmc_305 : zMc 305 := zmc_of zck_J0_checkIndex_df160
set_option maxRecDepth 100000 in
theorem zcw_306 : zCw 306 := ztg (c := 4) (j := 97) (w := Cond.code yJ1_charAt_3b067 cJ1_charAt_3b067 2 (some .char)) rfl rfl
set_option maxRecDepth 100000 in
theorem zmc_306 : zMc 306 := zmc_of zck_J1_charAt_3b067
set_option maxRecDepth 100000 in
theorem zcw_307 : zCw 307 := ztg (c := 4) (j := 144) (w := Cond.code yJ1_canEncode_9a6ad cJ1_canEncode_9a6ad 1 (some .boolean)) rfl rfl
set_option maxRecDepth 100000 in
theorem zmc_307 : zMc 307 := zmc_of zck_J1_canEncode_9a6ad
set_option maxRecDepth 100000 in
theorem zcw_308 : zCw 308 := ztg (c := 4) (j := 141) (w := Cond.code yJ1_indexOf_4cfef cJ1_indexOf_4cfef 4 (some .int)) rfl rfl
set_option maxRecDepth 100000 in
theorem zmc_308 : zMc 308 := zmc_of zck_J1_indexOf_4cfef
set_option maxRecDepth 100000 in
theorem zcw_309 : zCw 309 := ztg (c := 4) (j := 149) (w := Cond.code yJ1_indexOfChar_4cfef cJ1_indexOfChar_4cfef 6 (some .int)) rfl rfl
set_option maxRecDepth 100000 in
theorem zmc_309 : zMc 309 := zmc_of zck_J1_indexOfChar_4cfef
