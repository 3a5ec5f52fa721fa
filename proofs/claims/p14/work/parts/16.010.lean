set_option maxRecDepth 100000 in
theorem zcw_55 : zCw 55 := ztg (c := 1) (j := 181) (w := Cond.code yX5_init cX5_init 1 (none)) rfl rfl
set_option maxRecDepth 100000 in
theorem zmc_55 : zMc 55 := zmc_of zck_X5_init
set_option maxRecDepth 100000 in
theorem zcw_56 : zCw 56 := ztg (c := 3) (j := 150) (w := Cond.code yX5_forget cX5_forget 1 (none)) rfl rfl
set_option maxRecDepth 100000 in
theorem zmc_56 : zMc 56 := zmc_of zck_X5_forget
set_option maxRecDepth 100000 in
theorem zcw_57 : zCw 57 := ztg (c := 3) (j := 158) (w := Cond.code yX5_tell cX5_tell 4 (none)) rfl rfl
set_option maxRecDepth 100000 in
theorem zmc_57 : zMc 57 := zmc_of zck_X5_tell
set_option maxRecDepth 100000 in
theorem zcw_58 : zCw 58 := ztg (c := 3) (j := 182) (w := Cond.code yX5_told cX5_told 2 (some .long)) rfl rfl
set_option maxRecDepth 100000 in
theorem zmc_58 : zMc 58 := zmc_of zck_X5_told
set_option maxRecDepth 100000 in
theorem zcw_59 : zCw 59 := ztg (c := 3) (j := 211) (w := Cond.code yX5_rank cX5_rank 3 (none)) rfl rfl
set_option maxRecDepth 100000 in
theorem zmc_59 : zMc 59 := zmc_of zck_X5_rank
set_option maxRecDepth 100000 in
theorem zcw_60 : zCw 60 := ztg (c := 3) (j := 190) (w := Cond.code yX5_bestOf cX5_bestOf 6 (some .long)) rfl rfl
set_option maxRecDepth 100000 in
theorem zmc_60 : zMc 60 := zmc_of zck_X5_bestOf
set_option maxRecDepth 100000 in
theorem zcw_61 : zCw 61 := ztg (c := 4) (j := 7) (w := Cond.code yX5_usedMore cX5_usedMore 1 (some .boolean)) rfl rfl
set_option maxRecDepth 100000 in
theorem zmc_61 : zMc 61 := zmc_of zck_X5_usedMore
set_option maxRecDepth 100000 in
theorem zcw_62 : zCw 62 := ztg (c := 3) (j := 169) (w := Cond.code yX5_work cX5_work 8 (some .long)) rfl rfl
