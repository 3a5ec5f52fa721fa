set_option maxRecDepth 100000 in
theorem zcw_115 : zCw 115 := ztg (c := 5) (j := 96) (w := Cond.code yX9_greatestSet cX9_greatestSet 8 (some .int)) rfl rfl
set_option maxRecDepth 100000 in
theorem zmc_115 : zMc 115 := zmc_of zck_X9_greatestSet
set_option maxRecDepth 100000 in
theorem zcw_116 : zCw 116 := ztg (c := 5) (j := 57) (w := Cond.code yX9_fewestFor cX9_fewestFor 12 (some .int)) rfl rfl
set_option maxRecDepth 100000 in
theorem zmc_116 : zMc 116 := zmc_of zck_X9_fewestFor
set_option maxRecDepth 100000 in
theorem zcw_117 : zCw 117 := ztg (c := 5) (j := 61) (w := Cond.code yX9_freeIn cX9_freeIn 6 (some .int)) rfl rfl
set_option maxRecDepth 100000 in
theorem zmc_117 : zMc 117 := zmc_of zck_X9_freeIn
set_option maxRecDepth 100000 in
theorem zcw_118 : zCw 118 := ztg (c := 5) (j := 65) (w := Cond.code yX9_isTaught cX9_isTaught 3 (some .boolean)) rfl rfl
set_option maxRecDepth 100000 in
theorem zmc_118 : zMc 118 := zmc_of zck_X9_isTaught
set_option maxRecDepth 100000 in
theorem zcw_119 : zCw 119 := ztg (c := 5) (j := 71) (w := Cond.code yX9_leastFor cX9_leastFor 6 (some .int)) rfl rfl
set_option maxRecDepth 100000 in
theorem zmc_119 : zMc 119 := zmc_of zck_X9_leastFor
set_option maxRecDepth 100000 in
theorem zcw_120 : zCw 120 := ztg (c := 5) (j := 83) (w := Cond.code yX9_leastWithin cX9_leastWithin 5 (some .int)) rfl rfl
set_option maxRecDepth 100000 in
theorem zmc_120 : zMc 120 := zmc_of zck_X9_leastWithin
set_option maxRecDepth 100000 in
theorem zcw_121 : zCw 121 := ztg (c := 5) (j := 76) (w := Cond.code yX9_earliest cX9_earliest 7 (some .int)) rfl rfl
set_option maxRecDepth 100000 in
theorem zmc_121 : zMc 121 := zmc_of zck_X9_earliest
set_option maxRecDepth 100000 in
theorem zcw_122 : zCw 122 := ztg (c := 1) (j := 26) (w := Cond.code yX10_init cX10_init 1 (none)) rfl rfl
