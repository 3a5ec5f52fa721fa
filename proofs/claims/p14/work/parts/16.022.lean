set_option maxRecDepth 100000 in
theorem zcw_145 : zCw 145 := ztg (c := 3) (j := 238) (w := Cond.code yX10_edge cX10_edge 4 (some .int)) rfl rfl
set_option maxRecDepth 100000 in
theorem zmc_145 : zMc 145 := zmc_of zck_X10_edge
set_option maxRecDepth 100000 in
theorem zcw_146 : zCw 146 := ztg (c := 4) (j := 11) (w := Cond.code yX10_roll cX10_roll 4 (some .int)) rfl rfl
set_option maxRecDepth 100000 in
theorem zmc_146 : zMc 146 := zmc_of zck_X10_roll
set_option maxRecDepth 100000 in
theorem zcw_147 : zCw 147 := ztg (c := 4) (j := 21) (w := Cond.code yX10_hangs cX10_hangs 4 (some .int)) rfl rfl
set_option maxRecDepth 100000 in
theorem zmc_147 : zMc 147 := zmc_of zck_X10_hangs
set_option maxRecDepth 100000 in
theorem zcw_148 : zCw 148 := ztg (c := 4) (j := 31) (w := Cond.code yX10_write cX10_write 4 (some .int)) rfl rfl
set_option maxRecDepth 100000 in
theorem zmc_148 : zMc 148 := zmc_of zck_X10_write
set_option maxRecDepth 100000 in
theorem zcw_149 : zCw 149 := ztg (c := 4) (j := 38) (w := Cond.code yX10_erase cX10_erase 3 (some .int)) rfl rfl
set_option maxRecDepth 100000 in
theorem zmc_149 : zMc 149 := zmc_of zck_X10_erase
set_option maxRecDepth 100000 in
theorem zcw_150 : zCw 150 := ztg (c := 4) (j := 42) (w := Cond.code yX10_fault cX10_fault 2 (some .int)) rfl rfl
set_option maxRecDepth 100000 in
theorem zmc_150 : zMc 150 := zmc_of zck_X10_fault
set_option maxRecDepth 100000 in
theorem zcw_151 : zCw 151 := ztg (c := 5) (j := 16) (w := Cond.code yX10_tells cX10_tells 7 (some .long)) rfl rfl
set_option maxRecDepth 100000 in
theorem zmc_151 : zMc 151 := zmc_of zck_X10_tells
set_option maxRecDepth 100000 in
theorem zcw_152 : zCw 152 := ztg (c := 5) (j := 28) (w := Cond.code yX10_ordain cX10_ordain 6 (some .int)) rfl rfl
