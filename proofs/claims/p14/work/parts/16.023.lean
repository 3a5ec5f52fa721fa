set_option maxRecDepth 100000 in
theorem zmc_152 : zMc 152 := zmc_of zck_X10_ordain
set_option maxRecDepth 100000 in
theorem zcw_153 : zCw 153 := ztg (c := 5) (j := 36) (w := Cond.code yX10_choose cX10_choose 4 (some .int)) rfl rfl
set_option maxRecDepth 100000 in
theorem zmc_153 : zMc 153 := zmc_of zck_X10_choose
set_option maxRecDepth 100000 in
theorem zcw_154 : zCw 154 := ztg (c := 5) (j := 40) (w := Cond.code yX10_binds cX10_binds 3 (some .int)) rfl rfl
set_option maxRecDepth 100000 in
theorem zmc_154 : zMc 154 := zmc_of zck_X10_binds
set_option maxRecDepth 100000 in
theorem zcw_155 : zCw 155 := ztg (c := 5) (j := 45) (w := Cond.code yX10_way cX10_way 7 (some .int)) rfl rfl
set_option maxRecDepth 100000 in
theorem zmc_155 : zMc 155 := zmc_of zck_X10_way
set_option maxRecDepth 100000 in
theorem zcw_156 : zCw 156 := ztg (c := 5) (j := 87) (w := Cond.code yX10_wayAt cX10_wayAt 9 (some .int)) rfl rfl
set_option maxRecDepth 100000 in
theorem zmc_156 : zMc 156 := zmc_of zck_X10_wayAt
set_option maxRecDepth 100000 in
theorem zcw_157 : zCw 157 := ztg (c := 5) (j := 100) (w := Cond.code yX10_sits cX10_sits 6 (some .int)) rfl rfl
set_option maxRecDepth 100000 in
theorem zmc_157 : zMc 157 := zmc_of zck_X10_sits
set_option maxRecDepth 100000 in
theorem zcw_158 : zCw 158 := ztg (c := 5) (j := 104) (w := Cond.code yX10_hours cX10_hours 3 (some .int)) rfl rfl
set_option maxRecDepth 100000 in
theorem zmc_158 : zMc 158 := zmc_of zck_X10_hours
set_option maxRecDepth 100000 in
theorem zcw_159 : zCw 159 := ztg (c := 5) (j := 128) (w := Cond.code yX10_hourOf cX10_hourOf 5 (some .int)) rfl rfl
set_option maxRecDepth 100000 in
theorem zmc_159 : zMc 159 := zmc_of zck_X10_hourOf
