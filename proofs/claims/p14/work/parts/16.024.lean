set_option maxRecDepth 100000 in
theorem zcw_160 : zCw 160 := ztg (c := 5) (j := 137) (w := Cond.code yX10_habit cX10_habit 4 (some .int)) rfl rfl
set_option maxRecDepth 100000 in
theorem zmc_160 : zMc 160 := zmc_of zck_X10_habit
set_option maxRecDepth 100000 in
theorem zcw_161 : zCw 161 := ztg (c := 5) (j := 195) (w := Cond.code yX10_odds cX10_odds 3 (some .int)) rfl rfl
set_option maxRecDepth 100000 in
theorem zmc_161 : zMc 161 := zmc_of zck_X10_odds
set_option maxRecDepth 100000 in
theorem zcw_162 : zCw 162 := ztg (c := 5) (j := 199) (w := Cond.code yX10_line cX10_line 4 (some .int)) rfl rfl
set_option maxRecDepth 100000 in
theorem zmc_162 : zMc 162 := zmc_of zck_X10_line
set_option maxRecDepth 100000 in
theorem zcw_163 : zCw 163 := ztg (c := 5) (j := 203) (w := Cond.code yX10_clear cX10_clear 2 (some .int)) rfl rfl
set_option maxRecDepth 100000 in
theorem zmc_163 : zMc 163 := zmc_of zck_X10_clear
set_option maxRecDepth 100000 in
theorem zcw_164 : zCw 164 := ztg (c := 5) (j := 208) (w := Cond.code yX10_doubt cX10_doubt 3 (some .int)) rfl rfl
set_option maxRecDepth 100000 in
theorem zmc_164 : zMc 164 := zmc_of zck_X10_doubt
set_option maxRecDepth 100000 in
theorem zcw_165 : zCw 165 := ztg (c := 5) (j := 236) (w := Cond.code yX10_image cX10_image 2 (some .int)) rfl rfl
set_option maxRecDepth 100000 in
theorem zmc_165 : zMc 165 := zmc_of zck_X10_image
set_option maxRecDepth 100000 in
theorem zcw_166 : zCw 166 := ztg (c := 6) (j := 16) (w := Cond.code yX10_from cX10_from 2 (some .int)) rfl rfl
set_option maxRecDepth 100000 in
theorem zmc_166 : zMc 166 := zmc_of zck_X10_from
set_option maxRecDepth 100000 in
theorem zcw_167 : zCw 167 := ztg (c := 6) (j := 20) (w := Cond.code yX10_count cX10_count 2 (some .int)) rfl rfl
