set_option maxRecDepth 100000 in
theorem zmc_167 : zMc 167 := zmc_of zck_X10_count
set_option maxRecDepth 100000 in
theorem zcw_168 : zCw 168 := ztg (c := 6) (j := 34) (w := Cond.code yX10_digest cX10_digest 1 (some .long)) rfl rfl
set_option maxRecDepth 100000 in
theorem zmc_168 : zMc 168 := zmc_of zck_X10_digest
set_option maxRecDepth 100000 in
theorem zcw_169 : zCw 169 := ztg (c := 2) (j := 144) (w := Cond.code yX10_within cX10_within 3 (some .boolean)) rfl rfl
set_option maxRecDepth 100000 in
theorem zmc_169 : zMc 169 := zmc_of zck_X10_within
set_option maxRecDepth 100000 in
theorem zcw_170 : zCw 170 := ztg (c := 2) (j := 164) (w := Cond.code yX10_isDay cX10_isDay 1 (some .boolean)) rfl rfl
set_option maxRecDepth 100000 in
theorem zmc_170 : zMc 170 := zmc_of zck_X10_isDay
set_option maxRecDepth 100000 in
theorem zcw_171 : zCw 171 := ztg (c := 2) (j := 215) (w := Cond.code yX10_isMark cX10_isMark 1 (some .boolean)) rfl rfl
set_option maxRecDepth 100000 in
theorem zmc_171 : zMc 171 := zmc_of zck_X10_isMark
set_option maxRecDepth 100000 in
theorem zcw_172 : zCw 172 := ztg (c := 2) (j := 218) (w := Cond.code yX10_isExaminer cX10_isExaminer 1 (some .boolean)) rfl rfl
set_option maxRecDepth 100000 in
theorem zmc_172 : zMc 172 := zmc_of zck_X10_isExaminer
set_option maxRecDepth 100000 in
theorem zcw_173 : zCw 173 := ztg (c := 4) (j := 34) (w := Cond.code yX10_isText cX10_isText 1 (some .boolean)) rfl rfl
set_option maxRecDepth 100000 in
theorem zmc_173 : zMc 173 := zmc_of zck_X10_isText
set_option maxRecDepth 100000 in
theorem zcw_174 : zCw 174 := ztg (c := 2) (j := 208) (w := Cond.code yX10_isStudent cX10_isStudent 2 (some .boolean)) rfl rfl
set_option maxRecDepth 100000 in
theorem zmc_174 : zMc 174 := zmc_of zck_X10_isStudent
