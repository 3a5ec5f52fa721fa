set_option maxRecDepth 100000 in
theorem zmc_122 : zMc 122 := zmc_of zck_X10_init
set_option maxRecDepth 100000 in
theorem zcw_123 : zCw 123 := ztg (c := 2) (j := 141) (w := Cond.code yX10_course cX10_course 6 (some .int)) rfl rfl
set_option maxRecDepth 100000 in
theorem zmc_123 : zMc 123 := zmc_of zck_X10_course
set_option maxRecDepth 100000 in
theorem zcw_124 : zCw 124 := ztg (c := 2) (j := 161) (w := Cond.code yX10_student cX10_student 3 (some .int)) rfl rfl
set_option maxRecDepth 100000 in
theorem zmc_124 : zMc 124 := zmc_of zck_X10_student
set_option maxRecDepth 100000 in
theorem zcw_125 : zCw 125 := ztg (c := 2) (j := 168) (w := Cond.code yX10_board cX10_board 4 (some .int)) rfl rfl
set_option maxRecDepth 100000 in
theorem zmc_125 : zMc 125 := zmc_of zck_X10_board
set_option maxRecDepth 100000 in
theorem zcw_126 : zCw 126 := ztg (c := 2) (j := 172) (w := Cond.code yX10_meeting cX10_meeting 6 (some .int)) rfl rfl
set_option maxRecDepth 100000 in
theorem zmc_126 : zMc 126 := zmc_of zck_X10_meeting
set_option maxRecDepth 100000 in
theorem zcw_127 : zCw 127 := ztg (c := 2) (j := 180) (w := Cond.code yX10_tear cX10_tear 4 (some .int)) rfl rfl
set_option maxRecDepth 100000 in
theorem zmc_127 : zMc 127 := zmc_of zck_X10_tear
set_option maxRecDepth 100000 in
theorem zcw_128 : zCw 128 := ztg (c := 2) (j := 188) (w := Cond.code yX10_stands cX10_stands 2 (some .int)) rfl rfl
set_option maxRecDepth 100000 in
theorem zmc_128 : zMc 128 := zmc_of zck_X10_stands
set_option maxRecDepth 100000 in
theorem zcw_129 : zCw 129 := ztg (c := 2) (j := 204) (w := Cond.code yX10_mark cX10_mark 8 (some .int)) rfl rfl
set_option maxRecDepth 100000 in
theorem zmc_129 : zMc 129 := zmc_of zck_X10_mark
