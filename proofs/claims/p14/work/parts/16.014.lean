set_option maxRecDepth 100000 in
theorem zcw_85 : zCw 85 := ztg (c := 4) (j := 239) (w := Cond.code yX7_pushUnless cX7_pushUnless 2 (none)) rfl rfl
set_option maxRecDepth 100000 in
theorem zmc_85 : zMc 85 := zmc_of zck_X7_pushUnless
set_option maxRecDepth 100000 in
theorem zcw_86 : zCw 86 := ztg (c := 4) (j := 235) (w := Cond.code yX7_pushOperator cX7_pushOperator 1 (none)) rfl rfl
set_option maxRecDepth 100000 in
theorem zmc_86 : zMc 86 := zmc_of zck_X7_pushOperator
set_option maxRecDepth 100000 in
theorem zcw_87 : zCw 87 := ztg (c := 4) (j := 204) (w := Cond.code yX7_push cX7_push 2 (none)) rfl rfl
set_option maxRecDepth 100000 in
theorem zmc_87 : zMc 87 := zmc_of zck_X7_push
set_option maxRecDepth 100000 in
theorem zcw_88 : zCw 88 := ztg (c := 4) (j := 227) (w := Cond.code yX7_last cX7_last 1 (some .int)) rfl rfl
set_option maxRecDepth 100000 in
theorem zmc_88 : zMc 88 := zmc_of zck_X7_last
set_option maxRecDepth 100000 in
theorem zcw_89 : zCw 89 := ztg (c := 4) (j := 200) (w := Cond.code yX7_emit cX7_emit 3 (none)) rfl rfl
set_option maxRecDepth 100000 in
theorem zmc_89 : zMc 89 := zmc_of zck_X7_emit
set_option maxRecDepth 100000 in
theorem zcw_90 : zCw 90 := ztg (c := 4) (j := 216) (w := Cond.code yX7_rankOf cX7_rankOf 1 (some .int)) rfl rfl
set_option maxRecDepth 100000 in
theorem zmc_90 : zMc 90 := zmc_of zck_X7_rankOf
set_option maxRecDepth 100000 in
theorem zcw_91 : zCw 91 := ztg (c := 4) (j := 188) (w := Cond.code yX7_failUnless cX7_failUnless 2 (none)) rfl rfl
set_option maxRecDepth 100000 in
theorem zmc_91 : zMc 91 := zmc_of zck_X7_failUnless
set_option maxRecDepth 100000 in
theorem zcw_92 : zCw 92 := ztg (c := 4) (j := 128) (w := Cond.code yX7_fail cX7_fail 2 (none)) rfl rfl
