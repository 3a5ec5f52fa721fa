set_option maxRecDepth 100000 in
theorem zmc_92 : zMc 92 := zmc_of zck_X7_fail
set_option maxRecDepth 100000 in
theorem zcw_93 : zCw 93 := ztg (c := 4) (j := 53) (w := Cond.code yX7_nextToken cX7_nextToken 2 (none)) rfl rfl
set_option maxRecDepth 100000 in
theorem zmc_93 : zMc 93 := zmc_of zck_X7_nextToken
set_option maxRecDepth 100000 in
theorem zcw_94 : zCw 94 := ztg (c := 4) (j := 64) (w := Cond.code yX7_nextNumber cX7_nextNumber 1 (none)) rfl rfl
set_option maxRecDepth 100000 in
theorem zmc_94 : zMc 94 := zmc_of zck_X7_nextNumber
set_option maxRecDepth 100000 in
theorem zcw_95 : zCw 95 := ztg (c := 4) (j := 71) (w := Cond.code yX7_nextWord cX7_nextWord 1 (none)) rfl rfl
set_option maxRecDepth 100000 in
theorem zmc_95 : zMc 95 := zmc_of zck_X7_nextWord
set_option maxRecDepth 100000 in
theorem zcw_96 : zCw 96 := ztg (c := 4) (j := 75) (w := Cond.code yX7_wordThere cX7_wordThere 6 (some .int)) rfl rfl
set_option maxRecDepth 100000 in
theorem zmc_96 : zMc 96 := zmc_of zck_X7_wordThere
set_option maxRecDepth 100000 in
theorem zcw_97 : zCw 97 := ztg (c := 4) (j := 57) (w := Cond.code yX7_letter cX7_letter 2 (some .int)) rfl rfl
set_option maxRecDepth 100000 in
theorem zmc_97 : zMc 97 := zmc_of zck_X7_letter
set_option maxRecDepth 100000 in
theorem zcw_98 : zCw 98 := ztg (c := 4) (j := 60) (w := Cond.code yX7_isDigit cX7_isDigit 1 (some .boolean)) rfl rfl
set_option maxRecDepth 100000 in
theorem zmc_98 : zMc 98 := zmc_of zck_X7_isDigit
set_option maxRecDepth 100000 in
theorem zcw_99 : zCw 99 := ztg (c := 4) (j := 67) (w := Cond.code yX7_isLetter cX7_isLetter 1 (some .boolean)) rfl rfl
set_option maxRecDepth 100000 in
theorem zmc_99 : zMc 99 := zmc_of zck_X7_isLetter
