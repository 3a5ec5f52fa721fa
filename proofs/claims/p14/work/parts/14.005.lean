set_option maxRecDepth 100000 in
theorem zck_X7_read : (zwalk cX7_read cX7_read.data.toList 0 zk_X7_read && zk_X7_read.all (zokB zpool_7 ztsl zstt false (some .int) cX7_read)) = true := by decide +kernel
set_option maxRecDepth 100000 in
theorem zck_X7_copyTo : (zwalk cX7_copyTo cX7_copyTo.data.toList 0 zk_X7_copyTo && zk_X7_copyTo.all (zokB zpool_7 ztsl zstt false (none) cX7_copyTo)) = true := by decide +kernel
set_option maxRecDepth 100000 in
theorem zck_X7_takeUnit : (zwalk cX7_takeUnit cX7_takeUnit.data.toList 0 zk_X7_takeUnit && zk_X7_takeUnit.all (zokB zpool_7 ztsl zstt false (none) cX7_takeUnit)) = true := by decide +kernel
set_option maxRecDepth 100000 in
theorem zck_X7_takeBehindUnit : (zwalk cX7_takeBehindUnit cX7_takeBehindUnit.data.toList 0 zk_X7_takeBehindUnit && zk_X7_takeBehindUnit.all (zokB zpool_7 ztsl zstt false (none) cX7_takeBehindUnit)) = true := by decide +kernel
set_option maxRecDepth 100000 in
theorem zck_X7_takeNumber : (zwalk cX7_takeNumber cX7_takeNumber.data.toList 0 zk_X7_takeNumber && zk_X7_takeNumber.all (zokB zpool_7 ztsl zstt false (none) cX7_takeNumber)) = true := by decide +kernel
set_option maxRecDepth 100000 in
theorem zck_X7_openOne : (zwalk cX7_openOne cX7_openOne.data.toList 0 zk_X7_openOne && zk_X7_openOne.all (zokB zpool_7 ztsl zstt false (none) cX7_openOne)) = true := by decide +kernel
set_option maxRecDepth 100000 in
theorem zck_X7_closeOne : (zwalk cX7_closeOne cX7_closeOne.data.toList 0 zk_X7_closeOne && zk_X7_closeOne.all (zokB zpool_7 ztsl zstt false (none) cX7_closeOne)) = true := by decide +kernel
set_option maxRecDepth 100000 in
theorem zck_X7_turnIfToElse : (zwalk cX7_turnIfToElse cX7_turnIfToElse.data.toList 0 zk_X7_turnIfToElse && zk_X7_turnIfToElse.all (zokB zpool_7 ztsl zstt false (none) cX7_turnIfToElse)) = true := by decide +kernel
set_option maxRecDepth 100000 in
theorem zck_X7_endCases : (zwalk cX7_endCases cX7_endCases.data.toList 0 zk_X7_endCases && zk_X7_endCases.all (zokB zpool_7 ztsl zstt false (none) cX7_endCases)) = true := by decide +kernel
set_option maxRecDepth 100000 in
theorem zck_X7_emitDownTo : (zwalk cX7_emitDownTo cX7_emitDownTo.data.toList 0 zk_X7_emitDownTo && zk_X7_emitDownTo.all (zokB zpool_7 ztsl zstt false (none) cX7_emitDownTo)) = true := by decide +kernel
set_option maxRecDepth 100000 in
theorem zck_X7_pushUnless : (zwalk cX7_pushUnless cX7_pushUnless.data.toList 0 zk_X7_pushUnless && zk_X7_pushUnless.all (zokB zpool_7 ztsl zstt false (none) cX7_pushUnless)) = true := by decide +kernel
set_option maxRecDepth 100000 in
theorem zck_X7_pushOperator : (zwalk cX7_pushOperator cX7_pushOperator.data.toList 0 zk_X7_pushOperator && zk_X7_pushOperator.all (zokB zpool_7 ztsl zstt false (none) cX7_pushOperator)) = true := by decide +kernel
set_option maxRecDepth 100000 in
theorem zck_X7_push : (zwalk cX7_push cX7_push.data.toList 0 zk_X7_push && zk_X7_push.all (zokB zpool_7 ztsl zstt false (none) cX7_push)) = true := by decide +kernel
set_option maxRecDepth 100000 in
theorem zck_X7_last : (zwalk cX7_last cX7_last.data.toList 0 zk_X7_last && zk_X7_last.all (zokB zpool_7 ztsl zstt false (some .int) cX7_last)) = true := by decide +kernel
set_option maxRecDepth 100000 in
theorem zck_X7_emit : (zwalk cX7_emit cX7_emit.data.toList 0 zk_X7_emit && zk_X7_emit.all (zokB zpool_7 ztsl zstt false (none) cX7_emit)) = true := by decide +kernel
