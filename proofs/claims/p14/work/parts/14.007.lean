set_option maxRecDepth 100000 in
theorem zck_X8_dropLast : (zwalk cX8_dropLast cX8_dropLast.data.toList 0 zk_X8_dropLast && zk_X8_dropLast.all (zokB zpool_8 ztsl zstt false (none) cX8_dropLast)) = true := by decide +kernel
set_option maxRecDepth 100000 in
theorem zck_X8_get : (zwalk cX8_get cX8_get.data.toList 0 zk_X8_get && zk_X8_get.all (zokB zpool_8 ztsl zstt false (some .int) cX8_get)) = true := by decide +kernel
set_option maxRecDepth 100000 in
theorem zck_X8_set : (zwalk cX8_set cX8_set.data.toList 0 zk_X8_set && zk_X8_set.all (zokB zpool_8 ztsl zstt false (none) cX8_set)) = true := by decide +kernel
set_option maxRecDepth 100000 in
theorem zck_X8_add : (zwalk cX8_add cX8_add.data.toList 0 zk_X8_add && zk_X8_add.all (zokB zpool_8 ztsl zstt false (none) cX8_add)) = true := by decide +kernel
set_option maxRecDepth 100000 in
theorem zck_X8_fillColumn : (zwalk cX8_fillColumn cX8_fillColumn.data.toList 0 zk_X8_fillColumn && zk_X8_fillColumn.all (zokB zpool_8 ztsl zstt false (none) cX8_fillColumn)) = true := by decide +kernel
set_option maxRecDepth 100000 in
theorem zck_X8_takeOver : (zwalk cX8_takeOver cX8_takeOver.data.toList 0 zk_X8_takeOver && zk_X8_takeOver.all (zokB zpool_8 ztsl zstt false (none) cX8_takeOver)) = true := by decide +kernel
set_option maxRecDepth 100000 in
theorem zck_X9_init : (zwalk cX9_init cX9_init.data.toList 0 zk_X9_init && zk_X9_init.all (zokB zpool_9 ztsl zstt true (none) cX9_init)) = true := by decide +kernel
set_option maxRecDepth 100000 in
theorem zck_X9_lead : (zwalk cX9_lead cX9_lead.data.toList 0 zk_X9_lead && zk_X9_lead.all (zokB zpool_9 ztsl zstt false (none) cX9_lead)) = true := by decide +kernel
set_option maxRecDepth 100000 in
theorem zck_X9_termsFrom : (zwalk cX9_termsFrom cX9_termsFrom.data.toList 0 zk_X9_termsFrom && zk_X9_termsFrom.all (zokB zpool_9 ztsl zstt false (some .int) cX9_termsFrom)) = true := by decide +kernel
set_option maxRecDepth 100000 in
theorem zck_X9_setAt : (zwalk cX9_setAt cX9_setAt.data.toList 0 zk_X9_setAt && zk_X9_setAt.all (zokB zpool_9 ztsl zstt false (some .int) cX9_setAt)) = true := by decide +kernel
set_option maxRecDepth 100000 in
theorem zck_X9_greatestSet : (zwalk cX9_greatestSet cX9_greatestSet.data.toList 0 zk_X9_greatestSet && zk_X9_greatestSet.all (zokB zpool_9 ztsl zstt false (some .int) cX9_greatestSet)) = true := by decide +kernel
set_option maxRecDepth 100000 in
theorem zck_X9_fewestFor : (zwalk cX9_fewestFor cX9_fewestFor.data.toList 0 zk_X9_fewestFor && zk_X9_fewestFor.all (zokB zpool_9 ztsl zstt false (some .int) cX9_fewestFor)) = true := by decide +kernel
set_option maxRecDepth 100000 in
theorem zck_X9_freeIn : (zwalk cX9_freeIn cX9_freeIn.data.toList 0 zk_X9_freeIn && zk_X9_freeIn.all (zokB zpool_9 ztsl zstt false (some .int) cX9_freeIn)) = true := by decide +kernel
set_option maxRecDepth 100000 in
theorem zck_X9_isTaught : (zwalk cX9_isTaught cX9_isTaught.data.toList 0 zk_X9_isTaught && zk_X9_isTaught.all (zokB zpool_9 ztsl zstt false (some .boolean) cX9_isTaught)) = true := by decide +kernel
set_option maxRecDepth 100000 in
theorem zck_X9_leastFor : (zwalk cX9_leastFor cX9_leastFor.data.toList 0 zk_X9_leastFor && zk_X9_leastFor.all (zokB zpool_9 ztsl zstt false (some .int) cX9_leastFor)) = true := by decide +kernel
