set_option maxRecDepth 100000 in
theorem zck_X3_latestOf : (zwalk cX3_latestOf cX3_latestOf.data.toList 0 zk_X3_latestOf && zk_X3_latestOf.all (zokB zpool_3 ztsl zstt false (some .int) cX3_latestOf)) = true := by decide +kernel
set_option maxRecDepth 100000 in
theorem zck_X3_rowsOf : (zwalk cX3_rowsOf cX3_rowsOf.data.toList 0 zk_X3_rowsOf && zk_X3_rowsOf.all (zokB zpool_3 ztsl zstt false (some (.object "SenateRoll$Rows")) cX3_rowsOf)) = true := by decide +kernel
set_option maxRecDepth 100000 in
theorem zck_X3_passedOf : (zwalk cX3_passedOf cX3_passedOf.data.toList 0 zk_X3_passedOf && zk_X3_passedOf.all (zokB zpool_3 ztsl zstt false (some .int) cX3_passedOf)) = true := by decide +kernel
set_option maxRecDepth 100000 in
theorem zck_X3_classOf : (zwalk cX3_classOf cX3_classOf.data.toList 0 zk_X3_classOf && zk_X3_classOf.all (zokB zpool_3 ztsl zstt false (some .int) cX3_classOf)) = true := by decide +kernel
set_option maxRecDepth 100000 in
theorem zck_X3_classWith : (zwalk cX3_classWith cX3_classWith.data.toList 0 zk_X3_classWith && zk_X3_classWith.all (zokB zpool_3 ztsl zstt false (some .int) cX3_classWith)) = true := by decide +kernel
set_option maxRecDepth 100000 in
theorem zck_X3_edgeOf : (zwalk cX3_edgeOf cX3_edgeOf.data.toList 0 zk_X3_edgeOf && zk_X3_edgeOf.all (zokB zpool_3 ztsl zstt false (some .int) cX3_edgeOf)) = true := by decide +kernel
set_option maxRecDepth 100000 in
theorem zck_X3_rollOf : (zwalk cX3_rollOf cX3_rollOf.data.toList 0 zk_X3_rollOf && zk_X3_rollOf.all (zokB zpool_3 ztsl zstt false (some .int) cX3_rollOf)) = true := by decide +kernel
set_option maxRecDepth 100000 in
theorem zck_X3_hangingOn : (zwalk cX3_hangingOn cX3_hangingOn.data.toList 0 zk_X3_hangingOn && zk_X3_hangingOn.all (zokB zpool_3 ztsl zstt false (some .int) cX3_hangingOn)) = true := by decide +kernel
set_option maxRecDepth 100000 in
theorem zck_X3_setInCourse : (zwalk cX3_setInCourse cX3_setInCourse.data.toList 0 zk_X3_setInCourse && zk_X3_setInCourse.all (zokB zpool_3 ztsl zstt false (none) cX3_setInCourse)) = true := by decide +kernel
set_option maxRecDepth 100000 in
theorem zck_X3_setAlone : (zwalk cX3_setAlone cX3_setAlone.data.toList 0 zk_X3_setAlone && zk_X3_setAlone.all (zokB zpool_3 ztsl zstt false (none) cX3_setAlone)) = true := by decide +kernel
set_option maxRecDepth 100000 in
theorem zck_X4_init : (zwalk cX4_init cX4_init.data.toList 0 zk_X4_init && zk_X4_init.all (zokB zpool_4 ztsl zstt true (none) cX4_init)) = true := by decide +kernel
set_option maxRecDepth 100000 in
theorem zck_X4_learn : (zwalk cX4_learn cX4_learn.data.toList 0 zk_X4_learn && zk_X4_learn.all (zokB zpool_4 ztsl zstt false (none) cX4_learn)) = true := by decide +kernel
set_option maxRecDepth 100000 in
theorem zck_X4_holds : (zwalk cX4_holds cX4_holds.data.toList 0 zk_X4_holds && zk_X4_holds.all (zokB zpool_4 ztsl zstt false (some .boolean) cX4_holds)) = true := by decide +kernel
set_option maxRecDepth 100000 in
theorem zck_X4_secondOf : (zwalk cX4_secondOf cX4_secondOf.data.toList 0 zk_X4_secondOf && zk_X4_secondOf.all (zokB zpool_4 ztsl zstt false (some .int) cX4_secondOf)) = true := by decide +kernel
set_option maxRecDepth 100000 in
theorem zck_X4_finalOf : (zwalk cX4_finalOf cX4_finalOf.data.toList 0 zk_X4_finalOf && zk_X4_finalOf.all (zokB zpool_4 ztsl zstt false (some .int) cX4_finalOf)) = true := by decide +kernel
