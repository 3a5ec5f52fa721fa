set_option maxRecDepth 100000 in
theorem zck_X10_fault : (zwalk cX10_fault cX10_fault.data.toList 0 zk_X10_fault && zk_X10_fault.all (zokB zpool_10 ztsl zstt false (some .int) cX10_fault)) = true := by decide +kernel
set_option maxRecDepth 100000 in
theorem zck_X10_tells : (zwalk cX10_tells cX10_tells.data.toList 0 zk_X10_tells && zk_X10_tells.all (zokB zpool_10 ztsl zstt false (some .long) cX10_tells)) = true := by decide +kernel
set_option maxRecDepth 100000 in
theorem zck_X10_ordain : (zwalk cX10_ordain cX10_ordain.data.toList 0 zk_X10_ordain && zk_X10_ordain.all (zokB zpool_10 ztsl zstt false (some .int) cX10_ordain)) = true := by decide +kernel
set_option maxRecDepth 100000 in
theorem zck_X10_choose : (zwalk cX10_choose cX10_choose.data.toList 0 zk_X10_choose && zk_X10_choose.all (zokB zpool_10 ztsl zstt false (some .int) cX10_choose)) = true := by decide +kernel
set_option maxRecDepth 100000 in
theorem zck_X10_binds : (zwalk cX10_binds cX10_binds.data.toList 0 zk_X10_binds && zk_X10_binds.all (zokB zpool_10 ztsl zstt false (some .int) cX10_binds)) = true := by decide +kernel
set_option maxRecDepth 100000 in
theorem zck_X10_way : (zwalk cX10_way cX10_way.data.toList 0 zk_X10_way && zk_X10_way.all (zokB zpool_10 ztsl zstt false (some .int) cX10_way)) = true := by decide +kernel
set_option maxRecDepth 100000 in
theorem zck_X10_wayAt : (zwalk cX10_wayAt cX10_wayAt.data.toList 0 zk_X10_wayAt && zk_X10_wayAt.all (zokB zpool_10 ztsl zstt false (some .int) cX10_wayAt)) = true := by decide +kernel
set_option maxRecDepth 100000 in
theorem zck_X10_sits : (zwalk cX10_sits cX10_sits.data.toList 0 zk_X10_sits && zk_X10_sits.all (zokB zpool_10 ztsl zstt false (some .int) cX10_sits)) = true := by decide +kernel
set_option maxRecDepth 100000 in
theorem zck_X10_hours : (zwalk cX10_hours cX10_hours.data.toList 0 zk_X10_hours && zk_X10_hours.all (zokB zpool_10 ztsl zstt false (some .int) cX10_hours)) = true := by decide +kernel
set_option maxRecDepth 100000 in
theorem zck_X10_hourOf : (zwalk cX10_hourOf cX10_hourOf.data.toList 0 zk_X10_hourOf && zk_X10_hourOf.all (zokB zpool_10 ztsl zstt false (some .int) cX10_hourOf)) = true := by decide +kernel
set_option maxRecDepth 100000 in
theorem zck_X10_habit : (zwalk cX10_habit cX10_habit.data.toList 0 zk_X10_habit && zk_X10_habit.all (zokB zpool_10 ztsl zstt false (some .int) cX10_habit)) = true := by decide +kernel
set_option maxRecDepth 100000 in
theorem zck_X10_odds : (zwalk cX10_odds cX10_odds.data.toList 0 zk_X10_odds && zk_X10_odds.all (zokB zpool_10 ztsl zstt false (some .int) cX10_odds)) = true := by decide +kernel
set_option maxRecDepth 100000 in
theorem zck_X10_line : (zwalk cX10_line cX10_line.data.toList 0 zk_X10_line && zk_X10_line.all (zokB zpool_10 ztsl zstt false (some .int) cX10_line)) = true := by decide +kernel
set_option maxRecDepth 100000 in
theorem zck_X10_clear : (zwalk cX10_clear cX10_clear.data.toList 0 zk_X10_clear && zk_X10_clear.all (zokB zpool_10 ztsl zstt false (some .int) cX10_clear)) = true := by decide +kernel
set_option maxRecDepth 100000 in
theorem zck_X10_doubt : (zwalk cX10_doubt cX10_doubt.data.toList 0 zk_X10_doubt && zk_X10_doubt.all (zokB zpool_10 ztsl zstt false (some .int) cX10_doubt)) = true := by decide +kernel
