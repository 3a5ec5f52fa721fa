set_option maxRecDepth 100000 in
theorem zck_X11_wayAt : (zwalk cX11_wayAt cX11_wayAt.data.toList 0 zk_X11_wayAt && zk_X11_wayAt.all (zokB zpool_11 ztsl zstt false (some .int) cX11_wayAt)) = true := by decide +kernel
set_option maxRecDepth 100000 in
theorem zck_X11_sits : (zwalk cX11_sits cX11_sits.data.toList 0 zk_X11_sits && zk_X11_sits.all (zokB zpool_11 ztsl zstt false (some .int) cX11_sits)) = true := by decide +kernel
set_option maxRecDepth 100000 in
theorem zck_X11_sitting : (zwalk cX11_sitting cX11_sitting.data.toList 0 zk_X11_sitting && zk_X11_sitting.all (zokB zpool_11 ztsl zstt false (some .int) cX11_sitting)) = true := by decide +kernel
set_option maxRecDepth 100000 in
theorem zck_X11_areApart : (zwalk cX11_areApart cX11_areApart.data.toList 0 zk_X11_areApart && zk_X11_areApart.all (zokB zpool_11 ztsl zstt false (some .boolean) cX11_areApart)) = true := by decide +kernel
set_option maxRecDepth 100000 in
theorem zck_X11_isGood : (zwalk cX11_isGood cX11_isGood.data.toList 0 zk_X11_isGood && zk_X11_isGood.all (zokB zpool_11 ztsl zstt false (some .boolean) cX11_isGood)) = true := by decide +kernel
set_option maxRecDepth 100000 in
theorem zck_X11_nextHours : (zwalk cX11_nextHours cX11_nextHours.data.toList 0 zk_X11_nextHours && zk_X11_nextHours.all (zokB zpool_11 ztsl zstt false (some .boolean) cX11_nextHours)) = true := by decide +kernel
set_option maxRecDepth 100000 in
theorem zck_X11_findHours : (zwalk cX11_findHours cX11_findHours.data.toList 0 zk_X11_findHours && zk_X11_findHours.all (zokB zpool_11 ztsl zstt false (some .int) cX11_findHours)) = true := by decide +kernel
set_option maxRecDepth 100000 in
theorem zck_X11_whyHours : (zwalk cX11_whyHours cX11_whyHours.data.toList 0 zk_X11_whyHours && zk_X11_whyHours.all (zokB zpool_11 ztsl zstt false (some .int) cX11_whyHours)) = true := by decide +kernel
set_option maxRecDepth 100000 in
theorem zck_X11_hours : (zwalk cX11_hours cX11_hours.data.toList 0 zk_X11_hours && zk_X11_hours.all (zokB zpool_11 ztsl zstt false (some .int) cX11_hours)) = true := by decide +kernel
set_option maxRecDepth 100000 in
theorem zck_X11_hourOf : (zwalk cX11_hourOf cX11_hourOf.data.toList 0 zk_X11_hourOf && zk_X11_hourOf.all (zokB zpool_11 ztsl zstt false (some .int) cX11_hourOf)) = true := by decide +kernel
set_option maxRecDepth 100000 in
theorem zck_X11_findHabit : (zwalk cX11_findHabit cX11_findHabit.data.toList 0 zk_X11_findHabit && zk_X11_findHabit.all (zokB zpool_11 ztsl zstt false (none) cX11_findHabit)) = true := by decide +kernel
set_option maxRecDepth 100000 in
theorem zck_X11_findTail : (zwalk cX11_findTail cX11_findTail.data.toList 0 zk_X11_findTail && zk_X11_findTail.all (zokB zpool_11 ztsl zstt false (none) cX11_findTail)) = true := by decide +kernel
set_option maxRecDepth 100000 in
theorem zck_X11_isRare : (zwalk cX11_isRare cX11_isRare.data.toList 0 zk_X11_isRare && zk_X11_isRare.all (zokB zpool_11 ztsl zstt false (some .boolean) cX11_isRare)) = true := by decide +kernel
set_option maxRecDepth 100000 in
theorem zck_X11_isHard : (zwalk cX11_isHard cX11_isHard.data.toList 0 zk_X11_isHard && zk_X11_isHard.all (zokB zpool_11 ztsl zstt false (some .int) cX11_isHard)) = true := by decide +kernel
set_option maxRecDepth 100000 in
theorem zck_X11_habit : (zwalk cX11_habit cX11_habit.data.toList 0 zk_X11_habit && zk_X11_habit.all (zokB zpool_11 ztsl zstt false (some .int) cX11_habit)) = true := by decide +kernel
