set_option maxRecDepth 100000 in
theorem zck_X11_about : (zwalk cX11_about cX11_about.data.toList 0 zk_X11_about && zk_X11_about.all (zokB zpool_11 ztsl zstt false (some .int) cX11_about)) = true := by decide +kernel
set_option maxRecDepth 100000 in
theorem zck_X11_finds : (zwalk cX11_finds cX11_finds.data.toList 0 zk_X11_finds && zk_X11_finds.all (zokB zpool_11 ztsl zstt false (none) cX11_finds)) = true := by decide +kernel
set_option maxRecDepth 100000 in
theorem zck_X11_counts : (zwalk cX11_counts cX11_counts.data.toList 0 zk_X11_counts && zk_X11_counts.all (zokB zpool_11 ztsl zstt false (some .int) cX11_counts)) = true := by decide +kernel
set_option maxRecDepth 100000 in
theorem zck_X11_lastOf : (zwalk cX11_lastOf cX11_lastOf.data.toList 0 zk_X11_lastOf && zk_X11_lastOf.all (zokB zpool_11 ztsl zstt false (some .int) cX11_lastOf)) = true := by decide +kernel
set_option maxRecDepth 100000 in
theorem zck_X11_scaledFor : (zwalk cX11_scaledFor cX11_scaledFor.data.toList 0 zk_X11_scaledFor && zk_X11_scaledFor.all (zokB zpool_11 ztsl zstt false (some .int) cX11_scaledFor)) = true := by decide +kernel
set_option maxRecDepth 100000 in
theorem zck_X11_isLater : (zwalk cX11_isLater cX11_isLater.data.toList 0 zk_X11_isLater && zk_X11_isLater.all (zokB zpool_11 ztsl zstt false (some .boolean) cX11_isLater)) = true := by decide +kernel
set_option maxRecDepth 100000 in
theorem zck_X11_stepOf : (zwalk cX11_stepOf cX11_stepOf.data.toList 0 zk_X11_stepOf && zk_X11_stepOf.all (zokB zpool_11 ztsl zstt false (some .int) cX11_stepOf)) = true := by decide +kernel
set_option maxRecDepth 100000 in
theorem zck_X11_step : (zwalk cX11_step cX11_step.data.toList 0 zk_X11_step && zk_X11_step.all (zokB zpool_11 ztsl zstt false (some .int) cX11_step)) = true := by decide +kernel
set_option maxRecDepth 100000 in
theorem zck_X11_findCourses : (zwalk cX11_findCourses cX11_findCourses.data.toList 0 zk_X11_findCourses && zk_X11_findCourses.all (zokB zpool_11 ztsl zstt false (none) cX11_findCourses)) = true := by decide +kernel
set_option maxRecDepth 100000 in
theorem zck_X11_outcome : (zwalk cX11_outcome cX11_outcome.data.toList 0 zk_X11_outcome && zk_X11_outcome.all (zokB zpool_11 ztsl zstt false (some .int) cX11_outcome)) = true := by decide +kernel
set_option maxRecDepth 100000 in
theorem zck_X11_emits : (zwalk cX11_emits cX11_emits.data.toList 0 zk_X11_emits && zk_X11_emits.all (zokB zpool_11 ztsl zstt false (none) cX11_emits)) = true := by decide +kernel
set_option maxRecDepth 100000 in
theorem zck_X11_holds : (zwalk cX11_holds cX11_holds.data.toList 0 zk_X11_holds && zk_X11_holds.all (zokB zpool_11 ztsl zstt false (some .int) cX11_holds)) = true := by decide +kernel
set_option maxRecDepth 100000 in
theorem zck_X11_top : (zwalk cX11_top cX11_top.data.toList 0 zk_X11_top && zk_X11_top.all (zokB zpool_11 ztsl zstt false (some .int) cX11_top)) = true := by decide +kernel
set_option maxRecDepth 100000 in
theorem zck_X11_waitsWith : (zwalk cX11_waitsWith cX11_waitsWith.data.toList 0 zk_X11_waitsWith && zk_X11_waitsWith.all (zokB zpool_11 ztsl zstt false (none) cX11_waitsWith)) = true := by decide +kernel
set_option maxRecDepth 100000 in
theorem zck_X11_settles : (zwalk cX11_settles cX11_settles.data.toList 0 zk_X11_settles && zk_X11_settles.all (zokB zpool_11 ztsl zstt false (none) cX11_settles)) = true := by decide +kernel
