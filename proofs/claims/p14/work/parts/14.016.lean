set_option maxRecDepth 100000 in
theorem zck_X11_findStudent : (zwalk cX11_findStudent cX11_findStudent.data.toList 0 zk_X11_findStudent && zk_X11_findStudent.all (zokB zpool_11 ztsl zstt false (none) cX11_findStudent)) = true := by decide +kernel
set_option maxRecDepth 100000 in
theorem zck_X11_classOf : (zwalk cX11_classOf cX11_classOf.data.toList 0 zk_X11_classOf && zk_X11_classOf.all (zokB zpool_11 ztsl zstt false (some .int) cX11_classOf)) = true := by decide +kernel
set_option maxRecDepth 100000 in
theorem zck_X11_readsClass : (zwalk cX11_readsClass cX11_readsClass.data.toList 0 zk_X11_readsClass && zk_X11_readsClass.all (zokB zpool_11 ztsl zstt false (some .int) cX11_readsClass)) = true := by decide +kernel
set_option maxRecDepth 100000 in
theorem zck_X11_gradeOf : (zwalk cX11_gradeOf cX11_gradeOf.data.toList 0 zk_X11_gradeOf && zk_X11_gradeOf.all (zokB zpool_11 ztsl zstt false (some .int) cX11_gradeOf)) = true := by decide +kernel
set_option maxRecDepth 100000 in
theorem zck_X11_rollOf : (zwalk cX11_rollOf cX11_rollOf.data.toList 0 zk_X11_rollOf && zk_X11_rollOf.all (zokB zpool_11 ztsl zstt false (some .int) cX11_rollOf)) = true := by decide +kernel
set_option maxRecDepth 100000 in
theorem zck_X11_isAsked : (zwalk cX11_isAsked cX11_isAsked.data.toList 0 zk_X11_isAsked && zk_X11_isAsked.all (zokB zpool_11 ztsl zstt false (some .boolean) cX11_isAsked)) = true := by decide +kernel
set_option maxRecDepth 100000 in
theorem zck_X11_passed : (zwalk cX11_passed cX11_passed.data.toList 0 zk_X11_passed && zk_X11_passed.all (zokB zpool_11 ztsl zstt false (some .int) cX11_passed)) = true := by decide +kernel
set_option maxRecDepth 100000 in
theorem zck_X11_grade : (zwalk cX11_grade cX11_grade.data.toList 0 zk_X11_grade && zk_X11_grade.all (zokB zpool_11 ztsl zstt false (some .int) cX11_grade)) = true := by decide +kernel
set_option maxRecDepth 100000 in
theorem zck_X11_number : (zwalk cX11_number cX11_number.data.toList 0 zk_X11_number && zk_X11_number.all (zokB zpool_11 ztsl zstt false (some .long) cX11_number)) = true := by decide +kernel
set_option maxRecDepth 100000 in
theorem zck_X11_edge : (zwalk cX11_edge cX11_edge.data.toList 0 zk_X11_edge && zk_X11_edge.all (zokB zpool_11 ztsl zstt false (some .int) cX11_edge)) = true := by decide +kernel
set_option maxRecDepth 100000 in
theorem zck_X11_roll : (zwalk cX11_roll cX11_roll.data.toList 0 zk_X11_roll && zk_X11_roll.all (zokB zpool_11 ztsl zstt false (some .int) cX11_roll)) = true := by decide +kernel
set_option maxRecDepth 100000 in
theorem zck_X11_hangs : (zwalk cX11_hangs cX11_hangs.data.toList 0 zk_X11_hangs && zk_X11_hangs.all (zokB zpool_11 ztsl zstt false (some .int) cX11_hangs)) = true := by decide +kernel
set_option maxRecDepth 100000 in
theorem zck_X11_isText : (zwalk cX11_isText cX11_isText.data.toList 0 zk_X11_isText && zk_X11_isText.all (zokB zpool_11 ztsl zstt false (some .boolean) cX11_isText)) = true := by decide +kernel
set_option maxRecDepth 100000 in
theorem zck_X11_write : (zwalk cX11_write cX11_write.data.toList 0 zk_X11_write && zk_X11_write.all (zokB zpool_11 ztsl zstt false (some .int) cX11_write)) = true := by decide +kernel
set_option maxRecDepth 100000 in
theorem zck_X11_erase : (zwalk cX11_erase cX11_erase.data.toList 0 zk_X11_erase && zk_X11_erase.all (zokB zpool_11 ztsl zstt false (some .int) cX11_erase)) = true := by decide +kernel
