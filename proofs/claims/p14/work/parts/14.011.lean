set_option maxRecDepth 100000 in
theorem zck_X10_image : (zwalk cX10_image cX10_image.data.toList 0 zk_X10_image && zk_X10_image.all (zokB zpool_10 ztsl zstt false (some .int) cX10_image)) = true := by decide +kernel
set_option maxRecDepth 100000 in
theorem zck_X10_from : (zwalk cX10_from cX10_from.data.toList 0 zk_X10_from && zk_X10_from.all (zokB zpool_10 ztsl zstt false (some .int) cX10_from)) = true := by decide +kernel
set_option maxRecDepth 100000 in
theorem zck_X10_count : (zwalk cX10_count cX10_count.data.toList 0 zk_X10_count && zk_X10_count.all (zokB zpool_10 ztsl zstt false (some .int) cX10_count)) = true := by decide +kernel
set_option maxRecDepth 100000 in
theorem zck_X10_digest : (zwalk cX10_digest cX10_digest.data.toList 0 zk_X10_digest && zk_X10_digest.all (zokB zpool_10 ztsl zstt false (some .long) cX10_digest)) = true := by decide +kernel
set_option maxRecDepth 100000 in
theorem zck_X10_within : (zwalk cX10_within cX10_within.data.toList 0 zk_X10_within && zk_X10_within.all (zokB zpool_10 ztsl zstt false (some .boolean) cX10_within)) = true := by decide +kernel
set_option maxRecDepth 100000 in
theorem zck_X10_isDay : (zwalk cX10_isDay cX10_isDay.data.toList 0 zk_X10_isDay && zk_X10_isDay.all (zokB zpool_10 ztsl zstt false (some .boolean) cX10_isDay)) = true := by decide +kernel
set_option maxRecDepth 100000 in
theorem zck_X10_isMark : (zwalk cX10_isMark cX10_isMark.data.toList 0 zk_X10_isMark && zk_X10_isMark.all (zokB zpool_10 ztsl zstt false (some .boolean) cX10_isMark)) = true := by decide +kernel
set_option maxRecDepth 100000 in
theorem zck_X10_isExaminer : (zwalk cX10_isExaminer cX10_isExaminer.data.toList 0 zk_X10_isExaminer && zk_X10_isExaminer.all (zokB zpool_10 ztsl zstt false (some .boolean) cX10_isExaminer)) = true := by decide +kernel
set_option maxRecDepth 100000 in
theorem zck_X10_isText : (zwalk cX10_isText cX10_isText.data.toList 0 zk_X10_isText && zk_X10_isText.all (zokB zpool_10 ztsl zstt false (some .boolean) cX10_isText)) = true := by decide +kernel
set_option maxRecDepth 100000 in
theorem zck_X10_isStudent : (zwalk cX10_isStudent cX10_isStudent.data.toList 0 zk_X10_isStudent && zk_X10_isStudent.all (zokB zpool_10 ztsl zstt false (some .boolean) cX10_isStudent)) = true := by decide +kernel
set_option maxRecDepth 100000 in
theorem zck_X10_isCourse : (zwalk cX10_isCourse cX10_isCourse.data.toList 0 zk_X10_isCourse && zk_X10_isCourse.all (zokB zpool_10 ztsl zstt false (some .boolean) cX10_isCourse)) = true := by decide +kernel
set_option maxRecDepth 100000 in
theorem zck_X10_imageAt : (zwalk cX10_imageAt cX10_imageAt.data.toList 0 zk_X10_imageAt && zk_X10_imageAt.all (zokB zpool_10 ztsl zstt false (some (.object "SenateRoll$House")) cX10_imageAt)) = true := by decide +kernel
set_option maxRecDepth 100000 in
theorem zck_X10_allCourses : (zwalk cX10_allCourses cX10_allCourses.data.toList 0 zk_X10_allCourses && zk_X10_allCourses.all (zokB zpool_10 ztsl zstt false (some .int) cX10_allCourses)) = true := by decide +kernel
set_option maxRecDepth 100000 in
theorem zck_X10_isKnownAfter : (zwalk cX10_isKnownAfter cX10_isKnownAfter.data.toList 0 zk_X10_isKnownAfter && zk_X10_isKnownAfter.all (zokB zpool_10 ztsl zstt false (some .boolean) cX10_isKnownAfter)) = true := by decide +kernel
set_option maxRecDepth 100000 in
theorem zck_X10_enterBy : (zwalk cX10_enterBy cX10_enterBy.data.toList 0 zk_X10_enterBy && zk_X10_enterBy.all (zokB zpool_10 ztsl zstt false (some .int) cX10_enterBy)) = true := by decide +kernel
