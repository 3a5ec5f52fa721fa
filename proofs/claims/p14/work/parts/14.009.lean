set_option maxRecDepth 100000 in
theorem zck_X10_degree : (zwalk cX10_degree cX10_degree.data.toList 0 zk_X10_degree && zk_X10_degree.all (zokB zpool_10 ztsl zstt false (some .int) cX10_degree)) = true := by decide +kernel
set_option maxRecDepth 100000 in
theorem zck_X10_appeal : (zwalk cX10_appeal cX10_appeal.data.toList 0 zk_X10_appeal && zk_X10_appeal.all (zokB zpool_10 ztsl zstt false (some .int) cX10_appeal)) = true := by decide +kernel
set_option maxRecDepth 100000 in
theorem zck_X10_days : (zwalk cX10_days cX10_days.data.toList 0 zk_X10_days && zk_X10_days.all (zokB zpool_10 ztsl zstt false (some .int) cX10_days)) = true := by decide +kernel
set_option maxRecDepth 100000 in
theorem zck_X10_about : (zwalk cX10_about cX10_about.data.toList 0 zk_X10_about && zk_X10_about.all (zokB zpool_10 ztsl zstt false (some .int) cX10_about)) = true := by decide +kernel
set_option maxRecDepth 100000 in
theorem zck_X10_counts : (zwalk cX10_counts cX10_counts.data.toList 0 zk_X10_counts && zk_X10_counts.all (zokB zpool_10 ztsl zstt false (some .int) cX10_counts)) = true := by decide +kernel
set_option maxRecDepth 100000 in
theorem zck_X10_step : (zwalk cX10_step cX10_step.data.toList 0 zk_X10_step && zk_X10_step.all (zokB zpool_10 ztsl zstt false (some .int) cX10_step)) = true := by decide +kernel
set_option maxRecDepth 100000 in
theorem zck_X10_outcome : (zwalk cX10_outcome cX10_outcome.data.toList 0 zk_X10_outcome && zk_X10_outcome.all (zokB zpool_10 ztsl zstt false (some .int) cX10_outcome)) = true := by decide +kernel
set_option maxRecDepth 100000 in
theorem zck_X10_passed : (zwalk cX10_passed cX10_passed.data.toList 0 zk_X10_passed && zk_X10_passed.all (zokB zpool_10 ztsl zstt false (some .int) cX10_passed)) = true := by decide +kernel
set_option maxRecDepth 100000 in
theorem zck_X10_grade : (zwalk cX10_grade cX10_grade.data.toList 0 zk_X10_grade && zk_X10_grade.all (zokB zpool_10 ztsl zstt false (some .int) cX10_grade)) = true := by decide +kernel
set_option maxRecDepth 100000 in
theorem zck_X10_number : (zwalk cX10_number cX10_number.data.toList 0 zk_X10_number && zk_X10_number.all (zokB zpool_10 ztsl zstt false (some .long) cX10_number)) = true := by decide +kernel
set_option maxRecDepth 100000 in
theorem zck_X10_edge : (zwalk cX10_edge cX10_edge.data.toList 0 zk_X10_edge && zk_X10_edge.all (zokB zpool_10 ztsl zstt false (some .int) cX10_edge)) = true := by decide +kernel
set_option maxRecDepth 100000 in
theorem zck_X10_roll : (zwalk cX10_roll cX10_roll.data.toList 0 zk_X10_roll && zk_X10_roll.all (zokB zpool_10 ztsl zstt false (some .int) cX10_roll)) = true := by decide +kernel
set_option maxRecDepth 100000 in
theorem zck_X10_hangs : (zwalk cX10_hangs cX10_hangs.data.toList 0 zk_X10_hangs && zk_X10_hangs.all (zokB zpool_10 ztsl zstt false (some .int) cX10_hangs)) = true := by decide +kernel
set_option maxRecDepth 100000 in
theorem zck_X10_write : (zwalk cX10_write cX10_write.data.toList 0 zk_X10_write && zk_X10_write.all (zokB zpool_10 ztsl zstt false (some .int) cX10_write)) = true := by decide +kernel
set_option maxRecDepth 100000 in
theorem zck_X10_erase : (zwalk cX10_erase cX10_erase.data.toList 0 zk_X10_erase && zk_X10_erase.all (zokB zpool_10 ztsl zstt false (some .int) cX10_erase)) = true := by decide +kernel
