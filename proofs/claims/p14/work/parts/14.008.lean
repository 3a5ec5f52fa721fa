set_option maxRecDepth 100000 in
theorem zck_X9_leastWithin : (zwalk cX9_leastWithin cX9_leastWithin.data.toList 0 zk_X9_leastWithin && zk_X9_leastWithin.all (zokB zpool_9 ztsl zstt false (some .int) cX9_leastWithin)) = true := by decide +kernel
set_option maxRecDepth 100000 in
theorem zck_X9_earliest : (zwalk cX9_earliest cX9_earliest.data.toList 0 zk_X9_earliest && zk_X9_earliest.all (zokB zpool_9 ztsl zstt false (some .int) cX9_earliest)) = true := by decide +kernel
set_option maxRecDepth 100000 in
theorem zck_X10_init : (zwalk cX10_init cX10_init.data.toList 0 zk_X10_init && zk_X10_init.all (zokB zpool_10 ztsl zstt true (none) cX10_init)) = true := by decide +kernel
set_option maxRecDepth 100000 in
theorem zck_X10_course : (zwalk cX10_course cX10_course.data.toList 0 zk_X10_course && zk_X10_course.all (zokB zpool_10 ztsl zstt false (some .int) cX10_course)) = true := by decide +kernel
set_option maxRecDepth 100000 in
theorem zck_X10_student : (zwalk cX10_student cX10_student.data.toList 0 zk_X10_student && zk_X10_student.all (zokB zpool_10 ztsl zstt false (some .int) cX10_student)) = true := by decide +kernel
set_option maxRecDepth 100000 in
theorem zck_X10_board : (zwalk cX10_board cX10_board.data.toList 0 zk_X10_board && zk_X10_board.all (zokB zpool_10 ztsl zstt false (some .int) cX10_board)) = true := by decide +kernel
set_option maxRecDepth 100000 in
theorem zck_X10_meeting : (zwalk cX10_meeting cX10_meeting.data.toList 0 zk_X10_meeting && zk_X10_meeting.all (zokB zpool_10 ztsl zstt false (some .int) cX10_meeting)) = true := by decide +kernel
set_option maxRecDepth 100000 in
theorem zck_X10_tear : (zwalk cX10_tear cX10_tear.data.toList 0 zk_X10_tear && zk_X10_tear.all (zokB zpool_10 ztsl zstt false (some .int) cX10_tear)) = true := by decide +kernel
set_option maxRecDepth 100000 in
theorem zck_X10_stands : (zwalk cX10_stands cX10_stands.data.toList 0 zk_X10_stands && zk_X10_stands.all (zokB zpool_10 ztsl zstt false (some .int) cX10_stands)) = true := by decide +kernel
set_option maxRecDepth 100000 in
theorem zck_X10_mark : (zwalk cX10_mark cX10_mark.data.toList 0 zk_X10_mark && zk_X10_mark.all (zokB zpool_10 ztsl zstt false (some .int) cX10_mark)) = true := by decide +kernel
set_option maxRecDepth 100000 in
theorem zck_X10_second : (zwalk cX10_second cX10_second.data.toList 0 zk_X10_second && zk_X10_second.all (zokB zpool_10 ztsl zstt false (some .int) cX10_second)) = true := by decide +kernel
set_option maxRecDepth 100000 in
theorem zck_X10_moderate : (zwalk cX10_moderate cX10_moderate.data.toList 0 zk_X10_moderate && zk_X10_moderate.all (zokB zpool_10 ztsl zstt false (some .int) cX10_moderate)) = true := by decide +kernel
set_option maxRecDepth 100000 in
theorem zck_X10_scale : (zwalk cX10_scale cX10_scale.data.toList 0 zk_X10_scale && zk_X10_scale.all (zokB zpool_10 ztsl zstt false (some .int) cX10_scale)) = true := by decide +kernel
set_option maxRecDepth 100000 in
theorem zck_X10_excuse : (zwalk cX10_excuse cX10_excuse.data.toList 0 zk_X10_excuse && zk_X10_excuse.all (zokB zpool_10 ztsl zstt false (some .int) cX10_excuse)) = true := by decide +kernel
set_option maxRecDepth 100000 in
theorem zck_X10_strike : (zwalk cX10_strike cX10_strike.data.toList 0 zk_X10_strike && zk_X10_strike.all (zokB zpool_10 ztsl zstt false (some .int) cX10_strike)) = true := by decide +kernel
