set_option maxRecDepth 100000 in
theorem zck_X11_in : (zwalk cX11_in cX11_in.data.toList 0 zk_X11_in && zk_X11_in.all (zokB zpool_11 ztsl zstt false (some .boolean) cX11_in)) = true := by decide +kernel
set_option maxRecDepth 100000 in
theorem zck_X11_init : (zwalk cX11_init cX11_init.data.toList 0 zk_X11_init && zk_X11_init.all (zokB zpool_11 ztsl zstt true (none) cX11_init)) = true := by decide +kernel
set_option maxRecDepth 100000 in
theorem zck_X11_is : (zwalk cX11_is cX11_is.data.toList 0 zk_X11_is && zk_X11_is.all (zokB zpool_11 ztsl zstt false (some .boolean) cX11_is)) = true := by decide +kernel
set_option maxRecDepth 100000 in
theorem zck_X11_one : (zwalk cX11_one cX11_one.data.toList 0 zk_X11_one && zk_X11_one.all (zokB zpool_11 ztsl zstt false (some .int) cX11_one)) = true := by decide +kernel
set_option maxRecDepth 100000 in
theorem zck_X11_isDay : (zwalk cX11_isDay cX11_isDay.data.toList 0 zk_X11_isDay && zk_X11_isDay.all (zokB zpool_11 ztsl zstt false (some .boolean) cX11_isDay)) = true := by decide +kernel
set_option maxRecDepth 100000 in
theorem zck_X11_isMarkNumber : (zwalk cX11_isMarkNumber cX11_isMarkNumber.data.toList 0 zk_X11_isMarkNumber && zk_X11_isMarkNumber.all (zokB zpool_11 ztsl zstt false (some .boolean) cX11_isMarkNumber)) = true := by decide +kernel
set_option maxRecDepth 100000 in
theorem zck_X11_sizeOf : (zwalk cX11_sizeOf cX11_sizeOf.data.toList 0 zk_X11_sizeOf && zk_X11_sizeOf.all (zokB zpool_11 ztsl zstt false (some .int) cX11_sizeOf)) = true := by decide +kernel
set_option maxRecDepth 100000 in
theorem zck_X11_course : (zwalk cX11_course cX11_course.data.toList 0 zk_X11_course && zk_X11_course.all (zokB zpool_11 ztsl zstt false (some .int) cX11_course)) = true := by decide +kernel
set_option maxRecDepth 100000 in
theorem zck_X11_student : (zwalk cX11_student cX11_student.data.toList 0 zk_X11_student && zk_X11_student.all (zokB zpool_11 ztsl zstt false (some .int) cX11_student)) = true := by decide +kernel
set_option maxRecDepth 100000 in
theorem zck_X11_board : (zwalk cX11_board cX11_board.data.toList 0 zk_X11_board && zk_X11_board.all (zokB zpool_11 ztsl zstt false (some .int) cX11_board)) = true := by decide +kernel
set_option maxRecDepth 100000 in
theorem zck_X11_meeting : (zwalk cX11_meeting cX11_meeting.data.toList 0 zk_X11_meeting && zk_X11_meeting.all (zokB zpool_11 ztsl zstt false (some .int) cX11_meeting)) = true := by decide +kernel
set_option maxRecDepth 100000 in
theorem zck_X11_tear : (zwalk cX11_tear cX11_tear.data.toList 0 zk_X11_tear && zk_X11_tear.all (zokB zpool_11 ztsl zstt false (some .int) cX11_tear)) = true := by decide +kernel
set_option maxRecDepth 100000 in
theorem zck_X11_isStanding : (zwalk cX11_isStanding cX11_isStanding.data.toList 0 zk_X11_isStanding && zk_X11_isStanding.all (zokB zpool_11 ztsl zstt false (some .boolean) cX11_isStanding)) = true := by decide +kernel
set_option maxRecDepth 100000 in
theorem zck_X11_stands : (zwalk cX11_stands cX11_stands.data.toList 0 zk_X11_stands && zk_X11_stands.all (zokB zpool_11 ztsl zstt false (some .int) cX11_stands)) = true := by decide +kernel
set_option maxRecDepth 100000 in
theorem zck_X11_act : (zwalk cX11_act cX11_act.data.toList 0 zk_X11_act && zk_X11_act.all (zokB zpool_11 ztsl zstt false (some .int) cX11_act)) = true := by decide +kernel
