set_option maxRecDepth 100000 in
theorem zck_X11_puts : (zwalk cX11_puts cX11_puts.data.toList 0 zk_X11_puts && zk_X11_puts.all (zokB zpool_11 ztsl zstt false (none) cX11_puts)) = true := by decide +kernel
set_option maxRecDepth 100000 in
theorem zck_X11_begins : (zwalk cX11_begins cX11_begins.data.toList 0 zk_X11_begins && zk_X11_begins.all (zokB zpool_11 ztsl zstt false (none) cX11_begins)) = true := by decide +kernel
set_option maxRecDepth 100000 in
theorem zck_X11_isFull : (zwalk cX11_isFull cX11_isFull.data.toList 0 zk_X11_isFull && zk_X11_isFull.all (zokB zpool_11 ztsl zstt false (some .boolean) cX11_isFull)) = true := by decide +kernel
set_option maxRecDepth 100000 in
theorem zck_X11_isMark : (zwalk cX11_isMark cX11_isMark.data.toList 0 zk_X11_isMark && zk_X11_isMark.all (zokB zpool_11 ztsl zstt false (some .boolean) cX11_isMark)) = true := by decide +kernel
set_option maxRecDepth 100000 in
theorem zck_X11_dayOf : (zwalk cX11_dayOf cX11_dayOf.data.toList 0 zk_X11_dayOf && zk_X11_dayOf.all (zokB zpool_11 ztsl zstt false (some .int) cX11_dayOf)) = true := by decide +kernel
set_option maxRecDepth 100000 in
theorem zck_X11_isBy : (zwalk cX11_isBy cX11_isBy.data.toList 0 zk_X11_isBy && zk_X11_isBy.all (zokB zpool_11 ztsl zstt false (some .boolean) cX11_isBy)) = true := by decide +kernel
set_option maxRecDepth 100000 in
theorem zck_X11_mark : (zwalk cX11_mark cX11_mark.data.toList 0 zk_X11_mark && zk_X11_mark.all (zokB zpool_11 ztsl zstt false (some .int) cX11_mark)) = true := by decide +kernel
set_option maxRecDepth 100000 in
theorem zck_X11_second : (zwalk cX11_second cX11_second.data.toList 0 zk_X11_second && zk_X11_second.all (zokB zpool_11 ztsl zstt false (some .int) cX11_second)) = true := by decide +kernel
set_option maxRecDepth 100000 in
theorem zck_X11_moderate : (zwalk cX11_moderate cX11_moderate.data.toList 0 zk_X11_moderate && zk_X11_moderate.all (zokB zpool_11 ztsl zstt false (some .int) cX11_moderate)) = true := by decide +kernel
set_option maxRecDepth 100000 in
theorem zck_X11_scale : (zwalk cX11_scale cX11_scale.data.toList 0 zk_X11_scale && zk_X11_scale.all (zokB zpool_11 ztsl zstt false (some .int) cX11_scale)) = true := by decide +kernel
set_option maxRecDepth 100000 in
theorem zck_X11_excuse : (zwalk cX11_excuse cX11_excuse.data.toList 0 zk_X11_excuse && zk_X11_excuse.all (zokB zpool_11 ztsl zstt false (some .int) cX11_excuse)) = true := by decide +kernel
set_option maxRecDepth 100000 in
theorem zck_X11_strike : (zwalk cX11_strike cX11_strike.data.toList 0 zk_X11_strike && zk_X11_strike.all (zokB zpool_11 ztsl zstt false (some .int) cX11_strike)) = true := by decide +kernel
set_option maxRecDepth 100000 in
theorem zck_X11_degree : (zwalk cX11_degree cX11_degree.data.toList 0 zk_X11_degree && zk_X11_degree.all (zokB zpool_11 ztsl zstt false (some .int) cX11_degree)) = true := by decide +kernel
set_option maxRecDepth 100000 in
theorem zck_X11_appeal : (zwalk cX11_appeal cX11_appeal.data.toList 0 zk_X11_appeal && zk_X11_appeal.all (zokB zpool_11 ztsl zstt false (some .int) cX11_appeal)) = true := by decide +kernel
set_option maxRecDepth 100000 in
theorem zck_X11_days : (zwalk cX11_days cX11_days.data.toList 0 zk_X11_days && zk_X11_days.all (zokB zpool_11 ztsl zstt false (some .int) cX11_days)) = true := by decide +kernel
