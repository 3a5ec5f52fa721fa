set_option maxRecDepth 100000 in
theorem zck_X5_bestOf : (zwalk cX5_bestOf cX5_bestOf.data.toList 0 zk_X5_bestOf && zk_X5_bestOf.all (zokB zpool_5 ztsl zstt false (some .long) cX5_bestOf)) = true := by decide +kernel
set_option maxRecDepth 100000 in
theorem zck_X5_usedMore : (zwalk cX5_usedMore cX5_usedMore.data.toList 0 zk_X5_usedMore && zk_X5_usedMore.all (zokB zpool_5 ztsl zstt false (some .boolean) cX5_usedMore)) = true := by decide +kernel
set_option maxRecDepth 100000 in
theorem zck_X5_work : (zwalk cX5_work cX5_work.data.toList 0 zk_X5_work && zk_X5_work.all (zokB zpool_5 ztsl zstt false (some .long) cX5_work)) = true := by decide +kernel
set_option maxRecDepth 100000 in
theorem zck_X5_apply : (zwalk cX5_apply cX5_apply.data.toList 0 zk_X5_apply && zk_X5_apply.all (zokB zpool_5 ztsl zstt false (none) cX5_apply)) = true := by decide +kernel
set_option maxRecDepth 100000 in
theorem zck_X5_ofTwo : (zwalk cX5_ofTwo cX5_ofTwo.data.toList 0 zk_X5_ofTwo && zk_X5_ofTwo.all (zokB zpool_5 ztsl zstt false (some .long) cX5_ofTwo)) = true := by decide +kernel
set_option maxRecDepth 100000 in
theorem zck_X5_push : (zwalk cX5_push cX5_push.data.toList 0 zk_X5_push && zk_X5_push.all (zokB zpool_5 ztsl zstt false (none) cX5_push)) = true := by decide +kernel
set_option maxRecDepth 100000 in
theorem zck_X5_pop : (zwalk cX5_pop cX5_pop.data.toList 0 zk_X5_pop && zk_X5_pop.all (zokB zpool_5 ztsl zstt false (some .long) cX5_pop)) = true := by decide +kernel
set_option maxRecDepth 100000 in
theorem zck_X6_init : (zwalk cX6_init cX6_init.data.toList 0 zk_X6_init && zk_X6_init.all (zokB zpool_6 ztsl zstt true (none) cX6_init)) = true := by decide +kernel
set_option maxRecDepth 100000 in
theorem zck_X6_setHours : (zwalk cX6_setHours cX6_setHours.data.toList 0 zk_X6_setHours && zk_X6_setHours.all (zokB zpool_6 ztsl zstt false (some .int) cX6_setHours)) = true := by decide +kernel
set_option maxRecDepth 100000 in
theorem zck_X6_hourAt : (zwalk cX6_hourAt cX6_hourAt.data.toList 0 zk_X6_hourAt && zk_X6_hourAt.all (zokB zpool_6 ztsl zstt false (some .int) cX6_hourAt)) = true := by decide +kernel
set_option maxRecDepth 100000 in
theorem zck_X6_sittersOf : (zwalk cX6_sittersOf cX6_sittersOf.data.toList 0 zk_X6_sittersOf && zk_X6_sittersOf.all (zokB zpool_6 ztsl zstt false (some .int) cX6_sittersOf)) = true := by decide +kernel
set_option maxRecDepth 100000 in
theorem zck_X6_place : (zwalk cX6_place cX6_place.data.toList 0 zk_X6_place && zk_X6_place.all (zokB zpool_6 ztsl zstt false (some .boolean) cX6_place)) = true := by decide +kernel
set_option maxRecDepth 100000 in
theorem zck_X6_takes : (zwalk cX6_takes cX6_takes.data.toList 0 zk_X6_takes && zk_X6_takes.all (zokB zpool_6 ztsl zstt false (some .boolean) cX6_takes)) = true := by decide +kernel
set_option maxRecDepth 100000 in
theorem zck_X7_init : (zwalk cX7_init cX7_init.data.toList 0 zk_X7_init && zk_X7_init.all (zokB zpool_7 ztsl zstt true (none) cX7_init)) = true := by decide +kernel
set_option maxRecDepth 100000 in
theorem zck_X7_code : (zwalk cX7_code cX7_code.data.toList 0 zk_X7_code && zk_X7_code.all (zokB zpool_7 ztsl zstt false (some (.object "SenateRoll$Rows")) cX7_code)) = true := by decide +kernel
