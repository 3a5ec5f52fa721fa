set_option maxRecDepth 100000 in
theorem zck_X4_triesOf : (zwalk cX4_triesOf cX4_triesOf.data.toList 0 zk_X4_triesOf && zk_X4_triesOf.all (zokB zpool_4 ztsl zstt false (some .int) cX4_triesOf)) = true := by decide +kernel
set_option maxRecDepth 100000 in
theorem zck_X4_excusedOf : (zwalk cX4_excusedOf cX4_excusedOf.data.toList 0 zk_X4_excusedOf && zk_X4_excusedOf.all (zokB zpool_4 ztsl zstt false (some .int) cX4_excusedOf)) = true := by decide +kernel
set_option maxRecDepth 100000 in
theorem zck_X4_stepOf : (zwalk cX4_stepOf cX4_stepOf.data.toList 0 zk_X4_stepOf && zk_X4_stepOf.all (zokB zpool_4 ztsl zstt false (some .int) cX4_stepOf)) = true := by decide +kernel
set_option maxRecDepth 100000 in
theorem zck_X4_sift : (zwalk cX4_sift cX4_sift.data.toList 0 zk_X4_sift && zk_X4_sift.all (zokB zpool_4 ztsl zstt false (none) cX4_sift)) = true := by decide +kernel
set_option maxRecDepth 100000 in
theorem zck_X4_gather : (zwalk cX4_gather cX4_gather.data.toList 0 zk_X4_gather && zk_X4_gather.all (zokB zpool_4 ztsl zstt false (none) cX4_gather)) = true := by decide +kernel
set_option maxRecDepth 100000 in
theorem zck_X4_gatherOne : (zwalk cX4_gatherOne cX4_gatherOne.data.toList 0 zk_X4_gatherOne && zk_X4_gatherOne.all (zokB zpool_4 ztsl zstt false (none) cX4_gatherOne)) = true := by decide +kernel
set_option maxRecDepth 100000 in
theorem zck_X4_bringFirst : (zwalk cX4_bringFirst cX4_bringFirst.data.toList 0 zk_X4_bringFirst && zk_X4_bringFirst.all (zokB zpool_4 ztsl zstt false (none) cX4_bringFirst)) = true := by decide +kernel
set_option maxRecDepth 100000 in
theorem zck_X4_rowOf : (zwalk cX4_rowOf cX4_rowOf.data.toList 0 zk_X4_rowOf && zk_X4_rowOf.all (zokB zpool_4 ztsl zstt false (some .int) cX4_rowOf)) = true := by decide +kernel
set_option maxRecDepth 100000 in
theorem zck_X4_bothOf : (zwalk cX4_bothOf cX4_bothOf.data.toList 0 zk_X4_bothOf && zk_X4_bothOf.all (zokB zpool_4 ztsl zstt false (some .int) cX4_bothOf)) = true := by decide +kernel
set_option maxRecDepth 100000 in
theorem zck_X4_scaledOf : (zwalk cX4_scaledOf cX4_scaledOf.data.toList 0 zk_X4_scaledOf && zk_X4_scaledOf.all (zokB zpool_4 ztsl zstt false (some .int) cX4_scaledOf)) = true := by decide +kernel
set_option maxRecDepth 100000 in
theorem zck_X5_init : (zwalk cX5_init cX5_init.data.toList 0 zk_X5_init && zk_X5_init.all (zokB zpool_5 ztsl zstt true (none) cX5_init)) = true := by decide +kernel
set_option maxRecDepth 100000 in
theorem zck_X5_forget : (zwalk cX5_forget cX5_forget.data.toList 0 zk_X5_forget && zk_X5_forget.all (zokB zpool_5 ztsl zstt false (none) cX5_forget)) = true := by decide +kernel
set_option maxRecDepth 100000 in
theorem zck_X5_tell : (zwalk cX5_tell cX5_tell.data.toList 0 zk_X5_tell && zk_X5_tell.all (zokB zpool_5 ztsl zstt false (none) cX5_tell)) = true := by decide +kernel
set_option maxRecDepth 100000 in
theorem zck_X5_told : (zwalk cX5_told cX5_told.data.toList 0 zk_X5_told && zk_X5_told.all (zokB zpool_5 ztsl zstt false (some .long) cX5_told)) = true := by decide +kernel
set_option maxRecDepth 100000 in
theorem zck_X5_rank : (zwalk cX5_rank cX5_rank.data.toList 0 zk_X5_rank && zk_X5_rank.all (zokB zpool_5 ztsl zstt false (none) cX5_rank)) = true := by decide +kernel
