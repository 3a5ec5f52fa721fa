set_option maxRecDepth 100000 in
theorem zck_X0_init : (zwalk cX0_init cX0_init.data.toList 0 zk_X0_init && zk_X0_init.all (zokB zpool_0 ztsl zstt true (none) cX0_init)) = true := by decide +kernel
set_option maxRecDepth 100000 in
theorem zck_X0_chosen : (zwalk cX0_chosen cX0_chosen.data.toList 0 zk_X0_chosen && zk_X0_chosen.all (zokB zpool_0 ztsl zstt false (some .int) cX0_chosen)) = true := by decide +kernel
set_option maxRecDepth 100000 in
theorem zck_X0_rivals : (zwalk cX0_rivals cX0_rivals.data.toList 0 zk_X0_rivals && zk_X0_rivals.all (zokB zpool_0 ztsl zstt false (some .int) cX0_rivals)) = true := by decide +kernel
set_option maxRecDepth 100000 in
theorem zck_X0_search : (zwalk cX0_search cX0_search.data.toList 0 zk_X0_search && zk_X0_search.all (zokB zpool_0 ztsl zstt false (none) cX0_search)) = true := by decide +kernel
set_option maxRecDepth 100000 in
theorem zck_X0_prepare : (zwalk cX0_prepare cX0_prepare.data.toList 0 zk_X0_prepare && zk_X0_prepare.all (zokB zpool_0 ztsl zstt false (some .int) cX0_prepare)) = true := by decide +kernel
set_option maxRecDepth 100000 in
theorem zck_X1_init : (zwalk cX1_init cX1_init.data.toList 0 zk_X1_init && zk_X1_init.all (zokB zpool_1 ztsl zstt true (none) cX1_init)) = true := by decide +kernel
set_option maxRecDepth 100000 in
theorem zck_X1_gather : (zwalk cX1_gather cX1_gather.data.toList 0 zk_X1_gather && zk_X1_gather.all (zokB zpool_1 ztsl zstt false (none) cX1_gather)) = true := by decide +kernel
set_option maxRecDepth 100000 in
theorem zck_X1_addPair : (zwalk cX1_addPair cX1_addPair.data.toList 0 zk_X1_addPair && zk_X1_addPair.all (zokB zpool_1 ztsl zstt false (none) cX1_addPair)) = true := by decide +kernel
set_option maxRecDepth 100000 in
theorem zck_X1_differing : (zwalk cX1_differing cX1_differing.data.toList 0 zk_X1_differing && zk_X1_differing.all (zokB zpool_1 ztsl zstt false (some .int) cX1_differing)) = true := by decide +kernel
set_option maxRecDepth 100000 in
theorem zck_X1_above : (zwalk cX1_above cX1_above.data.toList 0 zk_X1_above && zk_X1_above.all (zokB zpool_1 ztsl zstt false (some .int) cX1_above)) = true := by decide +kernel
set_option maxRecDepth 100000 in
theorem zck_X1_meanMore : (zwalk cX1_meanMore cX1_meanMore.data.toList 0 zk_X1_meanMore && zk_X1_meanMore.all (zokB zpool_1 ztsl zstt false (some .int) cX1_meanMore)) = true := by decide +kernel
set_option maxRecDepth 100000 in
theorem zck_X1_isHard : (zwalk cX1_isHard cX1_isHard.data.toList 0 zk_X1_isHard && zk_X1_isHard.all (zokB zpool_1 ztsl zstt false (some .boolean) cX1_isHard)) = true := by decide +kernel
set_option maxRecDepth 100000 in
theorem zck_X1_countTail : (zwalk cX1_countTail cX1_countTail.data.toList 0 zk_X1_countTail && zk_X1_countTail.all (zokB zpool_1 ztsl zstt false (none) cX1_countTail)) = true := by decide +kernel
set_option maxRecDepth 100000 in
theorem zck_X1_multiply : (zwalk cX1_multiply cX1_multiply.data.toList 0 zk_X1_multiply && zk_X1_multiply.all (zokB zpool_1 ztsl zstt false (none) cX1_multiply)) = true := by decide +kernel
set_option maxRecDepth 100000 in
theorem zck_X1_divide : (zwalk cX1_divide cX1_divide.data.toList 0 zk_X1_divide && zk_X1_divide.all (zokB zpool_1 ztsl zstt false (none) cX1_divide)) = true := by decide +kernel
