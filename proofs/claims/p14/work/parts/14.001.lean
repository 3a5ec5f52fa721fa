set_option maxRecDepth 100000 in
theorem zck_X1_addWaysToTail : (zwalk cX1_addWaysToTail cX1_addWaysToTail.data.toList 0 zk_X1_addWaysToTail && zk_X1_addWaysToTail.all (zokB zpool_1 ztsl zstt false (none) cX1_addWaysToTail)) = true := by decide +kernel
set_option maxRecDepth 100000 in
theorem zck_X1_isAtMostPower : (zwalk cX1_isAtMostPower cX1_isAtMostPower.data.toList 0 zk_X1_isAtMostPower && zk_X1_isAtMostPower.all (zokB zpool_1 ztsl zstt false (some .boolean) cX1_isAtMostPower)) = true := by decide +kernel
set_option maxRecDepth 100000 in
theorem zck_X2_init : (zwalk cX2_init cX2_init.data.toList 0 zk_X2_init && zk_X2_init.all (zokB zpool_2 ztsl zstt true (none) cX2_init)) = true := by decide +kernel
set_option maxRecDepth 100000 in
theorem zck_X2_enter : (zwalk cX2_enter cX2_enter.data.toList 0 zk_X2_enter && zk_X2_enter.all (zokB zpool_2 ztsl zstt false (some .int) cX2_enter)) = true := by decide +kernel
set_option maxRecDepth 100000 in
theorem zck_X2_isA : (zwalk cX2_isA cX2_isA.data.toList 0 zk_X2_isA && zk_X2_isA.all (zokB zpool_2 ztsl zstt false (some .boolean) cX2_isA)) = true := by decide +kernel
set_option maxRecDepth 100000 in
theorem zck_X2_isStanding : (zwalk cX2_isStanding cX2_isStanding.data.toList 0 zk_X2_isStanding && zk_X2_isStanding.all (zokB zpool_2 ztsl zstt false (some .boolean) cX2_isStanding)) = true := by decide +kernel
set_option maxRecDepth 100000 in
theorem zck_X2_howMany : (zwalk cX2_howMany cX2_howMany.data.toList 0 zk_X2_howMany && zk_X2_howMany.all (zokB zpool_2 ztsl zstt false (some .int) cX2_howMany)) = true := by decide +kernel
set_option maxRecDepth 100000 in
theorem zck_X2_standing : (zwalk cX2_standing cX2_standing.data.toList 0 zk_X2_standing && zk_X2_standing.all (zokB zpool_2 ztsl zstt false (some .int) cX2_standing)) = true := by decide +kernel
set_option maxRecDepth 100000 in
theorem zck_X2_sumUp : (zwalk cX2_sumUp cX2_sumUp.data.toList 0 zk_X2_sumUp && zk_X2_sumUp.all (zokB zpool_2 ztsl zstt false (some .long) cX2_sumUp)) = true := by decide +kernel
set_option maxRecDepth 100000 in
theorem zck_X2_sumUpRows : (zwalk cX2_sumUpRows cX2_sumUpRows.data.toList 0 zk_X2_sumUpRows && zk_X2_sumUpRows.all (zokB zpool_2 ztsl zstt false (some .long) cX2_sumUpRows)) = true := by decide +kernel
set_option maxRecDepth 100000 in
theorem zck_X2_sumUpTexts : (zwalk cX2_sumUpTexts cX2_sumUpTexts.data.toList 0 zk_X2_sumUpTexts && zk_X2_sumUpTexts.all (zokB zpool_2 ztsl zstt false (some .long) cX2_sumUpTexts)) = true := by decide +kernel
set_option maxRecDepth 100000 in
theorem zck_X2_takeOver : (zwalk cX2_takeOver cX2_takeOver.data.toList 0 zk_X2_takeOver && zk_X2_takeOver.all (zokB zpool_2 ztsl zstt false (none) cX2_takeOver)) = true := by decide +kernel
set_option maxRecDepth 100000 in
theorem zck_X3_init : (zwalk cX3_init cX3_init.data.toList 0 zk_X3_init && zk_X3_init.all (zokB zpool_3 ztsl zstt true (none) cX3_init)) = true := by decide +kernel
set_option maxRecDepth 100000 in
theorem zck_X3_putCode : (zwalk cX3_putCode cX3_putCode.data.toList 0 zk_X3_putCode && zk_X3_putCode.all (zokB zpool_3 ztsl zstt false (none) cX3_putCode)) = true := by decide +kernel
set_option maxRecDepth 100000 in
theorem zck_X3_bindingOf : (zwalk cX3_bindingOf cX3_bindingOf.data.toList 0 zk_X3_bindingOf && zk_X3_bindingOf.all (zokB zpool_3 ztsl zstt false (some .int) cX3_bindingOf)) = true := by decide +kernel
