set_option maxRecDepth 100000 in
theorem zck_X7_rankOf : (zwalk cX7_rankOf cX7_rankOf.data.toList 0 zk_X7_rankOf && zk_X7_rankOf.all (zokB zpool_7 ztsl zstt false (some .int) cX7_rankOf)) = true := by decide +kernel
set_option maxRecDepth 100000 in
theorem zck_X7_failUnless : (zwalk cX7_failUnless cX7_failUnless.data.toList 0 zk_X7_failUnless && zk_X7_failUnless.all (zokB zpool_7 ztsl zstt false (none) cX7_failUnless)) = true := by decide +kernel
set_option maxRecDepth 100000 in
theorem zck_X7_fail : (zwalk cX7_fail cX7_fail.data.toList 0 zk_X7_fail && zk_X7_fail.all (zokB zpool_7 ztsl zstt false (none) cX7_fail)) = true := by decide +kernel
set_option maxRecDepth 100000 in
theorem zck_X7_nextToken : (zwalk cX7_nextToken cX7_nextToken.data.toList 0 zk_X7_nextToken && zk_X7_nextToken.all (zokB zpool_7 ztsl zstt false (none) cX7_nextToken)) = true := by decide +kernel
set_option maxRecDepth 100000 in
theorem zck_X7_nextNumber : (zwalk cX7_nextNumber cX7_nextNumber.data.toList 0 zk_X7_nextNumber && zk_X7_nextNumber.all (zokB zpool_7 ztsl zstt false (none) cX7_nextNumber)) = true := by decide +kernel
set_option maxRecDepth 100000 in
theorem zck_X7_nextWord : (zwalk cX7_nextWord cX7_nextWord.data.toList 0 zk_X7_nextWord && zk_X7_nextWord.all (zokB zpool_7 ztsl zstt false (none) cX7_nextWord)) = true := by decide +kernel
set_option maxRecDepth 100000 in
theorem zck_X7_wordThere : (zwalk cX7_wordThere cX7_wordThere.data.toList 0 zk_X7_wordThere && zk_X7_wordThere.all (zokB zpool_7 ztsl zstt false (some .int) cX7_wordThere)) = true := by decide +kernel
set_option maxRecDepth 100000 in
theorem zck_X7_letter : (zwalk cX7_letter cX7_letter.data.toList 0 zk_X7_letter && zk_X7_letter.all (zokB zpool_7 ztsl zstt false (some .int) cX7_letter)) = true := by decide +kernel
set_option maxRecDepth 100000 in
theorem zck_X7_isDigit : (zwalk cX7_isDigit cX7_isDigit.data.toList 0 zk_X7_isDigit && zk_X7_isDigit.all (zokB zpool_7 ztsl zstt false (some .boolean) cX7_isDigit)) = true := by decide +kernel
set_option maxRecDepth 100000 in
theorem zck_X7_isLetter : (zwalk cX7_isLetter cX7_isLetter.data.toList 0 zk_X7_isLetter && zk_X7_isLetter.all (zokB zpool_7 ztsl zstt false (some .boolean) cX7_isLetter)) = true := by decide +kernel
set_option maxRecDepth 100000 in
theorem zck_X8_init : (zwalk cX8_init cX8_init.data.toList 0 zk_X8_init && zk_X8_init.all (zokB zpool_8 ztsl zstt true (none) cX8_init)) = true := by decide +kernel
set_option maxRecDepth 100000 in
theorem zck_X8_size : (zwalk cX8_size cX8_size.data.toList 0 zk_X8_size && zk_X8_size.all (zokB zpool_8 ztsl zstt false (some .int) cX8_size)) = true := by decide +kernel
set_option maxRecDepth 100000 in
theorem zck_X8_has : (zwalk cX8_has cX8_has.data.toList 0 zk_X8_has && zk_X8_has.all (zokB zpool_8 ztsl zstt false (some .boolean) cX8_has)) = true := by decide +kernel
set_option maxRecDepth 100000 in
theorem zck_X8_open : (zwalk cX8_open cX8_open.data.toList 0 zk_X8_open && zk_X8_open.all (zokB zpool_8 ztsl zstt false (some .int) cX8_open)) = true := by decide +kernel
set_option maxRecDepth 100000 in
theorem zck_X8_drop : (zwalk cX8_drop cX8_drop.data.toList 0 zk_X8_drop && zk_X8_drop.all (zokB zpool_8 ztsl zstt false (none) cX8_drop)) = true := by decide +kernel
