set_option maxRecDepth 100000 in
theorem zck_X0_init : (zwalk cX0_init cX0_init.data.toList 0 zk_X0_init && zk_X0_init.all (zokB zpool_0 ztsl zstt true (none) cX0_init)) = true := by decide +kernel
set_option maxRecDepth 100000 in
theorem zck_X0_chosen : (zwalk cX0_chosen cX0_chosen.data.toList 0 zk_X0_chosen && zk_X0_chosen.all (zokB zpool_0 ztsl zstt false (some .int) cX0_chosen)) = true := by decide +kernel
set_option maxRecDepth 100000 in
theorem zck_X0_rivals : (zwalk cX0_rivals cX0_rivals.data.toList 0 zk_X0_rivals && zk_X0_rivals.all (zokB zpool_0 ztsl zstt false (some .int) cX0_rivals)) = true := by decide +kernel
set_option maxRecDepth 100000 in
theorem zck_X0_search : (zwalk cX0_search cX0_search.data.toList 0 zk_X0_search && zk_X0_search.all (zokB zpool_0 ztsl zstt false (none) cX0_search)) = true := by decide +kernel
set_option maxRecDepth 100000 in
theorem zck_X0_prepare : (zwalk cX0_prepare cX0_prepare.data.toList 0 zk_X0_prepare && zk_X0_prepare.all (zokB zpool_0 ztsl zstt false (some .int) cX0_prepare)) = true := by decide +kernel
set_option maxRecDepth 100000 in
theorem zck_X1_init : (zwalk cX1_init cX1_init.data.toList 0 zk_X1_init && zk_X1_init.all (zokB zpool_1 ztsl zstt true (none) cX1_init)) = true := by decide +kernel
set_option maxRecDepth 100000 in
theorem zck_X1_gather : (zwalk cX1_gather cX1_gather.data.toList 0 zk_X1_gather && zk_X1_gather.all (zokB zpool_1 ztsl zstt false (none) cX1_gather)) = true := by decide +kernel
set_option maxRecDepth 100000 in
theorem zck_X1_addPair : (zwalk cX1_addPair cX1_addPair.data.toList 0 zk_X1_addPair && zk_X1_addPair.all (zokB zpool_1 ztsl zstt false (none) cX1_addPair)) = true := by decide +kernel
set_option maxRecDepth 100000 in
theorem zck_X1_differing : (zwalk cX1_differing cX1_differing.data.toList 0 zk_X1_differing && zk_X1_differing.all (zokB zpool_1 ztsl zstt false (some .int) cX1_differing)) = true := by decide +kernel
set_option maxRecDepth 100000 in
theorem zck_X1_above : (zwalk cX1_above cX1_above.data.toList 0 zk_X1_above && zk_X1_above.all (zokB zpool_1 ztsl zstt false (some .int) cX1_above)) = true := by decide +kernel
set_option maxRecDepth 100000 in
theorem zck_X1_meanMore : (zwalk cX1_meanMore cX1_meanMore.data.toList 0 zk_X1_meanMore && zk_X1_meanMore.all (zokB zpool_1 ztsl zstt false (some .int) cX1_meanMore)) = true := by decide +kernel
set_option maxRecDepth 100000 in
theorem zck_X1_isHard : (zwalk cX1_isHard cX1_isHard.data.toList 0 zk_X1_isHard && zk_X1_isHard.all (zokB zpool_1 ztsl zstt false (some .boolean) cX1_isHard)) = true := by decide +kernel
set_option maxRecDepth 100000 in
theorem zck_X1_countTail : (zwalk cX1_countTail cX1_countTail.data.toList 0 zk_X1_countTail && zk_X1_countTail.all (zokB zpool_1 ztsl zstt false (none) cX1_countTail)) = true := by decide +kernel
set_option maxRecDepth 100000 in
theorem zck_X1_multiply : (zwalk cX1_multiply cX1_multiply.data.toList 0 zk_X1_multiply && zk_X1_multiply.all (zokB zpool_1 ztsl zstt false (none) cX1_multiply)) = true := by decide +kernel
set_option maxRecDepth 100000 in
theorem zck_X1_divide : (zwalk cX1_divide cX1_divide.data.toList 0 zk_X1_divide && zk_X1_divide.all (zokB zpool_1 ztsl zstt false (none) cX1_divide)) = true := by decide +kernel
set_option maxRecDepth 100000 in
theorem zck_X1_addWaysToTail : (zwalk cX1_addWaysToTail cX1_addWaysToTail.data.toList 0 zk_X1_addWaysToTail && zk_X1_addWaysToTail.all (zokB zpool_1 ztsl zstt false (none) cX1_addWaysToTail)) = true := by decide +kernel
set_option maxRecDepth 100000 in
theorem zck_X1_isAtMostPower : (zwalk cX1_isAtMostPower cX1_isAtMostPower.data.toList 0 zk_X1_isAtMostPower && zk_X1_isAtMostPower.all (zokB zpool_1 ztsl zstt false (some .boolean) cX1_isAtMostPower)) = true := by decide +kernel
set_option maxRecDepth 100000 in
theorem zck_X2_init : (zwalk cX2_init cX2_init.data.toList 0 zk_X2_init && zk_X2_init.all (zokB zpool_2 ztsl zstt true (none) cX2_init)) = true := by decide +kernel
set_option maxRecDepth 100000 in
theorem zck_X2_enter : (zwalk cX2_enter cX2_enter.data.toList 0 zk_X2_enter && zk_X2_enter.all (zokB zpool_2 ztsl zstt false (some .int) cX2_enter)) = true := by decide +kernel
set_option maxRecDepth 100000 in
theorem zck_X2_isA : (zwalk cX2_isA cX2_isA.data.toList 0 zk_X2_isA && zk_X2_isA.all (zokB zpool_2 ztsl zstt false (some .boolean) cX2_isA)) = true := by decide +kernel
set_option maxRecDepth 100000 in
theorem zck_X2_isStanding : (zwalk cX2_isStanding cX2_isStanding.data.toList 0 zk_X2_isStanding && zk_X2_isStanding.all (zokB zpool_2 ztsl zstt false (some .boolean) cX2_isStanding)) = true := by decide +kernel
set_option maxRecDepth 100000 in
theorem zck_X2_howMany : (zwalk cX2_howMany cX2_howMany.data.toList 0 zk_X2_howMany && zk_X2_howMany.all (zokB zpool_2 ztsl zstt false (some .int) cX2_howMany)) = true := by decide +kernel
set_option maxRecDepth 100000 in
theorem zck_X2_standing : (zwalk cX2_standing cX2_standing.data.toList 0 zk_X2_standing && zk_X2_standing.all (zokB zpool_2 ztsl zstt false (some .int) cX2_standing)) = true := by decide +kernel
set_option maxRecDepth 100000 in
theorem zck_X2_sumUp : (zwalk cX2_sumUp cX2_sumUp.data.toList 0 zk_X2_sumUp && zk_X2_sumUp.all (zokB zpool_2 ztsl zstt false (some .long) cX2_sumUp)) = true := by decide +kernel
set_option maxRecDepth 100000 in
theorem zck_X2_sumUpRows : (zwalk cX2_sumUpRows cX2_sumUpRows.data.toList 0 zk_X2_sumUpRows && zk_X2_sumUpRows.all (zokB zpool_2 ztsl zstt false (some .long) cX2_sumUpRows)) = true := by decide +kernel
set_option maxRecDepth 100000 in
theorem zck_X2_sumUpTexts : (zwalk cX2_sumUpTexts cX2_sumUpTexts.data.toList 0 zk_X2_sumUpTexts && zk_X2_sumUpTexts.all (zokB zpool_2 ztsl zstt false (some .long) cX2_sumUpTexts)) = true := by decide +kernel
set_option maxRecDepth 100000 in
theorem zck_X2_takeOver : (zwalk cX2_takeOver cX2_takeOver.data.toList 0 zk_X2_takeOver && zk_X2_takeOver.all (zokB zpool_2 ztsl zstt false (none) cX2_takeOver)) = true := by decide +kernel
set_option maxRecDepth 100000 in
theorem zck_X3_init : (zwalk cX3_init cX3_init.data.toList 0 zk_X3_init && zk_X3_init.all (zokB zpool_3 ztsl zstt true (none) cX3_init)) = true := by decide +kernel
set_option maxRecDepth 100000 in
theorem zck_X3_putCode : (zwalk cX3_putCode cX3_putCode.data.toList 0 zk_X3_putCode && zk_X3_putCode.all (zokB zpool_3 ztsl zstt false (none) cX3_putCode)) = true := by decide +kernel
set_option maxRecDepth 100000 in
theorem zck_X3_bindingOf : (zwalk cX3_bindingOf cX3_bindingOf.data.toList 0 zk_X3_bindingOf && zk_X3_bindingOf.all (zokB zpool_3 ztsl zstt false (some .int) cX3_bindingOf)) = true := by decide +kernel
set_option maxRecDepth 100000 in
theorem zck_X3_latestOf : (zwalk cX3_latestOf cX3_latestOf.data.toList 0 zk_X3_latestOf && zk_X3_latestOf.all (zokB zpool_3 ztsl zstt false (some .int) cX3_latestOf)) = true := by decide +kernel
set_option maxRecDepth 100000 in
theorem zck_X3_rowsOf : (zwalk cX3_rowsOf cX3_rowsOf.data.toList 0 zk_X3_rowsOf && zk_X3_rowsOf.all (zokB zpool_3 ztsl zstt false (some (.object "SenateRoll$Rows")) cX3_rowsOf)) = true := by decide +kernel
set_option maxRecDepth 100000 in
theorem zck_X3_passedOf : (zwalk cX3_passedOf cX3_passedOf.data.toList 0 zk_X3_passedOf && zk_X3_passedOf.all (zokB zpool_3 ztsl zstt false (some .int) cX3_passedOf)) = true := by decide +kernel
set_option maxRecDepth 100000 in
theorem zck_X3_classOf : (zwalk cX3_classOf cX3_classOf.data.toList 0 zk_X3_classOf && zk_X3_classOf.all (zokB zpool_3 ztsl zstt false (some .int) cX3_classOf)) = true := by decide +kernel
set_option maxRecDepth 100000 in
theorem zck_X3_classWith : (zwalk cX3_classWith cX3_classWith.data.toList 0 zk_X3_classWith && zk_X3_classWith.all (zokB zpool_3 ztsl zstt false (some .int) cX3_classWith)) = true := by decide +kernel
set_option maxRecDepth 100000 in
theorem zck_X3_edgeOf : (zwalk cX3_edgeOf cX3_edgeOf.data.toList 0 zk_X3_edgeOf && zk_X3_edgeOf.all (zokB zpool_3 ztsl zstt false (some .int) cX3_edgeOf)) = true := by decide +kernel
set_option maxRecDepth 100000 in
theorem zck_X3_rollOf : (zwalk cX3_rollOf cX3_rollOf.data.toList 0 zk_X3_rollOf && zk_X3_rollOf.all (zokB zpool_3 ztsl zstt false (some .int) cX3_rollOf)) = true := by decide +kernel
set_option maxRecDepth 100000 in
theorem zck_X3_hangingOn : (zwalk cX3_hangingOn cX3_hangingOn.data.toList 0 zk_X3_hangingOn && zk_X3_hangingOn.all (zokB zpool_3 ztsl zstt false (some .int) cX3_hangingOn)) = true := by decide +kernel
set_option maxRecDepth 100000 in
theorem zck_X3_setInCourse : (zwalk cX3_setInCourse cX3_setInCourse.data.toList 0 zk_X3_setInCourse && zk_X3_setInCourse.all (zokB zpool_3 ztsl zstt false (none) cX3_setInCourse)) = true := by decide +kernel
set_option maxRecDepth 100000 in
theorem zck_X3_setAlone : (zwalk cX3_setAlone cX3_setAlone.data.toList 0 zk_X3_setAlone && zk_X3_setAlone.all (zokB zpool_3 ztsl zstt false (none) cX3_setAlone)) = true := by decide +kernel
set_option maxRecDepth 100000 in
theorem zck_X4_init : (zwalk cX4_init cX4_init.data.toList 0 zk_X4_init && zk_X4_init.all (zokB zpool_4 ztsl zstt true (none) cX4_init)) = true := by decide +kernel
set_option maxRecDepth 100000 in
theorem zck_X4_learn : (zwalk cX4_learn cX4_learn.data.toList 0 zk_X4_learn && zk_X4_learn.all (zokB zpool_4 ztsl zstt false (none) cX4_learn)) = true := by decide +kernel
set_option maxRecDepth 100000 in
theorem zck_X4_holds : (zwalk cX4_holds cX4_holds.data.toList 0 zk_X4_holds && zk_X4_holds.all (zokB zpool_4 ztsl zstt false (some .boolean) cX4_holds)) = true := by decide +kernel
set_option maxRecDepth 100000 in
theorem zck_X4_secondOf : (zwalk cX4_secondOf cX4_secondOf.data.toList 0 zk_X4_secondOf && zk_X4_secondOf.all (zokB zpool_4 ztsl zstt false (some .int) cX4_secondOf)) = true := by decide +kernel
set_option maxRecDepth 100000 in
theorem zck_X4_finalOf : (zwalk cX4_finalOf cX4_finalOf.data.toList 0 zk_X4_finalOf && zk_X4_finalOf.all (zokB zpool_4 ztsl zstt false (some .int) cX4_finalOf)) = true := by decide +kernel
set_option maxRecDepth 100000 in
theorem zck_X4_triesOf : (zwalk cX4_triesOf cX4_triesOf.data.toList 0 zk_X4_triesOf && zk_X4_triesOf.all (zokB zpool_4 ztsl zstt false (some .int) cX4_triesOf)) = true := by decide +kernel
set_option maxRecDepth 100000 in
theorem zck_X4_excusedOf : (zwalk cX4_excusedOf cX4_excusedOf.data.toList 0 zk_X4_excusedOf && zk_X4_excusedOf.all (zokB zpool_4 ztsl zstt false (some .int) cX4_excusedOf)) = true := by decide +kernel
set_option maxRecDepth 100000 in
theorem zck_X4_stepOf : (zwalk cX4_stepOf cX4_stepOf.data.toList 0 zk_X4_stepOf && zk_X4_stepOf.all (zokB zpool_4 ztsl zstt false (some .int) cX4_stepOf)) = true := by decide +kernel
set_option maxRecDepth 100000 in
theorem zck_X4_sift : (zwalk cX4_sift cX4_sift.data.toList 0 zk_X4_sift && zk_X4_sift.all (zokB zpool_4 ztsl zstt false (none) cX4_sift)) = true := by decide +kernel
set_option maxRecDepth 100000 in
theorem zck_X4_gather : (zwalk cX4_gather cX4_gather.data.toList 0 zk_X4_gather && zk_X4_gather.all (zokB zpool_4 ztsl zstt false (none) cX4_gather)) = true := by decide +kernel
set_option maxRecDepth 100000 in
theorem zck_X4_gatherOne : (zwalk cX4_gatherOne cX4_gatherOne.data.toList 0 zk_X4_gatherOne && zk_X4_gatherOne.all (zokB zpool_4 ztsl zstt false (none) cX4_gatherOne)) = true := by decide +kernel
set_option maxRecDepth 100000 in
theorem zck_X4_bringFirst : (zwalk cX4_bringFirst cX4_bringFirst.data.toList 0 zk_X4_bringFirst && zk_X4_bringFirst.all (zokB zpool_4 ztsl zstt false (none) cX4_bringFirst)) = true := by decide +kernel
set_option maxRecDepth 100000 in
theorem zck_X4_rowOf : (zwalk cX4_rowOf cX4_rowOf.data.toList 0 zk_X4_rowOf && zk_X4_rowOf.all (zokB zpool_4 ztsl zstt false (some .int) cX4_rowOf)) = true := by decide +kernel
set_option maxRecDepth 100000 in
theorem zck_X4_bothOf : (zwalk cX4_bothOf cX4_bothOf.data.toList 0 zk_X4_bothOf && zk_X4_bothOf.all (zokB zpool_4 ztsl zstt false (some .int) cX4_bothOf)) = true := by decide +kernel
set_option maxRecDepth 100000 in
theorem zck_X4_scaledOf : (zwalk cX4_scaledOf cX4_scaledOf.data.toList 0 zk_X4_scaledOf && zk_X4_scaledOf.all (zokB zpool_4 ztsl zstt false (some .int) cX4_scaledOf)) = true := by decide +kernel
set_option maxRecDepth 100000 in
theorem zck_X5_init : (zwalk cX5_init cX5_init.data.toList 0 zk_X5_init && zk_X5_init.all (zokB zpool_5 ztsl zstt true (none) cX5_init)) = true := by decide +kernel
set_option maxRecDepth 100000 in
theorem zck_X5_forget : (zwalk cX5_forget cX5_forget.data.toList 0 zk_X5_forget && zk_X5_forget.all (zokB zpool_5 ztsl zstt false (none) cX5_forget)) = true := by decide +kernel
set_option maxRecDepth 100000 in
theorem zck_X5_tell : (zwalk cX5_tell cX5_tell.data.toList 0 zk_X5_tell && zk_X5_tell.all (zokB zpool_5 ztsl zstt false (none) cX5_tell)) = true := by decide +kernel
set_option maxRecDepth 100000 in
theorem zck_X5_told : (zwalk cX5_told cX5_told.data.toList 0 zk_X5_told && zk_X5_told.all (zokB zpool_5 ztsl zstt false (some .long) cX5_told)) = true := by decide +kernel
set_option maxRecDepth 100000 in
theorem zck_X5_rank : (zwalk cX5_rank cX5_rank.data.toList 0 zk_X5_rank && zk_X5_rank.all (zokB zpool_5 ztsl zstt false (none) cX5_rank)) = true := by decide +kernel
set_option maxRecDepth 100000 in
theorem zck_X5_bestOf : (zwalk cX5_bestOf cX5_bestOf.data.toList 0 zk_X5_bestOf && zk_X5_bestOf.all (zokB zpool_5 ztsl zstt false (some .long) cX5_bestOf)) = true := by decide +kernel
set_option maxRecDepth 100000 in
theorem zck_X5_usedMore : (zwalk cX5_usedMore cX5_usedMore.data.toList 0 zk_X5_usedMore && zk_X5_usedMore.all (zokB zpool_5 ztsl zstt false (some .boolean) cX5_usedMore)) = true := by decide +kernel
set_option maxRecDepth 100000 in
theorem zck_X5_work : (zwalk cX5_work cX5_work.data.toList 0 zk_X5_work && zk_X5_work.all (zokB zpool_5 ztsl zstt false (some .long) cX5_work)) = true := by decide +kernel
set_option maxRecDepth 100000 in
theorem zck_X5_apply : (zwalk cX5_apply cX5_apply.data.toList 0 zk_X5_apply && zk_X5_apply.all (zokB zpool_5 ztsl zstt false (none) cX5_apply)) = true := by decide +kernel
set_option maxRecDepth 100000 in
theorem zck_X5_ofTwo : (zwalk cX5_ofTwo cX5_ofTwo.data.toList 0 zk_X5_ofTwo && zk_X5_ofTwo.all (zokB zpool_5 ztsl zstt false (some .long) cX5_ofTwo)) = true := by decide +kernel
set_option maxRecDepth 100000 in
theorem zck_X5_push : (zwalk cX5_push cX5_push.data.toList 0 zk_X5_push && zk_X5_push.all (zokB zpool_5 ztsl zstt false (none) cX5_push)) = true := by decide +kernel
set_option maxRecDepth 100000 in
theorem zck_X5_pop : (zwalk cX5_pop cX5_pop.data.toList 0 zk_X5_pop && zk_X5_pop.all (zokB zpool_5 ztsl zstt false (some .long) cX5_pop)) = true := by decide +kernel
set_option maxRecDepth 100000 in
theorem zck_X6_init : (zwalk cX6_init cX6_init.data.toList 0 zk_X6_init && zk_X6_init.all (zokB zpool_6 ztsl zstt true (none) cX6_init)) = true := by decide +kernel
set_option maxRecDepth 100000 in
theorem zck_X6_setHours : (zwalk cX6_setHours cX6_setHours.data.toList 0 zk_X6_setHours && zk_X6_setHours.all (zokB zpool_6 ztsl zstt false (some .int) cX6_setHours)) = true := by decide +kernel
set_option maxRecDepth 100000 in
theorem zck_X6_hourAt : (zwalk cX6_hourAt cX6_hourAt.data.toList 0 zk_X6_hourAt && zk_X6_hourAt.all (zokB zpool_6 ztsl zstt false (some .int) cX6_hourAt)) = true := by decide +kernel
set_option maxRecDepth 100000 in
theorem zck_X6_sittersOf : (zwalk cX6_sittersOf cX6_sittersOf.data.toList 0 zk_X6_sittersOf && zk_X6_sittersOf.all (zokB zpool_6 ztsl zstt false (some .int) cX6_sittersOf)) = true := by decide +kernel
set_option maxRecDepth 100000 in
theorem zck_X6_place : (zwalk cX6_place cX6_place.data.toList 0 zk_X6_place && zk_X6_place.all (zokB zpool_6 ztsl zstt false (some .boolean) cX6_place)) = true := by decide +kernel
set_option maxRecDepth 100000 in
theorem zck_X6_takes : (zwalk cX6_takes cX6_takes.data.toList 0 zk_X6_takes && zk_X6_takes.all (zokB zpool_6 ztsl zstt false (some .boolean) cX6_takes)) = true := by decide +kernel
set_option maxRecDepth 100000 in
theorem zck_X7_init : (zwalk cX7_init cX7_init.data.toList 0 zk_X7_init && zk_X7_init.all (zokB zpool_7 ztsl zstt true (none) cX7_init)) = true := by decide +kernel
set_option maxRecDepth 100000 in
theorem zck_X7_code : (zwalk cX7_code cX7_code.data.toList 0 zk_X7_code && zk_X7_code.all (zokB zpool_7 ztsl zstt false (some (.object "SenateRoll$Rows")) cX7_code)) = true := by decide +kernel
set_option maxRecDepth 100000 in
theorem zck_X7_read : (zwalk cX7_read cX7_read.data.toList 0 zk_X7_read && zk_X7_read.all (zokB zpool_7 ztsl zstt false (some .int) cX7_read)) = true := by decide +kernel
set_option maxRecDepth 100000 in
theorem zck_X7_copyTo : (zwalk cX7_copyTo cX7_copyTo.data.toList 0 zk_X7_copyTo && zk_X7_copyTo.all (zokB zpool_7 ztsl zstt false (none) cX7_copyTo)) = true := by decide +kernel
set_option maxRecDepth 100000 in
theorem zck_X7_takeUnit : (zwalk cX7_takeUnit cX7_takeUnit.data.toList 0 zk_X7_takeUnit && zk_X7_takeUnit.all (zokB zpool_7 ztsl zstt false (none) cX7_takeUnit)) = true := by decide +kernel
set_option maxRecDepth 100000 in
theorem zck_X7_takeBehindUnit : (zwalk cX7_takeBehindUnit cX7_takeBehindUnit.data.toList 0 zk_X7_takeBehindUnit && zk_X7_takeBehindUnit.all (zokB zpool_7 ztsl zstt false (none) cX7_takeBehindUnit)) = true := by decide +kernel
set_option maxRecDepth 100000 in
theorem zck_X7_takeNumber : (zwalk cX7_takeNumber cX7_takeNumber.data.toList 0 zk_X7_takeNumber && zk_X7_takeNumber.all (zokB zpool_7 ztsl zstt false (none) cX7_takeNumber)) = true := by decide +kernel
set_option maxRecDepth 100000 in
theorem zck_X7_openOne : (zwalk cX7_openOne cX7_openOne.data.toList 0 zk_X7_openOne && zk_X7_openOne.all (zokB zpool_7 ztsl zstt false (none) cX7_openOne)) = true := by decide +kernel
set_option maxRecDepth 100000 in
theorem zck_X7_closeOne : (zwalk cX7_closeOne cX7_closeOne.data.toList 0 zk_X7_closeOne && zk_X7_closeOne.all (zokB zpool_7 ztsl zstt false (none) cX7_closeOne)) = true := by decide +kernel
set_option maxRecDepth 100000 in
theorem zck_X7_turnIfToElse : (zwalk cX7_turnIfToElse cX7_turnIfToElse.data.toList 0 zk_X7_turnIfToElse && zk_X7_turnIfToElse.all (zokB zpool_7 ztsl zstt false (none) cX7_turnIfToElse)) = true := by decide +kernel
set_option maxRecDepth 100000 in
theorem zck_X7_endCases : (zwalk cX7_endCases cX7_endCases.data.toList 0 zk_X7_endCases && zk_X7_endCases.all (zokB zpool_7 ztsl zstt false (none) cX7_endCases)) = true := by decide +kernel
set_option maxRecDepth 100000 in
theorem zck_X7_emitDownTo : (zwalk cX7_emitDownTo cX7_emitDownTo.data.toList 0 zk_X7_emitDownTo && zk_X7_emitDownTo.all (zokB zpool_7 ztsl zstt false (none) cX7_emitDownTo)) = true := by decide +kernel
set_option maxRecDepth 100000 in
theorem zck_X7_pushUnless : (zwalk cX7_pushUnless cX7_pushUnless.data.toList 0 zk_X7_pushUnless && zk_X7_pushUnless.all (zokB zpool_7 ztsl zstt false (none) cX7_pushUnless)) = true := by decide +kernel
set_option maxRecDepth 100000 in
theorem zck_X7_pushOperator : (zwalk cX7_pushOperator cX7_pushOperator.data.toList 0 zk_X7_pushOperator && zk_X7_pushOperator.all (zokB zpool_7 ztsl zstt false (none) cX7_pushOperator)) = true := by decide +kernel
set_option maxRecDepth 100000 in
theorem zck_X7_push : (zwalk cX7_push cX7_push.data.toList 0 zk_X7_push && zk_X7_push.all (zokB zpool_7 ztsl zstt false (none) cX7_push)) = true := by decide +kernel
set_option maxRecDepth 100000 in
theorem zck_X7_last : (zwalk cX7_last cX7_last.data.toList 0 zk_X7_last && zk_X7_last.all (zokB zpool_7 ztsl zstt false (some .int) cX7_last)) = true := by decide +kernel
set_option maxRecDepth 100000 in
theorem zck_X7_emit : (zwalk cX7_emit cX7_emit.data.toList 0 zk_X7_emit && zk_X7_emit.all (zokB zpool_7 ztsl zstt false (none) cX7_emit)) = true := by decide +kernel
set_option maxRecDepth 100000 in
theorem zck_X7_rankOf : (zwalk cX7_rankOf cX7_rankOf.data.toList 0 zk_X7_rankOf && zk_X7_rankOf.all (zokB zpool_7 ztsl zstt false (some .int) cX7_rankOf)) = true := by decide +kernel
set_option maxRecDepth 100000 in
theorem zck_X7_failUnless : (zwalk cX7_failUnless cX7_failUnless.data.toList 0 zk_X7_failUnless && zk_X7_failUnless.all (zokB zpool_7 ztsl zstt false (none) cX7_failUnless)) = true := by decide +kernel
set_option maxRecDepth 100000 in
theorem zck_X7_fail : (zwalk cX7_fail cX7_fail.data.toList 0 zk_X7_fail && zk_X7_fail.all (zokB zpool_7 ztsl zstt false (none) cX7_fail)) = true := by decide +kernel
set_option maxRecDepth 100000 in
theorem zck_X7_nextToken : (zwalk cX7_nextToken cX7_nextToken.data.toList 0 zk_X7_nextToken && zk_X7_nextToken.all (zokB zpool_7 ztsl zstt false (none) cX7_nextToken)) = true := by decide +kernel
set_option maxRecDepth 100000 in
theorem zck_X7_nextNumber : (zwalk cX7_nextNumber cX7_nextNumber.data.toList 0 zk_X7_nextNumber && zk_X7_nextNumber.all (zokB zpool_7 ztsl zstt false (none) cX7_nextNumber)) = true := by decide +kernel
set_option maxRecDepth 100000 in
theorem zck_X7_nextWord : (zwalk cX7_nextWord cX7_nextWord.data.toList 0 zk_X7_nextWord && zk_X7_nextWord.all (zokB zpool_7 ztsl zstt false (none) cX7_nextWord)) = true := by decide +kernel
set_option maxRecDepth 100000 in
theorem zck_X7_wordThere : (zwalk cX7_wordThere cX7_wordThere.data.toList 0 zk_X7_wordThere && zk_X7_wordThere.all (zokB zpool_7 ztsl zstt false (some .int) cX7_wordThere)) = true := by decide +kernel
set_option maxRecDepth 100000 in
theorem zck_X7_letter : (zwalk cX7_letter cX7_letter.data.toList 0 zk_X7_letter && zk_X7_letter.all (zokB zpool_7 ztsl zstt false (some .int) cX7_letter)) = true := by decide +kernel
set_option maxRecDepth 100000 in
theorem zck_X7_isDigit : (zwalk cX7_isDigit cX7_isDigit.data.toList 0 zk_X7_isDigit && zk_X7_isDigit.all (zokB zpool_7 ztsl zstt false (some .boolean) cX7_isDigit)) = true := by decide +kernel
set_option maxRecDepth 100000 in
theorem zck_X7_isLetter : (zwalk cX7_isLetter cX7_isLetter.data.toList 0 zk_X7_isLetter && zk_X7_isLetter.all (zokB zpool_7 ztsl zstt false (some .boolean) cX7_isLetter)) = true := by decide +kernel
set_option maxRecDepth 100000 in
theorem zck_X8_init : (zwalk cX8_init cX8_init.data.toList 0 zk_X8_init && zk_X8_init.all (zokB zpool_8 ztsl zstt true (none) cX8_init)) = true := by decide +kernel
set_option maxRecDepth 100000 in
theorem zck_X8_size : (zwalk cX8_size cX8_size.data.toList 0 zk_X8_size && zk_X8_size.all (zokB zpool_8 ztsl zstt false (some .int) cX8_size)) = true := by decide +kernel
set_option maxRecDepth 100000 in
theorem zck_X8_has : (zwalk cX8_has cX8_has.data.toList 0 zk_X8_has && zk_X8_has.all (zokB zpool_8 ztsl zstt false (some .boolean) cX8_has)) = true := by decide +kernel
set_option maxRecDepth 100000 in
theorem zck_X8_open : (zwalk cX8_open cX8_open.data.toList 0 zk_X8_open && zk_X8_open.all (zokB zpool_8 ztsl zstt false (some .int) cX8_open)) = true := by decide +kernel
set_option maxRecDepth 100000 in
theorem zck_X8_drop : (zwalk cX8_drop cX8_drop.data.toList 0 zk_X8_drop && zk_X8_drop.all (zokB zpool_8 ztsl zstt false (none) cX8_drop)) = true := by decide +kernel
set_option maxRecDepth 100000 in
theorem zck_X8_dropLast : (zwalk cX8_dropLast cX8_dropLast.data.toList 0 zk_X8_dropLast && zk_X8_dropLast.all (zokB zpool_8 ztsl zstt false (none) cX8_dropLast)) = true := by decide +kernel
set_option maxRecDepth 100000 in
theorem zck_X8_get : (zwalk cX8_get cX8_get.data.toList 0 zk_X8_get && zk_X8_get.all (zokB zpool_8 ztsl zstt false (some .int) cX8_get)) = true := by decide +kernel
set_option maxRecDepth 100000 in
theorem zck_X8_set : (zwalk cX8_set cX8_set.data.toList 0 zk_X8_set && zk_X8_set.all (zokB zpool_8 ztsl zstt false (none) cX8_set)) = true := by decide +kernel
set_option maxRecDepth 100000 in
theorem zck_X8_add : (zwalk cX8_add cX8_add.data.toList 0 zk_X8_add && zk_X8_add.all (zokB zpool_8 ztsl zstt false (none) cX8_add)) = true := by decide +kernel
set_option maxRecDepth 100000 in
theorem zck_X8_fillColumn : (zwalk cX8_fillColumn cX8_fillColumn.data.toList 0 zk_X8_fillColumn && zk_X8_fillColumn.all (zokB zpool_8 ztsl zstt false (none) cX8_fillColumn)) = true := by decide +kernel
set_option maxRecDepth 100000 in
theorem zck_X8_takeOver : (zwalk cX8_takeOver cX8_takeOver.data.toList 0 zk_X8_takeOver && zk_X8_takeOver.all (zokB zpool_8 ztsl zstt false (none) cX8_takeOver)) = true := by decide +kernel
set_option maxRecDepth 100000 in
theorem zck_X9_init : (zwalk cX9_init cX9_init.data.toList 0 zk_X9_init && zk_X9_init.all (zokB zpool_9 ztsl zstt true (none) cX9_init)) = true := by decide +kernel
set_option maxRecDepth 100000 in
theorem zck_X9_lead : (zwalk cX9_lead cX9_lead.data.toList 0 zk_X9_lead && zk_X9_lead.all (zokB zpool_9 ztsl zstt false (none) cX9_lead)) = true := by decide +kernel
set_option maxRecDepth 100000 in
theorem zck_X9_termsFrom : (zwalk cX9_termsFrom cX9_termsFrom.data.toList 0 zk_X9_termsFrom && zk_X9_termsFrom.all (zokB zpool_9 ztsl zstt false (some .int) cX9_termsFrom)) = true := by decide +kernel
set_option maxRecDepth 100000 in
theorem zck_X9_setAt : (zwalk cX9_setAt cX9_setAt.data.toList 0 zk_X9_setAt && zk_X9_setAt.all (zokB zpool_9 ztsl zstt false (some .int) cX9_setAt)) = true := by decide +kernel
set_option maxRecDepth 100000 in
theorem zck_X9_greatestSet : (zwalk cX9_greatestSet cX9_greatestSet.data.toList 0 zk_X9_greatestSet && zk_X9_greatestSet.all (zokB zpool_9 ztsl zstt false (some .int) cX9_greatestSet)) = true := by decide +kernel
set_option maxRecDepth 100000 in
theorem zck_X9_fewestFor : (zwalk cX9_fewestFor cX9_fewestFor.data.toList 0 zk_X9_fewestFor && zk_X9_fewestFor.all (zokB zpool_9 ztsl zstt false (some .int) cX9_fewestFor)) = true := by decide +kernel
set_option maxRecDepth 100000 in
theorem zck_X9_freeIn : (zwalk cX9_freeIn cX9_freeIn.data.toList 0 zk_X9_freeIn && zk_X9_freeIn.all (zokB zpool_9 ztsl zstt false (some .int) cX9_freeIn)) = true := by decide +kernel
set_option maxRecDepth 100000 in
theorem zck_X9_isTaught : (zwalk cX9_isTaught cX9_isTaught.data.toList 0 zk_X9_isTaught && zk_X9_isTaught.all (zokB zpool_9 ztsl zstt false (some .boolean) cX9_isTaught)) = true := by decide +kernel
set_option maxRecDepth 100000 in
theorem zck_X9_leastFor : (zwalk cX9_leastFor cX9_leastFor.data.toList 0 zk_X9_leastFor && zk_X9_leastFor.all (zokB zpool_9 ztsl zstt false (some .int) cX9_leastFor)) = true := by decide +kernel
set_option maxRecDepth 100000 in
theorem zck_X9_leastWithin : (zwalk cX9_leastWithin cX9_leastWithin.data.toList 0 zk_X9_leastWithin && zk_X9_leastWithin.all (zokB zpool_9 ztsl zstt false (some .int) cX9_leastWithin)) = true := by decide +kernel
set_option maxRecDepth 100000 in
theorem zck_X9_earliest : (zwalk cX9_earliest cX9_earliest.data.toList 0 zk_X9_earliest && zk_X9_earliest.all (zokB zpool_9 ztsl zstt false (some .int) cX9_earliest)) = true := by decide +kernel
set_option maxRecDepth 100000 in
theorem zck_X10_init : (zwalk cX10_init cX10_init.data.toList 0 zk_X10_init && zk_X10_init.all (zokB zpool_10 ztsl zstt true (none) cX10_init)) = true := by decide +kernel
set_option maxRecDepth 100000 in
theorem zck_X10_course : (zwalk cX10_course cX10_course.data.toList 0 zk_X10_course && zk_X10_course.all (zokB zpool_10 ztsl zstt false (some .int) cX10_course)) = true := by decide +kernel
set_option maxRecDepth 100000 in
theorem zck_X10_student : (zwalk cX10_student cX10_student.data.toList 0 zk_X10_student && zk_X10_student.all (zokB zpool_10 ztsl zstt false (some .int) cX10_student)) = true := by decide +kernel
set_option maxRecDepth 100000 in
theorem zck_X10_board : (zwalk cX10_board cX10_board.data.toList 0 zk_X10_board && zk_X10_board.all (zokB zpool_10 ztsl zstt false (some .int) cX10_board)) = true := by decide +kernel
set_option maxRecDepth 100000 in
theorem zck_X10_meeting : (zwalk cX10_meeting cX10_meeting.data.toList 0 zk_X10_meeting && zk_X10_meeting.all (zokB zpool_10 ztsl zstt false (some .int) cX10_meeting)) = true := by decide +kernel
set_option maxRecDepth 100000 in
theorem zck_X10_tear : (zwalk cX10_tear cX10_tear.data.toList 0 zk_X10_tear && zk_X10_tear.all (zokB zpool_10 ztsl zstt false (some .int) cX10_tear)) = true := by decide +kernel
set_option maxRecDepth 100000 in
theorem zck_X10_stands : (zwalk cX10_stands cX10_stands.data.toList 0 zk_X10_stands && zk_X10_stands.all (zokB zpool_10 ztsl zstt false (some .int) cX10_stands)) = true := by decide +kernel
set_option maxRecDepth 100000 in
theorem zck_X10_mark : (zwalk cX10_mark cX10_mark.data.toList 0 zk_X10_mark && zk_X10_mark.all (zokB zpool_10 ztsl zstt false (some .int) cX10_mark)) = true := by decide +kernel
set_option maxRecDepth 100000 in
theorem zck_X10_second : (zwalk cX10_second cX10_second.data.toList 0 zk_X10_second && zk_X10_second.all (zokB zpool_10 ztsl zstt false (some .int) cX10_second)) = true := by decide +kernel
set_option maxRecDepth 100000 in
theorem zck_X10_moderate : (zwalk cX10_moderate cX10_moderate.data.toList 0 zk_X10_moderate && zk_X10_moderate.all (zokB zpool_10 ztsl zstt false (some .int) cX10_moderate)) = true := by decide +kernel
set_option maxRecDepth 100000 in
theorem zck_X10_scale : (zwalk cX10_scale cX10_scale.data.toList 0 zk_X10_scale && zk_X10_scale.all (zokB zpool_10 ztsl zstt false (some .int) cX10_scale)) = true := by decide +kernel
set_option maxRecDepth 100000 in
theorem zck_X10_excuse : (zwalk cX10_excuse cX10_excuse.data.toList 0 zk_X10_excuse && zk_X10_excuse.all (zokB zpool_10 ztsl zstt false (some .int) cX10_excuse)) = true := by decide +kernel
set_option maxRecDepth 100000 in
theorem zck_X10_strike : (zwalk cX10_strike cX10_strike.data.toList 0 zk_X10_strike && zk_X10_strike.all (zokB zpool_10 ztsl zstt false (some .int) cX10_strike)) = true := by decide +kernel
set_option maxRecDepth 100000 in
theorem zck_X10_degree : (zwalk cX10_degree cX10_degree.data.toList 0 zk_X10_degree && zk_X10_degree.all (zokB zpool_10 ztsl zstt false (some .int) cX10_degree)) = true := by decide +kernel
set_option maxRecDepth 100000 in
theorem zck_X10_appeal : (zwalk cX10_appeal cX10_appeal.data.toList 0 zk_X10_appeal && zk_X10_appeal.all (zokB zpool_10 ztsl zstt false (some .int) cX10_appeal)) = true := by decide +kernel
set_option maxRecDepth 100000 in
theorem zck_X10_days : (zwalk cX10_days cX10_days.data.toList 0 zk_X10_days && zk_X10_days.all (zokB zpool_10 ztsl zstt false (some .int) cX10_days)) = true := by decide +kernel
set_option maxRecDepth 100000 in
theorem zck_X10_about : (zwalk cX10_about cX10_about.data.toList 0 zk_X10_about && zk_X10_about.all (zokB zpool_10 ztsl zstt false (some .int) cX10_about)) = true := by decide +kernel
set_option maxRecDepth 100000 in
theorem zck_X10_counts : (zwalk cX10_counts cX10_counts.data.toList 0 zk_X10_counts && zk_X10_counts.all (zokB zpool_10 ztsl zstt false (some .int) cX10_counts)) = true := by decide +kernel
set_option maxRecDepth 100000 in
theorem zck_X10_step : (zwalk cX10_step cX10_step.data.toList 0 zk_X10_step && zk_X10_step.all (zokB zpool_10 ztsl zstt false (some .int) cX10_step)) = true := by decide +kernel
set_option maxRecDepth 100000 in
theorem zck_X10_outcome : (zwalk cX10_outcome cX10_outcome.data.toList 0 zk_X10_outcome && zk_X10_outcome.all (zokB zpool_10 ztsl zstt false (some .int) cX10_outcome)) = true := by decide +kernel
set_option maxRecDepth 100000 in
theorem zck_X10_passed : (zwalk cX10_passed cX10_passed.data.toList 0 zk_X10_passed && zk_X10_passed.all (zokB zpool_10 ztsl zstt false (some .int) cX10_passed)) = true := by decide +kernel
set_option maxRecDepth 100000 in
theorem zck_X10_grade : (zwalk cX10_grade cX10_grade.data.toList 0 zk_X10_grade && zk_X10_grade.all (zokB zpool_10 ztsl zstt false (some .int) cX10_grade)) = true := by decide +kernel
set_option maxRecDepth 100000 in
theorem zck_X10_number : (zwalk cX10_number cX10_number.data.toList 0 zk_X10_number && zk_X10_number.all (zokB zpool_10 ztsl zstt false (some .long) cX10_number)) = true := by decide +kernel
set_option maxRecDepth 100000 in
theorem zck_X10_edge : (zwalk cX10_edge cX10_edge.data.toList 0 zk_X10_edge && zk_X10_edge.all (zokB zpool_10 ztsl zstt false (some .int) cX10_edge)) = true := by decide +kernel
set_option maxRecDepth 100000 in
theorem zck_X10_roll : (zwalk cX10_roll cX10_roll.data.toList 0 zk_X10_roll && zk_X10_roll.all (zokB zpool_10 ztsl zstt false (some .int) cX10_roll)) = true := by decide +kernel
set_option maxRecDepth 100000 in
theorem zck_X10_hangs : (zwalk cX10_hangs cX10_hangs.data.toList 0 zk_X10_hangs && zk_X10_hangs.all (zokB zpool_10 ztsl zstt false (some .int) cX10_hangs)) = true := by decide +kernel
set_option maxRecDepth 100000 in
theorem zck_X10_write : (zwalk cX10_write cX10_write.data.toList 0 zk_X10_write && zk_X10_write.all (zokB zpool_10 ztsl zstt false (some .int) cX10_write)) = true := by decide +kernel
set_option maxRecDepth 100000 in
theorem zck_X10_erase : (zwalk cX10_erase cX10_erase.data.toList 0 zk_X10_erase && zk_X10_erase.all (zokB zpool_10 ztsl zstt false (some .int) cX10_erase)) = true := by decide +kernel
set_option maxRecDepth 100000 in
theorem zck_X10_fault : (zwalk cX10_fault cX10_fault.data.toList 0 zk_X10_fault && zk_X10_fault.all (zokB zpool_10 ztsl zstt false (some .int) cX10_fault)) = true := by decide +kernel
set_option maxRecDepth 100000 in
theorem zck_X10_tells : (zwalk cX10_tells cX10_tells.data.toList 0 zk_X10_tells && zk_X10_tells.all (zokB zpool_10 ztsl zstt false (some .long) cX10_tells)) = true := by decide +kernel
set_option maxRecDepth 100000 in
theorem zck_X10_ordain : (zwalk cX10_ordain cX10_ordain.data.toList 0 zk_X10_ordain && zk_X10_ordain.all (zokB zpool_10 ztsl zstt false (some .int) cX10_ordain)) = true := by decide +kernel
set_option maxRecDepth 100000 in
theorem zck_X10_choose : (zwalk cX10_choose cX10_choose.data.toList 0 zk_X10_choose && zk_X10_choose.all (zokB zpool_10 ztsl zstt false (some .int) cX10_choose)) = true := by decide +kernel
set_option maxRecDepth 100000 in
theorem zck_X10_binds : (zwalk cX10_binds cX10_binds.data.toList 0 zk_X10_binds && zk_X10_binds.all (zokB zpool_10 ztsl zstt false (some .int) cX10_binds)) = true := by decide +kernel
set_option maxRecDepth 100000 in
theorem zck_X10_way : (zwalk cX10_way cX10_way.data.toList 0 zk_X10_way && zk_X10_way.all (zokB zpool_10 ztsl zstt false (some .int) cX10_way)) = true := by decide +kernel
set_option maxRecDepth 100000 in
theorem zck_X10_wayAt : (zwalk cX10_wayAt cX10_wayAt.data.toList 0 zk_X10_wayAt && zk_X10_wayAt.all (zokB zpool_10 ztsl zstt false (some .int) cX10_wayAt)) = true := by decide +kernel
set_option maxRecDepth 100000 in
theorem zck_X10_sits : (zwalk cX10_sits cX10_sits.data.toList 0 zk_X10_sits && zk_X10_sits.all (zokB zpool_10 ztsl zstt false (some .int) cX10_sits)) = true := by decide +kernel
set_option maxRecDepth 100000 in
theorem zck_X10_hours : (zwalk cX10_hours cX10_hours.data.toList 0 zk_X10_hours && zk_X10_hours.all (zokB zpool_10 ztsl zstt false (some .int) cX10_hours)) = true := by decide +kernel
set_option maxRecDepth 100000 in
theorem zck_X10_hourOf : (zwalk cX10_hourOf cX10_hourOf.data.toList 0 zk_X10_hourOf && zk_X10_hourOf.all (zokB zpool_10 ztsl zstt false (some .int) cX10_hourOf)) = true := by decide +kernel
set_option maxRecDepth 100000 in
theorem zck_X10_habit : (zwalk cX10_habit cX10_habit.data.toList 0 zk_X10_habit && zk_X10_habit.all (zokB zpool_10 ztsl zstt false (some .int) cX10_habit)) = true := by decide +kernel
set_option maxRecDepth 100000 in
theorem zck_X10_odds : (zwalk cX10_odds cX10_odds.data.toList 0 zk_X10_odds && zk_X10_odds.all (zokB zpool_10 ztsl zstt false (some .int) cX10_odds)) = true := by decide +kernel
set_option maxRecDepth 100000 in
theorem zck_X10_line : (zwalk cX10_line cX10_line.data.toList 0 zk_X10_line && zk_X10_line.all (zokB zpool_10 ztsl zstt false (some .int) cX10_line)) = true := by decide +kernel
set_option maxRecDepth 100000 in
theorem zck_X10_clear : (zwalk cX10_clear cX10_clear.data.toList 0 zk_X10_clear && zk_X10_clear.all (zokB zpool_10 ztsl zstt false (some .int) cX10_clear)) = true := by decide +kernel
set_option maxRecDepth 100000 in
theorem zck_X10_doubt : (zwalk cX10_doubt cX10_doubt.data.toList 0 zk_X10_doubt && zk_X10_doubt.all (zokB zpool_10 ztsl zstt false (some .int) cX10_doubt)) = true := by decide +kernel
set_option maxRecDepth 100000 in
theorem zck_X10_image : (zwalk cX10_image cX10_image.data.toList 0 zk_X10_image && zk_X10_image.all (zokB zpool_10 ztsl zstt false (some .int) cX10_image)) = true := by decide +kernel
set_option maxRecDepth 100000 in
theorem zck_X10_from : (zwalk cX10_from cX10_from.data.toList 0 zk_X10_from && zk_X10_from.all (zokB zpool_10 ztsl zstt false (some .int) cX10_from)) = true := by decide +kernel
set_option maxRecDepth 100000 in
theorem zck_X10_count : (zwalk cX10_count cX10_count.data.toList 0 zk_X10_count && zk_X10_count.all (zokB zpool_10 ztsl zstt false (some .int) cX10_count)) = true := by decide +kernel
set_option maxRecDepth 100000 in
theorem zck_X10_digest : (zwalk cX10_digest cX10_digest.data.toList 0 zk_X10_digest && zk_X10_digest.all (zokB zpool_10 ztsl zstt false (some .long) cX10_digest)) = true := by decide +kernel
set_option maxRecDepth 100000 in
theorem zck_X10_within : (zwalk cX10_within cX10_within.data.toList 0 zk_X10_within && zk_X10_within.all (zokB zpool_10 ztsl zstt false (some .boolean) cX10_within)) = true := by decide +kernel
set_option maxRecDepth 100000 in
theorem zck_X10_isDay : (zwalk cX10_isDay cX10_isDay.data.toList 0 zk_X10_isDay && zk_X10_isDay.all (zokB zpool_10 ztsl zstt false (some .boolean) cX10_isDay)) = true := by decide +kernel
set_option maxRecDepth 100000 in
theorem zck_X10_isMark : (zwalk cX10_isMark cX10_isMark.data.toList 0 zk_X10_isMark && zk_X10_isMark.all (zokB zpool_10 ztsl zstt false (some .boolean) cX10_isMark)) = true := by decide +kernel
set_option maxRecDepth 100000 in
theorem zck_X10_isExaminer : (zwalk cX10_isExaminer cX10_isExaminer.data.toList 0 zk_X10_isExaminer && zk_X10_isExaminer.all (zokB zpool_10 ztsl zstt false (some .boolean) cX10_isExaminer)) = true := by decide +kernel
set_option maxRecDepth 100000 in
theorem zck_X10_isText : (zwalk cX10_isText cX10_isText.data.toList 0 zk_X10_isText && zk_X10_isText.all (zokB zpool_10 ztsl zstt false (some .boolean) cX10_isText)) = true := by decide +kernel
set_option maxRecDepth 100000 in
theorem zck_X10_isStudent : (zwalk cX10_isStudent cX10_isStudent.data.toList 0 zk_X10_isStudent && zk_X10_isStudent.all (zokB zpool_10 ztsl zstt false (some .boolean) cX10_isStudent)) = true := by decide +kernel
set_option maxRecDepth 100000 in
theorem zck_X10_isCourse : (zwalk cX10_isCourse cX10_isCourse.data.toList 0 zk_X10_isCourse && zk_X10_isCourse.all (zokB zpool_10 ztsl zstt false (some .boolean) cX10_isCourse)) = true := by decide +kernel
set_option maxRecDepth 100000 in
theorem zck_X10_imageAt : (zwalk cX10_imageAt cX10_imageAt.data.toList 0 zk_X10_imageAt && zk_X10_imageAt.all (zokB zpool_10 ztsl zstt false (some (.object "SenateRoll$House")) cX10_imageAt)) = true := by decide +kernel
set_option maxRecDepth 100000 in
theorem zck_X10_allCourses : (zwalk cX10_allCourses cX10_allCourses.data.toList 0 zk_X10_allCourses && zk_X10_allCourses.all (zokB zpool_10 ztsl zstt false (some .int) cX10_allCourses)) = true := by decide +kernel
set_option maxRecDepth 100000 in
theorem zck_X10_isKnownAfter : (zwalk cX10_isKnownAfter cX10_isKnownAfter.data.toList 0 zk_X10_isKnownAfter && zk_X10_isKnownAfter.all (zokB zpool_10 ztsl zstt false (some .boolean) cX10_isKnownAfter)) = true := by decide +kernel
set_option maxRecDepth 100000 in
theorem zck_X10_enterBy : (zwalk cX10_enterBy cX10_enterBy.data.toList 0 zk_X10_enterBy && zk_X10_enterBy.all (zokB zpool_10 ztsl zstt false (some .int) cX10_enterBy)) = true := by decide +kernel
set_option maxRecDepth 100000 in
theorem zck_X11_in : (zwalk cX11_in cX11_in.data.toList 0 zk_X11_in && zk_X11_in.all (zokB zpool_11 ztsl zstt false (some .boolean) cX11_in)) = true := by decide +kernel
set_option maxRecDepth 100000 in
theorem zck_X11_init : (zwalk cX11_init cX11_init.data.toList 0 zk_X11_init && zk_X11_init.all (zokB zpool_11 ztsl zstt true (none) cX11_init)) = true := by decide +kernel
set_option maxRecDepth 100000 in
theorem zck_X11_is : (zwalk cX11_is cX11_is.data.toList 0 zk_X11_is && zk_X11_is.all (zokB zpool_11 ztsl zstt false (some .boolean) cX11_is)) = true := by decide +kernel
set_option maxRecDepth 100000 in
theorem zck_X11_one : (zwalk cX11_one cX11_one.data.toList 0 zk_X11_one && zk_X11_one.all (zokB zpool_11 ztsl zstt false (some .int) cX11_one)) = true := by decide +kernel
set_option maxRecDepth 100000 in
theorem zck_X11_isDay : (zwalk cX11_isDay cX11_isDay.data.toList 0 zk_X11_isDay && zk_X11_isDay.all (zokB zpool_11 ztsl zstt false (some .boolean) cX11_isDay)) = true := by decide +kernel
set_option maxRecDepth 100000 in
theorem zck_X11_isMarkNumber : (zwalk cX11_isMarkNumber cX11_isMarkNumber.data.toList 0 zk_X11_isMarkNumber && zk_X11_isMarkNumber.all (zokB zpool_11 ztsl zstt false (some .boolean) cX11_isMarkNumber)) = true := by decide +kernel
set_option maxRecDepth 100000 in
theorem zck_X11_sizeOf : (zwalk cX11_sizeOf cX11_sizeOf.data.toList 0 zk_X11_sizeOf && zk_X11_sizeOf.all (zokB zpool_11 ztsl zstt false (some .int) cX11_sizeOf)) = true := by decide +kernel
set_option maxRecDepth 100000 in
theorem zck_X11_course : (zwalk cX11_course cX11_course.data.toList 0 zk_X11_course && zk_X11_course.all (zokB zpool_11 ztsl zstt false (some .int) cX11_course)) = true := by decide +kernel
set_option maxRecDepth 100000 in
theorem zck_X11_student : (zwalk cX11_student cX11_student.data.toList 0 zk_X11_student && zk_X11_student.all (zokB zpool_11 ztsl zstt false (some .int) cX11_student)) = true := by decide +kernel
set_option maxRecDepth 100000 in
theorem zck_X11_board : (zwalk cX11_board cX11_board.data.toList 0 zk_X11_board && zk_X11_board.all (zokB zpool_11 ztsl zstt false (some .int) cX11_board)) = true := by decide +kernel
set_option maxRecDepth 100000 in
theorem zck_X11_meeting : (zwalk cX11_meeting cX11_meeting.data.toList 0 zk_X11_meeting && zk_X11_meeting.all (zokB zpool_11 ztsl zstt false (some .int) cX11_meeting)) = true := by decide +kernel
set_option maxRecDepth 100000 in
theorem zck_X11_tear : (zwalk cX11_tear cX11_tear.data.toList 0 zk_X11_tear && zk_X11_tear.all (zokB zpool_11 ztsl zstt false (some .int) cX11_tear)) = true := by decide +kernel
set_option maxRecDepth 100000 in
theorem zck_X11_isStanding : (zwalk cX11_isStanding cX11_isStanding.data.toList 0 zk_X11_isStanding && zk_X11_isStanding.all (zokB zpool_11 ztsl zstt false (some .boolean) cX11_isStanding)) = true := by decide +kernel
set_option maxRecDepth 100000 in
theorem zck_X11_stands : (zwalk cX11_stands cX11_stands.data.toList 0 zk_X11_stands && zk_X11_stands.all (zokB zpool_11 ztsl zstt false (some .int) cX11_stands)) = true := by decide +kernel
set_option maxRecDepth 100000 in
theorem zck_X11_act : (zwalk cX11_act cX11_act.data.toList 0 zk_X11_act && zk_X11_act.all (zokB zpool_11 ztsl zstt false (some .int) cX11_act)) = true := by decide +kernel
set_option maxRecDepth 100000 in
theorem zck_X11_puts : (zwalk cX11_puts cX11_puts.data.toList 0 zk_X11_puts && zk_X11_puts.all (zokB zpool_11 ztsl zstt false (none) cX11_puts)) = true := by decide +kernel
set_option maxRecDepth 100000 in
theorem zck_X11_begins : (zwalk cX11_begins cX11_begins.data.toList 0 zk_X11_begins && zk_X11_begins.all (zokB zpool_11 ztsl zstt false (none) cX11_begins)) = true := by decide +kernel
set_option maxRecDepth 100000 in
theorem zck_X11_isFull : (zwalk cX11_isFull cX11_isFull.data.toList 0 zk_X11_isFull && zk_X11_isFull.all (zokB zpool_11 ztsl zstt false (some .boolean) cX11_isFull)) = true := by decide +kernel
set_option maxRecDepth 100000 in
theorem zck_X11_isMark : (zwalk cX11_isMark cX11_isMark.data.toList 0 zk_X11_isMark && zk_X11_isMark.all (zokB zpool_11 ztsl zstt false (some .boolean) cX11_isMark)) = true := by decide +kernel
set_option maxRecDepth 100000 in
theorem zck_X11_dayOf : (zwalk cX11_dayOf cX11_dayOf.data.toList 0 zk_X11_dayOf && zk_X11_dayOf.all (zokB zpool_11 ztsl zstt false (some .int) cX11_dayOf)) = true := by decide +kernel
set_option maxRecDepth 100000 in
theorem zck_X11_isBy : (zwalk cX11_isBy cX11_isBy.data.toList 0 zk_X11_isBy && zk_X11_isBy.all (zokB zpool_11 ztsl zstt false (some .boolean) cX11_isBy)) = true := by decide +kernel
set_option maxRecDepth 100000 in
theorem zck_X11_mark : (zwalk cX11_mark cX11_mark.data.toList 0 zk_X11_mark && zk_X11_mark.all (zokB zpool_11 ztsl zstt false (some .int) cX11_mark)) = true := by decide +kernel
set_option maxRecDepth 100000 in
theorem zck_X11_second : (zwalk cX11_second cX11_second.data.toList 0 zk_X11_second && zk_X11_second.all (zokB zpool_11 ztsl zstt false (some .int) cX11_second)) = true := by decide +kernel
set_option maxRecDepth 100000 in
theorem zck_X11_moderate : (zwalk cX11_moderate cX11_moderate.data.toList 0 zk_X11_moderate && zk_X11_moderate.all (zokB zpool_11 ztsl zstt false (some .int) cX11_moderate)) = true := by decide +kernel
set_option maxRecDepth 100000 in
theorem zck_X11_scale : (zwalk cX11_scale cX11_scale.data.toList 0 zk_X11_scale && zk_X11_scale.all (zokB zpool_11 ztsl zstt false (some .int) cX11_scale)) = true := by decide +kernel
set_option maxRecDepth 100000 in
theorem zck_X11_excuse : (zwalk cX11_excuse cX11_excuse.data.toList 0 zk_X11_excuse && zk_X11_excuse.all (zokB zpool_11 ztsl zstt false (some .int) cX11_excuse)) = true := by decide +kernel
set_option maxRecDepth 100000 in
theorem zck_X11_strike : (zwalk cX11_strike cX11_strike.data.toList 0 zk_X11_strike && zk_X11_strike.all (zokB zpool_11 ztsl zstt false (some .int) cX11_strike)) = true := by decide +kernel
set_option maxRecDepth 100000 in
theorem zck_X11_degree : (zwalk cX11_degree cX11_degree.data.toList 0 zk_X11_degree && zk_X11_degree.all (zokB zpool_11 ztsl zstt false (some .int) cX11_degree)) = true := by decide +kernel
set_option maxRecDepth 100000 in
theorem zck_X11_appeal : (zwalk cX11_appeal cX11_appeal.data.toList 0 zk_X11_appeal && zk_X11_appeal.all (zokB zpool_11 ztsl zstt false (some .int) cX11_appeal)) = true := by decide +kernel
set_option maxRecDepth 100000 in
theorem zck_X11_days : (zwalk cX11_days cX11_days.data.toList 0 zk_X11_days && zk_X11_days.all (zokB zpool_11 ztsl zstt false (some .int) cX11_days)) = true := by decide +kernel
set_option maxRecDepth 100000 in
theorem zck_X11_about : (zwalk cX11_about cX11_about.data.toList 0 zk_X11_about && zk_X11_about.all (zokB zpool_11 ztsl zstt false (some .int) cX11_about)) = true := by decide +kernel
set_option maxRecDepth 100000 in
theorem zck_X11_finds : (zwalk cX11_finds cX11_finds.data.toList 0 zk_X11_finds && zk_X11_finds.all (zokB zpool_11 ztsl zstt false (none) cX11_finds)) = true := by decide +kernel
set_option maxRecDepth 100000 in
theorem zck_X11_counts : (zwalk cX11_counts cX11_counts.data.toList 0 zk_X11_counts && zk_X11_counts.all (zokB zpool_11 ztsl zstt false (some .int) cX11_counts)) = true := by decide +kernel
set_option maxRecDepth 100000 in
theorem zck_X11_lastOf : (zwalk cX11_lastOf cX11_lastOf.data.toList 0 zk_X11_lastOf && zk_X11_lastOf.all (zokB zpool_11 ztsl zstt false (some .int) cX11_lastOf)) = true := by decide +kernel
set_option maxRecDepth 100000 in
theorem zck_X11_scaledFor : (zwalk cX11_scaledFor cX11_scaledFor.data.toList 0 zk_X11_scaledFor && zk_X11_scaledFor.all (zokB zpool_11 ztsl zstt false (some .int) cX11_scaledFor)) = true := by decide +kernel
set_option maxRecDepth 100000 in
theorem zck_X11_isLater : (zwalk cX11_isLater cX11_isLater.data.toList 0 zk_X11_isLater && zk_X11_isLater.all (zokB zpool_11 ztsl zstt false (some .boolean) cX11_isLater)) = true := by decide +kernel
set_option maxRecDepth 100000 in
theorem zck_X11_stepOf : (zwalk cX11_stepOf cX11_stepOf.data.toList 0 zk_X11_stepOf && zk_X11_stepOf.all (zokB zpool_11 ztsl zstt false (some .int) cX11_stepOf)) = true := by decide +kernel
set_option maxRecDepth 100000 in
theorem zck_X11_step : (zwalk cX11_step cX11_step.data.toList 0 zk_X11_step && zk_X11_step.all (zokB zpool_11 ztsl zstt false (some .int) cX11_step)) = true := by decide +kernel
set_option maxRecDepth 100000 in
theorem zck_X11_findCourses : (zwalk cX11_findCourses cX11_findCourses.data.toList 0 zk_X11_findCourses && zk_X11_findCourses.all (zokB zpool_11 ztsl zstt false (none) cX11_findCourses)) = true := by decide +kernel
set_option maxRecDepth 100000 in
theorem zck_X11_outcome : (zwalk cX11_outcome cX11_outcome.data.toList 0 zk_X11_outcome && zk_X11_outcome.all (zokB zpool_11 ztsl zstt false (some .int) cX11_outcome)) = true := by decide +kernel
set_option maxRecDepth 100000 in
theorem zck_X11_emits : (zwalk cX11_emits cX11_emits.data.toList 0 zk_X11_emits && zk_X11_emits.all (zokB zpool_11 ztsl zstt false (none) cX11_emits)) = true := by decide +kernel
set_option maxRecDepth 100000 in
theorem zck_X11_holds : (zwalk cX11_holds cX11_holds.data.toList 0 zk_X11_holds && zk_X11_holds.all (zokB zpool_11 ztsl zstt false (some .int) cX11_holds)) = true := by decide +kernel
set_option maxRecDepth 100000 in
theorem zck_X11_top : (zwalk cX11_top cX11_top.data.toList 0 zk_X11_top && zk_X11_top.all (zokB zpool_11 ztsl zstt false (some .int) cX11_top)) = true := by decide +kernel
set_option maxRecDepth 100000 in
theorem zck_X11_waitsWith : (zwalk cX11_waitsWith cX11_waitsWith.data.toList 0 zk_X11_waitsWith && zk_X11_waitsWith.all (zokB zpool_11 ztsl zstt false (none) cX11_waitsWith)) = true := by decide +kernel
set_option maxRecDepth 100000 in
theorem zck_X11_settles : (zwalk cX11_settles cX11_settles.data.toList 0 zk_X11_settles && zk_X11_settles.all (zokB zpool_11 ztsl zstt false (none) cX11_settles)) = true := by decide +kernel
set_option maxRecDepth 100000 in
theorem zck_X11_settlesCase : (zwalk cX11_settlesCase cX11_settlesCase.data.toList 0 zk_X11_settlesCase && zk_X11_settlesCase.all (zokB zpool_11 ztsl zstt false (some .boolean) cX11_settlesCase)) = true := by decide +kernel
set_option maxRecDepth 100000 in
theorem zck_X11_settlesValue : (zwalk cX11_settlesValue cX11_settlesValue.data.toList 0 zk_X11_settlesValue && zk_X11_settlesValue.all (zokB zpool_11 ztsl zstt false (some .boolean) cX11_settlesValue)) = true := by decide +kernel
set_option maxRecDepth 100000 in
theorem zck_X11_signOf : (zwalk cX11_signOf cX11_signOf.data.toList 0 zk_X11_signOf && zk_X11_signOf.all (zokB zpool_11 ztsl zstt false (some .int) cX11_signOf)) = true := by decide +kernel
set_option maxRecDepth 100000 in
theorem zck_X11_goesOn : (zwalk cX11_goesOn cX11_goesOn.data.toList 0 zk_X11_goesOn && zk_X11_goesOn.all (zokB zpool_11 ztsl zstt false (some .boolean) cX11_goesOn)) = true := by decide +kernel
set_option maxRecDepth 100000 in
theorem zck_X11_wordAt : (zwalk cX11_wordAt cX11_wordAt.data.toList 0 zk_X11_wordAt && zk_X11_wordAt.all (zokB zpool_11 ztsl zstt false (some .long) cX11_wordAt)) = true := by decide +kernel
set_option maxRecDepth 100000 in
theorem zck_X11_wordOf : (zwalk cX11_wordOf cX11_wordOf.data.toList 0 zk_X11_wordOf && zk_X11_wordOf.all (zokB zpool_11 ztsl zstt false (some .int) cX11_wordOf)) = true := by decide +kernel
set_option maxRecDepth 100000 in
theorem zck_X11_reads : (zwalk cX11_reads cX11_reads.data.toList 0 zk_X11_reads && zk_X11_reads.all (zokB zpool_11 ztsl zstt false (some .int) cX11_reads)) = true := by decide +kernel
set_option maxRecDepth 100000 in
theorem zck_X11_closes : (zwalk cX11_closes cX11_closes.data.toList 0 zk_X11_closes && zk_X11_closes.all (zokB zpool_11 ztsl zstt false (some .int) cX11_closes)) = true := by decide +kernel
set_option maxRecDepth 100000 in
theorem zck_X11_bestOf : (zwalk cX11_bestOf cX11_bestOf.data.toList 0 zk_X11_bestOf && zk_X11_bestOf.all (zokB zpool_11 ztsl zstt false (some .long) cX11_bestOf)) = true := by decide +kernel
set_option maxRecDepth 100000 in
theorem zck_X11_twoOf : (zwalk cX11_twoOf cX11_twoOf.data.toList 0 zk_X11_twoOf && zk_X11_twoOf.all (zokB zpool_11 ztsl zstt false (some .long) cX11_twoOf)) = true := by decide +kernel
set_option maxRecDepth 100000 in
theorem zck_X11_goes : (zwalk cX11_goes cX11_goes.data.toList 0 zk_X11_goes && zk_X11_goes.all (zokB zpool_11 ztsl zstt false (some .long) cX11_goes)) = true := by decide +kernel
set_option maxRecDepth 100000 in
theorem zck_X11_latestOf : (zwalk cX11_latestOf cX11_latestOf.data.toList 0 zk_X11_latestOf && zk_X11_latestOf.all (zokB zpool_11 ztsl zstt false (some .int) cX11_latestOf)) = true := by decide +kernel
set_option maxRecDepth 100000 in
theorem zck_X11_bindsOf : (zwalk cX11_bindsOf cX11_bindsOf.data.toList 0 zk_X11_bindsOf && zk_X11_bindsOf.all (zokB zpool_11 ztsl zstt false (some .int) cX11_bindsOf)) = true := by decide +kernel
set_option maxRecDepth 100000 in
theorem zck_X11_courseNames : (zwalk cX11_courseNames cX11_courseNames.data.toList 0 zk_X11_courseNames && zk_X11_courseNames.all (zokB zpool_11 ztsl zstt false (none) cX11_courseNames)) = true := by decide +kernel
set_option maxRecDepth 100000 in
theorem zck_X11_aloneNames : (zwalk cX11_aloneNames cX11_aloneNames.data.toList 0 zk_X11_aloneNames && zk_X11_aloneNames.all (zokB zpool_11 ztsl zstt false (none) cX11_aloneNames)) = true := by decide +kernel
set_option maxRecDepth 100000 in
theorem zck_X11_findStudent : (zwalk cX11_findStudent cX11_findStudent.data.toList 0 zk_X11_findStudent && zk_X11_findStudent.all (zokB zpool_11 ztsl zstt false (none) cX11_findStudent)) = true := by decide +kernel
set_option maxRecDepth 100000 in
theorem zck_X11_classOf : (zwalk cX11_classOf cX11_classOf.data.toList 0 zk_X11_classOf && zk_X11_classOf.all (zokB zpool_11 ztsl zstt false (some .int) cX11_classOf)) = true := by decide +kernel
set_option maxRecDepth 100000 in
theorem zck_X11_readsClass : (zwalk cX11_readsClass cX11_readsClass.data.toList 0 zk_X11_readsClass && zk_X11_readsClass.all (zokB zpool_11 ztsl zstt false (some .int) cX11_readsClass)) = true := by decide +kernel
set_option maxRecDepth 100000 in
theorem zck_X11_gradeOf : (zwalk cX11_gradeOf cX11_gradeOf.data.toList 0 zk_X11_gradeOf && zk_X11_gradeOf.all (zokB zpool_11 ztsl zstt false (some .int) cX11_gradeOf)) = true := by decide +kernel
set_option maxRecDepth 100000 in
theorem zck_X11_rollOf : (zwalk cX11_rollOf cX11_rollOf.data.toList 0 zk_X11_rollOf && zk_X11_rollOf.all (zokB zpool_11 ztsl zstt false (some .int) cX11_rollOf)) = true := by decide +kernel
set_option maxRecDepth 100000 in
theorem zck_X11_isAsked : (zwalk cX11_isAsked cX11_isAsked.data.toList 0 zk_X11_isAsked && zk_X11_isAsked.all (zokB zpool_11 ztsl zstt false (some .boolean) cX11_isAsked)) = true := by decide +kernel
set_option maxRecDepth 100000 in
theorem zck_X11_passed : (zwalk cX11_passed cX11_passed.data.toList 0 zk_X11_passed && zk_X11_passed.all (zokB zpool_11 ztsl zstt false (some .int) cX11_passed)) = true := by decide +kernel
set_option maxRecDepth 100000 in
theorem zck_X11_grade : (zwalk cX11_grade cX11_grade.data.toList 0 zk_X11_grade && zk_X11_grade.all (zokB zpool_11 ztsl zstt false (some .int) cX11_grade)) = true := by decide +kernel
set_option maxRecDepth 100000 in
theorem zck_X11_number : (zwalk cX11_number cX11_number.data.toList 0 zk_X11_number && zk_X11_number.all (zokB zpool_11 ztsl zstt false (some .long) cX11_number)) = true := by decide +kernel
set_option maxRecDepth 100000 in
theorem zck_X11_edge : (zwalk cX11_edge cX11_edge.data.toList 0 zk_X11_edge && zk_X11_edge.all (zokB zpool_11 ztsl zstt false (some .int) cX11_edge)) = true := by decide +kernel
set_option maxRecDepth 100000 in
theorem zck_X11_roll : (zwalk cX11_roll cX11_roll.data.toList 0 zk_X11_roll && zk_X11_roll.all (zokB zpool_11 ztsl zstt false (some .int) cX11_roll)) = true := by decide +kernel
set_option maxRecDepth 100000 in
theorem zck_X11_hangs : (zwalk cX11_hangs cX11_hangs.data.toList 0 zk_X11_hangs && zk_X11_hangs.all (zokB zpool_11 ztsl zstt false (some .int) cX11_hangs)) = true := by decide +kernel
set_option maxRecDepth 100000 in
theorem zck_X11_isText : (zwalk cX11_isText cX11_isText.data.toList 0 zk_X11_isText && zk_X11_isText.all (zokB zpool_11 ztsl zstt false (some .boolean) cX11_isText)) = true := by decide +kernel
set_option maxRecDepth 100000 in
theorem zck_X11_write : (zwalk cX11_write cX11_write.data.toList 0 zk_X11_write && zk_X11_write.all (zokB zpool_11 ztsl zstt false (some .int) cX11_write)) = true := by decide +kernel
set_option maxRecDepth 100000 in
theorem zck_X11_erase : (zwalk cX11_erase cX11_erase.data.toList 0 zk_X11_erase && zk_X11_erase.all (zokB zpool_11 ztsl zstt false (some .int) cX11_erase)) = true := by decide +kernel
set_option maxRecDepth 100000 in
theorem zck_X11_fault : (zwalk cX11_fault cX11_fault.data.toList 0 zk_X11_fault && zk_X11_fault.all (zokB zpool_11 ztsl zstt false (some .int) cX11_fault)) = true := by decide +kernel
set_option maxRecDepth 100000 in
theorem zck_X11_tells : (zwalk cX11_tells cX11_tells.data.toList 0 zk_X11_tells && zk_X11_tells.all (zokB zpool_11 ztsl zstt false (some .long) cX11_tells)) = true := by decide +kernel
set_option maxRecDepth 100000 in
theorem zck_X11_ordain : (zwalk cX11_ordain cX11_ordain.data.toList 0 zk_X11_ordain && zk_X11_ordain.all (zokB zpool_11 ztsl zstt false (some .int) cX11_ordain)) = true := by decide +kernel
set_option maxRecDepth 100000 in
theorem zck_X11_choose : (zwalk cX11_choose cX11_choose.data.toList 0 zk_X11_choose && zk_X11_choose.all (zokB zpool_11 ztsl zstt false (some .int) cX11_choose)) = true := by decide +kernel
set_option maxRecDepth 100000 in
theorem zck_X11_binds : (zwalk cX11_binds cX11_binds.data.toList 0 zk_X11_binds && zk_X11_binds.all (zokB zpool_11 ztsl zstt false (some .int) cX11_binds)) = true := by decide +kernel
set_option maxRecDepth 100000 in
theorem zck_X11_mayTake : (zwalk cX11_mayTake cX11_mayTake.data.toList 0 zk_X11_mayTake && zk_X11_mayTake.all (zokB zpool_11 ztsl zstt false (some .int) cX11_mayTake)) = true := by decide +kernel
set_option maxRecDepth 100000 in
theorem zck_X11_findMay : (zwalk cX11_findMay cX11_findMay.data.toList 0 zk_X11_findMay && zk_X11_findMay.all (zokB zpool_11 ztsl zstt false (none) cX11_findMay)) = true := by decide +kernel
set_option maxRecDepth 100000 in
theorem zck_X11_spread : (zwalk cX11_spread cX11_spread.data.toList 0 zk_X11_spread && zk_X11_spread.all (zokB zpool_11 ztsl zstt false (some .int) cX11_spread)) = true := by decide +kernel
set_option maxRecDepth 100000 in
theorem zck_X11_next : (zwalk cX11_next cX11_next.data.toList 0 zk_X11_next && zk_X11_next.all (zokB zpool_11 ztsl zstt false (some .int) cX11_next)) = true := by decide +kernel
set_option maxRecDepth 100000 in
theorem zck_X11_along : (zwalk cX11_along cX11_along.data.toList 0 zk_X11_along && zk_X11_along.all (zokB zpool_11 ztsl zstt false (some .int) cX11_along)) = true := by decide +kernel
set_option maxRecDepth 100000 in
theorem zck_X11_findLeft : (zwalk cX11_findLeft cX11_findLeft.data.toList 0 zk_X11_findLeft && zk_X11_findLeft.all (zokB zpool_11 ztsl zstt false (none) cX11_findLeft)) = true := by decide +kernel
set_option maxRecDepth 100000 in
theorem zck_X11_isWay : (zwalk cX11_isWay cX11_isWay.data.toList 0 zk_X11_isWay && zk_X11_isWay.all (zokB zpool_11 ztsl zstt false (some .boolean) cX11_isWay)) = true := by decide +kernel
set_option maxRecDepth 100000 in
theorem zck_X11_findWay : (zwalk cX11_findWay cX11_findWay.data.toList 0 zk_X11_findWay && zk_X11_findWay.all (zokB zpool_11 ztsl zstt false (some .int) cX11_findWay)) = true := by decide +kernel
set_option maxRecDepth 100000 in
theorem zck_X11_way : (zwalk cX11_way cX11_way.data.toList 0 zk_X11_way && zk_X11_way.all (zokB zpool_11 ztsl zstt false (some .int) cX11_way)) = true := by decide +kernel
set_option maxRecDepth 100000 in
theorem zck_X11_takes : (zwalk cX11_takes cX11_takes.data.toList 0 zk_X11_takes && zk_X11_takes.all (zokB zpool_11 ztsl zstt false (some .int) cX11_takes)) = true := by decide +kernel
set_option maxRecDepth 100000 in
theorem zck_X11_wayAt : (zwalk cX11_wayAt cX11_wayAt.data.toList 0 zk_X11_wayAt && zk_X11_wayAt.all (zokB zpool_11 ztsl zstt false (some .int) cX11_wayAt)) = true := by decide +kernel
set_option maxRecDepth 100000 in
theorem zck_X11_sits : (zwalk cX11_sits cX11_sits.data.toList 0 zk_X11_sits && zk_X11_sits.all (zokB zpool_11 ztsl zstt false (some .int) cX11_sits)) = true := by decide +kernel
set_option maxRecDepth 100000 in
theorem zck_X11_sitting : (zwalk cX11_sitting cX11_sitting.data.toList 0 zk_X11_sitting && zk_X11_sitting.all (zokB zpool_11 ztsl zstt false (some .int) cX11_sitting)) = true := by decide +kernel
set_option maxRecDepth 100000 in
theorem zck_X11_areApart : (zwalk cX11_areApart cX11_areApart.data.toList 0 zk_X11_areApart && zk_X11_areApart.all (zokB zpool_11 ztsl zstt false (some .boolean) cX11_areApart)) = true := by decide +kernel
set_option maxRecDepth 100000 in
theorem zck_X11_isGood : (zwalk cX11_isGood cX11_isGood.data.toList 0 zk_X11_isGood && zk_X11_isGood.all (zokB zpool_11 ztsl zstt false (some .boolean) cX11_isGood)) = true := by decide +kernel
set_option maxRecDepth 100000 in
theorem zck_X11_nextHours : (zwalk cX11_nextHours cX11_nextHours.data.toList 0 zk_X11_nextHours && zk_X11_nextHours.all (zokB zpool_11 ztsl zstt false (some .boolean) cX11_nextHours)) = true := by decide +kernel
set_option maxRecDepth 100000 in
theorem zck_X11_findHours : (zwalk cX11_findHours cX11_findHours.data.toList 0 zk_X11_findHours && zk_X11_findHours.all (zokB zpool_11 ztsl zstt false (some .int) cX11_findHours)) = true := by decide +kernel
set_option maxRecDepth 100000 in
theorem zck_X11_whyHours : (zwalk cX11_whyHours cX11_whyHours.data.toList 0 zk_X11_whyHours && zk_X11_whyHours.all (zokB zpool_11 ztsl zstt false (some .int) cX11_whyHours)) = true := by decide +kernel
set_option maxRecDepth 100000 in
theorem zck_X11_hours : (zwalk cX11_hours cX11_hours.data.toList 0 zk_X11_hours && zk_X11_hours.all (zokB zpool_11 ztsl zstt false (some .int) cX11_hours)) = true := by decide +kernel
set_option maxRecDepth 100000 in
theorem zck_X11_hourOf : (zwalk cX11_hourOf cX11_hourOf.data.toList 0 zk_X11_hourOf && zk_X11_hourOf.all (zokB zpool_11 ztsl zstt false (some .int) cX11_hourOf)) = true := by decide +kernel
set_option maxRecDepth 100000 in
theorem zck_X11_findHabit : (zwalk cX11_findHabit cX11_findHabit.data.toList 0 zk_X11_findHabit && zk_X11_findHabit.all (zokB zpool_11 ztsl zstt false (none) cX11_findHabit)) = true := by decide +kernel
set_option maxRecDepth 100000 in
theorem zck_X11_findTail : (zwalk cX11_findTail cX11_findTail.data.toList 0 zk_X11_findTail && zk_X11_findTail.all (zokB zpool_11 ztsl zstt false (none) cX11_findTail)) = true := by decide +kernel
set_option maxRecDepth 100000 in
theorem zck_X11_isRare : (zwalk cX11_isRare cX11_isRare.data.toList 0 zk_X11_isRare && zk_X11_isRare.all (zokB zpool_11 ztsl zstt false (some .boolean) cX11_isRare)) = true := by decide +kernel
set_option maxRecDepth 100000 in
theorem zck_X11_isHard : (zwalk cX11_isHard cX11_isHard.data.toList 0 zk_X11_isHard && zk_X11_isHard.all (zokB zpool_11 ztsl zstt false (some .int) cX11_isHard)) = true := by decide +kernel
set_option maxRecDepth 100000 in
theorem zck_X11_habit : (zwalk cX11_habit cX11_habit.data.toList 0 zk_X11_habit && zk_X11_habit.all (zokB zpool_11 ztsl zstt false (some .int) cX11_habit)) = true := by decide +kernel
set_option maxRecDepth 100000 in
theorem zck_X11_odds : (zwalk cX11_odds cX11_odds.data.toList 0 zk_X11_odds && zk_X11_odds.all (zokB zpool_11 ztsl zstt false (some .int) cX11_odds)) = true := by decide +kernel
set_option maxRecDepth 100000 in
theorem zck_X11_line : (zwalk cX11_line cX11_line.data.toList 0 zk_X11_line && zk_X11_line.all (zokB zpool_11 ztsl zstt false (some .int) cX11_line)) = true := by decide +kernel
set_option maxRecDepth 100000 in
theorem zck_X11_clear : (zwalk cX11_clear cX11_clear.data.toList 0 zk_X11_clear && zk_X11_clear.all (zokB zpool_11 ztsl zstt false (some .int) cX11_clear)) = true := by decide +kernel
set_option maxRecDepth 100000 in
theorem zck_X11_sumOf : (zwalk cX11_sumOf cX11_sumOf.data.toList 0 zk_X11_sumOf && zk_X11_sumOf.all (zokB zpool_11 ztsl zstt false (some .int) cX11_sumOf)) = true := by decide +kernel
set_option maxRecDepth 100000 in
theorem zck_X11_doubt : (zwalk cX11_doubt cX11_doubt.data.toList 0 zk_X11_doubt && zk_X11_doubt.all (zokB zpool_11 ztsl zstt false (some .int) cX11_doubt)) = true := by decide +kernel
set_option maxRecDepth 100000 in
theorem zck_X11_image : (zwalk cX11_image cX11_image.data.toList 0 zk_X11_image && zk_X11_image.all (zokB zpool_11 ztsl zstt false (some .int) cX11_image)) = true := by decide +kernel
set_option maxRecDepth 100000 in
theorem zck_X11_from : (zwalk cX11_from cX11_from.data.toList 0 zk_X11_from && zk_X11_from.all (zokB zpool_11 ztsl zstt false (some .int) cX11_from)) = true := by decide +kernel
set_option maxRecDepth 100000 in
theorem zck_X11_countOf : (zwalk cX11_countOf cX11_countOf.data.toList 0 zk_X11_countOf && zk_X11_countOf.all (zokB zpool_11 ztsl zstt false (some .int) cX11_countOf)) = true := by decide +kernel
set_option maxRecDepth 100000 in
theorem zck_X11_count : (zwalk cX11_count cX11_count.data.toList 0 zk_X11_count && zk_X11_count.all (zokB zpool_11 ztsl zstt false (some .int) cX11_count)) = true := by decide +kernel
set_option maxRecDepth 100000 in
theorem zck_X11_mixed : (zwalk cX11_mixed cX11_mixed.data.toList 0 zk_X11_mixed && zk_X11_mixed.all (zokB zpool_11 ztsl zstt false (some .long) cX11_mixed)) = true := by decide +kernel
set_option maxRecDepth 100000 in
theorem zck_X11_digest : (zwalk cX11_digest cX11_digest.data.toList 0 zk_X11_digest && zk_X11_digest.all (zokB zpool_11 ztsl zstt false (some .long) cX11_digest)) = true := by decide +kernel
set_option maxRecDepth 100000 in
theorem zck_J6_bitCount_0f7a4 : (zwalk cJ6_bitCount_0f7a4 cJ6_bitCount_0f7a4.data.toList 0 zk_J6_bitCount_0f7a4 && zk_J6_bitCount_0f7a4.all (zokB zpool_12 ztsl zstt false (some .int) cJ6_bitCount_0f7a4)) = true := by decide +kernel
set_option maxRecDepth 100000 in
theorem zck_J6_numberOfTrailingZeros_0f7a4 : (zwalk cJ6_numberOfTrailingZeros_0f7a4 cJ6_numberOfTrailingZeros_0f7a4.data.toList 0 zk_J6_numberOfTrailingZeros_0f7a4 && zk_J6_numberOfTrailingZeros_0f7a4.all (zokB zpool_12 ztsl zstt false (some .int) cJ6_numberOfTrailingZeros_0f7a4)) = true := by decide +kernel
set_option maxRecDepth 100000 in
theorem zck_J7_fill_d0a16 : (zwalk cJ7_fill_d0a16 cJ7_fill_d0a16.data.toList 0 zk_J7_fill_d0a16 && zk_J7_fill_d0a16.all (zokB zpool_13 ztsl zstt false (none) cJ7_fill_d0a16)) = true := by decide +kernel
set_option maxRecDepth 100000 in
theorem zck_J0_charAt_5068e : (zwalk cJ0_charAt_5068e cJ0_charAt_5068e.data.toList 0 zk_J0_charAt_5068e && zk_J0_charAt_5068e.all (zokB zpool_14 ztsl zstt false (some .char) cJ0_charAt_5068e)) = true := by decide +kernel
set_option maxRecDepth 100000 in
theorem zck_J0_indexOf_0f7a4 : (zwalk cJ0_indexOf_0f7a4 cJ0_indexOf_0f7a4.data.toList 0 zk_J0_indexOf_0f7a4 && zk_J0_indexOf_0f7a4.all (zokB zpool_14 ztsl zstt false (some .int) cJ0_indexOf_0f7a4)) = true := by decide +kernel
set_option maxRecDepth 100000 in
theorem zck_J0_indexOf_7cf53 : (zwalk cJ0_indexOf_7cf53 cJ0_indexOf_7cf53.data.toList 0 zk_J0_indexOf_7cf53 && zk_J0_indexOf_7cf53.all (zokB zpool_14 ztsl zstt false (some .int) cJ0_indexOf_7cf53)) = true := by decide +kernel
set_option maxRecDepth 100000 in
theorem zck_J0_length_8abf5 : (zwalk cJ0_length_8abf5 cJ0_length_8abf5.data.toList 0 zk_J0_length_8abf5 && zk_J0_length_8abf5.all (zokB zpool_14 ztsl zstt false (some .int) cJ0_length_8abf5)) = true := by decide +kernel
set_option maxRecDepth 100000 in
theorem zck_J0_coder_7d493 : (zwalk cJ0_coder_7d493 cJ0_coder_7d493.data.toList 0 zk_J0_coder_7d493 && zk_J0_coder_7d493.all (zokB zpool_14 ztsl zstt false (some .byte) cJ0_coder_7d493)) = true := by decide +kernel
set_option maxRecDepth 100000 in
theorem zck_J0_isLatin1_aae02 : (zwalk cJ0_isLatin1_aae02 cJ0_isLatin1_aae02.data.toList 0 zk_J0_isLatin1_aae02 && zk_J0_isLatin1_aae02.all (zokB zpool_14 ztsl zstt false (some .boolean) cJ0_isLatin1_aae02)) = true := by decide +kernel
set_option maxRecDepth 100000 in
theorem zck_J0_checkIndex_df160 : (zwalk cJ0_checkIndex_df160 cJ0_checkIndex_df160.data.toList 0 zk_J0_checkIndex_df160 && zk_J0_checkIndex_df160.all (zokB zpool_14 ztsl zstt false (none) cJ0_checkIndex_df160)) = true := by decide +kernel
set_option maxRecDepth 100000 in
theorem zck_J1_charAt_3b067 : (zwalk cJ1_charAt_3b067 cJ1_charAt_3b067.data.toList 0 zk_J1_charAt_3b067 && zk_J1_charAt_3b067.all (zokB zpool_15 ztsl zstt false (some .char) cJ1_charAt_3b067)) = true := by decide +kernel
set_option maxRecDepth 100000 in
theorem zck_J1_canEncode_9a6ad : (zwalk cJ1_canEncode_9a6ad cJ1_canEncode_9a6ad.data.toList 0 zk_J1_canEncode_9a6ad && zk_J1_canEncode_9a6ad.all (zokB zpool_15 ztsl zstt false (some .boolean) cJ1_canEncode_9a6ad)) = true := by decide +kernel
set_option maxRecDepth 100000 in
theorem zck_J1_indexOf_4cfef : (zwalk cJ1_indexOf_4cfef cJ1_indexOf_4cfef.data.toList 0 zk_J1_indexOf_4cfef && zk_J1_indexOf_4cfef.all (zokB zpool_15 ztsl zstt false (some .int) cJ1_indexOf_4cfef)) = true := by decide +kernel
set_option maxRecDepth 100000 in
theorem zck_J1_indexOfChar_4cfef : (zwalk cJ1_indexOfChar_4cfef cJ1_indexOfChar_4cfef.data.toList 0 zk_J1_indexOfChar_4cfef && zk_J1_indexOfChar_4cfef.all (zokB zpool_15 ztsl zstt false (some .int) cJ1_indexOfChar_4cfef)) = true := by decide +kernel
set_option maxRecDepth 100000 in
theorem zck_J3_checkIndex_8e157 : (zwalk cJ3_checkIndex_8e157 cJ3_checkIndex_8e157.data.toList 0 zk_J3_checkIndex_8e157 && zk_J3_checkIndex_8e157.all (zokB zpool_16 ztsl zstt false (some .int) cJ3_checkIndex_8e157)) = true := by decide +kernel
set_option maxRecDepth 100000 in
theorem zck_L_law : (zwalk cL_law cL_law.data.toList 0 zk_L_law && zk_L_law.all (zokB zpool_17 ztsl zstt false (some .boolean) cL_law)) = true := by decide +kernel
