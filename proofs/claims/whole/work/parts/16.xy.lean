theorem xyX0_init : xY yX0_init cX0_init 3 none 1 := ⟨lw_mem (i := 177) (by decide +kernel) rfl, lw_mem (i := 99) (by decide +kernel) rfl, by decide, by decide, by decide +kernel⟩
theorem xyX0_takeFrom : xY yX0_takeFrom cX0_takeFrom 2 none 1 := ⟨lw_mem (i := 606) (by decide +kernel) rfl, lw_mem (i := 99) (by decide +kernel) rfl, by decide, by decide, by decide +kernel⟩
theorem xiX0_takeFrom : Cond.instanceMethod yX0_takeFrom ∈ lw_gt ∧ Cond.selects yX0_takeFrom.cls yX0_takeFrom yX0_takeFrom ∈ lw_gt := ⟨lw_mem (i := 605) (by decide +kernel) rfl, lw_mem (i := 32) (by decide +kernel) rfl⟩
theorem xyX0_valueOf : xY yX0_valueOf cX0_valueOf 3 (some .int) 2 := ⟨lw_mem (i := 351) (by decide +kernel) rfl, lw_mem (i := 99) (by decide +kernel) rfl, by decide, by decide, by decide +kernel⟩
theorem xiX0_valueOf : Cond.instanceMethod yX0_valueOf ∈ lw_gt ∧ Cond.selects yX0_valueOf.cls yX0_valueOf yX0_valueOf ∈ lw_gt := ⟨lw_mem (i := 350) (by decide +kernel) rfl, lw_mem (i := 2) (by decide +kernel) rfl⟩
theorem xyX0_put : xY yX0_put cX0_put 4 none 3 := ⟨lw_mem (i := 399) (by decide +kernel) rfl, lw_mem (i := 99) (by decide +kernel) rfl, by decide, by decide, by decide +kernel⟩
theorem xiX0_put : Cond.instanceMethod yX0_put ∈ lw_gt ∧ Cond.selects yX0_put.cls yX0_put yX0_put ∈ lw_gt := ⟨lw_mem (i := 398) (by decide +kernel) rfl, lw_mem (i := 9) (by decide +kernel) rfl⟩
theorem xyX0_putLeft : xY yX0_putLeft cX0_putLeft 3 none 2 := ⟨lw_mem (i := 403) (by decide +kernel) rfl, lw_mem (i := 99) (by decide +kernel) rfl, by decide, by decide, by decide +kernel⟩
theorem xiX0_putLeft : Cond.instanceMethod yX0_putLeft ∈ lw_gt ∧ Cond.selects yX0_putLeft.cls yX0_putLeft yX0_putLeft ∈ lw_gt := ⟨lw_mem (i := 402) (by decide +kernel) rfl, lw_mem (i := 10) (by decide +kernel) rfl⟩
theorem xyX0_add : xY yX0_add cX0_add 4 (some .int) 2 := ⟨lw_mem (i := 411) (by decide +kernel) rfl, lw_mem (i := 99) (by decide +kernel) rfl, by decide, by decide, by decide +kernel⟩
theorem xiX0_add : Cond.instanceMethod yX0_add ∈ lw_gt ∧ Cond.selects yX0_add.cls yX0_add yX0_add ∈ lw_gt := ⟨lw_mem (i := 410) (by decide +kernel) rfl, lw_mem (i := 11) (by decide +kernel) rfl⟩
theorem xyX0_dares : xY yX0_dares cX0_dares 4 (some .boolean) 2 := ⟨lw_mem (i := 363) (by decide +kernel) rfl, lw_mem (i := 99) (by decide +kernel) rfl, by decide, by decide, by decide +kernel⟩
theorem xiX0_dares : Cond.instanceMethod yX0_dares ∈ lw_gt ∧ Cond.selects yX0_dares.cls yX0_dares yX0_dares ∈ lw_gt := ⟨lw_mem (i := 362) (by decide +kernel) rfl, lw_mem (i := 5) (by decide +kernel) rfl⟩
theorem xyX0_breaksNumber : xY yX0_breaksNumber cX0_breaksNumber 4 (some .boolean) 2 := ⟨lw_mem (i := 391) (by decide +kernel) rfl, lw_mem (i := 99) (by decide +kernel) rfl, by decide, by decide, by decide +kernel⟩
theorem xiX0_breaksNumber : Cond.instanceMethod yX0_breaksNumber ∈ lw_gt ∧ Cond.selects yX0_breaksNumber.cls yX0_breaksNumber yX0_breaksNumber ∈ lw_gt := ⟨lw_mem (i := 390) (by decide +kernel) rfl, lw_mem (i := 7) (by decide +kernel) rfl⟩
theorem xyX0_breaksOnlyLast : xY yX0_breaksOnlyLast cX0_breaksOnlyLast 3 (some .boolean) 1 := ⟨lw_mem (i := 395) (by decide +kernel) rfl, lw_mem (i := 99) (by decide +kernel) rfl, by decide, by decide, by decide +kernel⟩
theorem xiX0_breaksOnlyLast : Cond.instanceMethod yX0_breaksOnlyLast ∈ lw_gt ∧ Cond.selects yX0_breaksOnlyLast.cls yX0_breaksOnlyLast yX0_breaksOnlyLast ∈ lw_gt := ⟨lw_mem (i := 394) (by decide +kernel) rfl, lw_mem (i := 8) (by decide +kernel) rfl⟩
theorem xyX0_costs : xY yX0_costs cX0_costs 5 (some .int) 2 := ⟨lw_mem (i := 424) (by decide +kernel) rfl, lw_mem (i := 99) (by decide +kernel) rfl, by decide, by decide, by decide +kernel⟩
theorem xiX0_costs : Cond.instanceMethod yX0_costs ∈ lw_gt ∧ Cond.selects yX0_costs.cls yX0_costs yX0_costs ∈ lw_gt := ⟨lw_mem (i := 423) (by decide +kernel) rfl, lw_mem (i := 12) (by decide +kernel) rfl⟩
theorem xyX0_yearsFor : xY yX0_yearsFor cX0_yearsFor 4 (some .int) 2 := ⟨lw_mem (i := 431) (by decide +kernel) rfl, lw_mem (i := 99) (by decide +kernel) rfl, by decide, by decide, by decide +kernel⟩
theorem xiX0_yearsFor : Cond.instanceMethod yX0_yearsFor ∈ lw_gt ∧ Cond.selects yX0_yearsFor.cls yX0_yearsFor yX0_yearsFor ∈ lw_gt := ⟨lw_mem (i := 430) (by decide +kernel) rfl, lw_mem (i := 13) (by decide +kernel) rfl⟩
theorem xyX0_costsOrNone : xY yX0_costsOrNone cX0_costsOrNone 3 (some .int) 2 := ⟨lw_mem (i := 703) (by decide +kernel) rfl, lw_mem (i := 99) (by decide +kernel) rfl, by decide, by decide, by decide +kernel⟩
theorem xiX0_costsOrNone : Cond.instanceMethod yX0_costsOrNone ∈ lw_gt ∧ Cond.selects yX0_costsOrNone.cls yX0_costsOrNone yX0_costsOrNone ∈ lw_gt := ⟨lw_mem (i := 702) (by decide +kernel) rfl, lw_mem (i := 44) (by decide +kernel) rfl⟩
theorem xyX0_firstOtherwise : xY yX0_firstOtherwise cX0_firstOtherwise 4 (some .int) 2 := ⟨lw_mem (i := 699) (by decide +kernel) rfl, lw_mem (i := 99) (by decide +kernel) rfl, by decide, by decide, by decide +kernel⟩
theorem xiX0_firstOtherwise : Cond.instanceMethod yX0_firstOtherwise ∈ lw_gt ∧ Cond.selects yX0_firstOtherwise.cls yX0_firstOtherwise yX0_firstOtherwise ∈ lw_gt := ⟨lw_mem (i := 698) (by decide +kernel) rfl, lw_mem (i := 43) (by decide +kernel) rfl⟩
theorem xyX0_can : xY yX0_can cX0_can 3 (some .boolean) 2 := ⟨lw_mem (i := 359) (by decide +kernel) rfl, lw_mem (i := 99) (by decide +kernel) rfl, by decide, by decide, by decide +kernel⟩
theorem xiX0_can : Cond.instanceMethod yX0_can ∈ lw_gt ∧ Cond.selects yX0_can.cls yX0_can yX0_can ∈ lw_gt := ⟨lw_mem (i := 358) (by decide +kernel) rfl, lw_mem (i := 4) (by decide +kernel) rfl⟩
theorem xyX0_deedsFor : xY yX0_deedsFor cX0_deedsFor 4 (some .int) 1 := ⟨lw_mem (i := 355) (by decide +kernel) rfl, lw_mem (i := 99) (by decide +kernel) rfl, by decide, by decide, by decide +kernel⟩
theorem xiX0_deedsFor : Cond.instanceMethod yX0_deedsFor ∈ lw_gt ∧ Cond.selects yX0_deedsFor.cls yX0_deedsFor yX0_deedsFor ∈ lw_gt := ⟨lw_mem (i := 354) (by decide +kernel) rfl, lw_mem (i := 3) (by decide +kernel) rfl⟩
theorem xyX0_breakBy : xY yX0_breakBy cX0_breakBy 2 none 1 := ⟨lw_mem (i := 589) (by decide +kernel) rfl, lw_mem (i := 99) (by decide +kernel) rfl, by decide, by decide, by decide +kernel⟩
theorem xiX0_breakBy : Cond.instanceMethod yX0_breakBy ∈ lw_gt ∧ Cond.selects yX0_breakBy.cls yX0_breakBy yX0_breakBy ∈ lw_gt := ⟨lw_mem (i := 588) (by decide +kernel) rfl, lw_mem (i := 30) (by decide +kernel) rfl⟩
theorem xyX0_commit : xY yX0_commit cX0_commit 5 none 2 := ⟨lw_mem (i := 583) (by decide +kernel) rfl, lw_mem (i := 99) (by decide +kernel) rfl, by decide, by decide, by decide +kernel⟩
theorem xiX0_commit : Cond.instanceMethod yX0_commit ∈ lw_gt ∧ Cond.selects yX0_commit.cls yX0_commit yX0_commit ∈ lw_gt := ⟨lw_mem (i := 582) (by decide +kernel) rfl, lw_mem (i := 29) (by decide +kernel) rfl⟩
theorem xyX0_endYear : xY yX0_endYear cX0_endYear 3 (some .int) 0 := ⟨lw_mem (i := 598) (by decide +kernel) rfl, lw_mem (i := 99) (by decide +kernel) rfl, by decide, by decide, by decide +kernel⟩
theorem xiX0_endYear : Cond.instanceMethod yX0_endYear ∈ lw_gt ∧ Cond.selects yX0_endYear.cls yX0_endYear yX0_endYear ∈ lw_gt := ⟨lw_mem (i := 597) (by decide +kernel) rfl, lw_mem (i := 31) (by decide +kernel) rfl⟩
theorem xyX0_passYears : xY yX0_passYears cX0_passYears 6 (some .int) 1 := ⟨lw_mem (i := 613) (by decide +kernel) rfl, lw_mem (i := 99) (by decide +kernel) rfl, by decide, by decide, by decide +kernel⟩
theorem xiX0_passYears : Cond.instanceMethod yX0_passYears ∈ lw_gt ∧ Cond.selects yX0_passYears.cls yX0_passYears yX0_passYears ∈ lw_gt := ⟨lw_mem (i := 612) (by decide +kernel) rfl, lw_mem (i := 33) (by decide +kernel) rfl⟩
theorem xyX0_firstOfUse : xY yX0_firstOfUse cX0_firstOfUse 3 (some .int) 1 := ⟨lw_mem (i := 617) (by decide +kernel) rfl, lw_mem (i := 99) (by decide +kernel) rfl, by decide, by decide, by decide +kernel⟩
theorem xiX0_firstOfUse : Cond.instanceMethod yX0_firstOfUse ∈ lw_gt ∧ Cond.selects yX0_firstOfUse.cls yX0_firstOfUse yX0_firstOfUse ∈ lw_gt := ⟨lw_mem (i := 616) (by decide +kernel) rfl, lw_mem (i := 34) (by decide +kernel) rfl⟩
theorem xyX0_drawYears : xY yX0_drawYears cX0_drawYears 7 none 2 := ⟨lw_mem (i := 750) (by decide +kernel) rfl, lw_mem (i := 99) (by decide +kernel) rfl, by decide, by decide, by decide +kernel⟩
theorem xiX0_drawYears : Cond.instanceMethod yX0_drawYears ∈ lw_gt ∧ Cond.selects yX0_drawYears.cls yX0_drawYears yX0_drawYears ∈ lw_gt := ⟨lw_mem (i := 749) (by decide +kernel) rfl, lw_mem (i := 53) (by decide +kernel) rfl⟩
theorem xyX0_next : xY yX0_next cX0_next 1 (some .int) 1 := ⟨lw_mem (i := 753) (by decide +kernel) rfl, lw_mem (i := 99) (by decide +kernel) rfl, by decide, by decide, by decide +kernel⟩
theorem xiX0_next : Cond.static yX0_next ∈ lw_gt := lw_mem (i := 752) (by decide +kernel) rfl
theorem xyX0_harmOf : xY yX0_harmOf cX0_harmOf 4 (some .int) 1 := ⟨lw_mem (i := 639) (by decide +kernel) rfl, lw_mem (i := 99) (by decide +kernel) rfl, by decide, by decide, by decide +kernel⟩
theorem xiX0_harmOf : Cond.instanceMethod yX0_harmOf ∈ lw_gt ∧ Cond.selects yX0_harmOf.cls yX0_harmOf yX0_harmOf ∈ lw_gt := ⟨lw_mem (i := 638) (by decide +kernel) rfl, lw_mem (i := 37) (by decide +kernel) rfl⟩
theorem xyX0_brokenBy : xY yX0_brokenBy cX0_brokenBy 4 (some .int) 1 := ⟨lw_mem (i := 635) (by decide +kernel) rfl, lw_mem (i := 99) (by decide +kernel) rfl, by decide, by decide, by decide +kernel⟩
theorem xiX0_brokenBy : Cond.instanceMethod yX0_brokenBy ∈ lw_gt ∧ Cond.selects yX0_brokenBy.cls yX0_brokenBy yX0_brokenBy ∈ lw_gt := ⟨lw_mem (i := 634) (by decide +kernel) rfl, lw_mem (i := 36) (by decide +kernel) rfl⟩
theorem xyX0_leastCover : xY yX0_leastCover cX0_leastCover 8 (some .int) 2 := ⟨lw_mem (i := 631) (by decide +kernel) rfl, lw_mem (i := 99) (by decide +kernel) rfl, by decide, by decide, by decide +kernel⟩
theorem xiX0_leastCover : Cond.instanceMethod yX0_leastCover ∈ lw_gt ∧ Cond.selects yX0_leastCover.cls yX0_leastCover yX0_leastCover ∈ lw_gt := ⟨lw_mem (i := 630) (by decide +kernel) rfl, lw_mem (i := 35) (by decide +kernel) rfl⟩
theorem xyX0_leastHarm : xY yX0_leastHarm cX0_leastHarm 4 (some .int) 1 := ⟨lw_mem (i := 676) (by decide +kernel) rfl, lw_mem (i := 99) (by decide +kernel) rfl, by decide, by decide, by decide +kernel⟩
theorem xiX0_leastHarm : Cond.instanceMethod yX0_leastHarm ∈ lw_gt ∧ Cond.selects yX0_leastHarm.cls yX0_leastHarm yX0_leastHarm ∈ lw_gt := ⟨lw_mem (i := 675) (by decide +kernel) rfl, lw_mem (i := 41) (by decide +kernel) rfl⟩
theorem xyX1_init : xY yX1_init cX1_init 1 none 0 := ⟨lw_mem (i := 249) (by decide +kernel) rfl, lw_mem (i := 100) (by decide +kernel) rfl, by decide, by decide, by decide +kernel⟩
theorem xyX1_seek : xY yX1_seek cX1_seek 4 none 1 := ⟨lw_mem (i := 649) (by decide +kernel) rfl, lw_mem (i := 100) (by decide +kernel) rfl, by decide, by decide, by decide +kernel⟩
theorem xiX1_seek : Cond.instanceMethod yX1_seek ∈ lw_gt ∧ Cond.selects yX1_seek.cls yX1_seek yX1_seek ∈ lw_gt := ⟨lw_mem (i := 648) (by decide +kernel) rfl, lw_mem (i := 38) (by decide +kernel) rfl⟩
theorem xyX1_place : xY yX1_place cX1_place 10 none 6 := ⟨lw_mem (i := 654) (by decide +kernel) rfl, lw_mem (i := 100) (by decide +kernel) rfl, by decide, by decide, by decide +kernel⟩
theorem xiX1_place : Cond.static yX1_place ∈ lw_gt := lw_mem (i := 653) (by decide +kernel) rfl
theorem xyX1_weigh : xY yX1_weigh cX1_weigh 4 none 3 := ⟨lw_mem (i := 659) (by decide +kernel) rfl, lw_mem (i := 100) (by decide +kernel) rfl, by decide, by decide, by decide +kernel⟩
theorem xiX1_weigh : Cond.instanceMethod yX1_weigh ∈ lw_gt ∧ Cond.selects yX1_weigh.cls yX1_weigh yX1_weigh ∈ lw_gt := ⟨lw_mem (i := 658) (by decide +kernel) rfl, lw_mem (i := 39) (by decide +kernel) rfl⟩
theorem xyX2_init : xY yX2_init cX2_init 1 none 0 := ⟨lw_mem (i := 281) (by decide +kernel) rfl, lw_mem (i := 101) (by decide +kernel) rfl, by decide, by decide, by decide +kernel⟩
theorem xyX2_become : xY yX2_become cX2_become 4 none 2 := ⟨lw_mem (i := 727) (by decide +kernel) rfl, lw_mem (i := 101) (by decide +kernel) rfl, by decide, by decide, by decide +kernel⟩
theorem xiX2_become : Cond.instanceMethod yX2_become ∈ lw_gt ∧ Cond.selects yX2_become.cls yX2_become yX2_become ∈ lw_gt := ⟨lw_mem (i := 726) (by decide +kernel) rfl, lw_mem (i := 49) (by decide +kernel) rfl⟩
theorem xyX2_has : xY yX2_has cX2_has 3 (some .boolean) 2 := ⟨lw_mem (i := 738) (by decide +kernel) rfl, lw_mem (i := 101) (by decide +kernel) rfl, by decide, by decide, by decide +kernel⟩
theorem xiX2_has : Cond.instanceMethod yX2_has ∈ lw_gt ∧ Cond.selects yX2_has.cls yX2_has yX2_has ∈ lw_gt := ⟨lw_mem (i := 737) (by decide +kernel) rfl, lw_mem (i := 51) (by decide +kernel) rfl⟩
theorem xyX2_put : xY yX2_put cX2_put 3 none 2 := ⟨lw_mem (i := 734) (by decide +kernel) rfl, lw_mem (i := 101) (by decide +kernel) rfl, by decide, by decide, by decide +kernel⟩
theorem xiX2_put : Cond.instanceMethod yX2_put ∈ lw_gt ∧ Cond.selects yX2_put.cls yX2_put yX2_put ∈ lw_gt := ⟨lw_mem (i := 733) (by decide +kernel) rfl, lw_mem (i := 50) (by decide +kernel) rfl⟩
theorem xyX3_init : xY yX3_init cX3_init 1 none 0 := ⟨lw_mem (i := 147) (by decide +kernel) rfl, lw_mem (i := 98) (by decide +kernel) rfl, by decide, by decide, by decide +kernel⟩
theorem xyX3_add : xY yX3_add cX3_add 2 none 1 := ⟨lw_mem (i := 439) (by decide +kernel) rfl, lw_mem (i := 98) (by decide +kernel) rfl, by decide, by decide, by decide +kernel⟩
theorem xiX3_add : Cond.instanceMethod yX3_add ∈ lw_gt ∧ Cond.selects yX3_add.cls yX3_add yX3_add ∈ lw_gt := ⟨lw_mem (i := 438) (by decide +kernel) rfl, lw_mem (i := 14) (by decide +kernel) rfl⟩
theorem xyX3_reads : xY yX3_reads cX3_reads 4 (some .boolean) 2 := ⟨lw_mem (i := 447) (by decide +kernel) rfl, lw_mem (i := 98) (by decide +kernel) rfl, by decide, by decide, by decide +kernel⟩
theorem xiX3_reads : Cond.instanceMethod yX3_reads ∈ lw_gt ∧ Cond.selects yX3_reads.cls yX3_reads yX3_reads ∈ lw_gt := ⟨lw_mem (i := 446) (by decide +kernel) rfl, lw_mem (i := 15) (by decide +kernel) rfl⟩
theorem xyX3_either : xY yX3_either cX3_either 3 (some .boolean) 1 := ⟨lw_mem (i := 537) (by decide +kernel) rfl, lw_mem (i := 98) (by decide +kernel) rfl, by decide, by decide, by decide +kernel⟩
theorem xiX3_either : Cond.instanceMethod yX3_either ∈ lw_gt ∧ Cond.selects yX3_either.cls yX3_either yX3_either ∈ lw_gt := ⟨lw_mem (i := 536) (by decide +kernel) rfl, lw_mem (i := 20) (by decide +kernel) rfl⟩
theorem xyX3_both : xY yX3_both cX3_both 3 (some .boolean) 1 := ⟨lw_mem (i := 541) (by decide +kernel) rfl, lw_mem (i := 98) (by decide +kernel) rfl, by decide, by decide, by decide +kernel⟩
theorem xiX3_both : Cond.instanceMethod yX3_both ∈ lw_gt ∧ Cond.selects yX3_both.cls yX3_both yX3_both ∈ lw_gt := ⟨lw_mem (i := 540) (by decide +kernel) rfl, lw_mem (i := 21) (by decide +kernel) rfl⟩
theorem xyX3_negated : xY yX3_negated cX3_negated 4 (some .boolean) 1 := ⟨lw_mem (i := 545) (by decide +kernel) rfl, lw_mem (i := 98) (by decide +kernel) rfl, by decide, by decide, by decide +kernel⟩
theorem xiX3_negated : Cond.instanceMethod yX3_negated ∈ lw_gt ∧ Cond.selects yX3_negated.cls yX3_negated yX3_negated ∈ lw_gt := ⟨lw_mem (i := 544) (by decide +kernel) rfl, lw_mem (i := 22) (by decide +kernel) rfl⟩
theorem xyX3_compared : xY yX3_compared cX3_compared 3 (some .boolean) 1 := ⟨lw_mem (i := 549) (by decide +kernel) rfl, lw_mem (i := 98) (by decide +kernel) rfl, by decide, by decide, by decide +kernel⟩
theorem xiX3_compared : Cond.instanceMethod yX3_compared ∈ lw_gt ∧ Cond.selects yX3_compared.cls yX3_compared yX3_compared ∈ lw_gt := ⟨lw_mem (i := 548) (by decide +kernel) rfl, lw_mem (i := 23) (by decide +kernel) rfl⟩
theorem xyX3_sum : xY yX3_sum cX3_sum 4 (some .boolean) 1 := ⟨lw_mem (i := 553) (by decide +kernel) rfl, lw_mem (i := 98) (by decide +kernel) rfl, by decide, by decide, by decide +kernel⟩
theorem xiX3_sum : Cond.instanceMethod yX3_sum ∈ lw_gt ∧ Cond.selects yX3_sum.cls yX3_sum yX3_sum ∈ lw_gt := ⟨lw_mem (i := 552) (by decide +kernel) rfl, lw_mem (i := 24) (by decide +kernel) rfl⟩
theorem xyX3_product : xY yX3_product cX3_product 3 (some .boolean) 1 := ⟨lw_mem (i := 557) (by decide +kernel) rfl, lw_mem (i := 98) (by decide +kernel) rfl, by decide, by decide, by decide +kernel⟩
theorem xiX3_product : Cond.instanceMethod yX3_product ∈ lw_gt ∧ Cond.selects yX3_product.cls yX3_product yX3_product ∈ lw_gt := ⟨lw_mem (i := 556) (by decide +kernel) rfl, lw_mem (i := 25) (by decide +kernel) rfl⟩
theorem xyX3_single : xY yX3_single cX3_single 4 (some .boolean) 1 := ⟨lw_mem (i := 561) (by decide +kernel) rfl, lw_mem (i := 98) (by decide +kernel) rfl, by decide, by decide, by decide +kernel⟩
theorem xiX3_single : Cond.instanceMethod yX3_single ∈ lw_gt ∧ Cond.selects yX3_single.cls yX3_single yX3_single ∈ lw_gt := ⟨lw_mem (i := 560) (by decide +kernel) rfl, lw_mem (i := 26) (by decide +kernel) rfl⟩
theorem xyX3_bare : xY yX3_bare cX3_bare 2 (some .boolean) 1 := ⟨lw_mem (i := 565) (by decide +kernel) rfl, lw_mem (i := 98) (by decide +kernel) rfl, by decide, by decide, by decide +kernel⟩
theorem xiX3_bare : Cond.instanceMethod yX3_bare ∈ lw_gt ∧ Cond.selects yX3_bare.cls yX3_bare yX3_bare ∈ lw_gt := ⟨lw_mem (i := 564) (by decide +kernel) rfl, lw_mem (i := 27) (by decide +kernel) rfl⟩
theorem xyX3_write : xY yX3_write cX3_write 2 none 1 := ⟨lw_mem (i := 569) (by decide +kernel) rfl, lw_mem (i := 98) (by decide +kernel) rfl, by decide, by decide, by decide +kernel⟩
theorem xiX3_write : Cond.instanceMethod yX3_write ∈ lw_gt ∧ Cond.selects yX3_write.cls yX3_write yX3_write ∈ lw_gt := ⟨lw_mem (i := 568) (by decide +kernel) rfl, lw_mem (i := 28) (by decide +kernel) rfl⟩
theorem xyX3_step : xY yX3_step cX3_step 1 none 0 := ⟨lw_mem (i := 451) (by decide +kernel) rfl, lw_mem (i := 98) (by decide +kernel) rfl, by decide, by decide, by decide +kernel⟩
theorem xiX3_step : Cond.instanceMethod yX3_step ∈ lw_gt ∧ Cond.selects yX3_step.cls yX3_step yX3_step ∈ lw_gt := ⟨lw_mem (i := 450) (by decide +kernel) rfl, lw_mem (i := 16) (by decide +kernel) rfl⟩
theorem xyX3_isLetter : xY yX3_isLetter cX3_isLetter 1 (some .boolean) 1 := ⟨lw_mem (i := 454) (by decide +kernel) rfl, lw_mem (i := 98) (by decide +kernel) rfl, by decide, by decide, by decide +kernel⟩
theorem xiX3_isLetter : Cond.static yX3_isLetter ∈ lw_gt := lw_mem (i := 453) (by decide +kernel) rfl
theorem xyX3_isDigit : xY yX3_isDigit cX3_isDigit 1 (some .boolean) 1 := ⟨lw_mem (i := 526) (by decide +kernel) rfl, lw_mem (i := 98) (by decide +kernel) rfl, by decide, by decide, by decide +kernel⟩
theorem xiX3_isDigit : Cond.static yX3_isDigit ∈ lw_gt := lw_mem (i := 525) (by decide +kernel) rfl
theorem xyX3_digits : xY yX3_digits cX3_digits 2 (some .int) 0 := ⟨lw_mem (i := 530) (by decide +kernel) rfl, lw_mem (i := 98) (by decide +kernel) rfl, by decide, by decide, by decide +kernel⟩
theorem xiX3_digits : Cond.instanceMethod yX3_digits ∈ lw_gt ∧ Cond.selects yX3_digits.cls yX3_digits yX3_digits ∈ lw_gt := ⟨lw_mem (i := 529) (by decide +kernel) rfl, lw_mem (i := 19) (by decide +kernel) rfl⟩
theorem xyX3_word : xY yX3_word cX3_word 1 (some .int) 0 := ⟨lw_mem (i := 459) (by decide +kernel) rfl, lw_mem (i := 98) (by decide +kernel) rfl, by decide, by decide, by decide +kernel⟩
theorem xiX3_word : Cond.instanceMethod yX3_word ∈ lw_gt ∧ Cond.selects yX3_word.cls yX3_word yX3_word ∈ lw_gt := ⟨lw_mem (i := 458) (by decide +kernel) rfl, lw_mem (i := 17) (by decide +kernel) rfl⟩
theorem xyX3_spells : xY yX3_spells cX3_spells 4 (some .boolean) 1 := ⟨lw_mem (i := 464) (by decide +kernel) rfl, lw_mem (i := 98) (by decide +kernel) rfl, by decide, by decide, by decide +kernel⟩
theorem xiX3_spells : Cond.instanceMethod yX3_spells ∈ lw_gt ∧ Cond.selects yX3_spells.cls yX3_spells yX3_spells ∈ lw_gt := ⟨lw_mem (i := 463) (by decide +kernel) rfl, lw_mem (i := 18) (by decide +kernel) rfl⟩
theorem xyX3_signOf : xY yX3_signOf cX3_signOf 1 (some .int) 1 := ⟨lw_mem (i := 533) (by decide +kernel) rfl, lw_mem (i := 98) (by decide +kernel) rfl, by decide, by decide, by decide +kernel⟩
theorem xiX3_signOf : Cond.static yX3_signOf ∈ lw_gt := lw_mem (i := 532) (by decide +kernel) rfl
theorem xyX4_init : xY yX4_init cX4_init 1 none 0 := ⟨lw_mem (i := 122) (by decide +kernel) rfl, lw_mem (i := 97) (by decide +kernel) rfl, by decide, by decide, by decide +kernel⟩
theorem xyX4_value : xY yX4_value cX4_value 11 (some .int) 4 := ⟨lw_mem (i := 367) (by decide +kernel) rfl, lw_mem (i := 97) (by decide +kernel) rfl, by decide, by decide, by decide +kernel⟩
theorem xiX4_value : Cond.instanceMethod yX4_value ∈ lw_gt ∧ Cond.selects yX4_value.cls yX4_value yX4_value ∈ lw_gt := ⟨lw_mem (i := 366) (by decide +kernel) rfl, lw_mem (i := 6) (by decide +kernel) rfl⟩
theorem xyX4_fact : xY yX4_fact cX4_fact 4 (some .int) 4 := ⟨lw_mem (i := 370) (by decide +kernel) rfl, lw_mem (i := 97) (by decide +kernel) rfl, by decide, by decide, by decide +kernel⟩
theorem xiX4_fact : Cond.static yX4_fact ∈ lw_gt := lw_mem (i := 369) (by decide +kernel) rfl
theorem xyX4_joined : xY yX4_joined cX4_joined 3 (some .int) 3 := ⟨lw_mem (i := 379) (by decide +kernel) rfl, lw_mem (i := 97) (by decide +kernel) rfl, by decide, by decide, by decide +kernel⟩
theorem xiX4_joined : Cond.static yX4_joined ∈ lw_gt := lw_mem (i := 378) (by decide +kernel) rfl
theorem xyX5_init : xY yX5_init cX5_init 1 none 0 := ⟨lw_mem (i := 114) (by decide +kernel) rfl, lw_mem (i := 96) (by decide +kernel) rfl, by decide, by decide, by decide +kernel⟩
theorem xyX5_set : xY yX5_set cX5_set 5 (some .int) 3 := ⟨lw_mem (i := 326) (by decide +kernel) rfl, lw_mem (i := 96) (by decide +kernel) rfl, by decide, by decide, by decide +kernel⟩
theorem xiX5_set : Cond.instanceMethod yX5_set ∈ lw_gt ∧ Cond.selects yX5_set.cls yX5_set yX5_set ∈ lw_gt := ⟨lw_mem (i := 324) (by decide +kernel) rfl, lw_mem (i := 325) (by decide +kernel) rfl⟩
theorem xyX5_person : xY yX5_person cX5_person 3 (some .int) 2 := ⟨lw_mem (i := 407) (by decide +kernel) rfl, lw_mem (i := 96) (by decide +kernel) rfl, by decide, by decide, by decide +kernel⟩
theorem xiX5_person : Cond.instanceMethod yX5_person ∈ lw_gt ∧ Cond.selects yX5_person.cls yX5_person yX5_person ∈ lw_gt := ⟨lw_mem (i := 405) (by decide +kernel) rfl, lw_mem (i := 406) (by decide +kernel) rfl⟩
theorem xyX5_told : xY yX5_told cX5_told 3 (some .int) 2 := ⟨lw_mem (i := 415) (by decide +kernel) rfl, lw_mem (i := 96) (by decide +kernel) rfl, by decide, by decide, by decide +kernel⟩
theorem xiX5_told : Cond.instanceMethod yX5_told ∈ lw_gt ∧ Cond.selects yX5_told.cls yX5_told yX5_told ∈ lw_gt := ⟨lw_mem (i := 413) (by decide +kernel) rfl, lw_mem (i := 414) (by decide +kernel) rfl⟩
theorem xyX5_asks : xY yX5_asks cX5_asks 4 (some .int) 3 := ⟨lw_mem (i := 419) (by decide +kernel) rfl, lw_mem (i := 96) (by decide +kernel) rfl, by decide, by decide, by decide +kernel⟩
theorem xiX5_asks : Cond.instanceMethod yX5_asks ∈ lw_gt ∧ Cond.selects yX5_asks.cls yX5_asks yX5_asks ∈ lw_gt := ⟨lw_mem (i := 417) (by decide +kernel) rfl, lw_mem (i := 418) (by decide +kernel) rfl⟩
theorem xyX5_feed : xY yX5_feed cX5_feed 2 (some .int) 1 := ⟨lw_mem (i := 435) (by decide +kernel) rfl, lw_mem (i := 96) (by decide +kernel) rfl, by decide, by decide, by decide +kernel⟩
theorem xiX5_feed : Cond.instanceMethod yX5_feed ∈ lw_gt ∧ Cond.selects yX5_feed.cls yX5_feed yX5_feed ∈ lw_gt := ⟨lw_mem (i := 433) (by decide +kernel) rfl, lw_mem (i := 434) (by decide +kernel) rfl⟩
theorem xyX5_text : xY yX5_text cX5_text 3 (some .int) 0 := ⟨lw_mem (i := 443) (by decide +kernel) rfl, lw_mem (i := 96) (by decide +kernel) rfl, by decide, by decide, by decide +kernel⟩
theorem xiX5_text : Cond.instanceMethod yX5_text ∈ lw_gt ∧ Cond.selects yX5_text.cls yX5_text yX5_text ∈ lw_gt := ⟨lw_mem (i := 441) (by decide +kernel) rfl, lw_mem (i := 442) (by decide +kernel) rfl⟩
theorem xyX5_force : xY yX5_force cX5_force 3 (some .int) 1 := ⟨lw_mem (i := 574) (by decide +kernel) rfl, lw_mem (i := 96) (by decide +kernel) rfl, by decide, by decide, by decide +kernel⟩
theorem xiX5_force : Cond.instanceMethod yX5_force ∈ lw_gt ∧ Cond.selects yX5_force.cls yX5_force yX5_force ∈ lw_gt := ⟨lw_mem (i := 572) (by decide +kernel) rfl, lw_mem (i := 573) (by decide +kernel) rfl⟩
theorem xyX5_does : xY yX5_does cX5_does 3 (some .int) 2 := ⟨lw_mem (i := 578) (by decide +kernel) rfl, lw_mem (i := 96) (by decide +kernel) rfl, by decide, by decide, by decide +kernel⟩
theorem xiX5_does : Cond.instanceMethod yX5_does ∈ lw_gt ∧ Cond.selects yX5_does.cls yX5_does yX5_does ∈ lw_gt := ⟨lw_mem (i := 576) (by decide +kernel) rfl, lw_mem (i := 577) (by decide +kernel) rfl⟩
theorem xyX5_year : xY yX5_year cX5_year 1 (some .int) 0 := ⟨lw_mem (i := 594) (by decide +kernel) rfl, lw_mem (i := 96) (by decide +kernel) rfl, by decide, by decide, by decide +kernel⟩
theorem xiX5_year : Cond.instanceMethod yX5_year ∈ lw_gt ∧ Cond.selects yX5_year.cls yX5_year yX5_year ∈ lw_gt := ⟨lw_mem (i := 592) (by decide +kernel) rfl, lw_mem (i := 593) (by decide +kernel) rfl⟩
theorem xyX5_run : xY yX5_run cX5_run 4 (some .int) 2 := ⟨lw_mem (i := 602) (by decide +kernel) rfl, lw_mem (i := 96) (by decide +kernel) rfl, by decide, by decide, by decide +kernel⟩
theorem xiX5_run : Cond.instanceMethod yX5_run ∈ lw_gt ∧ Cond.selects yX5_run.cls yX5_run yX5_run ∈ lw_gt := ⟨lw_mem (i := 600) (by decide +kernel) rfl, lw_mem (i := 601) (by decide +kernel) rfl⟩
theorem xyX5_lasts : xY yX5_lasts cX5_lasts 3 (some .int) 1 := ⟨lw_mem (i := 623) (by decide +kernel) rfl, lw_mem (i := 96) (by decide +kernel) rfl, by decide, by decide, by decide +kernel⟩
theorem xiX5_lasts : Cond.instanceMethod yX5_lasts ∈ lw_gt ∧ Cond.selects yX5_lasts.cls yX5_lasts yX5_lasts ∈ lw_gt := ⟨lw_mem (i := 621) (by decide +kernel) rfl, lw_mem (i := 622) (by decide +kernel) rfl⟩
theorem xyX5_cover : xY yX5_cover cX5_cover 4 (some .int) 2 := ⟨lw_mem (i := 627) (by decide +kernel) rfl, lw_mem (i := 96) (by decide +kernel) rfl, by decide, by decide, by decide +kernel⟩
theorem xiX5_cover : Cond.instanceMethod yX5_cover ∈ lw_gt ∧ Cond.selects yX5_cover.cls yX5_cover yX5_cover ∈ lw_gt := ⟨lw_mem (i := 625) (by decide +kernel) rfl, lw_mem (i := 626) (by decide +kernel) rfl⟩
theorem xyX5_rota : xY yX5_rota cX5_rota 2 (some .int) 1 := ⟨lw_mem (i := 645) (by decide +kernel) rfl, lw_mem (i := 96) (by decide +kernel) rfl, by decide, by decide, by decide +kernel⟩
theorem xiX5_rota : Cond.instanceMethod yX5_rota ∈ lw_gt ∧ Cond.selects yX5_rota.cls yX5_rota yX5_rota ∈ lw_gt := ⟨lw_mem (i := 643) (by decide +kernel) rfl, lw_mem (i := 644) (by decide +kernel) rfl⟩
theorem xyX5_saves : xY yX5_saves cX5_saves 7 (some .int) 2 := ⟨lw_mem (i := 663) (by decide +kernel) rfl, lw_mem (i := 96) (by decide +kernel) rfl, by decide, by decide, by decide +kernel⟩
theorem xiX5_saves : Cond.instanceMethod yX5_saves ∈ lw_gt ∧ Cond.selects yX5_saves.cls yX5_saves yX5_saves ∈ lw_gt := ⟨lw_mem (i := 661) (by decide +kernel) rfl, lw_mem (i := 662) (by decide +kernel) rfl⟩
theorem xyX5_letGo : xY yX5_letGo cX5_letGo 6 (some .int) 1 := ⟨lw_mem (i := 672) (by decide +kernel) rfl, lw_mem (i := 96) (by decide +kernel) rfl, by decide, by decide, by decide +kernel⟩
theorem xiX5_letGo : Cond.instanceMethod yX5_letGo ∈ lw_gt ∧ Cond.selects yX5_letGo.cls yX5_letGo yX5_letGo ∈ lw_gt := ⟨lw_mem (i := 670) (by decide +kernel) rfl, lw_mem (i := 671) (by decide +kernel) rfl⟩
theorem xyX5_share : xY yX5_share cX5_share 2 (some .long) 1 := ⟨lw_mem (i := 680) (by decide +kernel) rfl, lw_mem (i := 96) (by decide +kernel) rfl, by decide, by decide, by decide +kernel⟩
theorem xiX5_share : Cond.instanceMethod yX5_share ∈ lw_gt ∧ Cond.selects yX5_share.cls yX5_share yX5_share ∈ lw_gt := ⟨lw_mem (i := 678) (by decide +kernel) rfl, lw_mem (i := 679) (by decide +kernel) rfl⟩
theorem xyX5_tells : xY yX5_tells cX5_tells 5 (some .int) 3 := ⟨lw_mem (i := 691) (by decide +kernel) rfl, lw_mem (i := 96) (by decide +kernel) rfl, by decide, by decide, by decide +kernel⟩
theorem xiX5_tells : Cond.instanceMethod yX5_tells ∈ lw_gt ∧ Cond.selects yX5_tells.cls yX5_tells yX5_tells ∈ lw_gt := ⟨lw_mem (i := 689) (by decide +kernel) rfl, lw_mem (i := 690) (by decide +kernel) rfl⟩
theorem xyX5_film : xY yX5_film cX5_film 7 (some .int) 2 := ⟨lw_mem (i := 723) (by decide +kernel) rfl, lw_mem (i := 96) (by decide +kernel) rfl, by decide, by decide, by decide +kernel⟩
theorem xiX5_film : Cond.instanceMethod yX5_film ∈ lw_gt ∧ Cond.selects yX5_film.cls yX5_film yX5_film ∈ lw_gt := ⟨lw_mem (i := 721) (by decide +kernel) rfl, lw_mem (i := 722) (by decide +kernel) rfl⟩
theorem xyX5_drawn : xY yX5_drawn cX5_drawn 3 (some .int) 2 := ⟨lw_mem (i := 742) (by decide +kernel) rfl, lw_mem (i := 96) (by decide +kernel) rfl, by decide, by decide, by decide +kernel⟩
theorem xiX5_drawn : Cond.instanceMethod yX5_drawn ∈ lw_gt ∧ Cond.selects yX5_drawn.cls yX5_drawn yX5_drawn ∈ lw_gt := ⟨lw_mem (i := 740) (by decide +kernel) rfl, lw_mem (i := 741) (by decide +kernel) rfl⟩
theorem xyX5_chance : xY yX5_chance cX5_chance 7 (some .long) 4 := ⟨lw_mem (i := 758) (by decide +kernel) rfl, lw_mem (i := 96) (by decide +kernel) rfl, by decide, by decide, by decide +kernel⟩
theorem xiX5_chance : Cond.instanceMethod yX5_chance ∈ lw_gt ∧ Cond.selects yX5_chance.cls yX5_chance yX5_chance ∈ lw_gt := ⟨lw_mem (i := 756) (by decide +kernel) rfl, lw_mem (i := 757) (by decide +kernel) rfl⟩
theorem xyX5_image : xY yX5_image cX5_image 1 (some .int) 0 := ⟨lw_mem (i := 762) (by decide +kernel) rfl, lw_mem (i := 96) (by decide +kernel) rfl, by decide, by decide, by decide +kernel⟩
theorem xiX5_image : Cond.instanceMethod yX5_image ∈ lw_gt ∧ Cond.selects yX5_image.cls yX5_image yX5_image ∈ lw_gt := ⟨lw_mem (i := 760) (by decide +kernel) rfl, lw_mem (i := 761) (by decide +kernel) rfl⟩
theorem xyX5_back : xY yX5_back cX5_back 1 (some .int) 0 := ⟨lw_mem (i := 766) (by decide +kernel) rfl, lw_mem (i := 96) (by decide +kernel) rfl, by decide, by decide, by decide +kernel⟩
theorem xiX5_back : Cond.instanceMethod yX5_back ∈ lw_gt ∧ Cond.selects yX5_back.cls yX5_back yX5_back ∈ lw_gt := ⟨lw_mem (i := 764) (by decide +kernel) rfl, lw_mem (i := 765) (by decide +kernel) rfl⟩
theorem xyX5_count : xY yX5_count cX5_count 2 (some .int) 1 := ⟨lw_mem (i := 770) (by decide +kernel) rfl, lw_mem (i := 96) (by decide +kernel) rfl, by decide, by decide, by decide +kernel⟩
theorem xiX5_count : Cond.instanceMethod yX5_count ∈ lw_gt ∧ Cond.selects yX5_count.cls yX5_count yX5_count ∈ lw_gt := ⟨lw_mem (i := 768) (by decide +kernel) rfl, lw_mem (i := 769) (by decide +kernel) rfl⟩
theorem xyX5_sheet : xY yX5_sheet cX5_sheet 5 (some .int) 3 := ⟨lw_mem (i := 774) (by decide +kernel) rfl, lw_mem (i := 96) (by decide +kernel) rfl, by decide, by decide, by decide +kernel⟩
theorem xiX5_sheet : Cond.instanceMethod yX5_sheet ∈ lw_gt ∧ Cond.selects yX5_sheet.cls yX5_sheet yX5_sheet ∈ lw_gt := ⟨lw_mem (i := 772) (by decide +kernel) rfl, lw_mem (i := 773) (by decide +kernel) rfl⟩
theorem xyX5_cell : xY yX5_cell cX5_cell 5 (some .int) 3 := ⟨lw_mem (i := 778) (by decide +kernel) rfl, lw_mem (i := 96) (by decide +kernel) rfl, by decide, by decide, by decide +kernel⟩
theorem xiX5_cell : Cond.instanceMethod yX5_cell ∈ lw_gt ∧ Cond.selects yX5_cell.cls yX5_cell yX5_cell ∈ lw_gt := ⟨lw_mem (i := 776) (by decide +kernel) rfl, lw_mem (i := 777) (by decide +kernel) rfl⟩
theorem xyX5_copy : xY yX5_copy cX5_copy 8 (some .int) 5 := ⟨lw_mem (i := 783) (by decide +kernel) rfl, lw_mem (i := 96) (by decide +kernel) rfl, by decide, by decide, by decide +kernel⟩
theorem xiX5_copy : Cond.instanceMethod yX5_copy ∈ lw_gt ∧ Cond.selects yX5_copy.cls yX5_copy yX5_copy ∈ lw_gt := ⟨lw_mem (i := 781) (by decide +kernel) rfl, lw_mem (i := 782) (by decide +kernel) rfl⟩
theorem xyX5_republic : xY yX5_republic cX5_republic 9 (some .int) 4 := ⟨lw_mem (i := 788) (by decide +kernel) rfl, lw_mem (i := 96) (by decide +kernel) rfl, by decide, by decide, by decide +kernel⟩
theorem xiX5_republic : Cond.instanceMethod yX5_republic ∈ lw_gt ∧ Cond.selects yX5_republic.cls yX5_republic yX5_republic ∈ lw_gt := ⟨lw_mem (i := 786) (by decide +kernel) rfl, lw_mem (i := 787) (by decide +kernel) rfl⟩
theorem xyX5_taken : xY yX5_taken cX5_taken 5 (some .int) 2 := ⟨lw_mem (i := 793) (by decide +kernel) rfl, lw_mem (i := 96) (by decide +kernel) rfl, by decide, by decide, by decide +kernel⟩
theorem xiX5_taken : Cond.instanceMethod yX5_taken ∈ lw_gt ∧ Cond.selects yX5_taken.cls yX5_taken yX5_taken ∈ lw_gt := ⟨lw_mem (i := 791) (by decide +kernel) rfl, lw_mem (i := 792) (by decide +kernel) rfl⟩
theorem xyX5_within : xY yX5_within cX5_within 3 (some .boolean) 3 := ⟨lw_mem (i := 329) (by decide +kernel) rfl, lw_mem (i := 96) (by decide +kernel) rfl, by decide, by decide, by decide +kernel⟩
theorem xiX5_within : Cond.static yX5_within ∈ lw_gt := lw_mem (i := 328) (by decide +kernel) rfl
theorem xyX5_isLaw : xY yX5_isLaw cX5_isLaw 1 (some .boolean) 1 := ⟨lw_mem (i := 336) (by decide +kernel) rfl, lw_mem (i := 96) (by decide +kernel) rfl, by decide, by decide, by decide +kernel⟩
theorem xiX5_isLaw : Cond.static yX5_isLaw ∈ lw_gt := lw_mem (i := 335) (by decide +kernel) rfl
theorem xyX5_isDeed : xY yX5_isDeed cX5_isDeed 1 (some .boolean) 1 := ⟨lw_mem (i := 339) (by decide +kernel) rfl, lw_mem (i := 96) (by decide +kernel) rfl, by decide, by decide, by decide +kernel⟩
theorem xiX5_isDeed : Cond.static yX5_isDeed ∈ lw_gt := lw_mem (i := 338) (by decide +kernel) rfl
theorem xyX5_isOne : xY yX5_isOne cX5_isOne 2 (some .boolean) 1 := ⟨lw_mem (i := 343) (by decide +kernel) rfl, lw_mem (i := 96) (by decide +kernel) rfl, by decide, by decide, by decide +kernel⟩
theorem xiX5_isOne : Cond.instanceMethod yX5_isOne ∈ lw_gt ∧ Cond.selects yX5_isOne.cls yX5_isOne yX5_isOne ∈ lw_gt := ⟨lw_mem (i := 342) (by decide +kernel) rfl, lw_mem (i := 1) (by decide +kernel) rfl⟩
theorem xyX5_sheetAt : xY yX5_sheetAt cX5_sheetAt 2 (some (.object "LawsLapse$Sheet")) 1 := ⟨lw_mem (i := 695) (by decide +kernel) rfl, lw_mem (i := 96) (by decide +kernel) rfl, by decide, by decide, by decide +kernel⟩
theorem xiX5_sheetAt : Cond.instanceMethod yX5_sheetAt ∈ lw_gt ∧ Cond.selects yX5_sheetAt.cls yX5_sheetAt yX5_sheetAt ∈ lw_gt := ⟨lw_mem (i := 694) (by decide +kernel) rfl, lw_mem (i := 42) (by decide +kernel) rfl⟩
theorem xyX5_stands : xY yX5_stands cX5_stands 3 (some .boolean) 2 := ⟨lw_mem (i := 333) (by decide +kernel) rfl, lw_mem (i := 96) (by decide +kernel) rfl, by decide, by decide, by decide +kernel⟩
theorem xiX5_stands : Cond.instanceMethod yX5_stands ∈ lw_gt ∧ Cond.selects yX5_stands.cls yX5_stands yX5_stands ∈ lw_gt := ⟨lw_mem (i := 332) (by decide +kernel) rfl, lw_mem (i := 0) (by decide +kernel) rfl⟩
theorem xyX5_aliveBehind : xY yX5_aliveBehind cX5_aliveBehind 3 (some .int) 2 := ⟨lw_mem (i := 667) (by decide +kernel) rfl, lw_mem (i := 96) (by decide +kernel) rfl, by decide, by decide, by decide +kernel⟩
theorem xiX5_aliveBehind : Cond.instanceMethod yX5_aliveBehind ∈ lw_gt ∧ Cond.selects yX5_aliveBehind.cls yX5_aliveBehind yX5_aliveBehind ∈ lw_gt := ⟨lw_mem (i := 666) (by decide +kernel) rfl, lw_mem (i := 40) (by decide +kernel) rfl⟩
theorem xyX5_aliveByDraw : xY yX5_aliveByDraw cX5_aliveByDraw 3 (some .int) 2 := ⟨lw_mem (i := 746) (by decide +kernel) rfl, lw_mem (i := 96) (by decide +kernel) rfl, by decide, by decide, by decide +kernel⟩
theorem xiX5_aliveByDraw : Cond.instanceMethod yX5_aliveByDraw ∈ lw_gt ∧ Cond.selects yX5_aliveByDraw.cls yX5_aliveByDraw yX5_aliveByDraw ∈ lw_gt := ⟨lw_mem (i := 745) (by decide +kernel) rfl, lw_mem (i := 52) (by decide +kernel) rfl⟩
theorem xyX5_fittingBits : xY yX5_fittingBits cX5_fittingBits 7 (some .int) 4 := ⟨lw_mem (i := 707) (by decide +kernel) rfl, lw_mem (i := 96) (by decide +kernel) rfl, by decide, by decide, by decide +kernel⟩
theorem xiX5_fittingBits : Cond.instanceMethod yX5_fittingBits ∈ lw_gt ∧ Cond.selects yX5_fittingBits.cls yX5_fittingBits yX5_fittingBits ∈ lw_gt := ⟨lw_mem (i := 706) (by decide +kernel) rfl, lw_mem (i := 45) (by decide +kernel) rfl⟩
theorem xyX5_howManyFit : xY yX5_howManyFit cX5_howManyFit 6 (some .int) 3 := ⟨lw_mem (i := 711) (by decide +kernel) rfl, lw_mem (i := 96) (by decide +kernel) rfl, by decide, by decide, by decide +kernel⟩
theorem xiX5_howManyFit : Cond.instanceMethod yX5_howManyFit ∈ lw_gt ∧ Cond.selects yX5_howManyFit.cls yX5_howManyFit yX5_howManyFit ∈ lw_gt := ⟨lw_mem (i := 710) (by decide +kernel) rfl, lw_mem (i := 46) (by decide +kernel) rfl⟩
theorem xyX5_leastFitting : xY yX5_leastFitting cX5_leastFitting 5 (some .int) 3 := ⟨lw_mem (i := 715) (by decide +kernel) rfl, lw_mem (i := 96) (by decide +kernel) rfl, by decide, by decide, by decide +kernel⟩
theorem xiX5_leastFitting : Cond.instanceMethod yX5_leastFitting ∈ lw_gt ∧ Cond.selects yX5_leastFitting.cls yX5_leastFitting yX5_leastFitting ∈ lw_gt := ⟨lw_mem (i := 714) (by decide +kernel) rfl, lw_mem (i := 47) (by decide +kernel) rfl⟩
theorem xyX5_fittingPeople : xY yX5_fittingPeople cX5_fittingPeople 4 (some .int) 1 := ⟨lw_mem (i := 719) (by decide +kernel) rfl, lw_mem (i := 96) (by decide +kernel) rfl, by decide, by decide, by decide +kernel⟩
theorem xiX5_fittingPeople : Cond.instanceMethod yX5_fittingPeople ∈ lw_gt ∧ Cond.selects yX5_fittingPeople.cls yX5_fittingPeople yX5_fittingPeople ∈ lw_gt := ⟨lw_mem (i := 718) (by decide +kernel) rfl, lw_mem (i := 48) (by decide +kernel) rfl⟩
theorem xyX5_fraction : xY yX5_fraction cX5_fraction 4 (some .long) 3 := ⟨lw_mem (i := 683) (by decide +kernel) rfl, lw_mem (i := 96) (by decide +kernel) rfl, by decide, by decide, by decide +kernel⟩
theorem xiX5_fraction : Cond.static yX5_fraction ∈ lw_gt := lw_mem (i := 682) (by decide +kernel) rfl
theorem xyX5_commonDivisor : xY yX5_commonDivisor cX5_commonDivisor 4 (some .int) 2 := ⟨lw_mem (i := 687) (by decide +kernel) rfl, lw_mem (i := 96) (by decide +kernel) rfl, by decide, by decide, by decide +kernel⟩
theorem xiX5_commonDivisor : Cond.static yX5_commonDivisor ∈ lw_gt := lw_mem (i := 686) (by decide +kernel) rfl
theorem xyX6_in : xY yX6_in cX6_in 6 (some .boolean) 3 := ⟨lw_mem (i := 964) (by decide +kernel) rfl, lw_mem (i := 102) (by decide +kernel) rfl, by decide, by decide, by decide +kernel⟩
theorem xiX6_in : Cond.static yX6_in ∈ lw_gt := lw_mem (i := 963) (by decide +kernel) rfl
theorem xyX6_within : xY yX6_within cX6_within 3 (some .int) 3 := ⟨lw_mem (i := 1084) (by decide +kernel) rfl, lw_mem (i := 102) (by decide +kernel) rfl, by decide, by decide, by decide +kernel⟩
theorem xiX6_within : Cond.static yX6_within ∈ lw_gt := lw_mem (i := 1083) (by decide +kernel) rfl
theorem xyX6_init : xY yX6_init cX6_init 2 none 0 := ⟨lw_mem (i := 800) (by decide +kernel) rfl, lw_mem (i := 102) (by decide +kernel) rfl, by decide, by decide, by decide +kernel⟩
theorem xyX6_spell : xY yX6_spell cX6_spell 10 none 9 := ⟨lw_mem (i := 805) (by decide +kernel) rfl, lw_mem (i := 102) (by decide +kernel) rfl, by decide, by decide, by decide +kernel⟩
theorem xiX6_spell : Cond.instanceMethod yX6_spell ∈ lw_gt ∧ Cond.selects yX6_spell.cls yX6_spell yX6_spell ∈ lw_gt := ⟨lw_mem (i := 804) (by decide +kernel) rfl, lw_mem (i := 54) (by decide +kernel) rfl⟩
theorem xyX6_bitsOf : xY yX6_bitsOf cX6_bitsOf 3 (some .int) 1 := ⟨lw_mem (i := 1006) (by decide +kernel) rfl, lw_mem (i := 102) (by decide +kernel) rfl, by decide, by decide, by decide +kernel⟩
theorem xiX6_bitsOf : Cond.static yX6_bitsOf ∈ lw_gt := lw_mem (i := 1005) (by decide +kernel) rfl
theorem xyX6_isOne : xY yX6_isOne cX6_isOne 2 (some .boolean) 1 := ⟨lw_mem (i := 979) (by decide +kernel) rfl, lw_mem (i := 102) (by decide +kernel) rfl, by decide, by decide, by decide +kernel⟩
theorem xiX6_isOne : Cond.instanceMethod yX6_isOne ∈ lw_gt ∧ Cond.selects yX6_isOne.cls yX6_isOne yX6_isOne ∈ lw_gt := ⟨lw_mem (i := 978) (by decide +kernel) rfl, lw_mem (i := 56) (by decide +kernel) rfl⟩
theorem xyX6_isDeed : xY yX6_isDeed cX6_isDeed 1 (some .boolean) 1 := ⟨lw_mem (i := 974) (by decide +kernel) rfl, lw_mem (i := 102) (by decide +kernel) rfl, by decide, by decide, by decide +kernel⟩
theorem xiX6_isDeed : Cond.static yX6_isDeed ∈ lw_gt := lw_mem (i := 973) (by decide +kernel) rfl
theorem xyX6_isLaw : xY yX6_isLaw cX6_isLaw 1 (some .boolean) 1 := ⟨lw_mem (i := 971) (by decide +kernel) rfl, lw_mem (i := 102) (by decide +kernel) rfl, by decide, by decide, by decide +kernel⟩
theorem xiX6_isLaw : Cond.static yX6_isLaw ∈ lw_gt := lw_mem (i := 970) (by decide +kernel) rfl
theorem xyX6_isOf : xY yX6_isOf cX6_isOf 3 (some .boolean) 2 := ⟨lw_mem (i := 968) (by decide +kernel) rfl, lw_mem (i := 102) (by decide +kernel) rfl, by decide, by decide, by decide +kernel⟩
theorem xiX6_isOf : Cond.instanceMethod yX6_isOf ∈ lw_gt ∧ Cond.selects yX6_isOf.cls yX6_isOf yX6_isOf ∈ lw_gt := ⟨lw_mem (i := 967) (by decide +kernel) rfl, lw_mem (i := 55) (by decide +kernel) rfl⟩
theorem xyX6_mostOf : xY yX6_mostOf cX6_mostOf 1 (some .int) 1 := ⟨lw_mem (i := 982) (by decide +kernel) rfl, lw_mem (i := 102) (by decide +kernel) rfl, by decide, by decide, by decide +kernel⟩
theorem xiX6_mostOf : Cond.static yX6_mostOf ∈ lw_gt := lw_mem (i := 981) (by decide +kernel) rfl
theorem xyX6_set : xY yX6_set cX6_set 5 (some .int) 3 := ⟨lw_mem (i := 960) (by decide +kernel) rfl, lw_mem (i := 102) (by decide +kernel) rfl, by decide, by decide, by decide +kernel⟩
theorem xiX6_set : Cond.instanceMethod yX6_set ∈ lw_gt ∧ Cond.selects yX6_set.cls yX6_set yX6_set ∈ lw_gt := ⟨lw_mem (i := 958) (by decide +kernel) rfl, lw_mem (i := 959) (by decide +kernel) rfl⟩
theorem xyX6_lays : xY yX6_lays cX6_lays 4 none 3 := ⟨lw_mem (i := 1092) (by decide +kernel) rfl, lw_mem (i := 102) (by decide +kernel) rfl, by decide, by decide, by decide +kernel⟩
theorem xiX6_lays : Cond.instanceMethod yX6_lays ∈ lw_gt ∧ Cond.selects yX6_lays.cls yX6_lays yX6_lays ∈ lw_gt := ⟨lw_mem (i := 1091) (by decide +kernel) rfl, lw_mem (i := 79) (by decide +kernel) rfl⟩
theorem xyX6_person : xY yX6_person cX6_person 3 (some .int) 2 := ⟨lw_mem (i := 1096) (by decide +kernel) rfl, lw_mem (i := 102) (by decide +kernel) rfl, by decide, by decide, by decide +kernel⟩
theorem xiX6_person : Cond.instanceMethod yX6_person ∈ lw_gt ∧ Cond.selects yX6_person.cls yX6_person yX6_person ∈ lw_gt := ⟨lw_mem (i := 1094) (by decide +kernel) rfl, lw_mem (i := 1095) (by decide +kernel) rfl⟩
theorem xyX6_told : xY yX6_told cX6_told 3 (some .int) 2 := ⟨lw_mem (i := 986) (by decide +kernel) rfl, lw_mem (i := 102) (by decide +kernel) rfl, by decide, by decide, by decide +kernel⟩
theorem xiX6_told : Cond.instanceMethod yX6_told ∈ lw_gt ∧ Cond.selects yX6_told.cls yX6_told yX6_told ∈ lw_gt := ⟨lw_mem (i := 984) (by decide +kernel) rfl, lw_mem (i := 985) (by decide +kernel) rfl⟩
theorem xyX6_alive : xY yX6_alive cX6_alive 3 (some .int) 0 := ⟨lw_mem (i := 1010) (by decide +kernel) rfl, lw_mem (i := 102) (by decide +kernel) rfl, by decide, by decide, by decide +kernel⟩
theorem xiX6_alive : Cond.instanceMethod yX6_alive ∈ lw_gt ∧ Cond.selects yX6_alive.cls yX6_alive yX6_alive ∈ lw_gt := ⟨lw_mem (i := 1009) (by decide +kernel) rfl, lw_mem (i := 61) (by decide +kernel) rfl⟩
theorem xyX6_feed : xY yX6_feed cX6_feed 2 (some .int) 1 := ⟨lw_mem (i := 1102) (by decide +kernel) rfl, lw_mem (i := 102) (by decide +kernel) rfl, by decide, by decide, by decide +kernel⟩
theorem xiX6_feed : Cond.instanceMethod yX6_feed ∈ lw_gt ∧ Cond.selects yX6_feed.cls yX6_feed yX6_feed ∈ lw_gt := ⟨lw_mem (i := 1100) (by decide +kernel) rfl, lw_mem (i := 1101) (by decide +kernel) rfl⟩
theorem xyX6_byteAt : xY yX6_byteAt cX6_byteAt 2 (some .int) 1 := ⟨lw_mem (i := 1022) (by decide +kernel) rfl, lw_mem (i := 102) (by decide +kernel) rfl, by decide, by decide, by decide +kernel⟩
theorem xiX6_byteAt : Cond.instanceMethod yX6_byteAt ∈ lw_gt ∧ Cond.selects yX6_byteAt.cls yX6_byteAt yX6_byteAt ∈ lw_gt := ⟨lw_mem (i := 1021) (by decide +kernel) rfl, lw_mem (i := 64) (by decide +kernel) rfl⟩
theorem xyX6_next : xY yX6_next cX6_next 3 none 0 := ⟨lw_mem (i := 1018) (by decide +kernel) rfl, lw_mem (i := 102) (by decide +kernel) rfl, by decide, by decide, by decide +kernel⟩
theorem xiX6_next : Cond.instanceMethod yX6_next ∈ lw_gt ∧ Cond.selects yX6_next.cls yX6_next yX6_next ∈ lw_gt := ⟨lw_mem (i := 1017) (by decide +kernel) rfl, lw_mem (i := 63) (by decide +kernel) rfl⟩
theorem xyX6_fail : xY yX6_fail cX6_fail 1 none 0 := ⟨lw_mem (i := 1043) (by decide +kernel) rfl, lw_mem (i := 102) (by decide +kernel) rfl, by decide, by decide, by decide +kernel⟩
theorem xiX6_fail : Cond.instanceMethod yX6_fail ∈ lw_gt ∧ Cond.selects yX6_fail.cls yX6_fail yX6_fail ∈ lw_gt := ⟨lw_mem (i := 1042) (by decide +kernel) rfl, lw_mem (i := 68) (by decide +kernel) rfl⟩
theorem xyX6_isLetter : xY yX6_isLetter cX6_isLetter 3 (some .boolean) 2 := ⟨lw_mem (i := 1035) (by decide +kernel) rfl, lw_mem (i := 102) (by decide +kernel) rfl, by decide, by decide, by decide +kernel⟩
theorem xiX6_isLetter : Cond.instanceMethod yX6_isLetter ∈ lw_gt ∧ Cond.selects yX6_isLetter.cls yX6_isLetter yX6_isLetter ∈ lw_gt := ⟨lw_mem (i := 1034) (by decide +kernel) rfl, lw_mem (i := 66) (by decide +kernel) rfl⟩
theorem xyX6_isWord : xY yX6_isWord cX6_isWord 9 (some .boolean) 8 := ⟨lw_mem (i := 1031) (by decide +kernel) rfl, lw_mem (i := 102) (by decide +kernel) rfl, by decide, by decide, by decide +kernel⟩
theorem xiX6_isWord : Cond.instanceMethod yX6_isWord ∈ lw_gt ∧ Cond.selects yX6_isWord.cls yX6_isWord yX6_isWord ∈ lw_gt := ⟨lw_mem (i := 1030) (by decide +kernel) rfl, lw_mem (i := 65) (by decide +kernel) rfl⟩
theorem xyX6_isSign : xY yX6_isSign cX6_isSign 2 (some .boolean) 1 := ⟨lw_mem (i := 1075) (by decide +kernel) rfl, lw_mem (i := 102) (by decide +kernel) rfl, by decide, by decide, by decide +kernel⟩
theorem xiX6_isSign : Cond.instanceMethod yX6_isSign ∈ lw_gt ∧ Cond.selects yX6_isSign.cls yX6_isSign yX6_isSign ∈ lw_gt := ⟨lw_mem (i := 1074) (by decide +kernel) rfl, lw_mem (i := 76) (by decide +kernel) rfl⟩
theorem xyX6_opens : xY yX6_opens cX6_opens 1 (some .boolean) 0 := ⟨lw_mem (i := 1059) (by decide +kernel) rfl, lw_mem (i := 102) (by decide +kernel) rfl, by decide, by decide, by decide +kernel⟩
theorem xiX6_opens : Cond.instanceMethod yX6_opens ∈ lw_gt ∧ Cond.selects yX6_opens.cls yX6_opens yX6_opens ∈ lw_gt := ⟨lw_mem (i := 1058) (by decide +kernel) rfl, lw_mem (i := 72) (by decide +kernel) rfl⟩
theorem xyX6_name : xY yX6_name cX6_name 1 (some .int) 0 := ⟨lw_mem (i := 1079) (by decide +kernel) rfl, lw_mem (i := 102) (by decide +kernel) rfl, by decide, by decide, by decide +kernel⟩
theorem xiX6_name : Cond.instanceMethod yX6_name ∈ lw_gt ∧ Cond.selects yX6_name.cls yX6_name yX6_name ∈ lw_gt := ⟨lw_mem (i := 1078) (by decide +kernel) rfl, lw_mem (i := 77) (by decide +kernel) rfl⟩
theorem xyX6_atom : xY yX6_atom cX6_atom 2 (some .int) 0 := ⟨lw_mem (i := 1071) (by decide +kernel) rfl, lw_mem (i := 102) (by decide +kernel) rfl, by decide, by decide, by decide +kernel⟩
theorem xiX6_atom : Cond.instanceMethod yX6_atom ∈ lw_gt ∧ Cond.selects yX6_atom.cls yX6_atom yX6_atom ∈ lw_gt := ⟨lw_mem (i := 1070) (by decide +kernel) rfl, lw_mem (i := 75) (by decide +kernel) rfl⟩
theorem xyX6_term : xY yX6_term cX6_term 2 (some .int) 0 := ⟨lw_mem (i := 1067) (by decide +kernel) rfl, lw_mem (i := 102) (by decide +kernel) rfl, by decide, by decide, by decide +kernel⟩
theorem xiX6_term : Cond.instanceMethod yX6_term ∈ lw_gt ∧ Cond.selects yX6_term.cls yX6_term yX6_term ∈ lw_gt := ⟨lw_mem (i := 1066) (by decide +kernel) rfl, lw_mem (i := 74) (by decide +kernel) rfl⟩
theorem xyX6_added : xY yX6_added cX6_added 4 (some .int) 0 := ⟨lw_mem (i := 1063) (by decide +kernel) rfl, lw_mem (i := 102) (by decide +kernel) rfl, by decide, by decide, by decide +kernel⟩
theorem xiX6_added : Cond.instanceMethod yX6_added ∈ lw_gt ∧ Cond.selects yX6_added.cls yX6_added yX6_added ∈ lw_gt := ⟨lw_mem (i := 1062) (by decide +kernel) rfl, lw_mem (i := 73) (by decide +kernel) rfl⟩
theorem xyX6_not : xY yX6_not cX6_not 4 (some .int) 0 := ⟨lw_mem (i := 1055) (by decide +kernel) rfl, lw_mem (i := 102) (by decide +kernel) rfl, by decide, by decide, by decide +kernel⟩
theorem xiX6_not : Cond.instanceMethod yX6_not ∈ lw_gt ∧ Cond.selects yX6_not.cls yX6_not yX6_not ∈ lw_gt := ⟨lw_mem (i := 1054) (by decide +kernel) rfl, lw_mem (i := 71) (by decide +kernel) rfl⟩
theorem xyX6_both : xY yX6_both cX6_both 3 (some .int) 0 := ⟨lw_mem (i := 1051) (by decide +kernel) rfl, lw_mem (i := 102) (by decide +kernel) rfl, by decide, by decide, by decide +kernel⟩
theorem xiX6_both : Cond.instanceMethod yX6_both ∈ lw_gt ∧ Cond.selects yX6_both.cls yX6_both yX6_both ∈ lw_gt := ⟨lw_mem (i := 1050) (by decide +kernel) rfl, lw_mem (i := 70) (by decide +kernel) rfl⟩
theorem xyX6_either : xY yX6_either cX6_either 3 (some .int) 0 := ⟨lw_mem (i := 1047) (by decide +kernel) rfl, lw_mem (i := 102) (by decide +kernel) rfl, by decide, by decide, by decide +kernel⟩
theorem xiX6_either : Cond.instanceMethod yX6_either ∈ lw_gt ∧ Cond.selects yX6_either.cls yX6_either yX6_either ∈ lw_gt := ⟨lw_mem (i := 1046) (by decide +kernel) rfl, lw_mem (i := 69) (by decide +kernel) rfl⟩
theorem xyX6_part : xY yX6_part cX6_part 3 (some .int) 1 := ⟨lw_mem (i := 1039) (by decide +kernel) rfl, lw_mem (i := 102) (by decide +kernel) rfl, by decide, by decide, by decide +kernel⟩
theorem xiX6_part : Cond.instanceMethod yX6_part ∈ lw_gt ∧ Cond.selects yX6_part.cls yX6_part yX6_part ∈ lw_gt := ⟨lw_mem (i := 1038) (by decide +kernel) rfl, lw_mem (i := 67) (by decide +kernel) rfl⟩
theorem xyX6_read : xY yX6_read cX6_read 6 (some .int) 2 := ⟨lw_mem (i := 1014) (by decide +kernel) rfl, lw_mem (i := 102) (by decide +kernel) rfl, by decide, by decide, by decide +kernel⟩
theorem xiX6_read : Cond.instanceMethod yX6_read ∈ lw_gt ∧ Cond.selects yX6_read.cls yX6_read yX6_read ∈ lw_gt := ⟨lw_mem (i := 1013) (by decide +kernel) rfl, lw_mem (i := 62) (by decide +kernel) rfl⟩
theorem xyX6_text : xY yX6_text cX6_text 2 (some .int) 0 := ⟨lw_mem (i := 1107) (by decide +kernel) rfl, lw_mem (i := 102) (by decide +kernel) rfl, by decide, by decide, by decide +kernel⟩
theorem xiX6_text : Cond.instanceMethod yX6_text ∈ lw_gt ∧ Cond.selects yX6_text.cls yX6_text yX6_text ∈ lw_gt := ⟨lw_mem (i := 1105) (by decide +kernel) rfl, lw_mem (i := 1106) (by decide +kernel) rfl⟩
theorem xyX6_force : xY yX6_force cX6_force 3 (some .int) 1 := ⟨lw_mem (i := 1111) (by decide +kernel) rfl, lw_mem (i := 102) (by decide +kernel) rfl, by decide, by decide, by decide +kernel⟩
theorem xiX6_force : Cond.instanceMethod yX6_force ∈ lw_gt ∧ Cond.selects yX6_force.cls yX6_force yX6_force ∈ lw_gt := ⟨lw_mem (i := 1109) (by decide +kernel) rfl, lw_mem (i := 1110) (by decide +kernel) rfl⟩
theorem xyX6_says : xY yX6_says cX6_says 4 (some .int) 3 := ⟨lw_mem (i := 1003) (by decide +kernel) rfl, lw_mem (i := 102) (by decide +kernel) rfl, by decide, by decide, by decide +kernel⟩
theorem xiX6_says : Cond.instanceMethod yX6_says ∈ lw_gt ∧ Cond.selects yX6_says.cls yX6_says yX6_says ∈ lw_gt := ⟨lw_mem (i := 1002) (by decide +kernel) rfl, lw_mem (i := 60) (by decide +kernel) rfl⟩
theorem xyX6_isLastCall : xY yX6_isLastCall cX6_isLastCall 4 (some .boolean) 1 := ⟨lw_mem (i := 1088) (by decide +kernel) rfl, lw_mem (i := 102) (by decide +kernel) rfl, by decide, by decide, by decide +kernel⟩
theorem xiX6_isLastCall : Cond.instanceMethod yX6_isLastCall ∈ lw_gt ∧ Cond.selects yX6_isLastCall.cls yX6_isLastCall yX6_isLastCall ∈ lw_gt := ⟨lw_mem (i := 1087) (by decide +kernel) rfl, lw_mem (i := 78) (by decide +kernel) rfl⟩
theorem xyX6_dares : xY yX6_dares cX6_dares 7 (some .boolean) 2 := ⟨lw_mem (i := 999) (by decide +kernel) rfl, lw_mem (i := 102) (by decide +kernel) rfl, by decide, by decide, by decide +kernel⟩
theorem xiX6_dares : Cond.instanceMethod yX6_dares ∈ lw_gt ∧ Cond.selects yX6_dares.cls yX6_dares yX6_dares ∈ lw_gt := ⟨lw_mem (i := 998) (by decide +kernel) rfl, lw_mem (i := 59) (by decide +kernel) rfl⟩
theorem xyX6_costsOf : xY yX6_costsOf cX6_costsOf 6 (some .int) 2 := ⟨lw_mem (i := 1120) (by decide +kernel) rfl, lw_mem (i := 102) (by decide +kernel) rfl, by decide, by decide, by decide +kernel⟩
theorem xiX6_costsOf : Cond.instanceMethod yX6_costsOf ∈ lw_gt ∧ Cond.selects yX6_costsOf.cls yX6_costsOf yX6_costsOf ∈ lw_gt := ⟨lw_mem (i := 1119) (by decide +kernel) rfl, lw_mem (i := 80) (by decide +kernel) rfl⟩
theorem xyX6_sitsBy : xY yX6_sitsBy cX6_sitsBy 6 (some .int) 2 := ⟨lw_mem (i := 1124) (by decide +kernel) rfl, lw_mem (i := 102) (by decide +kernel) rfl, by decide, by decide, by decide +kernel⟩
theorem xiX6_sitsBy : Cond.instanceMethod yX6_sitsBy ∈ lw_gt ∧ Cond.selects yX6_sitsBy.cls yX6_sitsBy yX6_sitsBy ∈ lw_gt := ⟨lw_mem (i := 1123) (by decide +kernel) rfl, lw_mem (i := 81) (by decide +kernel) rfl⟩
theorem xyX6_asks : xY yX6_asks cX6_asks 4 (some .int) 3 := ⟨lw_mem (i := 1115) (by decide +kernel) rfl, lw_mem (i := 102) (by decide +kernel) rfl, by decide, by decide, by decide +kernel⟩
theorem xiX6_asks : Cond.instanceMethod yX6_asks ∈ lw_gt ∧ Cond.selects yX6_asks.cls yX6_asks yX6_asks ∈ lw_gt := ⟨lw_mem (i := 1113) (by decide +kernel) rfl, lw_mem (i := 1114) (by decide +kernel) rfl⟩
theorem xyX6_can : xY yX6_can cX6_can 3 (some .boolean) 2 := ⟨lw_mem (i := 995) (by decide +kernel) rfl, lw_mem (i := 102) (by decide +kernel) rfl, by decide, by decide, by decide +kernel⟩
theorem xiX6_can : Cond.instanceMethod yX6_can ∈ lw_gt ∧ Cond.selects yX6_can.cls yX6_can yX6_can ∈ lw_gt := ⟨lw_mem (i := 994) (by decide +kernel) rfl, lw_mem (i := 58) (by decide +kernel) rfl⟩
theorem xyX6_canSet : xY yX6_canSet cX6_canSet 4 (some .int) 1 := ⟨lw_mem (i := 991) (by decide +kernel) rfl, lw_mem (i := 102) (by decide +kernel) rfl, by decide, by decide, by decide +kernel⟩
theorem xiX6_canSet : Cond.instanceMethod yX6_canSet ∈ lw_gt ∧ Cond.selects yX6_canSet.cls yX6_canSet yX6_canSet ∈ lw_gt := ⟨lw_mem (i := 990) (by decide +kernel) rfl, lw_mem (i := 57) (by decide +kernel) rfl⟩
theorem xyX6_done : xY yX6_done cX6_done 5 none 2 := ⟨lw_mem (i := 1132) (by decide +kernel) rfl, lw_mem (i := 102) (by decide +kernel) rfl, by decide, by decide, by decide +kernel⟩
theorem xiX6_done : Cond.instanceMethod yX6_done ∈ lw_gt ∧ Cond.selects yX6_done.cls yX6_done yX6_done ∈ lw_gt := ⟨lw_mem (i := 1131) (by decide +kernel) rfl, lw_mem (i := 82) (by decide +kernel) rfl⟩
theorem xyX6_does : xY yX6_does cX6_does 3 (some .int) 2 := ⟨lw_mem (i := 1128) (by decide +kernel) rfl, lw_mem (i := 102) (by decide +kernel) rfl, by decide, by decide, by decide +kernel⟩
theorem xiX6_does : Cond.instanceMethod yX6_does ∈ lw_gt ∧ Cond.selects yX6_does.cls yX6_does yX6_does ∈ lw_gt := ⟨lw_mem (i := 1126) (by decide +kernel) rfl, lw_mem (i := 1127) (by decide +kernel) rfl⟩
theorem xyX6_ends : xY yX6_ends cX6_ends 3 (some .int) 0 := ⟨lw_mem (i := 1141) (by decide +kernel) rfl, lw_mem (i := 102) (by decide +kernel) rfl, by decide, by decide, by decide +kernel⟩
theorem xiX6_ends : Cond.instanceMethod yX6_ends ∈ lw_gt ∧ Cond.selects yX6_ends.cls yX6_ends yX6_ends ∈ lw_gt := ⟨lw_mem (i := 1140) (by decide +kernel) rfl, lw_mem (i := 83) (by decide +kernel) rfl⟩
theorem xyX6_year : xY yX6_year cX6_year 1 (some .int) 0 := ⟨lw_mem (i := 1137) (by decide +kernel) rfl, lw_mem (i := 102) (by decide +kernel) rfl, by decide, by decide, by decide +kernel⟩
theorem xiX6_year : Cond.instanceMethod yX6_year ∈ lw_gt ∧ Cond.selects yX6_year.cls yX6_year yX6_year ∈ lw_gt := ⟨lw_mem (i := 1135) (by decide +kernel) rfl, lw_mem (i := 1136) (by decide +kernel) rfl⟩
theorem xyX6_all : xY yX6_all cX6_all 5 (some .int) 0 := ⟨lw_mem (i := 1158) (by decide +kernel) rfl, lw_mem (i := 102) (by decide +kernel) rfl, by decide, by decide, by decide +kernel⟩
theorem xiX6_all : Cond.instanceMethod yX6_all ∈ lw_gt ∧ Cond.selects yX6_all.cls yX6_all yX6_all ∈ lw_gt := ⟨lw_mem (i := 1157) (by decide +kernel) rfl, lw_mem (i := 86) (by decide +kernel) rfl⟩
theorem xyX6_laysAside : xY yX6_laysAside cX6_laysAside 2 none 0 := ⟨lw_mem (i := 1150) (by decide +kernel) rfl, lw_mem (i := 102) (by decide +kernel) rfl, by decide, by decide, by decide +kernel⟩
theorem xiX6_laysAside : Cond.instanceMethod yX6_laysAside ∈ lw_gt ∧ Cond.selects yX6_laysAside.cls yX6_laysAside yX6_laysAside ∈ lw_gt := ⟨lw_mem (i := 1149) (by decide +kernel) rfl, lw_mem (i := 84) (by decide +kernel) rfl⟩
theorem xyX6_laysBack : xY yX6_laysBack cX6_laysBack 2 none 0 := ⟨lw_mem (i := 1162) (by decide +kernel) rfl, lw_mem (i := 102) (by decide +kernel) rfl, by decide, by decide, by decide +kernel⟩
theorem xiX6_laysBack : Cond.instanceMethod yX6_laysBack ∈ lw_gt ∧ Cond.selects yX6_laysBack.cls yX6_laysBack yX6_laysBack ∈ lw_gt := ⟨lw_mem (i := 1161) (by decide +kernel) rfl, lw_mem (i := 87) (by decide +kernel) rfl⟩
theorem xyX6_go : xY yX6_go cX6_go 4 (some .int) 1 := ⟨lw_mem (i := 1154) (by decide +kernel) rfl, lw_mem (i := 102) (by decide +kernel) rfl, by decide, by decide, by decide +kernel⟩
theorem xiX6_go : Cond.instanceMethod yX6_go ∈ lw_gt ∧ Cond.selects yX6_go.cls yX6_go yX6_go ∈ lw_gt := ⟨lw_mem (i := 1153) (by decide +kernel) rfl, lw_mem (i := 85) (by decide +kernel) rfl⟩
theorem xyX6_run : xY yX6_run cX6_run 5 (some .int) 2 := ⟨lw_mem (i := 1145) (by decide +kernel) rfl, lw_mem (i := 102) (by decide +kernel) rfl, by decide, by decide, by decide +kernel⟩
theorem xiX6_run : Cond.instanceMethod yX6_run ∈ lw_gt ∧ Cond.selects yX6_run.cls yX6_run yX6_run ∈ lw_gt := ⟨lw_mem (i := 1143) (by decide +kernel) rfl, lw_mem (i := 1144) (by decide +kernel) rfl⟩
theorem xyX6_lasts : xY yX6_lasts cX6_lasts 3 (some .int) 1 := ⟨lw_mem (i := 1166) (by decide +kernel) rfl, lw_mem (i := 102) (by decide +kernel) rfl, by decide, by decide, by decide +kernel⟩
theorem xiX6_lasts : Cond.instanceMethod yX6_lasts ∈ lw_gt ∧ Cond.selects yX6_lasts.cls yX6_lasts yX6_lasts ∈ lw_gt := ⟨lw_mem (i := 1164) (by decide +kernel) rfl, lw_mem (i := 1165) (by decide +kernel) rfl⟩
theorem xyX6_unionOf : xY yX6_unionOf cX6_unionOf 4 (some .int) 1 := ⟨lw_mem (i := 1175) (by decide +kernel) rfl, lw_mem (i := 102) (by decide +kernel) rfl, by decide, by decide, by decide +kernel⟩
theorem xiX6_unionOf : Cond.instanceMethod yX6_unionOf ∈ lw_gt ∧ Cond.selects yX6_unionOf.cls yX6_unionOf yX6_unionOf ∈ lw_gt := ⟨lw_mem (i := 1174) (by decide +kernel) rfl, lw_mem (i := 88) (by decide +kernel) rfl⟩
theorem xyX6_harmOf : xY yX6_harmOf cX6_harmOf 4 (some .int) 1 := ⟨lw_mem (i := 1179) (by decide +kernel) rfl, lw_mem (i := 102) (by decide +kernel) rfl, by decide, by decide, by decide +kernel⟩
theorem xiX6_harmOf : Cond.instanceMethod yX6_harmOf ∈ lw_gt ∧ Cond.selects yX6_harmOf.cls yX6_harmOf yX6_harmOf ∈ lw_gt := ⟨lw_mem (i := 1178) (by decide +kernel) rfl, lw_mem (i := 89) (by decide +kernel) rfl⟩
theorem xyX6_cover : xY yX6_cover cX6_cover 7 (some .int) 2 := ⟨lw_mem (i := 1170) (by decide +kernel) rfl, lw_mem (i := 102) (by decide +kernel) rfl, by decide, by decide, by decide +kernel⟩
theorem xiX6_cover : Cond.instanceMethod yX6_cover ∈ lw_gt ∧ Cond.selects yX6_cover.cls yX6_cover yX6_cover ∈ lw_gt := ⟨lw_mem (i := 1168) (by decide +kernel) rfl, lw_mem (i := 1169) (by decide +kernel) rfl⟩
theorem xyX6_gives : xY yX6_gives cX6_gives 7 none 5 := ⟨lw_mem (i := 1187) (by decide +kernel) rfl, lw_mem (i := 102) (by decide +kernel) rfl, by decide, by decide, by decide +kernel⟩
theorem xiX6_gives : Cond.instanceMethod yX6_gives ∈ lw_gt ∧ Cond.selects yX6_gives.cls yX6_gives yX6_gives ∈ lw_gt := ⟨lw_mem (i := 1186) (by decide +kernel) rfl, lw_mem (i := 90) (by decide +kernel) rfl⟩
theorem xyX6_rota : xY yX6_rota cX6_rota 3 (some .int) 1 := ⟨lw_mem (i := 1183) (by decide +kernel) rfl, lw_mem (i := 102) (by decide +kernel) rfl, by decide, by decide, by decide +kernel⟩
theorem xiX6_rota : Cond.instanceMethod yX6_rota ∈ lw_gt ∧ Cond.selects yX6_rota.cls yX6_rota yX6_rota ∈ lw_gt := ⟨lw_mem (i := 1181) (by decide +kernel) rfl, lw_mem (i := 1182) (by decide +kernel) rfl⟩
theorem xyX6_aliveBehind : xY yX6_aliveBehind cX6_aliveBehind 4 (some .int) 2 := ⟨lw_mem (i := 1195) (by decide +kernel) rfl, lw_mem (i := 102) (by decide +kernel) rfl, by decide, by decide, by decide +kernel⟩
theorem xiX6_aliveBehind : Cond.instanceMethod yX6_aliveBehind ∈ lw_gt ∧ Cond.selects yX6_aliveBehind.cls yX6_aliveBehind yX6_aliveBehind ∈ lw_gt := ⟨lw_mem (i := 1194) (by decide +kernel) rfl, lw_mem (i := 91) (by decide +kernel) rfl⟩
theorem xyX6_saves : xY yX6_saves cX6_saves 7 (some .int) 2 := ⟨lw_mem (i := 1191) (by decide +kernel) rfl, lw_mem (i := 102) (by decide +kernel) rfl, by decide, by decide, by decide +kernel⟩
theorem xiX6_saves : Cond.instanceMethod yX6_saves ∈ lw_gt ∧ Cond.selects yX6_saves.cls yX6_saves yX6_saves ∈ lw_gt := ⟨lw_mem (i := 1189) (by decide +kernel) rfl, lw_mem (i := 1190) (by decide +kernel) rfl⟩
theorem xyX6_letGo : xY yX6_letGo cX6_letGo 7 (some .int) 1 := ⟨lw_mem (i := 1199) (by decide +kernel) rfl, lw_mem (i := 102) (by decide +kernel) rfl, by decide, by decide, by decide +kernel⟩
theorem xiX6_letGo : Cond.instanceMethod yX6_letGo ∈ lw_gt ∧ Cond.selects yX6_letGo.cls yX6_letGo yX6_letGo ∈ lw_gt := ⟨lw_mem (i := 1197) (by decide +kernel) rfl, lw_mem (i := 1198) (by decide +kernel) rfl⟩
theorem xyX6_lowest : xY yX6_lowest cX6_lowest 11 (some .long) 3 := ⟨lw_mem (i := 1206) (by decide +kernel) rfl, lw_mem (i := 102) (by decide +kernel) rfl, by decide, by decide, by decide +kernel⟩
theorem xiX6_lowest : Cond.static yX6_lowest ∈ lw_gt := lw_mem (i := 1205) (by decide +kernel) rfl
theorem xyX6_share : xY yX6_share cX6_share 2 (some .long) 1 := ⟨lw_mem (i := 1203) (by decide +kernel) rfl, lw_mem (i := 102) (by decide +kernel) rfl, by decide, by decide, by decide +kernel⟩
theorem xiX6_share : Cond.instanceMethod yX6_share ∈ lw_gt ∧ Cond.selects yX6_share.cls yX6_share yX6_share ∈ lw_gt := ⟨lw_mem (i := 1201) (by decide +kernel) rfl, lw_mem (i := 1202) (by decide +kernel) rfl⟩
theorem xyX6_firstOther : xY yX6_firstOther cX6_firstOther 4 (some .int) 2 := ⟨lw_mem (i := 1219) (by decide +kernel) rfl, lw_mem (i := 102) (by decide +kernel) rfl, by decide, by decide, by decide +kernel⟩
theorem xiX6_firstOther : Cond.instanceMethod yX6_firstOther ∈ lw_gt ∧ Cond.selects yX6_firstOther.cls yX6_firstOther yX6_firstOther ∈ lw_gt := ⟨lw_mem (i := 1218) (by decide +kernel) rfl, lw_mem (i := 92) (by decide +kernel) rfl⟩
theorem xyX6_likeSet : xY yX6_likeSet cX6_likeSet 4 (some .int) 1 := ⟨lw_mem (i := 1223) (by decide +kernel) rfl, lw_mem (i := 102) (by decide +kernel) rfl, by decide, by decide, by decide +kernel⟩
theorem xiX6_likeSet : Cond.instanceMethod yX6_likeSet ∈ lw_gt ∧ Cond.selects yX6_likeSet.cls yX6_likeSet yX6_likeSet ∈ lw_gt := ⟨lw_mem (i := 1222) (by decide +kernel) rfl, lw_mem (i := 93) (by decide +kernel) rfl⟩
theorem xyX6_tells : xY yX6_tells cX6_tells 11 (some .int) 3 := ⟨lw_mem (i := 1211) (by decide +kernel) rfl, lw_mem (i := 102) (by decide +kernel) rfl, by decide, by decide, by decide +kernel⟩
theorem xiX6_tells : Cond.instanceMethod yX6_tells ∈ lw_gt ∧ Cond.selects yX6_tells.cls yX6_tells yX6_tells ∈ lw_gt := ⟨lw_mem (i := 1209) (by decide +kernel) rfl, lw_mem (i := 1210) (by decide +kernel) rfl⟩
theorem xyX6_film : xY yX6_film cX6_film 6 (some .int) 2 := ⟨lw_mem (i := 1227) (by decide +kernel) rfl, lw_mem (i := 102) (by decide +kernel) rfl, by decide, by decide, by decide +kernel⟩
theorem xiX6_film : Cond.instanceMethod yX6_film ∈ lw_gt ∧ Cond.selects yX6_film.cls yX6_film yX6_film ∈ lw_gt := ⟨lw_mem (i := 1225) (by decide +kernel) rfl, lw_mem (i := 1226) (by decide +kernel) rfl⟩
theorem xyX6_aliveDrawn : xY yX6_aliveDrawn cX6_aliveDrawn 7 (some .int) 2 := ⟨lw_mem (i := 1240) (by decide +kernel) rfl, lw_mem (i := 102) (by decide +kernel) rfl, by decide, by decide, by decide +kernel⟩
theorem xiX6_aliveDrawn : Cond.instanceMethod yX6_aliveDrawn ∈ lw_gt ∧ Cond.selects yX6_aliveDrawn.cls yX6_aliveDrawn yX6_aliveDrawn ∈ lw_gt := ⟨lw_mem (i := 1239) (by decide +kernel) rfl, lw_mem (i := 94) (by decide +kernel) rfl⟩
theorem xyX6_drawn : xY yX6_drawn cX6_drawn 3 (some .int) 2 := ⟨lw_mem (i := 1236) (by decide +kernel) rfl, lw_mem (i := 102) (by decide +kernel) rfl, by decide, by decide, by decide +kernel⟩
theorem xiX6_drawn : Cond.instanceMethod yX6_drawn ∈ lw_gt ∧ Cond.selects yX6_drawn.cls yX6_drawn yX6_drawn ∈ lw_gt := ⟨lw_mem (i := 1234) (by decide +kernel) rfl, lw_mem (i := 1235) (by decide +kernel) rfl⟩
theorem xyX6_chance : xY yX6_chance cX6_chance 8 (some .long) 4 := ⟨lw_mem (i := 1245) (by decide +kernel) rfl, lw_mem (i := 102) (by decide +kernel) rfl, by decide, by decide, by decide +kernel⟩
theorem xiX6_chance : Cond.instanceMethod yX6_chance ∈ lw_gt ∧ Cond.selects yX6_chance.cls yX6_chance yX6_chance ∈ lw_gt := ⟨lw_mem (i := 1243) (by decide +kernel) rfl, lw_mem (i := 1244) (by decide +kernel) rfl⟩
theorem xyX6_image : xY yX6_image cX6_image 2 (some .int) 0 := ⟨lw_mem (i := 1249) (by decide +kernel) rfl, lw_mem (i := 102) (by decide +kernel) rfl, by decide, by decide, by decide +kernel⟩
theorem xiX6_image : Cond.instanceMethod yX6_image ∈ lw_gt ∧ Cond.selects yX6_image.cls yX6_image yX6_image ∈ lw_gt := ⟨lw_mem (i := 1247) (by decide +kernel) rfl, lw_mem (i := 1248) (by decide +kernel) rfl⟩
theorem xyX6_back : xY yX6_back cX6_back 2 (some .int) 0 := ⟨lw_mem (i := 1253) (by decide +kernel) rfl, lw_mem (i := 102) (by decide +kernel) rfl, by decide, by decide, by decide +kernel⟩
theorem xiX6_back : Cond.instanceMethod yX6_back ∈ lw_gt ∧ Cond.selects yX6_back.cls yX6_back yX6_back ∈ lw_gt := ⟨lw_mem (i := 1251) (by decide +kernel) rfl, lw_mem (i := 1252) (by decide +kernel) rfl⟩
theorem xyX6_count : xY yX6_count cX6_count 2 (some .int) 1 := ⟨lw_mem (i := 1257) (by decide +kernel) rfl, lw_mem (i := 102) (by decide +kernel) rfl, by decide, by decide, by decide +kernel⟩
theorem xiX6_count : Cond.instanceMethod yX6_count ∈ lw_gt ∧ Cond.selects yX6_count.cls yX6_count yX6_count ∈ lw_gt := ⟨lw_mem (i := 1255) (by decide +kernel) rfl, lw_mem (i := 1256) (by decide +kernel) rfl⟩
theorem xyX6_isSheet : xY yX6_isSheet cX6_isSheet 1 (some .boolean) 1 := ⟨lw_mem (i := 1214) (by decide +kernel) rfl, lw_mem (i := 102) (by decide +kernel) rfl, by decide, by decide, by decide +kernel⟩
theorem xiX6_isSheet : Cond.static yX6_isSheet ∈ lw_gt := lw_mem (i := 1213) (by decide +kernel) rfl
theorem xyX6_sheet : xY yX6_sheet cX6_sheet 5 (some .int) 3 := ⟨lw_mem (i := 1231) (by decide +kernel) rfl, lw_mem (i := 102) (by decide +kernel) rfl, by decide, by decide, by decide +kernel⟩
theorem xiX6_sheet : Cond.instanceMethod yX6_sheet ∈ lw_gt ∧ Cond.selects yX6_sheet.cls yX6_sheet yX6_sheet ∈ lw_gt := ⟨lw_mem (i := 1229) (by decide +kernel) rfl, lw_mem (i := 1230) (by decide +kernel) rfl⟩
theorem xyX6_cell : xY yX6_cell cX6_cell 4 (some .int) 3 := ⟨lw_mem (i := 1262) (by decide +kernel) rfl, lw_mem (i := 102) (by decide +kernel) rfl, by decide, by decide, by decide +kernel⟩
theorem xiX6_cell : Cond.instanceMethod yX6_cell ∈ lw_gt ∧ Cond.selects yX6_cell.cls yX6_cell yX6_cell ∈ lw_gt := ⟨lw_mem (i := 1260) (by decide +kernel) rfl, lw_mem (i := 1261) (by decide +kernel) rfl⟩
theorem xyX6_copy : xY yX6_copy cX6_copy 9 (some .int) 5 := ⟨lw_mem (i := 1266) (by decide +kernel) rfl, lw_mem (i := 102) (by decide +kernel) rfl, by decide, by decide, by decide +kernel⟩
theorem xiX6_copy : Cond.instanceMethod yX6_copy ∈ lw_gt ∧ Cond.selects yX6_copy.cls yX6_copy yX6_copy ∈ lw_gt := ⟨lw_mem (i := 1264) (by decide +kernel) rfl, lw_mem (i := 1265) (by decide +kernel) rfl⟩
theorem xyX6_republic : xY yX6_republic cX6_republic 8 (some .int) 4 := ⟨lw_mem (i := 1270) (by decide +kernel) rfl, lw_mem (i := 102) (by decide +kernel) rfl, by decide, by decide, by decide +kernel⟩
theorem xiX6_republic : Cond.instanceMethod yX6_republic ∈ lw_gt ∧ Cond.selects yX6_republic.cls yX6_republic yX6_republic ∈ lw_gt := ⟨lw_mem (i := 1268) (by decide +kernel) rfl, lw_mem (i := 1269) (by decide +kernel) rfl⟩
theorem xyX6_over : xY yX6_over cX6_over 1 (some .int) 1 := ⟨lw_mem (i := 1279) (by decide +kernel) rfl, lw_mem (i := 102) (by decide +kernel) rfl, by decide, by decide, by decide +kernel⟩
theorem xiX6_over : Cond.static yX6_over ∈ lw_gt := lw_mem (i := 1278) (by decide +kernel) rfl
theorem xyX6_taken : xY yX6_taken cX6_taken 4 (some .int) 2 := ⟨lw_mem (i := 1276) (by decide +kernel) rfl, lw_mem (i := 102) (by decide +kernel) rfl, by decide, by decide, by decide +kernel⟩
theorem xiX6_taken : Cond.instanceMethod yX6_taken ∈ lw_gt ∧ Cond.selects yX6_taken.cls yX6_taken yX6_taken ∈ lw_gt := ⟨lw_mem (i := 1274) (by decide +kernel) rfl, lw_mem (i := 1275) (by decide +kernel) rfl⟩
theorem xyJ6_bitCount_0f7a4 : xY yJ6_bitCount_0f7a4 cJ6_bitCount_0f7a4 1 (some .int) 1 := ⟨lw_mem (i := 373) (by decide +kernel) rfl, lw_mem (i := 103) (by decide +kernel) rfl, by decide, by decide, by decide +kernel⟩
theorem xiJ6_bitCount_0f7a4 : Cond.static yJ6_bitCount_0f7a4 ∈ lw_gt := lw_mem (i := 372) (by decide +kernel) rfl
theorem xyJ9_max_7cf53 : xY yJ9_max_7cf53 cJ9_max_7cf53 2 (some .int) 2 := ⟨lw_mem (i := 387) (by decide +kernel) rfl, lw_mem (i := 104) (by decide +kernel) rfl, by decide, by decide, by decide +kernel⟩
theorem xiJ9_max_7cf53 : Cond.static yJ9_max_7cf53 ∈ lw_gt := lw_mem (i := 386) (by decide +kernel) rfl
theorem xyJ9_min_7cf53 : xY yJ9_min_7cf53 cJ9_min_7cf53 2 (some .int) 2 := ⟨lw_mem (i := 384) (by decide +kernel) rfl, lw_mem (i := 104) (by decide +kernel) rfl, by decide, by decide, by decide +kernel⟩
theorem xiJ9_min_7cf53 : Cond.static yJ9_min_7cf53 ∈ lw_gt := lw_mem (i := 383) (by decide +kernel) rfl
theorem xyJ0_length_8abf5 : xY yJ0_length_8abf5 cJ0_length_8abf5 1 (some .int) 0 := ⟨lw_mem (i := 468) (by decide +kernel) rfl, lw_mem (i := 105) (by decide +kernel) rfl, by decide, by decide, by decide +kernel⟩
theorem xiJ0_length_8abf5 : Cond.instanceMethod yJ0_length_8abf5 ∈ lw_gt ∧ Cond.selects yJ0_length_8abf5.cls yJ0_length_8abf5 yJ0_length_8abf5 ∈ lw_gt := ⟨lw_mem (i := 466) (by decide +kernel) rfl, lw_mem (i := 467) (by decide +kernel) rfl⟩
theorem xyJ0_charAt_5068e : xY yJ0_charAt_5068e cJ0_charAt_5068e 2 (some .char) 1 := ⟨lw_mem (i := 478) (by decide +kernel) rfl, lw_mem (i := 105) (by decide +kernel) rfl, by decide, by decide, by decide +kernel⟩
theorem xiJ0_charAt_5068e : Cond.instanceMethod yJ0_charAt_5068e ∈ lw_gt ∧ Cond.selects yJ0_charAt_5068e.cls yJ0_charAt_5068e yJ0_charAt_5068e ∈ lw_gt := ⟨lw_mem (i := 476) (by decide +kernel) rfl, lw_mem (i := 477) (by decide +kernel) rfl⟩
theorem xyJ0_coder_7d493 : xY yJ0_coder_7d493 cJ0_coder_7d493 1 (some .byte) 0 := ⟨lw_mem (i := 472) (by decide +kernel) rfl, lw_mem (i := 105) (by decide +kernel) rfl, by decide, by decide, by decide +kernel⟩
theorem xiJ0_coder_7d493 : Cond.instanceMethod yJ0_coder_7d493 ∈ lw_gt ∧ Cond.selects yJ0_coder_7d493.cls yJ0_coder_7d493 yJ0_coder_7d493 ∈ lw_gt := ⟨lw_mem (i := 470) (by decide +kernel) rfl, lw_mem (i := 471) (by decide +kernel) rfl⟩
theorem xyJ0_isLatin1_aae02 : xY yJ0_isLatin1_aae02 cJ0_isLatin1_aae02 1 (some .boolean) 0 := ⟨lw_mem (i := 482) (by decide +kernel) rfl, lw_mem (i := 105) (by decide +kernel) rfl, by decide, by decide, by decide +kernel⟩
theorem xiJ0_isLatin1_aae02 : Cond.instanceMethod yJ0_isLatin1_aae02 ∈ lw_gt ∧ Cond.selects yJ0_isLatin1_aae02.cls yJ0_isLatin1_aae02 yJ0_isLatin1_aae02 ∈ lw_gt := ⟨lw_mem (i := 480) (by decide +kernel) rfl, lw_mem (i := 481) (by decide +kernel) rfl⟩
theorem xyJ0_checkIndex_df160 : xY yJ0_checkIndex_df160 cJ0_checkIndex_df160 2 none 2 := ⟨lw_mem (i := 488) (by decide +kernel) rfl, lw_mem (i := 105) (by decide +kernel) rfl, by decide, by decide, by decide +kernel⟩
theorem xiJ0_checkIndex_df160 : Cond.static yJ0_checkIndex_df160 ∈ lw_gt := lw_mem (i := 487) (by decide +kernel) rfl
theorem xyJ1_charAt_3b067 : xY yJ1_charAt_3b067 cJ1_charAt_3b067 2 (some .char) 2 := ⟨lw_mem (i := 485) (by decide +kernel) rfl, lw_mem (i := 106) (by decide +kernel) rfl, by decide, by decide, by decide +kernel⟩
theorem xiJ1_charAt_3b067 : Cond.static yJ1_charAt_3b067 ∈ lw_gt := lw_mem (i := 484) (by decide +kernel) rfl
theorem xyJ2_getChar_3b067 : xY yJ2_getChar_3b067 cJ2_getChar_3b067 2 (some .char) 2 := ⟨lw_mem (i := 506) (by decide +kernel) rfl, lw_mem (i := 108) (by decide +kernel) rfl, by decide, by decide, by decide +kernel⟩
theorem xiJ2_getChar_3b067 : Cond.static yJ2_getChar_3b067 ∈ lw_gt := lw_mem (i := 505) (by decide +kernel) rfl
theorem xyJ2_length_9d52b : xY yJ2_length_9d52b cJ2_length_9d52b 1 (some .int) 1 := ⟨lw_mem (i := 502) (by decide +kernel) rfl, lw_mem (i := 108) (by decide +kernel) rfl, by decide, by decide, by decide +kernel⟩
theorem xiJ2_length_9d52b : Cond.static yJ2_length_9d52b ∈ lw_gt := lw_mem (i := 501) (by decide +kernel) rfl
theorem xyJ2_charAt_3b067 : xY yJ2_charAt_3b067 cJ2_charAt_3b067 2 (some .char) 2 := ⟨lw_mem (i := 496) (by decide +kernel) rfl, lw_mem (i := 108) (by decide +kernel) rfl, by decide, by decide, by decide +kernel⟩
theorem xiJ2_charAt_3b067 : Cond.static yJ2_charAt_3b067 ∈ lw_gt := lw_mem (i := 495) (by decide +kernel) rfl
theorem xyJ2_checkIndex_2214a : xY yJ2_checkIndex_2214a cJ2_checkIndex_2214a 2 none 2 := ⟨lw_mem (i := 499) (by decide +kernel) rfl, lw_mem (i := 108) (by decide +kernel) rfl, by decide, by decide, by decide +kernel⟩
theorem xiJ2_checkIndex_2214a : Cond.static yJ2_checkIndex_2214a ∈ lw_gt := lw_mem (i := 498) (by decide +kernel) rfl
theorem xyJ3_checkIndex_8e157 : xY yJ3_checkIndex_8e157 cJ3_checkIndex_8e157 3 (some .int) 3 := ⟨lw_mem (i := 493) (by decide +kernel) rfl, lw_mem (i := 107) (by decide +kernel) rfl, by decide, by decide, by decide +kernel⟩
theorem xiJ3_checkIndex_8e157 : Cond.static yJ3_checkIndex_8e157 ∈ lw_gt := lw_mem (i := 492) (by decide +kernel) rfl
