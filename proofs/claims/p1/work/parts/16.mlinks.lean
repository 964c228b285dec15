/-! ===== the methods as their callers know them, and the calls' links, printed by program ===== -/
theorem mo_X0_init : MOi m_X0_init 0 := ⟨⟨rfl, (inT1 (i := 307) (by decide +kernel) rfl), (inT1 (i := 10) (by decide +kernel) rfl), ⟨by decide, by decide, by decide +kernel⟩, by decide⟩, (inT1 (i := 306) (by decide +kernel) rfl), rfl, rfl⟩
theorem mo_X0_mostCalled : MOv m_X0_mostCalled 1 := ⟨⟨rfl, (inT1 (i := 491) (by decide +kernel) rfl), (inT1 (i := 10) (by decide +kernel) rfl), ⟨by decide, by decide, by decide +kernel⟩, by decide⟩, (inT1 (i := 489) (by decide +kernel) rfl), (inT1 (i := 490) (by decide +kernel) rfl)⟩
theorem mo_X0_canBeCalledTogether : MOv m_X0_canBeCalledTogether 2 := ⟨⟨rfl, (inT1 (i := 499) (by decide +kernel) rfl), (inT1 (i := 10) (by decide +kernel) rfl), ⟨by decide, by decide, by decide +kernel⟩, by decide⟩, (inT1 (i := 498) (by decide +kernel) rfl), inT2 (i := 5) (by decide +kernel) rfl⟩
theorem mo_X0_leastShame : MOv m_X0_leastShame 3 := ⟨⟨rfl, (inT1 (i := 1248) (by decide +kernel) rfl), (inT1 (i := 10) (by decide +kernel) rfl), ⟨by decide, by decide, by decide +kernel⟩, by decide⟩, (inT1 (i := 1246) (by decide +kernel) rfl), (inT1 (i := 1247) (by decide +kernel) rfl)⟩
theorem mo_X0_leansWithin : MOs m_X0_leansWithin 2 := ⟨⟨rfl, (inT1 (i := 1254) (by decide +kernel) rfl), (inT1 (i := 10) (by decide +kernel) rfl), ⟨by decide, by decide, by decide +kernel⟩, by decide⟩, (inT1 (i := 1253) (by decide +kernel) rfl)⟩
theorem mo_X0_firstSwap : MOs m_X0_firstSwap 3 := ⟨⟨rfl, (inT1 (i := 1346) (by decide +kernel) rfl), (inT1 (i := 10) (by decide +kernel) rfl), ⟨by decide, by decide, by decide +kernel⟩, by decide⟩, (inT1 (i := 1345) (by decide +kernel) rfl)⟩
theorem mo_X0_gainOf : MOs m_X0_gainOf 3 := ⟨⟨rfl, (inT1 (i := 1350) (by decide +kernel) rfl), (inT1 (i := 10) (by decide +kernel) rfl), ⟨by decide, by decide, by decide +kernel⟩, by decide⟩, (inT1 (i := 1349) (by decide +kernel) rfl)⟩
theorem mo_X0_restingChoices : MOs m_X0_restingChoices 2 := ⟨⟨rfl, (inT1 (i := 1362) (by decide +kernel) rfl), (inT1 (i := 10) (by decide +kernel) rfl), ⟨by decide, by decide, by decide +kernel⟩, by decide⟩, (inT1 (i := 1361) (by decide +kernel) rfl)⟩
theorem mo_X0_isBest : MOs m_X0_isBest 4 := ⟨⟨rfl, (inT1 (i := 1365) (by decide +kernel) rfl), (inT1 (i := 10) (by decide +kernel) rfl), ⟨by decide, by decide, by decide +kernel⟩, by decide⟩, (inT1 (i := 1364) (by decide +kernel) rfl)⟩
theorem mo_X0_payOf : MOs m_X0_payOf 4 := ⟨⟨rfl, (inT1 (i := 1368) (by decide +kernel) rfl), (inT1 (i := 10) (by decide +kernel) rfl), ⟨by decide, by decide, by decide +kernel⟩, by decide⟩, (inT1 (i := 1367) (by decide +kernel) rfl)⟩
theorem mo_X0_oddsOf : MOs m_X0_oddsOf 3 := ⟨⟨rfl, (inT1 (i := 1378) (by decide +kernel) rfl), (inT1 (i := 10) (by decide +kernel) rfl), ⟨by decide, by decide, by decide +kernel⟩, by decide⟩, (inT1 (i := 1377) (by decide +kernel) rfl)⟩
theorem mo_X0_power : MOs m_X0_power 2 := ⟨⟨rfl, (inT1 (i := 1381) (by decide +kernel) rfl), (inT1 (i := 10) (by decide +kernel) rfl), ⟨by decide, by decide, by decide +kernel⟩, by decide⟩, (inT1 (i := 1380) (by decide +kernel) rfl)⟩
theorem mo_X0_daysToLeaveFree : MOs m_X0_daysToLeaveFree 3 := ⟨⟨rfl, (inT1 (i := 1392) (by decide +kernel) rfl), (inT1 (i := 10) (by decide +kernel) rfl), ⟨by decide, by decide, by decide +kernel⟩, by decide⟩, (inT1 (i := 1391) (by decide +kernel) rfl)⟩
theorem mo_X1_init : MOi m_X1_init 0 := ⟨⟨rfl, (inT1 (i := 118) (by decide +kernel) rfl), (inT1 (i := 7) (by decide +kernel) rfl), ⟨by decide, by decide, by decide +kernel⟩, by decide⟩, (inT1 (i := 117) (by decide +kernel) rfl), rfl, rfl⟩
theorem mo_X1_copyFrom : MOv m_X1_copyFrom 1 := ⟨⟨rfl, (inT1 (i := 665) (by decide +kernel) rfl), (inT1 (i := 7) (by decide +kernel) rfl), ⟨by decide, by decide, by decide +kernel⟩, by decide⟩, (inT1 (i := 663) (by decide +kernel) rfl), (inT1 (i := 664) (by decide +kernel) rfl)⟩
theorem mo_X1_add : MOv m_X1_add 4 := ⟨⟨rfl, (inT1 (i := 1206) (by decide +kernel) rfl), (inT1 (i := 7) (by decide +kernel) rfl), ⟨by decide, by decide, by decide +kernel⟩, by decide⟩, (inT1 (i := 1204) (by decide +kernel) rfl), (inT1 (i := 1205) (by decide +kernel) rfl)⟩
theorem mo_X1_valueOf : MOv m_X1_valueOf 2 := ⟨⟨rfl, (inT1 (i := 1451) (by decide +kernel) rfl), (inT1 (i := 7) (by decide +kernel) rfl), ⟨by decide, by decide, by decide +kernel⟩, by decide⟩, (inT1 (i := 1449) (by decide +kernel) rfl), (inT1 (i := 1450) (by decide +kernel) rfl)⟩
theorem mo_X1_rowsOf : MOv m_X1_rowsOf 1 := ⟨⟨rfl, (inT1 (i := 1456) (by decide +kernel) rfl), (inT1 (i := 7) (by decide +kernel) rfl), ⟨by decide, by decide, by decide +kernel⟩, by decide⟩, (inT1 (i := 1454) (by decide +kernel) rfl), (inT1 (i := 1455) (by decide +kernel) rfl)⟩
theorem mo_X1_latestMonthOf : MOv m_X1_latestMonthOf 1 := ⟨⟨rfl, (inT1 (i := 1447) (by decide +kernel) rfl), (inT1 (i := 7) (by decide +kernel) rfl), ⟨by decide, by decide, by decide +kernel⟩, by decide⟩, (inT1 (i := 1445) (by decide +kernel) rfl), (inT1 (i := 1446) (by decide +kernel) rfl)⟩
theorem mo_X2_init : MOi m_X2_init 0 := ⟨⟨rfl, (inT1 (i := 252) (by decide +kernel) rfl), (inT1 (i := 9) (by decide +kernel) rfl), ⟨by decide, by decide, by decide +kernel⟩, by decide⟩, (inT1 (i := 251) (by decide +kernel) rfl), rfl, rfl⟩
theorem mo_X2_copyFrom : MOv m_X2_copyFrom 1 := ⟨⟨rfl, (inT1 (i := 674) (by decide +kernel) rfl), (inT1 (i := 9) (by decide +kernel) rfl), ⟨by decide, by decide, by decide +kernel⟩, by decide⟩, (inT1 (i := 672) (by decide +kernel) rfl), (inT1 (i := 673) (by decide +kernel) rfl)⟩
theorem mo_X2_clear : MOv m_X2_clear 0 := ⟨⟨rfl, (inT1 (i := 1040) (by decide +kernel) rfl), (inT1 (i := 9) (by decide +kernel) rfl), ⟨by decide, by decide, by decide +kernel⟩, by decide⟩, (inT1 (i := 1038) (by decide +kernel) rfl), (inT1 (i := 1039) (by decide +kernel) rfl)⟩
theorem mo_X2_openLine : MOv m_X2_openLine 2 := ⟨⟨rfl, (inT1 (i := 814) (by decide +kernel) rfl), (inT1 (i := 9) (by decide +kernel) rfl), ⟨by decide, by decide, by decide +kernel⟩, by decide⟩, (inT1 (i := 812) (by decide +kernel) rfl), (inT1 (i := 813) (by decide +kernel) rfl)⟩
theorem mo_X2_emit : MOv m_X2_emit 1 := ⟨⟨rfl, (inT1 (i := 846) (by decide +kernel) rfl), (inT1 (i := 9) (by decide +kernel) rfl), ⟨by decide, by decide, by decide +kernel⟩, by decide⟩, (inT1 (i := 844) (by decide +kernel) rfl), (inT1 (i := 845) (by decide +kernel) rfl)⟩
theorem mo_X2_closeLine : MOv m_X2_closeLine 0 := ⟨⟨rfl, (inT1 (i := 882) (by decide +kernel) rfl), (inT1 (i := 9) (by decide +kernel) rfl), ⟨by decide, by decide, by decide +kernel⟩, by decide⟩, (inT1 (i := 880) (by decide +kernel) rfl), (inT1 (i := 881) (by decide +kernel) rfl)⟩
theorem mo_X2_growthOf : MOv m_X2_growthOf 2 := ⟨⟨rfl, (inT1 (i := 630) (by decide +kernel) rfl), (inT1 (i := 9) (by decide +kernel) rfl), ⟨by decide, by decide, by decide +kernel⟩, by decide⟩, (inT1 (i := 628) (by decide +kernel) rfl), (inT1 (i := 629) (by decide +kernel) rfl)⟩
theorem mo_X2_shameOf : MOv m_X2_shameOf 2 := ⟨⟨rfl, (inT1 (i := 421) (by decide +kernel) rfl), (inT1 (i := 9) (by decide +kernel) rfl), ⟨by decide, by decide, by decide +kernel⟩, by decide⟩, (inT1 (i := 419) (by decide +kernel) rfl), (inT1 (i := 420) (by decide +kernel) rfl)⟩
theorem mo_X2_shameOfSet : MOv m_X2_shameOfSet 2 := ⟨⟨rfl, (inT1 (i := 413) (by decide +kernel) rfl), (inT1 (i := 9) (by decide +kernel) rfl), ⟨by decide, by decide, by decide +kernel⟩, by decide⟩, (inT1 (i := 411) (by decide +kernel) rfl), (inT1 (i := 412) (by decide +kernel) rfl)⟩
theorem mo_X2_takeParts : MOv m_X2_takeParts 2 := ⟨⟨rfl, (inT1 (i := 425) (by decide +kernel) rfl), (inT1 (i := 9) (by decide +kernel) rfl), ⟨by decide, by decide, by decide +kernel⟩, by decide⟩, (inT1 (i := 424) (by decide +kernel) rfl), inT2 (i := 1) (by decide +kernel) rfl⟩
theorem mo_X2_setPart : MOv m_X2_setPart 2 := ⟨⟨rfl, (inT1 (i := 430) (by decide +kernel) rfl), (inT1 (i := 9) (by decide +kernel) rfl), ⟨by decide, by decide, by decide +kernel⟩, by decide⟩, (inT1 (i := 429) (by decide +kernel) rfl), inT2 (i := 2) (by decide +kernel) rfl⟩
theorem mo_X2_sumOfLines : MOv m_X2_sumOfLines 1 := ⟨⟨rfl, (inT1 (i := 438) (by decide +kernel) rfl), (inT1 (i := 9) (by decide +kernel) rfl), ⟨by decide, by decide, by decide +kernel⟩, by decide⟩, (inT1 (i := 437) (by decide +kernel) rfl), inT2 (i := 3) (by decide +kernel) rfl⟩
theorem mo_X2_holds : MOv m_X2_holds 1 := ⟨⟨rfl, (inT1 (i := 442) (by decide +kernel) rfl), (inT1 (i := 9) (by decide +kernel) rfl), ⟨by decide, by decide, by decide +kernel⟩, by decide⟩, (inT1 (i := 441) (by decide +kernel) rfl), inT2 (i := 4) (by decide +kernel) rfl⟩
theorem mo_X2_joined : MOs m_X2_joined 3 := ⟨⟨rfl, (inT1 (i := 445) (by decide +kernel) rfl), (inT1 (i := 9) (by decide +kernel) rfl), ⟨by decide, by decide, by decide +kernel⟩, by decide⟩, (inT1 (i := 444) (by decide +kernel) rfl)⟩
theorem mo_X3_init : MOi m_X3_init 0 := ⟨⟨rfl, (inT1 (i := 246) (by decide +kernel) rfl), (inT1 (i := 8) (by decide +kernel) rfl), ⟨by decide, by decide, by decide +kernel⟩, by decide⟩, (inT1 (i := 245) (by decide +kernel) rfl), rfl, rfl⟩
theorem mo_X3_readLine : MO m_X3_readLine 0 := ⟨rfl, (inT1 (i := 792) (by decide +kernel) rfl), (inT1 (i := 8) (by decide +kernel) rfl), ⟨by decide, by decide, by decide +kernel⟩, by decide⟩
theorem mo_X3_takeKind : MOv m_X3_takeKind 0 := ⟨⟨rfl, (inT1 (i := 796) (by decide +kernel) rfl), (inT1 (i := 8) (by decide +kernel) rfl), ⟨by decide, by decide, by decide +kernel⟩, by decide⟩, (inT1 (i := 795) (by decide +kernel) rfl), inT2 (i := 16) (by decide +kernel) rfl⟩
theorem mo_X3_readCondition : MOv m_X3_readCondition 0 := ⟨⟨rfl, (inT1 (i := 820) (by decide +kernel) rfl), (inT1 (i := 8) (by decide +kernel) rfl), ⟨by decide, by decide, by decide +kernel⟩, by decide⟩, (inT1 (i := 819) (by decide +kernel) rfl), inT2 (i := 17) (by decide +kernel) rfl⟩
theorem mo_X3_joinAtHand : MOv m_X3_joinAtHand 0 := ⟨⟨rfl, (inT1 (i := 874) (by decide +kernel) rfl), (inT1 (i := 8) (by decide +kernel) rfl), ⟨by decide, by decide, by decide +kernel⟩, by decide⟩, (inT1 (i := 873) (by decide +kernel) rfl), inT2 (i := 25) (by decide +kernel) rfl⟩
theorem mo_X3_openDeeper : MOv m_X3_openDeeper 0 := ⟨⟨rfl, (inT1 (i := 824) (by decide +kernel) rfl), (inT1 (i := 8) (by decide +kernel) rfl), ⟨by decide, by decide, by decide +kernel⟩, by decide⟩, (inT1 (i := 823) (by decide +kernel) rfl), inT2 (i := 18) (by decide +kernel) rfl⟩
theorem mo_X3_closeDeeper : MOv m_X3_closeDeeper 0 := ⟨⟨rfl, (inT1 (i := 865) (by decide +kernel) rfl), (inT1 (i := 8) (by decide +kernel) rfl), ⟨by decide, by decide, by decide +kernel⟩, by decide⟩, (inT1 (i := 864) (by decide +kernel) rfl), inT2 (i := 23) (by decide +kernel) rfl⟩
theorem mo_X3_hold : MOv m_X3_hold 1 := ⟨⟨rfl, (inT1 (i := 834) (by decide +kernel) rfl), (inT1 (i := 8) (by decide +kernel) rfl), ⟨by decide, by decide, by decide +kernel⟩, by decide⟩, (inT1 (i := 833) (by decide +kernel) rfl), inT2 (i := 19) (by decide +kernel) rfl⟩
theorem mo_X3_emitHeld : MOv m_X3_emitHeld 1 := ⟨⟨rfl, (inT1 (i := 869) (by decide +kernel) rfl), (inT1 (i := 8) (by decide +kernel) rfl), ⟨by decide, by decide, by decide +kernel⟩, by decide⟩, (inT1 (i := 868) (by decide +kernel) rfl), inT2 (i := 24) (by decide +kernel) rfl⟩
theorem mo_X3_readAtom : MOv m_X3_readAtom 0 := ⟨⟨rfl, (inT1 (i := 840) (by decide +kernel) rfl), (inT1 (i := 8) (by decide +kernel) rfl), ⟨by decide, by decide, by decide +kernel⟩, by decide⟩, (inT1 (i := 839) (by decide +kernel) rfl), inT2 (i := 20) (by decide +kernel) rfl⟩
theorem mo_X3_readSum : MOv m_X3_readSum 0 := ⟨⟨rfl, (inT1 (i := 852) (by decide +kernel) rfl), (inT1 (i := 8) (by decide +kernel) rfl), ⟨by decide, by decide, by decide +kernel⟩, by decide⟩, (inT1 (i := 851) (by decide +kernel) rfl), inT2 (i := 21) (by decide +kernel) rfl⟩
theorem mo_X3_partAtHand : MOv m_X3_partAtHand 0 := ⟨⟨rfl, (inT1 (i := 856) (by decide +kernel) rfl), (inT1 (i := 8) (by decide +kernel) rfl), ⟨by decide, by decide, by decide +kernel⟩, by decide⟩, (inT1 (i := 855) (by decide +kernel) rfl), inT2 (i := 22) (by decide +kernel) rfl⟩
theorem mo_X4_chainOf : MOs m_X4_chainOf 2 := ⟨⟨rfl, (inT1 (i := 514) (by decide +kernel) rfl), (inT1 (i := 29) (by decide +kernel) rfl), ⟨by decide, by decide, by decide +kernel⟩, by decide⟩, (inT1 (i := 513) (by decide +kernel) rfl)⟩
theorem mo_X4_leaningOn : MOs m_X4_leaningOn 2 := ⟨⟨rfl, (inT1 (i := 1280) (by decide +kernel) rfl), (inT1 (i := 29) (by decide +kernel) rfl), ⟨by decide, by decide, by decide +kernel⟩, by decide⟩, (inT1 (i := 1279) (by decide +kernel) rfl)⟩
theorem mo_X4_ringBits : MOs m_X4_ringBits 1 := ⟨⟨rfl, (inT1 (i := 521) (by decide +kernel) rfl), (inT1 (i := 29) (by decide +kernel) rfl), ⟨by decide, by decide, by decide +kernel⟩, by decide⟩, (inT1 (i := 520) (by decide +kernel) rfl)⟩
theorem mo_X4_hoursTill : MOs m_X4_hoursTill 2 := ⟨⟨rfl, (inT1 (i := 509) (by decide +kernel) rfl), (inT1 (i := 29) (by decide +kernel) rfl), ⟨by decide, by decide, by decide +kernel⟩, by decide⟩, (inT1 (i := 508) (by decide +kernel) rfl)⟩
theorem mo_X4_hoursTillYoung : MOs m_X4_hoursTillYoung 2 := ⟨⟨rfl, (inT1 (i := 1297) (by decide +kernel) rfl), (inT1 (i := 29) (by decide +kernel) rfl), ⟨by decide, by decide, by decide +kernel⟩, by decide⟩, (inT1 (i := 1296) (by decide +kernel) rfl)⟩
theorem mo_X4_hoursOf : MOs m_X4_hoursOf 2 := ⟨⟨rfl, (inT1 (i := 518) (by decide +kernel) rfl), (inT1 (i := 29) (by decide +kernel) rfl), ⟨by decide, by decide, by decide +kernel⟩, by decide⟩, (inT1 (i := 517) (by decide +kernel) rfl)⟩
theorem mo_X5_init : MOi m_X5_init 0 := ⟨⟨rfl, (inT1 (i := 112) (by decide +kernel) rfl), (inT1 (i := 6) (by decide +kernel) rfl), ⟨by decide, by decide, by decide +kernel⟩, by decide⟩, (inT1 (i := 111) (by decide +kernel) rfl), rfl, rfl⟩
theorem mo_X5_copyFrom : MOv m_X5_copyFrom 1 := ⟨⟨rfl, (inT1 (i := 589) (by decide +kernel) rfl), (inT1 (i := 6) (by decide +kernel) rfl), ⟨by decide, by decide, by decide +kernel⟩, by decide⟩, (inT1 (i := 587) (by decide +kernel) rfl), (inT1 (i := 588) (by decide +kernel) rfl)⟩
theorem mo_X5_copyAll : MOv m_X5_copyAll 1 := ⟨⟨rfl, (inT1 (i := 660) (by decide +kernel) rfl), (inT1 (i := 6) (by decide +kernel) rfl), ⟨by decide, by decide, by decide +kernel⟩, by decide⟩, (inT1 (i := 658) (by decide +kernel) rfl), (inT1 (i := 659) (by decide +kernel) rfl)⟩
theorem mo_X5_addPerson : MOv m_X5_addPerson 2 := ⟨⟨rfl, (inT1 (i := 906) (by decide +kernel) rfl), (inT1 (i := 6) (by decide +kernel) rfl), ⟨by decide, by decide, by decide +kernel⟩, by decide⟩, (inT1 (i := 904) (by decide +kernel) rfl), (inT1 (i := 905) (by decide +kernel) rfl)⟩
theorem mo_X5_addDuty : MOv m_X5_addDuty 5 := ⟨⟨rfl, (inT1 (i := 926) (by decide +kernel) rfl), (inT1 (i := 6) (by decide +kernel) rfl), ⟨by decide, by decide, by decide +kernel⟩, by decide⟩, (inT1 (i := 924) (by decide +kernel) rfl), (inT1 (i := 925) (by decide +kernel) rfl)⟩
theorem mo_X5_isWaiting : MOv m_X5_isWaiting 1 := ⟨⟨rfl, (inT1 (i := 401) (by decide +kernel) rfl), (inT1 (i := 6) (by decide +kernel) rfl), ⟨by decide, by decide, by decide +kernel⟩, by decide⟩, (inT1 (i := 399) (by decide +kernel) rfl), (inT1 (i := 400) (by decide +kernel) rfl)⟩
theorem mo_X5_leansFreely : MOv m_X5_leansFreely 1 := ⟨⟨rfl, (inT1 (i := 405) (by decide +kernel) rfl), (inT1 (i := 6) (by decide +kernel) rfl), ⟨by decide, by decide, by decide +kernel⟩, by decide⟩, (inT1 (i := 403) (by decide +kernel) rfl), (inT1 (i := 404) (by decide +kernel) rfl)⟩
theorem mo_X5_isReady : MOv m_X5_isReady 1 := ⟨⟨rfl, (inT1 (i := 397) (by decide +kernel) rfl), (inT1 (i := 6) (by decide +kernel) rfl), ⟨by decide, by decide, by decide +kernel⟩, by decide⟩, (inT1 (i := 395) (by decide +kernel) rfl), (inT1 (i := 396) (by decide +kernel) rfl)⟩
theorem mo_X5_areAlike : MOv m_X5_areAlike 2 := ⟨⟨rfl, (inT1 (i := 581) (by decide +kernel) rfl), (inT1 (i := 6) (by decide +kernel) rfl), ⟨by decide, by decide, by decide +kernel⟩, by decide⟩, (inT1 (i := 579) (by decide +kernel) rfl), (inT1 (i := 580) (by decide +kernel) rfl)⟩
theorem mo_X5_bitsIn : MOv m_X5_bitsIn 1 := ⟨⟨rfl, (inT1 (i := 383) (by decide +kernel) rfl), (inT1 (i := 6) (by decide +kernel) rfl), ⟨by decide, by decide, by decide +kernel⟩, by decide⟩, (inT1 (i := 381) (by decide +kernel) rfl), (inT1 (i := 382) (by decide +kernel) rfl)⟩
theorem mo_X5_readyBits : MOv m_X5_readyBits 0 := ⟨⟨rfl, (inT1 (i := 393) (by decide +kernel) rfl), (inT1 (i := 6) (by decide +kernel) rfl), ⟨by decide, by decide, by decide +kernel⟩, by decide⟩, (inT1 (i := 391) (by decide +kernel) rfl), (inT1 (i := 392) (by decide +kernel) rfl)⟩
theorem mo_X5_olderThan : MOv m_X5_olderThan 1 := ⟨⟨rfl, (inT1 (i := 477) (by decide +kernel) rfl), (inT1 (i := 6) (by decide +kernel) rfl), ⟨by decide, by decide, by decide +kernel⟩, by decide⟩, (inT1 (i := 475) (by decide +kernel) rfl), (inT1 (i := 476) (by decide +kernel) rfl)⟩
theorem mo_X5_ownedBy : MOv m_X5_ownedBy 1 := ⟨⟨rfl, (inT1 (i := 567) (by decide +kernel) rfl), (inT1 (i := 6) (by decide +kernel) rfl), ⟨by decide, by decide, by decide +kernel⟩, by decide⟩, (inT1 (i := 565) (by decide +kernel) rfl), (inT1 (i := 566) (by decide +kernel) rfl)⟩
theorem mo_X5_loadOf : MOv m_X5_loadOf 1 := ⟨⟨rfl, (inT1 (i := 563) (by decide +kernel) rfl), (inT1 (i := 6) (by decide +kernel) rfl), ⟨by decide, by decide, by decide +kernel⟩, by decide⟩, (inT1 (i := 561) (by decide +kernel) rfl), (inT1 (i := 562) (by decide +kernel) rfl)⟩
theorem mo_X5_standingBetween : MOv m_X5_standingBetween 2 := ⟨⟨rfl, (inT1 (i := 1325) (by decide +kernel) rfl), (inT1 (i := 6) (by decide +kernel) rfl), ⟨by decide, by decide, by decide +kernel⟩, by decide⟩, (inT1 (i := 1323) (by decide +kernel) rfl), (inT1 (i := 1324) (by decide +kernel) rfl)⟩
theorem mo_X5_placeOf : MOv m_X5_placeOf 1 := ⟨⟨rfl, (inT1 (i := 460) (by decide +kernel) rfl), (inT1 (i := 6) (by decide +kernel) rfl), ⟨by decide, by decide, by decide +kernel⟩, by decide⟩, (inT1 (i := 458) (by decide +kernel) rfl), (inT1 (i := 459) (by decide +kernel) rfl)⟩
theorem mo_X5_dutyAt : MOv m_X5_dutyAt 1 := ⟨⟨rfl, (inT1 (i := 456) (by decide +kernel) rfl), (inT1 (i := 6) (by decide +kernel) rfl), ⟨by decide, by decide, by decide +kernel⟩, by decide⟩, (inT1 (i := 454) (by decide +kernel) rfl), (inT1 (i := 455) (by decide +kernel) rfl)⟩
theorem mo_X5_passesOf : MOv m_X5_passesOf 1 := ⟨⟨rfl, (inT1 (i := 472) (by decide +kernel) rfl), (inT1 (i := 6) (by decide +kernel) rfl), ⟨by decide, by decide, by decide +kernel⟩, by decide⟩, (inT1 (i := 470) (by decide +kernel) rfl), (inT1 (i := 471) (by decide +kernel) rfl)⟩
theorem mo_X5_canBits : MOv m_X5_canBits 0 := ⟨⟨rfl, (inT1 (i := 468) (by decide +kernel) rfl), (inT1 (i := 6) (by decide +kernel) rfl), ⟨by decide, by decide, by decide +kernel⟩, by decide⟩, (inT1 (i := 466) (by decide +kernel) rfl), (inT1 (i := 467) (by decide +kernel) rfl)⟩
theorem mo_X5_kerbAt : MOv m_X5_kerbAt 2 := ⟨⟨rfl, (inT1 (i := 1230) (by decide +kernel) rfl), (inT1 (i := 6) (by decide +kernel) rfl), ⟨by decide, by decide, by decide +kernel⟩, by decide⟩, (inT1 (i := 1228) (by decide +kernel) rfl), (inT1 (i := 1229) (by decide +kernel) rfl)⟩
theorem mo_X5_finish : MOv m_X5_finish 1 := ⟨⟨rfl, (inT1 (i := 622) (by decide +kernel) rfl), (inT1 (i := 6) (by decide +kernel) rfl), ⟨by decide, by decide, by decide +kernel⟩, by decide⟩, (inT1 (i := 620) (by decide +kernel) rfl), (inT1 (i := 621) (by decide +kernel) rfl)⟩
theorem mo_X5_growOlder : MOv m_X5_growOlder 1 := ⟨⟨rfl, (inT1 (i := 634) (by decide +kernel) rfl), (inT1 (i := 6) (by decide +kernel) rfl), ⟨by decide, by decide, by decide +kernel⟩, by decide⟩, (inT1 (i := 632) (by decide +kernel) rfl), (inT1 (i := 633) (by decide +kernel) rfl)⟩
theorem mo_X5_passDay : MOv m_X5_passDay 2 := ⟨⟨rfl, (inT1 (i := 606) (by decide +kernel) rfl), (inT1 (i := 6) (by decide +kernel) rfl), ⟨by decide, by decide, by decide +kernel⟩, by decide⟩, (inT1 (i := 604) (by decide +kernel) rfl), (inT1 (i := 605) (by decide +kernel) rfl)⟩
theorem mo_X5_daysTillDone : MOv m_X5_daysTillDone 2 := ⟨⟨rfl, (inT1 (i := 1404) (by decide +kernel) rfl), (inT1 (i := 6) (by decide +kernel) rfl), ⟨by decide, by decide, by decide +kernel⟩, by decide⟩, (inT1 (i := 1402) (by decide +kernel) rfl), (inT1 (i := 1403) (by decide +kernel) rfl)⟩
theorem mo_X5_daysTillNoneWaits : MOv m_X5_daysTillNoneWaits 1 := ⟨⟨rfl, (inT1 (i := 602) (by decide +kernel) rfl), (inT1 (i := 6) (by decide +kernel) rfl), ⟨by decide, by decide, by decide +kernel⟩, by decide⟩, (inT1 (i := 600) (by decide +kernel) rfl), (inT1 (i := 601) (by decide +kernel) rfl)⟩
theorem mo_X5_draw : MOv m_X5_draw 0 := ⟨⟨rfl, (inT1 (i := 610) (by decide +kernel) rfl), (inT1 (i := 6) (by decide +kernel) rfl), ⟨by decide, by decide, by decide +kernel⟩, by decide⟩, (inT1 (i := 609) (by decide +kernel) rfl), inT2 (i := 7) (by decide +kernel) rfl⟩
theorem mo_X5_work : MOv m_X5_work 2 := ⟨⟨rfl, (inT1 (i := 615) (by decide +kernel) rfl), (inT1 (i := 6) (by decide +kernel) rfl), ⟨by decide, by decide, by decide +kernel⟩, by decide⟩, (inT1 (i := 614) (by decide +kernel) rfl), inT2 (i := 8) (by decide +kernel) rfl⟩
theorem mo_X5_passMonth : MOv m_X5_passMonth 1 := ⟨⟨rfl, (inT1 (i := 626) (by decide +kernel) rfl), (inT1 (i := 6) (by decide +kernel) rfl), ⟨by decide, by decide, by decide +kernel⟩, by decide⟩, (inT1 (i := 625) (by decide +kernel) rfl), inT2 (i := 9) (by decide +kernel) rfl⟩
theorem mo_X6_init : MOi m_X6_init 0 := ⟨⟨rfl, (inT1 (i := 58) (by decide +kernel) rfl), (inT1 (i := 4) (by decide +kernel) rfl), ⟨by decide, by decide, by decide +kernel⟩, by decide⟩, (inT1 (i := 57) (by decide +kernel) rfl), rfl, rfl⟩
theorem mo_X6_readLine : MO m_X6_readLine 0 := ⟨rfl, (inT1 (i := 885) (by decide +kernel) rfl), (inT1 (i := 4) (by decide +kernel) rfl), ⟨by decide, by decide, by decide +kernel⟩, by decide⟩
theorem mo_X6_readPerson : MOv m_X6_readPerson 0 := ⟨⟨rfl, (inT1 (i := 891) (by decide +kernel) rfl), (inT1 (i := 4) (by decide +kernel) rfl), ⟨by decide, by decide, by decide +kernel⟩, by decide⟩, (inT1 (i := 890) (by decide +kernel) rfl), inT2 (i := 26) (by decide +kernel) rfl⟩
theorem mo_X6_readDuty : MOv m_X6_readDuty 0 := ⟨⟨rfl, (inT1 (i := 912) (by decide +kernel) rfl), (inT1 (i := 4) (by decide +kernel) rfl), ⟨by decide, by decide, by decide +kernel⟩, by decide⟩, (inT1 (i := 911) (by decide +kernel) rfl), inT2 (i := 28) (by decide +kernel) rfl⟩
theorem mo_X6_readForgotten : MOv m_X6_readForgotten 0 := ⟨⟨rfl, (inT1 (i := 932) (by decide +kernel) rfl), (inT1 (i := 4) (by decide +kernel) rfl), ⟨by decide, by decide, by decide +kernel⟩, by decide⟩, (inT1 (i := 931) (by decide +kernel) rfl), inT2 (i := 29) (by decide +kernel) rfl⟩
theorem mo_X6_readSetting : MOv m_X6_readSetting 0 := ⟨⟨rfl, (inT1 (i := 938) (by decide +kernel) rfl), (inT1 (i := 4) (by decide +kernel) rfl), ⟨by decide, by decide, by decide +kernel⟩, by decide⟩, (inT1 (i := 937) (by decide +kernel) rfl), inT2 (i := 30) (by decide +kernel) rfl⟩
theorem mo_X6_readNumberOf : MOv m_X6_readNumberOf 3 := ⟨⟨rfl, (inT1 (i := 898) (by decide +kernel) rfl), (inT1 (i := 4) (by decide +kernel) rfl), ⟨by decide, by decide, by decide +kernel⟩, by decide⟩, (inT1 (i := 897) (by decide +kernel) rfl), inT2 (i := 27) (by decide +kernel) rfl⟩
theorem mo_X7_init : MOi m_X7_init 0 := ⟨⟨rfl, (inT1 (i := 42) (by decide +kernel) rfl), (inT1 (i := 2) (by decide +kernel) rfl), ⟨by decide, by decide, by decide +kernel⟩, by decide⟩, (inT1 (i := 41) (by decide +kernel) rfl), rfl, rfl⟩
theorem mo_X7_append : MOv m_X7_append 1 := ⟨⟨rfl, (inT1 (i := 367) (by decide +kernel) rfl), (inT1 (i := 2) (by decide +kernel) rfl), ⟨by decide, by decide, by decide +kernel⟩, by decide⟩, (inT1 (i := 365) (by decide +kernel) rfl), (inT1 (i := 366) (by decide +kernel) rfl)⟩
theorem mo_X7_byteAt : MOv m_X7_byteAt 1 := ⟨⟨rfl, (inT1 (i := 702) (by decide +kernel) rfl), (inT1 (i := 2) (by decide +kernel) rfl), ⟨by decide, by decide, by decide +kernel⟩, by decide⟩, (inT1 (i := 700) (by decide +kernel) rfl), (inT1 (i := 701) (by decide +kernel) rfl)⟩
theorem mo_X8_init : MOi m_X8_init 1 := ⟨⟨rfl, (inT1 (i := 61) (by decide +kernel) rfl), (inT1 (i := 3) (by decide +kernel) rfl), ⟨by decide, by decide, by decide +kernel⟩, by decide⟩, (inT1 (i := 60) (by decide +kernel) rfl), rfl, rfl⟩
theorem mo_X8_readLines : MO m_X8_readLines 1 := ⟨rfl, (inT1 (i := 694) (by decide +kernel) rfl), (inT1 (i := 3) (by decide +kernel) rfl), ⟨by decide, by decide, by decide +kernel⟩, by decide⟩
theorem mo_X9_init : MOi m_X9_init 0 := ⟨⟨rfl, (inT1 (i := 67) (by decide +kernel) rfl), (inT1 (i := 5) (by decide +kernel) rfl), ⟨by decide, by decide, by decide +kernel⟩, by decide⟩, (inT1 (i := 66) (by decide +kernel) rfl), rfl, rfl⟩
theorem mo_X9_scan : MOv m_X9_scan 1 := ⟨⟨rfl, (inT1 (i := 698) (by decide +kernel) rfl), (inT1 (i := 5) (by decide +kernel) rfl), ⟨by decide, by decide, by decide +kernel⟩, by decide⟩, (inT1 (i := 696) (by decide +kernel) rfl), (inT1 (i := 697) (by decide +kernel) rfl)⟩
theorem mo_X9_kindOf : MOs m_X9_kindOf 1 := ⟨⟨rfl, (inT1 (i := 705) (by decide +kernel) rfl), (inT1 (i := 5) (by decide +kernel) rfl), ⟨by decide, by decide, by decide +kernel⟩, by decide⟩, (inT1 (i := 704) (by decide +kernel) rfl)⟩
theorem mo_X9_open : MOv m_X9_open 2 := ⟨⟨rfl, (inT1 (i := 709) (by decide +kernel) rfl), (inT1 (i := 5) (by decide +kernel) rfl), ⟨by decide, by decide, by decide +kernel⟩, by decide⟩, (inT1 (i := 708) (by decide +kernel) rfl), inT2 (i := 11) (by decide +kernel) rfl⟩
theorem mo_X9_valueOf : MOv m_X9_valueOf 2 := ⟨⟨rfl, (inT1 (i := 714) (by decide +kernel) rfl), (inT1 (i := 5) (by decide +kernel) rfl), ⟨by decide, by decide, by decide +kernel⟩, by decide⟩, (inT1 (i := 713) (by decide +kernel) rfl), inT2 (i := 12) (by decide +kernel) rfl⟩
theorem mo_X9_wordOf : MOv m_X9_wordOf 2 := ⟨⟨rfl, (inT1 (i := 719) (by decide +kernel) rfl), (inT1 (i := 5) (by decide +kernel) rfl), ⟨by decide, by decide, by decide +kernel⟩, by decide⟩, (inT1 (i := 718) (by decide +kernel) rfl), inT2 (i := 13) (by decide +kernel) rfl⟩
theorem mo_X9_isText : MOv m_X9_isText 3 := ⟨⟨rfl, (inT1 (i := 725) (by decide +kernel) rfl), (inT1 (i := 5) (by decide +kernel) rfl), ⟨by decide, by decide, by decide +kernel⟩, by decide⟩, (inT1 (i := 724) (by decide +kernel) rfl), inT2 (i := 14) (by decide +kernel) rfl⟩
theorem mo_X9_numberOf : MOv m_X9_numberOf 2 := ⟨⟨rfl, (inT1 (i := 777) (by decide +kernel) rfl), (inT1 (i := 5) (by decide +kernel) rfl), ⟨by decide, by decide, by decide +kernel⟩, by decide⟩, (inT1 (i := 776) (by decide +kernel) rfl), inT2 (i := 15) (by decide +kernel) rfl⟩
theorem mo_X9_next : MOv m_X9_next 0 := ⟨⟨rfl, (inT1 (i := 781) (by decide +kernel) rfl), (inT1 (i := 5) (by decide +kernel) rfl), ⟨by decide, by decide, by decide +kernel⟩, by decide⟩, (inT1 (i := 779) (by decide +kernel) rfl), (inT1 (i := 780) (by decide +kernel) rfl)⟩
theorem mo_X9_isEnd : MOv m_X9_isEnd 0 := ⟨⟨rfl, (inT1 (i := 786) (by decide +kernel) rfl), (inT1 (i := 5) (by decide +kernel) rfl), ⟨by decide, by decide, by decide +kernel⟩, by decide⟩, (inT1 (i := 784) (by decide +kernel) rfl), (inT1 (i := 785) (by decide +kernel) rfl)⟩
theorem mo_X9_isSign : MOv m_X9_isSign 1 := ⟨⟨rfl, (inT1 (i := 830) (by decide +kernel) rfl), (inT1 (i := 5) (by decide +kernel) rfl), ⟨by decide, by decide, by decide +kernel⟩, by decide⟩, (inT1 (i := 828) (by decide +kernel) rfl), (inT1 (i := 829) (by decide +kernel) rfl)⟩
theorem mo_X9_takeSign : MOv m_X9_takeSign 1 := ⟨⟨rfl, (inT1 (i := 860) (by decide +kernel) rfl), (inT1 (i := 5) (by decide +kernel) rfl), ⟨by decide, by decide, by decide +kernel⟩, by decide⟩, (inT1 (i := 858) (by decide +kernel) rfl), (inT1 (i := 859) (by decide +kernel) rfl)⟩
theorem mo_X9_takeWord : MOv m_X9_takeWord 1 := ⟨⟨rfl, (inT1 (i := 802) (by decide +kernel) rfl), (inT1 (i := 5) (by decide +kernel) rfl), ⟨by decide, by decide, by decide +kernel⟩, by decide⟩, (inT1 (i := 800) (by decide +kernel) rfl), (inT1 (i := 801) (by decide +kernel) rfl)⟩
theorem mo_X9_takeNumber : MOv m_X9_takeNumber 2 := ⟨⟨rfl, (inT1 (i := 810) (by decide +kernel) rfl), (inT1 (i := 5) (by decide +kernel) rfl), ⟨by decide, by decide, by decide +kernel⟩, by decide⟩, (inT1 (i := 808) (by decide +kernel) rfl), (inT1 (i := 809) (by decide +kernel) rfl)⟩
theorem mo_X11_init : MOi m_X11_init 0 := ⟨⟨rfl, (inT1 (i := 34) (by decide +kernel) rfl), (inT1 (i := 1) (by decide +kernel) rfl), ⟨by decide, by decide, by decide +kernel⟩, by decide⟩, (inT1 (i := 33) (by decide +kernel) rfl), rfl, rfl⟩
theorem mo_X11_feed : MOv m_X11_feed 5 := ⟨⟨rfl, (inT1 (i := 363) (by decide +kernel) rfl), (inT1 (i := 1) (by decide +kernel) rfl), ⟨by decide, by decide, by decide +kernel⟩, by decide⟩, (inT1 (i := 361) (by decide +kernel) rfl), (inT1 (i := 362) (by decide +kernel) rfl)⟩
theorem mo_X11_end : MOv m_X11_end 1 := ⟨⟨rfl, (inT1 (i := 371) (by decide +kernel) rfl), (inT1 (i := 1) (by decide +kernel) rfl), ⟨by decide, by decide, by decide +kernel⟩, by decide⟩, (inT1 (i := 369) (by decide +kernel) rfl), (inT1 (i := 370) (by decide +kernel) rfl)⟩
theorem mo_X11_street : MOv m_X11_street 0 := ⟨⟨rfl, (inT1 (i := 688) (by decide +kernel) rfl), (inT1 (i := 1) (by decide +kernel) rfl), ⟨by decide, by decide, by decide +kernel⟩, by decide⟩, (inT1 (i := 686) (by decide +kernel) rfl), (inT1 (i := 687) (by decide +kernel) rfl)⟩
theorem mo_X11_law : MOv m_X11_law 0 := ⟨⟨rfl, (inT1 (i := 1036) (by decide +kernel) rfl), (inT1 (i := 1) (by decide +kernel) rfl), ⟨by decide, by decide, by decide +kernel⟩, by decide⟩, (inT1 (i := 1034) (by decide +kernel) rfl), (inT1 (i := 1035) (by decide +kernel) rfl)⟩
theorem mo_X11_fault : MOv m_X11_fault 0 := ⟨⟨rfl, (inT1 (i := 375) (by decide +kernel) rfl), (inT1 (i := 1) (by decide +kernel) rfl), ⟨by decide, by decide, by decide +kernel⟩, by decide⟩, (inT1 (i := 373) (by decide +kernel) rfl), (inT1 (i := 374) (by decide +kernel) rfl)⟩
theorem mo_X11_person : MOv m_X11_person 2 := ⟨⟨rfl, (inT1 (i := 1052) (by decide +kernel) rfl), (inT1 (i := 1) (by decide +kernel) rfl), ⟨by decide, by decide, by decide +kernel⟩, by decide⟩, (inT1 (i := 1050) (by decide +kernel) rfl), (inT1 (i := 1051) (by decide +kernel) rfl)⟩
theorem mo_X11_duty : MOv m_X11_duty 2 := ⟨⟨rfl, (inT1 (i := 1101) (by decide +kernel) rfl), (inT1 (i := 1) (by decide +kernel) rfl), ⟨by decide, by decide, by decide +kernel⟩, by decide⟩, (inT1 (i := 1099) (by decide +kernel) rfl), (inT1 (i := 1100) (by decide +kernel) rfl)⟩
theorem mo_X11_count : MOv m_X11_count 1 := ⟨⟨rfl, (inT1 (i := 379) (by decide +kernel) rfl), (inT1 (i := 1) (by decide +kernel) rfl), ⟨by decide, by decide, by decide +kernel⟩, by decide⟩, (inT1 (i := 377) (by decide +kernel) rfl), (inT1 (i := 378) (by decide +kernel) rfl)⟩
theorem mo_X11_call : MOv m_X11_call 1 := ⟨⟨rfl, (inT1 (i := 1117) (by decide +kernel) rfl), (inT1 (i := 1) (by decide +kernel) rfl), ⟨by decide, by decide, by decide +kernel⟩, by decide⟩, (inT1 (i := 1115) (by decide +kernel) rfl), (inT1 (i := 1116) (by decide +kernel) rfl)⟩
theorem mo_X11_put : MOv m_X11_put 1 := ⟨⟨rfl, (inT1 (i := 1144) (by decide +kernel) rfl), (inT1 (i := 1) (by decide +kernel) rfl), ⟨by decide, by decide, by decide +kernel⟩, by decide⟩, (inT1 (i := 1142) (by decide +kernel) rfl), (inT1 (i := 1143) (by decide +kernel) rfl)⟩
theorem mo_X11_forget : MOv m_X11_forget 1 := ⟨⟨rfl, (inT1 (i := 1156) (by decide +kernel) rfl), (inT1 (i := 1) (by decide +kernel) rfl), ⟨by decide, by decide, by decide +kernel⟩, by decide⟩, (inT1 (i := 1154) (by decide +kernel) rfl), (inT1 (i := 1155) (by decide +kernel) rfl)⟩
theorem mo_X11_recall : MOv m_X11_recall 1 := ⟨⟨rfl, (inT1 (i := 1163) (by decide +kernel) rfl), (inT1 (i := 1) (by decide +kernel) rfl), ⟨by decide, by decide, by decide +kernel⟩, by decide⟩, (inT1 (i := 1161) (by decide +kernel) rfl), (inT1 (i := 1162) (by decide +kernel) rfl)⟩
theorem mo_X11_hand : MOv m_X11_hand 2 := ⟨⟨rfl, (inT1 (i := 1170) (by decide +kernel) rfl), (inT1 (i := 1) (by decide +kernel) rfl), ⟨by decide, by decide, by decide +kernel⟩, by decide⟩, (inT1 (i := 1168) (by decide +kernel) rfl), (inT1 (i := 1169) (by decide +kernel) rfl)⟩
theorem mo_X11_lean : MOv m_X11_lean 2 := ⟨⟨rfl, (inT1 (i := 1180) (by decide +kernel) rfl), (inT1 (i := 1) (by decide +kernel) rfl), ⟨by decide, by decide, by decide +kernel⟩, by decide⟩, (inT1 (i := 1178) (by decide +kernel) rfl), (inT1 (i := 1179) (by decide +kernel) rfl)⟩
theorem mo_X11_free : MOv m_X11_free 2 := ⟨⟨rfl, (inT1 (i := 1187) (by decide +kernel) rfl), (inT1 (i := 1) (by decide +kernel) rfl), ⟨by decide, by decide, by decide +kernel⟩, by decide⟩, (inT1 (i := 1185) (by decide +kernel) rfl), (inT1 (i := 1186) (by decide +kernel) rfl)⟩
theorem mo_X11_days : MOv m_X11_days 1 := ⟨⟨rfl, (inT1 (i := 1197) (by decide +kernel) rfl), (inT1 (i := 1) (by decide +kernel) rfl), ⟨by decide, by decide, by decide +kernel⟩, by decide⟩, (inT1 (i := 1195) (by decide +kernel) rfl), (inT1 (i := 1196) (by decide +kernel) rfl)⟩
theorem mo_X11_parade : MOv m_X11_parade 1 := ⟨⟨rfl, (inT1 (i := 452) (by decide +kernel) rfl), (inT1 (i := 1) (by decide +kernel) rfl), ⟨by decide, by decide, by decide +kernel⟩, by decide⟩, (inT1 (i := 450) (by decide +kernel) rfl), (inT1 (i := 451) (by decide +kernel) rfl)⟩
theorem mo_X11_can : MOv m_X11_can 0 := ⟨⟨rfl, (inT1 (i := 464) (by decide +kernel) rfl), (inT1 (i := 1) (by decide +kernel) rfl), ⟨by decide, by decide, by decide +kernel⟩, by decide⟩, (inT1 (i := 462) (by decide +kernel) rfl), (inT1 (i := 463) (by decide +kernel) rfl)⟩
theorem mo_X11_greets : MOv m_X11_greets 2 := ⟨⟨rfl, (inT1 (i := 1216) (by decide +kernel) rfl), (inT1 (i := 1) (by decide +kernel) rfl), ⟨by decide, by decide, by decide +kernel⟩, by decide⟩, (inT1 (i := 1214) (by decide +kernel) rfl), (inT1 (i := 1215) (by decide +kernel) rfl)⟩
theorem mo_X11_where : MOv m_X11_where 2 := ⟨⟨rfl, (inT1 (i := 1226) (by decide +kernel) rfl), (inT1 (i := 1) (by decide +kernel) rfl), ⟨by decide, by decide, by decide +kernel⟩, by decide⟩, (inT1 (i := 1224) (by decide +kernel) rfl), (inT1 (i := 1225) (by decide +kernel) rfl)⟩
theorem mo_X11_crowd : MOv m_X11_crowd 3 := ⟨⟨rfl, (inT1 (i := 1237) (by decide +kernel) rfl), (inT1 (i := 1) (by decide +kernel) rfl), ⟨by decide, by decide, by decide +kernel⟩, by decide⟩, (inT1 (i := 1235) (by decide +kernel) rfl), (inT1 (i := 1236) (by decide +kernel) rfl)⟩
theorem mo_X11_most : MOv m_X11_most 0 := ⟨⟨rfl, (inT1 (i := 487) (by decide +kernel) rfl), (inT1 (i := 1) (by decide +kernel) rfl), ⟨by decide, by decide, by decide +kernel⟩, by decide⟩, (inT1 (i := 485) (by decide +kernel) rfl), (inT1 (i := 486) (by decide +kernel) rfl)⟩
theorem mo_X11_does : MOv m_X11_does 2 := ⟨⟨rfl, (inT1 (i := 1244) (by decide +kernel) rfl), (inT1 (i := 1) (by decide +kernel) rfl), ⟨by decide, by decide, by decide +kernel⟩, by decide⟩, (inT1 (i := 1242) (by decide +kernel) rfl), (inT1 (i := 1243) (by decide +kernel) rfl)⟩
theorem mo_X11_soon : MOv m_X11_soon 1 := ⟨⟨rfl, (inT1 (i := 1262) (by decide +kernel) rfl), (inT1 (i := 1) (by decide +kernel) rfl), ⟨by decide, by decide, by decide +kernel⟩, by decide⟩, (inT1 (i := 1260) (by decide +kernel) rfl), (inT1 (i := 1261) (by decide +kernel) rfl)⟩
theorem mo_X11_longest : MOv m_X11_longest 0 := ⟨⟨rfl, (inT1 (i := 506) (by decide +kernel) rfl), (inT1 (i := 1) (by decide +kernel) rfl), ⟨by decide, by decide, by decide +kernel⟩, by decide⟩, (inT1 (i := 504) (by decide +kernel) rfl), (inT1 (i := 505) (by decide +kernel) rfl)⟩
theorem mo_X11_ring : MOv m_X11_ring 0 := ⟨⟨rfl, (inT1 (i := 531) (by decide +kernel) rfl), (inT1 (i := 1) (by decide +kernel) rfl), ⟨by decide, by decide, by decide +kernel⟩, by decide⟩, (inT1 (i := 529) (by decide +kernel) rfl), (inT1 (i := 530) (by decide +kernel) rfl)⟩
theorem mo_X11_before : MOv m_X11_before 1 := ⟨⟨rfl, (inT1 (i := 1269) (by decide +kernel) rfl), (inT1 (i := 1) (by decide +kernel) rfl), ⟨by decide, by decide, by decide +kernel⟩, by decide⟩, (inT1 (i := 1267) (by decide +kernel) rfl), (inT1 (i := 1268) (by decide +kernel) rfl)⟩
theorem mo_X11_after : MOv m_X11_after 1 := ⟨⟨rfl, (inT1 (i := 1277) (by decide +kernel) rfl), (inT1 (i := 1) (by decide +kernel) rfl), ⟨by decide, by decide, by decide +kernel⟩, by decide⟩, (inT1 (i := 1275) (by decide +kernel) rfl), (inT1 (i := 1276) (by decide +kernel) rfl)⟩
theorem mo_X11_depth : MOv m_X11_depth 1 := ⟨⟨rfl, (inT1 (i := 1287) (by decide +kernel) rfl), (inT1 (i := 1) (by decide +kernel) rfl), ⟨by decide, by decide, by decide +kernel⟩, by decide⟩, (inT1 (i := 1285) (by decide +kernel) rfl), (inT1 (i := 1286) (by decide +kernel) rfl)⟩
theorem mo_X11_young : MOv m_X11_young 1 := ⟨⟨rfl, (inT1 (i := 1294) (by decide +kernel) rfl), (inT1 (i := 1) (by decide +kernel) rfl), ⟨by decide, by decide, by decide +kernel⟩, by decide⟩, (inT1 (i := 1292) (by decide +kernel) rfl), (inT1 (i := 1293) (by decide +kernel) rfl)⟩
theorem mo_X11_older : MOv m_X11_older 1 := ⟨⟨rfl, (inT1 (i := 1305) (by decide +kernel) rfl), (inT1 (i := 1) (by decide +kernel) rfl), ⟨by decide, by decide, by decide +kernel⟩, by decide⟩, (inT1 (i := 1303) (by decide +kernel) rfl), (inT1 (i := 1304) (by decide +kernel) rfl)⟩
theorem mo_X11_whose : MOv m_X11_whose 0 := ⟨⟨rfl, (inT1 (i := 1312) (by decide +kernel) rfl), (inT1 (i := 1) (by decide +kernel) rfl), ⟨by decide, by decide, by decide +kernel⟩, by decide⟩, (inT1 (i := 1310) (by decide +kernel) rfl), (inT1 (i := 1311) (by decide +kernel) rfl)⟩
theorem mo_X11_ask : MOv m_X11_ask 0 := ⟨⟨rfl, (inT1 (i := 1332) (by decide +kernel) rfl), (inT1 (i := 1) (by decide +kernel) rfl), ⟨by decide, by decide, by decide +kernel⟩, by decide⟩, (inT1 (i := 1330) (by decide +kernel) rfl), (inT1 (i := 1331) (by decide +kernel) rfl)⟩
theorem mo_X11_gap : MOv m_X11_gap 0 := ⟨⟨rfl, (inT1 (i := 536) (by decide +kernel) rfl), (inT1 (i := 1) (by decide +kernel) rfl), ⟨by decide, by decide, by decide +kernel⟩, by decide⟩, (inT1 (i := 534) (by decide +kernel) rfl), (inT1 (i := 535) (by decide +kernel) rfl)⟩
theorem mo_X11_lost : MOv m_X11_lost 0 := ⟨⟨rfl, (inT1 (i := 547) (by decide +kernel) rfl), (inT1 (i := 1) (by decide +kernel) rfl), ⟨by decide, by decide, by decide +kernel⟩, by decide⟩, (inT1 (i := 545) (by decide +kernel) rfl), (inT1 (i := 546) (by decide +kernel) rfl)⟩
theorem mo_X11_missed : MOv m_X11_missed 0 := ⟨⟨rfl, (inT1 (i := 551) (by decide +kernel) rfl), (inT1 (i := 1) (by decide +kernel) rfl), ⟨by decide, by decide, by decide +kernel⟩, by decide⟩, (inT1 (i := 549) (by decide +kernel) rfl), (inT1 (i := 550) (by decide +kernel) rfl)⟩
theorem mo_X11_swap : MOv m_X11_swap 2 := ⟨⟨rfl, (inT1 (i := 1343) (by decide +kernel) rfl), (inT1 (i := 1) (by decide +kernel) rfl), ⟨by decide, by decide, by decide +kernel⟩, by decide⟩, (inT1 (i := 1341) (by decide +kernel) rfl), (inT1 (i := 1342) (by decide +kernel) rfl)⟩
theorem mo_X11_rests : MOv m_X11_rests 3 := ⟨⟨rfl, (inT1 (i := 1359) (by decide +kernel) rfl), (inT1 (i := 1) (by decide +kernel) rfl), ⟨by decide, by decide, by decide +kernel⟩, by decide⟩, (inT1 (i := 1357) (by decide +kernel) rfl), (inT1 (i := 1358) (by decide +kernel) rfl)⟩
theorem mo_X11_sponsor : MOv m_X11_sponsor 0 := ⟨⟨rfl, (inT1 (i := 555) (by decide +kernel) rfl), (inT1 (i := 1) (by decide +kernel) rfl), ⟨by decide, by decide, by decide +kernel⟩, by decide⟩, (inT1 (i := 553) (by decide +kernel) rfl), (inT1 (i := 554) (by decide +kernel) rfl)⟩
theorem mo_X11_idle : MOv m_X11_idle 0 := ⟨⟨rfl, (inT1 (i := 559) (by decide +kernel) rfl), (inT1 (i := 1) (by decide +kernel) rfl), ⟨by decide, by decide, by decide +kernel⟩, by decide⟩, (inT1 (i := 557) (by decide +kernel) rfl), (inT1 (i := 558) (by decide +kernel) rfl)⟩
theorem mo_X11_worst : MOv m_X11_worst 0 := ⟨⟨rfl, (inT1 (i := 572) (by decide +kernel) rfl), (inT1 (i := 1) (by decide +kernel) rfl), ⟨by decide, by decide, by decide +kernel⟩, by decide⟩, (inT1 (i := 570) (by decide +kernel) rfl), (inT1 (i := 571) (by decide +kernel) rfl)⟩
theorem mo_X11_alike : MOv m_X11_alike 0 := ⟨⟨rfl, (inT1 (i := 577) (by decide +kernel) rfl), (inT1 (i := 1) (by decide +kernel) rfl), ⟨by decide, by decide, by decide +kernel⟩, by decide⟩, (inT1 (i := 575) (by decide +kernel) rfl), (inT1 (i := 576) (by decide +kernel) rfl)⟩
theorem mo_X11_odds : MOv m_X11_odds 2 := ⟨⟨rfl, (inT1 (i := 1375) (by decide +kernel) rfl), (inT1 (i := 1) (by decide +kernel) rfl), ⟨by decide, by decide, by decide +kernel⟩, by decide⟩, (inT1 (i := 1373) (by decide +kernel) rfl), (inT1 (i := 1374) (by decide +kernel) rfl)⟩
theorem mo_X11_spare : MOv m_X11_spare 2 := ⟨⟨rfl, (inT1 (i := 1389) (by decide +kernel) rfl), (inT1 (i := 1) (by decide +kernel) rfl), ⟨by decide, by decide, by decide +kernel⟩, by decide⟩, (inT1 (i := 1387) (by decide +kernel) rfl), (inT1 (i := 1388) (by decide +kernel) rfl)⟩
theorem mo_X11_done : MOv m_X11_done 1 := ⟨⟨rfl, (inT1 (i := 1400) (by decide +kernel) rfl), (inT1 (i := 1) (by decide +kernel) rfl), ⟨by decide, by decide, by decide +kernel⟩, by decide⟩, (inT1 (i := 1398) (by decide +kernel) rfl), (inT1 (i := 1399) (by decide +kernel) rfl)⟩
theorem mo_X11_all : MOv m_X11_all 0 := ⟨⟨rfl, (inT1 (i := 585) (by decide +kernel) rfl), (inT1 (i := 1) (by decide +kernel) rfl), ⟨by decide, by decide, by decide +kernel⟩, by decide⟩, (inT1 (i := 583) (by decide +kernel) rfl), (inT1 (i := 584) (by decide +kernel) rfl)⟩
theorem mo_X11_help : MOv m_X11_help 0 := ⟨⟨rfl, (inT1 (i := 638) (by decide +kernel) rfl), (inT1 (i := 1) (by decide +kernel) rfl), ⟨by decide, by decide, by decide +kernel⟩, by decide⟩, (inT1 (i := 636) (by decide +kernel) rfl), (inT1 (i := 637) (by decide +kernel) rfl)⟩
theorem mo_X11_crux : MOv m_X11_crux 0 := ⟨⟨rfl, (inT1 (i := 643) (by decide +kernel) rfl), (inT1 (i := 1) (by decide +kernel) rfl), ⟨by decide, by decide, by decide +kernel⟩, by decide⟩, (inT1 (i := 641) (by decide +kernel) rfl), (inT1 (i := 642) (by decide +kernel) rfl)⟩
theorem mo_X11_sick : MOv m_X11_sick 1 := ⟨⟨rfl, (inT1 (i := 1411) (by decide +kernel) rfl), (inT1 (i := 1) (by decide +kernel) rfl), ⟨by decide, by decide, by decide +kernel⟩, by decide⟩, (inT1 (i := 1409) (by decide +kernel) rfl), (inT1 (i := 1410) (by decide +kernel) rfl)⟩
theorem mo_X11_ahead : MOv m_X11_ahead 3 := ⟨⟨rfl, (inT1 (i := 1418) (by decide +kernel) rfl), (inT1 (i := 1) (by decide +kernel) rfl), ⟨by decide, by decide, by decide +kernel⟩, by decide⟩, (inT1 (i := 1416) (by decide +kernel) rfl), (inT1 (i := 1417) (by decide +kernel) rfl)⟩
theorem mo_X11_trial : MOv m_X11_trial 2 := ⟨⟨rfl, (inT1 (i := 1425) (by decide +kernel) rfl), (inT1 (i := 1) (by decide +kernel) rfl), ⟨by decide, by decide, by decide +kernel⟩, by decide⟩, (inT1 (i := 1423) (by decide +kernel) rfl), (inT1 (i := 1424) (by decide +kernel) rfl)⟩
theorem mo_X11_span : MOv m_X11_span 2 := ⟨⟨rfl, (inT1 (i := 1436) (by decide +kernel) rfl), (inT1 (i := 1) (by decide +kernel) rfl), ⟨by decide, by decide, by decide +kernel⟩, by decide⟩, (inT1 (i := 1434) (by decide +kernel) rfl), (inT1 (i := 1435) (by decide +kernel) rfl)⟩
theorem mo_X11_led : MOv m_X11_led 2 := ⟨⟨rfl, (inT1 (i := 1443) (by decide +kernel) rfl), (inT1 (i := 1) (by decide +kernel) rfl), ⟨by decide, by decide, by decide +kernel⟩, by decide⟩, (inT1 (i := 1441) (by decide +kernel) rfl), (inT1 (i := 1442) (by decide +kernel) rfl)⟩
theorem mo_X11_log : MOv m_X11_log 2 := ⟨⟨rfl, (inT1 (i := 1463) (by decide +kernel) rfl), (inT1 (i := 1) (by decide +kernel) rfl), ⟨by decide, by decide, by decide +kernel⟩, by decide⟩, (inT1 (i := 1461) (by decide +kernel) rfl), (inT1 (i := 1462) (by decide +kernel) rfl)⟩
theorem mo_X11_seed : MOv m_X11_seed 1 := ⟨⟨rfl, (inT1 (i := 648) (by decide +kernel) rfl), (inT1 (i := 1) (by decide +kernel) rfl), ⟨by decide, by decide, by decide +kernel⟩, by decide⟩, (inT1 (i := 646) (by decide +kernel) rfl), (inT1 (i := 647) (by decide +kernel) rfl)⟩
theorem mo_X11_undo : MOv m_X11_undo 0 := ⟨⟨rfl, (inT1 (i := 652) (by decide +kernel) rfl), (inT1 (i := 1) (by decide +kernel) rfl), ⟨by decide, by decide, by decide +kernel⟩, by decide⟩, (inT1 (i := 650) (by decide +kernel) rfl), (inT1 (i := 651) (by decide +kernel) rfl)⟩
theorem mo_X11_image : MOv m_X11_image 0 := ⟨⟨rfl, (inT1 (i := 670) (by decide +kernel) rfl), (inT1 (i := 1) (by decide +kernel) rfl), ⟨by decide, by decide, by decide +kernel⟩, by decide⟩, (inT1 (i := 668) (by decide +kernel) rfl), (inT1 (i := 669) (by decide +kernel) rfl)⟩
theorem mo_X11_back : MOv m_X11_back 0 := ⟨⟨rfl, (inT1 (i := 679) (by decide +kernel) rfl), (inT1 (i := 1) (by decide +kernel) rfl), ⟨by decide, by decide, by decide +kernel⟩, by decide⟩, (inT1 (i := 677) (by decide +kernel) rfl), (inT1 (i := 678) (by decide +kernel) rfl)⟩
theorem mo_X11_needPerson : MOv m_X11_needPerson 1 := ⟨⟨rfl, (inT1 (i := 1056) (by decide +kernel) rfl), (inT1 (i := 1) (by decide +kernel) rfl), ⟨by decide, by decide, by decide +kernel⟩, by decide⟩, (inT1 (i := 1055) (by decide +kernel) rfl), inT2 (i := 32) (by decide +kernel) rfl⟩
theorem mo_X11_needDuty : MOv m_X11_needDuty 1 := ⟨⟨rfl, (inT1 (i := 1105) (by decide +kernel) rfl), (inT1 (i := 1) (by decide +kernel) rfl), ⟨by decide, by decide, by decide +kernel⟩, by decide⟩, (inT1 (i := 1104) (by decide +kernel) rfl), inT2 (i := 34) (by decide +kernel) rfl⟩
theorem mo_X11_needKerb : MOs m_X11_needKerb 1 := ⟨⟨rfl, (inT1 (i := 1219) (by decide +kernel) rfl), (inT1 (i := 1) (by decide +kernel) rfl), ⟨by decide, by decide, by decide +kernel⟩, by decide⟩, (inT1 (i := 1218) (by decide +kernel) rfl)⟩
theorem mo_X11_needNumber : MOs m_X11_needNumber 3 := ⟨⟨rfl, (inT1 (i := 1190) (by decide +kernel) rfl), (inT1 (i := 1) (by decide +kernel) rfl), ⟨by decide, by decide, by decide +kernel⟩, by decide⟩, (inT1 (i := 1189) (by decide +kernel) rfl)⟩
theorem mo_X11_needTwo : MOs m_X11_needTwo 2 := ⟨⟨rfl, (inT1 (i := 1173) (by decide +kernel) rfl), (inT1 (i := 1) (by decide +kernel) rfl), ⟨by decide, by decide, by decide +kernel⟩, by decide⟩, (inT1 (i := 1172) (by decide +kernel) rfl)⟩
theorem mo_X11_needState : MOv m_X11_needState 2 := ⟨⟨rfl, (inT1 (i := 1148) (by decide +kernel) rfl), (inT1 (i := 1) (by decide +kernel) rfl), ⟨by decide, by decide, by decide +kernel⟩, by decide⟩, (inT1 (i := 1147) (by decide +kernel) rfl), inT2 (i := 36) (by decide +kernel) rfl⟩
theorem mo_X11_pastAt : MOv m_X11_pastAt 1 := ⟨⟨rfl, (inT1 (i := 656) (by decide +kernel) rfl), (inT1 (i := 1) (by decide +kernel) rfl), ⟨by decide, by decide, by decide +kernel⟩, by decide⟩, (inT1 (i := 655) (by decide +kernel) rfl), inT2 (i := 10) (by decide +kernel) rfl⟩
theorem mo_X11_rememberAct : MOv m_X11_rememberAct 0 := ⟨⟨rfl, (inT1 (i := 1137) (by decide +kernel) rfl), (inT1 (i := 1) (by decide +kernel) rfl), ⟨by decide, by decide, by decide +kernel⟩, by decide⟩, (inT1 (i := 1136) (by decide +kernel) rfl), inT2 (i := 35) (by decide +kernel) rfl⟩
theorem mo_X11_letParadeGoBy : MOv m_X11_letParadeGoBy 0 := ⟨⟨rfl, (inT1 (i := 1202) (by decide +kernel) rfl), (inT1 (i := 1) (by decide +kernel) rfl), ⟨by decide, by decide, by decide +kernel⟩, by decide⟩, (inT1 (i := 1201) (by decide +kernel) rfl), inT2 (i := 37) (by decide +kernel) rfl⟩
theorem mo_X11_shameTriedOut : MOv m_X11_shameTriedOut 2 := ⟨⟨rfl, (inT1 (i := 1429) (by decide +kernel) rfl), (inT1 (i := 1) (by decide +kernel) rfl), ⟨by decide, by decide, by decide +kernel⟩, by decide⟩, (inT1 (i := 1428) (by decide +kernel) rfl), inT2 (i := 41) (by decide +kernel) rfl⟩
theorem mo_X11_shameOfWaiting : MOv m_X11_shameOfWaiting 1 := ⟨⟨rfl, (inT1 (i := 409) (by decide +kernel) rfl), (inT1 (i := 1) (by decide +kernel) rfl), ⟨by decide, by decide, by decide +kernel⟩, by decide⟩, (inT1 (i := 408) (by decide +kernel) rfl), inT2 (i := 0) (by decide +kernel) rfl⟩
theorem mo_X11_shareOf : MOv m_X11_shareOf 1 := ⟨⟨rfl, (inT1 (i := 1079) (by decide +kernel) rfl), (inT1 (i := 1) (by decide +kernel) rfl), ⟨by decide, by decide, by decide +kernel⟩, by decide⟩, (inT1 (i := 1078) (by decide +kernel) rfl), inT2 (i := 33) (by decide +kernel) rfl⟩
theorem mo_X11_isGap : MOv m_X11_isGap 1 := ⟨⟨rfl, (inT1 (i := 540) (by decide +kernel) rfl), (inT1 (i := 1) (by decide +kernel) rfl), ⟨by decide, by decide, by decide +kernel⟩, by decide⟩, (inT1 (i := 539) (by decide +kernel) rfl), inT2 (i := 6) (by decide +kernel) rfl⟩
theorem mo_X11_takeWhoFits : MOv m_X11_takeWhoFits 0 := ⟨⟨rfl, (inT1 (i := 1316) (by decide +kernel) rfl), (inT1 (i := 1) (by decide +kernel) rfl), ⟨by decide, by decide, by decide +kernel⟩, by decide⟩, (inT1 (i := 1315) (by decide +kernel) rfl), inT2 (i := 38) (by decide +kernel) rfl⟩
theorem mo_X11_whoFits : MOv m_X11_whoFits 0 := ⟨⟨rfl, (inT1 (i := 1320) (by decide +kernel) rfl), (inT1 (i := 1) (by decide +kernel) rfl), ⟨by decide, by decide, by decide +kernel⟩, by decide⟩, (inT1 (i := 1319) (by decide +kernel) rfl), inT2 (i := 39) (by decide +kernel) rfl⟩
theorem mo_X11_kerbToAskFor : MOv m_X11_kerbToAskFor 1 := ⟨⟨rfl, (inT1 (i := 1336) (by decide +kernel) rfl), (inT1 (i := 1) (by decide +kernel) rfl), ⟨by decide, by decide, by decide +kernel⟩, by decide⟩, (inT1 (i := 1335) (by decide +kernel) rfl), inT2 (i := 40) (by decide +kernel) rfl⟩
theorem mo_X11_needsOf : MOs m_X11_needsOf 2 := ⟨⟨rfl, (inT1 (i := 1075) (by decide +kernel) rfl), (inT1 (i := 1) (by decide +kernel) rfl), ⟨by decide, by decide, by decide +kernel⟩, by decide⟩, (inT1 (i := 1074) (by decide +kernel) rfl)⟩
theorem mo_X11_at : MOs m_X11_at 2 := ⟨⟨rfl, (inT1 (i := 386) (by decide +kernel) rfl), (inT1 (i := 1) (by decide +kernel) rfl), ⟨by decide, by decide, by decide +kernel⟩, by decide⟩, (inT1 (i := 385) (by decide +kernel) rfl)⟩
theorem mo_X11_setAt : MOs m_X11_setAt 3 := ⟨⟨rfl, (inT1 (i := 433) (by decide +kernel) rfl), (inT1 (i := 1) (by decide +kernel) rfl), ⟨by decide, by decide, by decide +kernel⟩, by decide⟩, (inT1 (i := 432) (by decide +kernel) rfl)⟩
theorem mo_X11_copyRow : MOs m_X11_copyRow 2 := ⟨⟨rfl, (inT1 (i := 592) (by decide +kernel) rfl), (inT1 (i := 1) (by decide +kernel) rfl), ⟨by decide, by decide, by decide +kernel⟩, by decide⟩, (inT1 (i := 591) (by decide +kernel) rfl)⟩
theorem mo_X11_bit : MOs m_X11_bit 1 := ⟨⟨rfl, (inT1 (i := 389) (by decide +kernel) rfl), (inT1 (i := 1) (by decide +kernel) rfl), ⟨by decide, by decide, by decide +kernel⟩, by decide⟩, (inT1 (i := 388) (by decide +kernel) rfl)⟩
theorem mo_X11_has : MOs m_X11_has 2 := ⟨⟨rfl, (inT1 (i := 416) (by decide +kernel) rfl), (inT1 (i := 1) (by decide +kernel) rfl), ⟨by decide, by decide, by decide +kernel⟩, by decide⟩, (inT1 (i := 415) (by decide +kernel) rfl)⟩
theorem mo_X11_sumOver : MOs m_X11_sumOver 2 := ⟨⟨rfl, (inT1 (i := 526) (by decide +kernel) rfl), (inT1 (i := 1) (by decide +kernel) rfl), ⟨by decide, by decide, by decide +kernel⟩, by decide⟩, (inT1 (i := 525) (by decide +kernel) rfl)⟩
theorem mo_X12_thrown : MOv m_X12_thrown 0 := ⟨⟨rfl, (inT1 (i := 1468) (by decide +kernel) rfl), (inT1 (i := 11) (by decide +kernel) rfl), ⟨by decide, by decide, by decide +kernel⟩, by decide⟩, (inT1 (i := 1466) (by decide +kernel) rfl), (inT1 (i := 1467) (by decide +kernel) rfl)⟩
theorem mo_X12_throwsIf : MOv m_X12_throwsIf 2 := ⟨⟨rfl, (inT1 (i := 1719) (by decide +kernel) rfl), (inT1 (i := 11) (by decide +kernel) rfl), ⟨by decide, by decide, by decide +kernel⟩, by decide⟩, (inT1 (i := 1718) (by decide +kernel) rfl), inT2 (i := 71) (by decide +kernel) rfl⟩
theorem mo_X12_in : MOs m_X12_in 3 := ⟨⟨rfl, (inT1 (i := 1774) (by decide +kernel) rfl), (inT1 (i := 11) (by decide +kernel) rfl), ⟨by decide, by decide, by decide +kernel⟩, by decide⟩, (inT1 (i := 1773) (by decide +kernel) rfl)⟩
theorem mo_X12_has : MOs m_X12_has 2 := ⟨⟨rfl, (inT1 (i := 1805) (by decide +kernel) rfl), (inT1 (i := 11) (by decide +kernel) rfl), ⟨by decide, by decide, by decide +kernel⟩, by decide⟩, (inT1 (i := 1804) (by decide +kernel) rfl)⟩
theorem mo_X12_init : MOi m_X12_init 0 := ⟨⟨rfl, (inT1 (i := 1473) (by decide +kernel) rfl), (inT1 (i := 11) (by decide +kernel) rfl), ⟨by decide, by decide, by decide +kernel⟩, by decide⟩, (inT1 (i := 1472) (by decide +kernel) rfl), rfl, rfl⟩
theorem mo_X12_image : MOv m_X12_image 0 := ⟨⟨rfl, (inT1 (i := 1540) (by decide +kernel) rfl), (inT1 (i := 11) (by decide +kernel) rfl), ⟨by decide, by decide, by decide +kernel⟩, by decide⟩, (inT1 (i := 1538) (by decide +kernel) rfl), (inT1 (i := 1539) (by decide +kernel) rfl)⟩
theorem mo_X12_back : MOv m_X12_back 0 := ⟨⟨rfl, (inT1 (i := 1544) (by decide +kernel) rfl), (inT1 (i := 11) (by decide +kernel) rfl), ⟨by decide, by decide, by decide +kernel⟩, by decide⟩, (inT1 (i := 1542) (by decide +kernel) rfl), (inT1 (i := 1543) (by decide +kernel) rfl)⟩
theorem mo_X12_remembers : MOv m_X12_remembers 0 := ⟨⟨rfl, (inT1 (i := 1888) (by decide +kernel) rfl), (inT1 (i := 11) (by decide +kernel) rfl), ⟨by decide, by decide, by decide +kernel⟩, by decide⟩, (inT1 (i := 1887) (by decide +kernel) rfl), inT2 (i := 98) (by decide +kernel) rfl⟩
theorem mo_X12_undo : MOv m_X12_undo 0 := ⟨⟨rfl, (inT1 (i := 1548) (by decide +kernel) rfl), (inT1 (i := 11) (by decide +kernel) rfl), ⟨by decide, by decide, by decide +kernel⟩, by decide⟩, (inT1 (i := 1546) (by decide +kernel) rfl), (inT1 (i := 1547) (by decide +kernel) rfl)⟩
theorem mo_X12_people : MOv m_X12_people 0 := ⟨⟨rfl, (inT1 (i := 1607) (by decide +kernel) rfl), (inT1 (i := 11) (by decide +kernel) rfl), ⟨by decide, by decide, by decide +kernel⟩, by decide⟩, (inT1 (i := 1606) (by decide +kernel) rfl), inT2 (i := 51) (by decide +kernel) rfl⟩
theorem mo_X12_duties : MOv m_X12_duties 0 := ⟨⟨rfl, (inT1 (i := 1629) (by decide +kernel) rfl), (inT1 (i := 11) (by decide +kernel) rfl), ⟨by decide, by decide, by decide +kernel⟩, by decide⟩, (inT1 (i := 1628) (by decide +kernel) rfl), inT2 (i := 55) (by decide +kernel) rfl⟩
theorem mo_X12_personAt : MOs m_X12_personAt 2 := ⟨⟨rfl, (inT1 (i := 1620) (by decide +kernel) rfl), (inT1 (i := 11) (by decide +kernel) rfl), ⟨by decide, by decide, by decide +kernel⟩, by decide⟩, (inT1 (i := 1619) (by decide +kernel) rfl)⟩
theorem mo_X12_ofPerson : MOv m_X12_ofPerson 2 := ⟨⟨rfl, (inT1 (i := 1844) (by decide +kernel) rfl), (inT1 (i := 11) (by decide +kernel) rfl), ⟨by decide, by decide, by decide +kernel⟩, by decide⟩, (inT1 (i := 1843) (by decide +kernel) rfl), inT2 (i := 90) (by decide +kernel) rfl⟩
theorem mo_X12_at : MOs m_X12_at 2 := ⟨⟨rfl, (inT1 (i := 1641) (by decide +kernel) rfl), (inT1 (i := 11) (by decide +kernel) rfl), ⟨by decide, by decide, by decide +kernel⟩, by decide⟩, (inT1 (i := 1640) (by decide +kernel) rfl)⟩
theorem mo_X12_of : MOv m_X12_of 2 := ⟨⟨rfl, (inT1 (i := 1654) (by decide +kernel) rfl), (inT1 (i := 11) (by decide +kernel) rfl), ⟨by decide, by decide, by decide +kernel⟩, by decide⟩, (inT1 (i := 1653) (by decide +kernel) rfl), inT2 (i := 59) (by decide +kernel) rfl⟩
theorem mo_X12_isWaiting : MOv m_X12_isWaiting 1 := ⟨⟨rfl, (inT1 (i := 1650) (by decide +kernel) rfl), (inT1 (i := 11) (by decide +kernel) rfl), ⟨by decide, by decide, by decide +kernel⟩, by decide⟩, (inT1 (i := 1649) (by decide +kernel) rfl), inT2 (i := 58) (by decide +kernel) rfl⟩
theorem mo_X12_isDone : MOv m_X12_isDone 1 := ⟨⟨rfl, (inT1 (i := 1759) (by decide +kernel) rfl), (inT1 (i := 11) (by decide +kernel) rfl), ⟨by decide, by decide, by decide +kernel⟩, by decide⟩, (inT1 (i := 1758) (by decide +kernel) rfl), inT2 (i := 78) (by decide +kernel) rfl⟩
theorem mo_X12_isForgotten : MOv m_X12_isForgotten 1 := ⟨⟨rfl, (inT1 (i := 1912) (by decide +kernel) rfl), (inT1 (i := 11) (by decide +kernel) rfl), ⟨by decide, by decide, by decide +kernel⟩, by decide⟩, (inT1 (i := 1911) (by decide +kernel) rfl), inT2 (i := 101) (by decide +kernel) rfl⟩
theorem mo_X12_noPerson : MOv m_X12_noPerson 1 := ⟨⟨rfl, (inT1 (i := 1816) (by decide +kernel) rfl), (inT1 (i := 11) (by decide +kernel) rfl), ⟨by decide, by decide, by decide +kernel⟩, by decide⟩, (inT1 (i := 1815) (by decide +kernel) rfl), inT2 (i := 83) (by decide +kernel) rfl⟩
theorem mo_X12_noDuty : MOv m_X12_noDuty 1 := ⟨⟨rfl, (inT1 (i := 1771) (by decide +kernel) rfl), (inT1 (i := 11) (by decide +kernel) rfl), ⟨by decide, by decide, by decide +kernel⟩, by decide⟩, (inT1 (i := 1770) (by decide +kernel) rfl), inT2 (i := 80) (by decide +kernel) rfl⟩
theorem mo_X12_noKerb : MOs m_X12_noKerb 1 := ⟨⟨rfl, (inT1 (i := 1777) (by decide +kernel) rfl), (inT1 (i := 11) (by decide +kernel) rfl), ⟨by decide, by decide, by decide +kernel⟩, by decide⟩, (inT1 (i := 1776) (by decide +kernel) rfl)⟩
theorem mo_X12_drawn : MOv m_X12_drawn 1 := ⟨⟨rfl, (inT1 (i := 1940) (by decide +kernel) rfl), (inT1 (i := 11) (by decide +kernel) rfl), ⟨by decide, by decide, by decide +kernel⟩, by decide⟩, (inT1 (i := 1939) (by decide +kernel) rfl), inT2 (i := 104) (by decide +kernel) rfl⟩
theorem mo_X12_feed : MOv m_X12_feed 5 := ⟨⟨rfl, (inT1 (i := 1552) (by decide +kernel) rfl), (inT1 (i := 11) (by decide +kernel) rfl), ⟨by decide, by decide, by decide +kernel⟩, by decide⟩, (inT1 (i := 1550) (by decide +kernel) rfl), (inT1 (i := 1551) (by decide +kernel) rfl)⟩
theorem mo_X12_end : MOv m_X12_end 1 := ⟨⟨rfl, (inT1 (i := 1556) (by decide +kernel) rfl), (inT1 (i := 11) (by decide +kernel) rfl), ⟨by decide, by decide, by decide +kernel⟩, by decide⟩, (inT1 (i := 1554) (by decide +kernel) rfl), (inT1 (i := 1555) (by decide +kernel) rfl)⟩
theorem mo_X12_isAt : MOv m_X12_isAt 2 := ⟨⟨rfl, (inT1 (i := 1580) (by decide +kernel) rfl), (inT1 (i := 11) (by decide +kernel) rfl), ⟨by decide, by decide, by decide +kernel⟩, by decide⟩, (inT1 (i := 1579) (by decide +kernel) rfl), inT2 (i := 45) (by decide +kernel) rfl⟩
theorem mo_X12_blanks : MOv m_X12_blanks 0 := ⟨⟨rfl, (inT1 (i := 1576) (by decide +kernel) rfl), (inT1 (i := 11) (by decide +kernel) rfl), ⟨by decide, by decide, by decide +kernel⟩, by decide⟩, (inT1 (i := 1575) (by decide +kernel) rfl), inT2 (i := 44) (by decide +kernel) rfl⟩
theorem mo_X12_letters : MOv m_X12_letters 0 := ⟨⟨rfl, (inT1 (i := 1588) (by decide +kernel) rfl), (inT1 (i := 11) (by decide +kernel) rfl), ⟨by decide, by decide, by decide +kernel⟩, by decide⟩, (inT1 (i := 1587) (by decide +kernel) rfl), inT2 (i := 47) (by decide +kernel) rfl⟩
theorem mo_X12_isWord : MOv m_X12_isWord 1 := ⟨⟨rfl, (inT1 (i := 1597) (by decide +kernel) rfl), (inT1 (i := 11) (by decide +kernel) rfl), ⟨by decide, by decide, by decide +kernel⟩, by decide⟩, (inT1 (i := 1596) (by decide +kernel) rfl), inT2 (i := 49) (by decide +kernel) rfl⟩
theorem mo_X12_passes : MOv m_X12_passes 1 := ⟨⟨rfl, (inT1 (i := 1636) (by decide +kernel) rfl), (inT1 (i := 11) (by decide +kernel) rfl), ⟨by decide, by decide, by decide +kernel⟩, by decide⟩, (inT1 (i := 1635) (by decide +kernel) rfl), inT2 (i := 56) (by decide +kernel) rfl⟩
theorem mo_X12_sign : MOv m_X12_sign 1 := ⟨⟨rfl, (inT1 (i := 1687) (by decide +kernel) rfl), (inT1 (i := 11) (by decide +kernel) rfl), ⟨by decide, by decide, by decide +kernel⟩, by decide⟩, (inT1 (i := 1686) (by decide +kernel) rfl), inT2 (i := 65) (by decide +kernel) rfl⟩
theorem mo_X12_number : MOv m_X12_number 2 := ⟨⟨rfl, (inT1 (i := 1616) (by decide +kernel) rfl), (inT1 (i := 11) (by decide +kernel) rfl), ⟨by decide, by decide, by decide +kernel⟩, by decide⟩, (inT1 (i := 1615) (by decide +kernel) rfl), inT2 (i := 53) (by decide +kernel) rfl⟩
theorem mo_X12_numberBehind : MOv m_X12_numberBehind 3 := ⟨⟨rfl, (inT1 (i := 1612) (by decide +kernel) rfl), (inT1 (i := 11) (by decide +kernel) rfl), ⟨by decide, by decide, by decide +kernel⟩, by decide⟩, (inT1 (i := 1611) (by decide +kernel) rfl), inT2 (i := 52) (by decide +kernel) rfl⟩
theorem mo_X12_fault : MOv m_X12_fault 0 := ⟨⟨rfl, (inT1 (i := 1560) (by decide +kernel) rfl), (inT1 (i := 11) (by decide +kernel) rfl), ⟨by decide, by decide, by decide +kernel⟩, by decide⟩, (inT1 (i := 1558) (by decide +kernel) rfl), (inT1 (i := 1559) (by decide +kernel) rfl)⟩
theorem mo_X12_uses : MOv m_X12_uses 0 := ⟨⟨rfl, (inT1 (i := 1572) (by decide +kernel) rfl), (inT1 (i := 11) (by decide +kernel) rfl), ⟨by decide, by decide, by decide +kernel⟩, by decide⟩, (inT1 (i := 1571) (by decide +kernel) rfl), inT2 (i := 43) (by decide +kernel) rfl⟩
theorem mo_X12_readNumber : MOv m_X12_readNumber 3 := ⟨⟨rfl, (inT1 (i := 1659) (by decide +kernel) rfl), (inT1 (i := 11) (by decide +kernel) rfl), ⟨by decide, by decide, by decide +kernel⟩, by decide⟩, (inT1 (i := 1658) (by decide +kernel) rfl), inT2 (i := 60) (by decide +kernel) rfl⟩
theorem mo_X12_readPerson : MOv m_X12_readPerson 0 := ⟨⟨rfl, (inT1 (i := 1603) (by decide +kernel) rfl), (inT1 (i := 11) (by decide +kernel) rfl), ⟨by decide, by decide, by decide +kernel⟩, by decide⟩, (inT1 (i := 1602) (by decide +kernel) rfl), inT2 (i := 50) (by decide +kernel) rfl⟩
theorem mo_X12_readDuty : MOv m_X12_readDuty 0 := ⟨⟨rfl, (inT1 (i := 1625) (by decide +kernel) rfl), (inT1 (i := 11) (by decide +kernel) rfl), ⟨by decide, by decide, by decide +kernel⟩, by decide⟩, (inT1 (i := 1624) (by decide +kernel) rfl), inT2 (i := 54) (by decide +kernel) rfl⟩
theorem mo_X12_readForgotten : MOv m_X12_readForgotten 0 := ⟨⟨rfl, (inT1 (i := 1646) (by decide +kernel) rfl), (inT1 (i := 11) (by decide +kernel) rfl), ⟨by decide, by decide, by decide +kernel⟩, by decide⟩, (inT1 (i := 1645) (by decide +kernel) rfl), inT2 (i := 57) (by decide +kernel) rfl⟩
theorem mo_X12_readStreetLine : MOv m_X12_readStreetLine 0 := ⟨⟨rfl, (inT1 (i := 1592) (by decide +kernel) rfl), (inT1 (i := 11) (by decide +kernel) rfl), ⟨by decide, by decide, by decide +kernel⟩, by decide⟩, (inT1 (i := 1591) (by decide +kernel) rfl), inT2 (i := 48) (by decide +kernel) rfl⟩
theorem mo_X12_emits : MOv m_X12_emits 2 := ⟨⟨rfl, (inT1 (i := 1692) (by decide +kernel) rfl), (inT1 (i := 11) (by decide +kernel) rfl), ⟨by decide, by decide, by decide +kernel⟩, by decide⟩, (inT1 (i := 1691) (by decide +kernel) rfl), inT2 (i := 66) (by decide +kernel) rfl⟩
theorem mo_X12_wordOfPart : MOv m_X12_wordOfPart 0 := ⟨⟨rfl, (inT1 (i := 1710) (by decide +kernel) rfl), (inT1 (i := 11) (by decide +kernel) rfl), ⟨by decide, by decide, by decide +kernel⟩, by decide⟩, (inT1 (i := 1709) (by decide +kernel) rfl), inT2 (i := 70) (by decide +kernel) rfl⟩
theorem mo_X12_readPart : MOv m_X12_readPart 0 := ⟨⟨rfl, (inT1 (i := 1706) (by decide +kernel) rfl), (inT1 (i := 11) (by decide +kernel) rfl), ⟨by decide, by decide, by decide +kernel⟩, by decide⟩, (inT1 (i := 1705) (by decide +kernel) rfl), inT2 (i := 69) (by decide +kernel) rfl⟩
theorem mo_X12_readSum : MOv m_X12_readSum 0 := ⟨⟨rfl, (inT1 (i := 1702) (by decide +kernel) rfl), (inT1 (i := 11) (by decide +kernel) rfl), ⟨by decide, by decide, by decide +kernel⟩, by decide⟩, (inT1 (i := 1701) (by decide +kernel) rfl), inT2 (i := 68) (by decide +kernel) rfl⟩
theorem mo_X12_readTag : MOv m_X12_readTag 0 := ⟨⟨rfl, (inT1 (i := 1696) (by decide +kernel) rfl), (inT1 (i := 11) (by decide +kernel) rfl), ⟨by decide, by decide, by decide +kernel⟩, by decide⟩, (inT1 (i := 1695) (by decide +kernel) rfl), inT2 (i := 67) (by decide +kernel) rfl⟩
theorem mo_X12_readAtom : MOv m_X12_readAtom 0 := ⟨⟨rfl, (inT1 (i := 1683) (by decide +kernel) rfl), (inT1 (i := 11) (by decide +kernel) rfl), ⟨by decide, by decide, by decide +kernel⟩, by decide⟩, (inT1 (i := 1682) (by decide +kernel) rfl), inT2 (i := 64) (by decide +kernel) rfl⟩
theorem mo_X12_readAllOf : MOv m_X12_readAllOf 0 := ⟨⟨rfl, (inT1 (i := 1679) (by decide +kernel) rfl), (inT1 (i := 11) (by decide +kernel) rfl), ⟨by decide, by decide, by decide +kernel⟩, by decide⟩, (inT1 (i := 1678) (by decide +kernel) rfl), inT2 (i := 63) (by decide +kernel) rfl⟩
theorem mo_X12_readCond : MOv m_X12_readCond 0 := ⟨⟨rfl, (inT1 (i := 1675) (by decide +kernel) rfl), (inT1 (i := 11) (by decide +kernel) rfl), ⟨by decide, by decide, by decide +kernel⟩, by decide⟩, (inT1 (i := 1674) (by decide +kernel) rfl), inT2 (i := 62) (by decide +kernel) rfl⟩
theorem mo_X12_readLawLine : MOv m_X12_readLawLine 1 := ⟨⟨rfl, (inT1 (i := 1667) (by decide +kernel) rfl), (inT1 (i := 11) (by decide +kernel) rfl), ⟨by decide, by decide, by decide +kernel⟩, by decide⟩, (inT1 (i := 1666) (by decide +kernel) rfl), inT2 (i := 61) (by decide +kernel) rfl⟩
theorem mo_X12_readLine : MOv m_X12_readLine 2 := ⟨⟨rfl, (inT1 (i := 1584) (by decide +kernel) rfl), (inT1 (i := 11) (by decide +kernel) rfl), ⟨by decide, by decide, by decide +kernel⟩, by decide⟩, (inT1 (i := 1583) (by decide +kernel) rfl), inT2 (i := 46) (by decide +kernel) rfl⟩
theorem mo_X12_readAll : MOv m_X12_readAll 1 := ⟨⟨rfl, (inT1 (i := 1568) (by decide +kernel) rfl), (inT1 (i := 11) (by decide +kernel) rfl), ⟨by decide, by decide, by decide +kernel⟩, by decide⟩, (inT1 (i := 1567) (by decide +kernel) rfl), inT2 (i := 42) (by decide +kernel) rfl⟩
theorem mo_X12_street : MOv m_X12_street 0 := ⟨⟨rfl, (inT1 (i := 1564) (by decide +kernel) rfl), (inT1 (i := 11) (by decide +kernel) rfl), ⟨by decide, by decide, by decide +kernel⟩, by decide⟩, (inT1 (i := 1562) (by decide +kernel) rfl), (inT1 (i := 1563) (by decide +kernel) rfl)⟩
theorem mo_X12_law : MOv m_X12_law 0 := ⟨⟨rfl, (inT1 (i := 1723) (by decide +kernel) rfl), (inT1 (i := 11) (by decide +kernel) rfl), ⟨by decide, by decide, by decide +kernel⟩, by decide⟩, (inT1 (i := 1721) (by decide +kernel) rfl), (inT1 (i := 1722) (by decide +kernel) rfl)⟩
theorem mo_X12_leansWell : MOv m_X12_leansWell 1 := ⟨⟨rfl, (inT1 (i := 1755) (by decide +kernel) rfl), (inT1 (i := 11) (by decide +kernel) rfl), ⟨by decide, by decide, by decide +kernel⟩, by decide⟩, (inT1 (i := 1754) (by decide +kernel) rfl), inT2 (i := 77) (by decide +kernel) rfl⟩
theorem mo_X12_isReady : MOv m_X12_isReady 1 := ⟨⟨rfl, (inT1 (i := 1751) (by decide +kernel) rfl), (inT1 (i := 11) (by decide +kernel) rfl), ⟨by decide, by decide, by decide +kernel⟩, by decide⟩, (inT1 (i := 1750) (by decide +kernel) rfl), inT2 (i := 76) (by decide +kernel) rfl⟩
theorem mo_X12_factOf : MOv m_X12_factOf 3 := ⟨⟨rfl, (inT1 (i := 1871) (by decide +kernel) rfl), (inT1 (i := 11) (by decide +kernel) rfl), ⟨by decide, by decide, by decide +kernel⟩, by decide⟩, (inT1 (i := 1870) (by decide +kernel) rfl), inT2 (i := 96) (by decide +kernel) rfl⟩
theorem mo_X12_holdsLine : MOv m_X12_holdsLine 2 := ⟨⟨rfl, (inT1 (i := 1867) (by decide +kernel) rfl), (inT1 (i := 11) (by decide +kernel) rfl), ⟨by decide, by decide, by decide +kernel⟩, by decide⟩, (inT1 (i := 1866) (by decide +kernel) rfl), inT2 (i := 95) (by decide +kernel) rfl⟩
theorem mo_X12_sumOf : MOv m_X12_sumOf 2 := ⟨⟨rfl, (inT1 (i := 1863) (by decide +kernel) rfl), (inT1 (i := 11) (by decide +kernel) rfl), ⟨by decide, by decide, by decide +kernel⟩, by decide⟩, (inT1 (i := 1862) (by decide +kernel) rfl), inT2 (i := 94) (by decide +kernel) rfl⟩
theorem mo_X12_growsBy : MOv m_X12_growsBy 1 := ⟨⟨rfl, (inT1 (i := 1880) (by decide +kernel) rfl), (inT1 (i := 11) (by decide +kernel) rfl), ⟨by decide, by decide, by decide +kernel⟩, by decide⟩, (inT1 (i := 1879) (by decide +kernel) rfl), inT2 (i := 97) (by decide +kernel) rfl⟩
theorem mo_X12_shamesBy : MOv m_X12_shamesBy 1 := ⟨⟨rfl, (inT1 (i := 1859) (by decide +kernel) rfl), (inT1 (i := 11) (by decide +kernel) rfl), ⟨by decide, by decide, by decide +kernel⟩, by decide⟩, (inT1 (i := 1858) (by decide +kernel) rfl), inT2 (i := 93) (by decide +kernel) rfl⟩
theorem mo_X12_ofState : MOv m_X12_ofState 1 := ⟨⟨rfl, (inT1 (i := 1832) (by decide +kernel) rfl), (inT1 (i := 11) (by decide +kernel) rfl), ⟨by decide, by decide, by decide +kernel⟩, by decide⟩, (inT1 (i := 1831) (by decide +kernel) rfl), inT2 (i := 87) (by decide +kernel) rfl⟩
theorem mo_X12_goesAhead : MOv m_X12_goesAhead 2 := ⟨⟨rfl, (inT1 (i := 1735) (by decide +kernel) rfl), (inT1 (i := 11) (by decide +kernel) rfl), ⟨by decide, by decide, by decide +kernel⟩, by decide⟩, (inT1 (i := 1734) (by decide +kernel) rfl), inT2 (i := 73) (by decide +kernel) rfl⟩
theorem mo_X12_placeOf : MOv m_X12_placeOf 1 := ⟨⟨rfl, (inT1 (i := 1731) (by decide +kernel) rfl), (inT1 (i := 11) (by decide +kernel) rfl), ⟨by decide, by decide, by decide +kernel⟩, by decide⟩, (inT1 (i := 1730) (by decide +kernel) rfl), inT2 (i := 72) (by decide +kernel) rfl⟩
theorem mo_X12_passesBy : MOv m_X12_passesBy 1 := ⟨⟨rfl, (inT1 (i := 1763) (by decide +kernel) rfl), (inT1 (i := 11) (by decide +kernel) rfl), ⟨by decide, by decide, by decide +kernel⟩, by decide⟩, (inT1 (i := 1762) (by decide +kernel) rfl), inT2 (i := 79) (by decide +kernel) rfl⟩
theorem mo_X12_canBeCalled : MOv m_X12_canBeCalled 1 := ⟨⟨rfl, (inT1 (i := 1747) (by decide +kernel) rfl), (inT1 (i := 11) (by decide +kernel) rfl), ⟨by decide, by decide, by decide +kernel⟩, by decide⟩, (inT1 (i := 1746) (by decide +kernel) rfl), inT2 (i := 75) (by decide +kernel) rfl⟩
theorem mo_X12_canOnes : MOv m_X12_canOnes 0 := ⟨⟨rfl, (inT1 (i := 1743) (by decide +kernel) rfl), (inT1 (i := 11) (by decide +kernel) rfl), ⟨by decide, by decide, by decide +kernel⟩, by decide⟩, (inT1 (i := 1742) (by decide +kernel) rfl), inT2 (i := 74) (by decide +kernel) rfl⟩
theorem mo_X12_parade : MOv m_X12_parade 1 := ⟨⟨rfl, (inT1 (i := 1727) (by decide +kernel) rfl), (inT1 (i := 11) (by decide +kernel) rfl), ⟨by decide, by decide, by decide +kernel⟩, by decide⟩, (inT1 (i := 1725) (by decide +kernel) rfl), (inT1 (i := 1726) (by decide +kernel) rfl)⟩
theorem mo_X12_can : MOv m_X12_can 0 := ⟨⟨rfl, (inT1 (i := 1739) (by decide +kernel) rfl), (inT1 (i := 11) (by decide +kernel) rfl), ⟨by decide, by decide, by decide +kernel⟩, by decide⟩, (inT1 (i := 1737) (by decide +kernel) rfl), (inT1 (i := 1738) (by decide +kernel) rfl)⟩
theorem mo_X12_greets : MOv m_X12_greets 2 := ⟨⟨rfl, (inT1 (i := 1767) (by decide +kernel) rfl), (inT1 (i := 11) (by decide +kernel) rfl), ⟨by decide, by decide, by decide +kernel⟩, by decide⟩, (inT1 (i := 1765) (by decide +kernel) rfl), (inT1 (i := 1766) (by decide +kernel) rfl)⟩
theorem mo_X12_whereAt : MOv m_X12_whereAt 2 := ⟨⟨rfl, (inT1 (i := 1788) (by decide +kernel) rfl), (inT1 (i := 11) (by decide +kernel) rfl), ⟨by decide, by decide, by decide +kernel⟩, by decide⟩, (inT1 (i := 1787) (by decide +kernel) rfl), inT2 (i := 81) (by decide +kernel) rfl⟩
theorem mo_X12_noHour : MOs m_X12_noHour 1 := ⟨⟨rfl, (inT1 (i := 1784) (by decide +kernel) rfl), (inT1 (i := 11) (by decide +kernel) rfl), ⟨by decide, by decide, by decide +kernel⟩, by decide⟩, (inT1 (i := 1783) (by decide +kernel) rfl)⟩
theorem mo_X12_where : MOv m_X12_where 2 := ⟨⟨rfl, (inT1 (i := 1781) (by decide +kernel) rfl), (inT1 (i := 11) (by decide +kernel) rfl), ⟨by decide, by decide, by decide +kernel⟩, by decide⟩, (inT1 (i := 1779) (by decide +kernel) rfl), (inT1 (i := 1780) (by decide +kernel) rfl)⟩
theorem mo_X12_crowd : MOv m_X12_crowd 3 := ⟨⟨rfl, (inT1 (i := 1793) (by decide +kernel) rfl), (inT1 (i := 11) (by decide +kernel) rfl), ⟨by decide, by decide, by decide +kernel⟩, by decide⟩, (inT1 (i := 1791) (by decide +kernel) rfl), (inT1 (i := 1792) (by decide +kernel) rfl)⟩
theorem mo_X12_canAll : MOv m_X12_canAll 1 := ⟨⟨rfl, (inT1 (i := 1802) (by decide +kernel) rfl), (inT1 (i := 11) (by decide +kernel) rfl), ⟨by decide, by decide, by decide +kernel⟩, by decide⟩, (inT1 (i := 1801) (by decide +kernel) rfl), inT2 (i := 82) (by decide +kernel) rfl⟩
theorem mo_X12_most : MOv m_X12_most 0 := ⟨⟨rfl, (inT1 (i := 1797) (by decide +kernel) rfl), (inT1 (i := 11) (by decide +kernel) rfl), ⟨by decide, by decide, by decide +kernel⟩, by decide⟩, (inT1 (i := 1795) (by decide +kernel) rfl), (inT1 (i := 1796) (by decide +kernel) rfl)⟩
theorem mo_X12_ownedBy : MOv m_X12_ownedBy 1 := ⟨⟨rfl, (inT1 (i := 1820) (by decide +kernel) rfl), (inT1 (i := 11) (by decide +kernel) rfl), ⟨by decide, by decide, by decide +kernel⟩, by decide⟩, (inT1 (i := 1819) (by decide +kernel) rfl), inT2 (i := 84) (by decide +kernel) rfl⟩
theorem mo_X12_hoursOf : MOv m_X12_hoursOf 1 := ⟨⟨rfl, (inT1 (i := 1836) (by decide +kernel) rfl), (inT1 (i := 11) (by decide +kernel) rfl), ⟨by decide, by decide, by decide +kernel⟩, by decide⟩, (inT1 (i := 1835) (by decide +kernel) rfl), inT2 (i := 88) (by decide +kernel) rfl⟩
theorem mo_X12_shameOf : MOv m_X12_shameOf 1 := ⟨⟨rfl, (inT1 (i := 1855) (by decide +kernel) rfl), (inT1 (i := 11) (by decide +kernel) rfl), ⟨by decide, by decide, by decide +kernel⟩, by decide⟩, (inT1 (i := 1854) (by decide +kernel) rfl), inT2 (i := 92) (by decide +kernel) rfl⟩
theorem mo_X12_waitingOf : MOv m_X12_waitingOf 1 := ⟨⟨rfl, (inT1 (i := 1828) (by decide +kernel) rfl), (inT1 (i := 11) (by decide +kernel) rfl), ⟨by decide, by decide, by decide +kernel⟩, by decide⟩, (inT1 (i := 1827) (by decide +kernel) rfl), inT2 (i := 86) (by decide +kernel) rfl⟩
theorem mo_X12_loadOf : MOv m_X12_loadOf 1 := ⟨⟨rfl, (inT1 (i := 1824) (by decide +kernel) rfl), (inT1 (i := 11) (by decide +kernel) rfl), ⟨by decide, by decide, by decide +kernel⟩, by decide⟩, (inT1 (i := 1823) (by decide +kernel) rfl), inT2 (i := 85) (by decide +kernel) rfl⟩
theorem mo_X12_daysFor : MOs m_X12_daysFor 2 := ⟨⟨rfl, (inT1 (i := 1847) (by decide +kernel) rfl), (inT1 (i := 11) (by decide +kernel) rfl), ⟨by decide, by decide, by decide +kernel⟩, by decide⟩, (inT1 (i := 1846) (by decide +kernel) rfl)⟩
theorem mo_X12_needsOf : MOv m_X12_needsOf 1 := ⟨⟨rfl, (inT1 (i := 1840) (by decide +kernel) rfl), (inT1 (i := 11) (by decide +kernel) rfl), ⟨by decide, by decide, by decide +kernel⟩, by decide⟩, (inT1 (i := 1839) (by decide +kernel) rfl), inT2 (i := 89) (by decide +kernel) rfl⟩
theorem mo_X12_shareOf : MOv m_X12_shareOf 1 := ⟨⟨rfl, (inT1 (i := 1851) (by decide +kernel) rfl), (inT1 (i := 11) (by decide +kernel) rfl), ⟨by decide, by decide, by decide +kernel⟩, by decide⟩, (inT1 (i := 1850) (by decide +kernel) rfl), inT2 (i := 91) (by decide +kernel) rfl⟩
theorem mo_X12_person : MOv m_X12_person 2 := ⟨⟨rfl, (inT1 (i := 1812) (by decide +kernel) rfl), (inT1 (i := 11) (by decide +kernel) rfl), ⟨by decide, by decide, by decide +kernel⟩, by decide⟩, (inT1 (i := 1810) (by decide +kernel) rfl), (inT1 (i := 1811) (by decide +kernel) rfl)⟩
theorem mo_X12_duty : MOv m_X12_duty 2 := ⟨⟨rfl, (inT1 (i := 1876) (by decide +kernel) rfl), (inT1 (i := 11) (by decide +kernel) rfl), ⟨by decide, by decide, by decide +kernel⟩, by decide⟩, (inT1 (i := 1874) (by decide +kernel) rfl), (inT1 (i := 1875) (by decide +kernel) rfl)⟩
theorem mo_X12_isNow : MOv m_X12_isNow 2 := ⟨⟨rfl, (inT1 (i := 1896) (by decide +kernel) rfl), (inT1 (i := 11) (by decide +kernel) rfl), ⟨by decide, by decide, by decide +kernel⟩, by decide⟩, (inT1 (i := 1895) (by decide +kernel) rfl), inT2 (i := 100) (by decide +kernel) rfl⟩
theorem mo_X12_finishes : MOv m_X12_finishes 1 := ⟨⟨rfl, (inT1 (i := 1892) (by decide +kernel) rfl), (inT1 (i := 11) (by decide +kernel) rfl), ⟨by decide, by decide, by decide +kernel⟩, by decide⟩, (inT1 (i := 1891) (by decide +kernel) rfl), inT2 (i := 99) (by decide +kernel) rfl⟩
theorem mo_X12_call : MOv m_X12_call 1 := ⟨⟨rfl, (inT1 (i := 1884) (by decide +kernel) rfl), (inT1 (i := 11) (by decide +kernel) rfl), ⟨by decide, by decide, by decide +kernel⟩, by decide⟩, (inT1 (i := 1882) (by decide +kernel) rfl), (inT1 (i := 1883) (by decide +kernel) rfl)⟩
theorem mo_X12_put : MOv m_X12_put 1 := ⟨⟨rfl, (inT1 (i := 1900) (by decide +kernel) rfl), (inT1 (i := 11) (by decide +kernel) rfl), ⟨by decide, by decide, by decide +kernel⟩, by decide⟩, (inT1 (i := 1898) (by decide +kernel) rfl), (inT1 (i := 1899) (by decide +kernel) rfl)⟩
theorem mo_X12_forget : MOv m_X12_forget 1 := ⟨⟨rfl, (inT1 (i := 1904) (by decide +kernel) rfl), (inT1 (i := 11) (by decide +kernel) rfl), ⟨by decide, by decide, by decide +kernel⟩, by decide⟩, (inT1 (i := 1902) (by decide +kernel) rfl), (inT1 (i := 1903) (by decide +kernel) rfl)⟩
theorem mo_X12_recall : MOv m_X12_recall 1 := ⟨⟨rfl, (inT1 (i := 1908) (by decide +kernel) rfl), (inT1 (i := 11) (by decide +kernel) rfl), ⟨by decide, by decide, by decide +kernel⟩, by decide⟩, (inT1 (i := 1906) (by decide +kernel) rfl), (inT1 (i := 1907) (by decide +kernel) rfl)⟩
theorem mo_X12_hand : MOv m_X12_hand 2 := ⟨⟨rfl, (inT1 (i := 1916) (by decide +kernel) rfl), (inT1 (i := 11) (by decide +kernel) rfl), ⟨by decide, by decide, by decide +kernel⟩, by decide⟩, (inT1 (i := 1914) (by decide +kernel) rfl), (inT1 (i := 1915) (by decide +kernel) rfl)⟩
theorem mo_X12_lean : MOv m_X12_lean 2 := ⟨⟨rfl, (inT1 (i := 1920) (by decide +kernel) rfl), (inT1 (i := 11) (by decide +kernel) rfl), ⟨by decide, by decide, by decide +kernel⟩, by decide⟩, (inT1 (i := 1918) (by decide +kernel) rfl), (inT1 (i := 1919) (by decide +kernel) rfl)⟩
theorem mo_X12_free : MOv m_X12_free 2 := ⟨⟨rfl, (inT1 (i := 1924) (by decide +kernel) rfl), (inT1 (i := 11) (by decide +kernel) rfl), ⟨by decide, by decide, by decide +kernel⟩, by decide⟩, (inT1 (i := 1922) (by decide +kernel) rfl), (inT1 (i := 1923) (by decide +kernel) rfl)⟩
theorem mo_X12_hasTool : MOv m_X12_hasTool 2 := ⟨⟨rfl, (inT1 (i := 1949) (by decide +kernel) rfl), (inT1 (i := 11) (by decide +kernel) rfl), ⟨by decide, by decide, by decide +kernel⟩, by decide⟩, (inT1 (i := 1948) (by decide +kernel) rfl), inT2 (i := 106) (by decide +kernel) rfl⟩
theorem mo_X12_works : MOv m_X12_works 1 := ⟨⟨rfl, (inT1 (i := 1945) (by decide +kernel) rfl), (inT1 (i := 11) (by decide +kernel) rfl), ⟨by decide, by decide, by decide +kernel⟩, by decide⟩, (inT1 (i := 1944) (by decide +kernel) rfl), inT2 (i := 105) (by decide +kernel) rfl⟩
theorem mo_X12_growsOlder : MOv m_X12_growsOlder 1 := ⟨⟨rfl, (inT1 (i := 1953) (by decide +kernel) rfl), (inT1 (i := 11) (by decide +kernel) rfl), ⟨by decide, by decide, by decide +kernel⟩, by decide⟩, (inT1 (i := 1952) (by decide +kernel) rfl), inT2 (i := 107) (by decide +kernel) rfl⟩
theorem mo_X12_tells : MOv m_X12_tells 2 := ⟨⟨rfl, (inT1 (i := 1961) (by decide +kernel) rfl), (inT1 (i := 11) (by decide +kernel) rfl), ⟨by decide, by decide, by decide +kernel⟩, by decide⟩, (inT1 (i := 1960) (by decide +kernel) rfl), inT2 (i := 109) (by decide +kernel) rfl⟩
theorem mo_X12_goesBy : MOv m_X12_goesBy 0 := ⟨⟨rfl, (inT1 (i := 1957) (by decide +kernel) rfl), (inT1 (i := 11) (by decide +kernel) rfl), ⟨by decide, by decide, by decide +kernel⟩, by decide⟩, (inT1 (i := 1956) (by decide +kernel) rfl), inT2 (i := 108) (by decide +kernel) rfl⟩
theorem mo_X12_oneDay : MOv m_X12_oneDay 1 := ⟨⟨rfl, (inT1 (i := 1936) (by decide +kernel) rfl), (inT1 (i := 11) (by decide +kernel) rfl), ⟨by decide, by decide, by decide +kernel⟩, by decide⟩, (inT1 (i := 1935) (by decide +kernel) rfl), inT2 (i := 103) (by decide +kernel) rfl⟩
theorem mo_X12_goesOn : MOv m_X12_goesOn 2 := ⟨⟨rfl, (inT1 (i := 1932) (by decide +kernel) rfl), (inT1 (i := 11) (by decide +kernel) rfl), ⟨by decide, by decide, by decide +kernel⟩, by decide⟩, (inT1 (i := 1931) (by decide +kernel) rfl), inT2 (i := 102) (by decide +kernel) rfl⟩
theorem mo_X12_keepsAll : MOv m_X12_keepsAll 0 := ⟨⟨rfl, (inT1 (i := 1972) (by decide +kernel) rfl), (inT1 (i := 11) (by decide +kernel) rfl), ⟨by decide, by decide, by decide +kernel⟩, by decide⟩, (inT1 (i := 1971) (by decide +kernel) rfl), inT2 (i := 110) (by decide +kernel) rfl⟩
theorem mo_X12_bringsBack : MOv m_X12_bringsBack 0 := ⟨⟨rfl, (inT1 (i := 1976) (by decide +kernel) rfl), (inT1 (i := 11) (by decide +kernel) rfl), ⟨by decide, by decide, by decide +kernel⟩, by decide⟩, (inT1 (i := 1975) (by decide +kernel) rfl), inT2 (i := 111) (by decide +kernel) rfl⟩
theorem mo_X12_days : MOv m_X12_days 1 := ⟨⟨rfl, (inT1 (i := 1928) (by decide +kernel) rfl), (inT1 (i := 11) (by decide +kernel) rfl), ⟨by decide, by decide, by decide +kernel⟩, by decide⟩, (inT1 (i := 1926) (by decide +kernel) rfl), (inT1 (i := 1927) (by decide +kernel) rfl)⟩
theorem mo_X12_noDays : MOs m_X12_noDays 1 := ⟨⟨rfl, (inT1 (i := 1968) (by decide +kernel) rfl), (inT1 (i := 11) (by decide +kernel) rfl), ⟨by decide, by decide, by decide +kernel⟩, by decide⟩, (inT1 (i := 1967) (by decide +kernel) rfl)⟩
theorem mo_X12_ahead : MOv m_X12_ahead 3 := ⟨⟨rfl, (inT1 (i := 1965) (by decide +kernel) rfl), (inT1 (i := 11) (by decide +kernel) rfl), ⟨by decide, by decide, by decide +kernel⟩, by decide⟩, (inT1 (i := 1963) (by decide +kernel) rfl), (inT1 (i := 1964) (by decide +kernel) rfl)⟩
theorem mo_X12_overIn : MOv m_X12_overIn 2 := ⟨⟨rfl, (inT1 (i := 1984) (by decide +kernel) rfl), (inT1 (i := 11) (by decide +kernel) rfl), ⟨by decide, by decide, by decide +kernel⟩, by decide⟩, (inT1 (i := 1983) (by decide +kernel) rfl), inT2 (i := 112) (by decide +kernel) rfl⟩
theorem mo_X12_allDuties : MOv m_X12_allDuties 0 := ⟨⟨rfl, (inT1 (i := 2000) (by decide +kernel) rfl), (inT1 (i := 11) (by decide +kernel) rfl), ⟨by decide, by decide, by decide +kernel⟩, by decide⟩, (inT1 (i := 1999) (by decide +kernel) rfl), inT2 (i := 114) (by decide +kernel) rfl⟩
theorem mo_X12_allOver : MOv m_X12_allOver 0 := ⟨⟨rfl, (inT1 (i := 1996) (by decide +kernel) rfl), (inT1 (i := 11) (by decide +kernel) rfl), ⟨by decide, by decide, by decide +kernel⟩, by decide⟩, (inT1 (i := 1995) (by decide +kernel) rfl), inT2 (i := 113) (by decide +kernel) rfl⟩
theorem mo_X12_orNone : MOs m_X12_orNone 1 := ⟨⟨rfl, (inT1 (i := 1988) (by decide +kernel) rfl), (inT1 (i := 11) (by decide +kernel) rfl), ⟨by decide, by decide, by decide +kernel⟩, by decide⟩, (inT1 (i := 1987) (by decide +kernel) rfl)⟩
theorem mo_X12_done : MOv m_X12_done 1 := ⟨⟨rfl, (inT1 (i := 1980) (by decide +kernel) rfl), (inT1 (i := 11) (by decide +kernel) rfl), ⟨by decide, by decide, by decide +kernel⟩, by decide⟩, (inT1 (i := 1978) (by decide +kernel) rfl), (inT1 (i := 1979) (by decide +kernel) rfl)⟩
theorem mo_X12_all : MOv m_X12_all 0 := ⟨⟨rfl, (inT1 (i := 1992) (by decide +kernel) rfl), (inT1 (i := 11) (by decide +kernel) rfl), ⟨by decide, by decide, by decide +kernel⟩, by decide⟩, (inT1 (i := 1990) (by decide +kernel) rfl), (inT1 (i := 1991) (by decide +kernel) rfl)⟩
theorem mo_X12_overWith : MOv m_X12_overWith 2 := ⟨⟨rfl, (inT1 (i := 2008) (by decide +kernel) rfl), (inT1 (i := 11) (by decide +kernel) rfl), ⟨by decide, by decide, by decide +kernel⟩, by decide⟩, (inT1 (i := 2007) (by decide +kernel) rfl), inT2 (i := 115) (by decide +kernel) rfl⟩
theorem mo_X12_help : MOv m_X12_help 0 := ⟨⟨rfl, (inT1 (i := 2004) (by decide +kernel) rfl), (inT1 (i := 11) (by decide +kernel) rfl), ⟨by decide, by decide, by decide +kernel⟩, by decide⟩, (inT1 (i := 2002) (by decide +kernel) rfl), (inT1 (i := 2003) (by decide +kernel) rfl)⟩
theorem mo_X12_crux : MOv m_X12_crux 0 := ⟨⟨rfl, (inT1 (i := 2012) (by decide +kernel) rfl), (inT1 (i := 11) (by decide +kernel) rfl), ⟨by decide, by decide, by decide +kernel⟩, by decide⟩, (inT1 (i := 2010) (by decide +kernel) rfl), (inT1 (i := 2011) (by decide +kernel) rfl)⟩
theorem mo_X12_sick : MOv m_X12_sick 1 := ⟨⟨rfl, (inT1 (i := 2016) (by decide +kernel) rfl), (inT1 (i := 11) (by decide +kernel) rfl), ⟨by decide, by decide, by decide +kernel⟩, by decide⟩, (inT1 (i := 2014) (by decide +kernel) rfl), (inT1 (i := 2015) (by decide +kernel) rfl)⟩
theorem mo_X12_beforeOf : MOv m_X12_beforeOf 1 := ⟨⟨rfl, (inT1 (i := 2028) (by decide +kernel) rfl), (inT1 (i := 11) (by decide +kernel) rfl), ⟨by decide, by decide, by decide +kernel⟩, by decide⟩, (inT1 (i := 2027) (by decide +kernel) rfl), inT2 (i := 117) (by decide +kernel) rfl⟩
theorem mo_X12_ringOnes : MOv m_X12_ringOnes 0 := ⟨⟨rfl, (inT1 (i := 2024) (by decide +kernel) rfl), (inT1 (i := 11) (by decide +kernel) rfl), ⟨by decide, by decide, by decide +kernel⟩, by decide⟩, (inT1 (i := 2023) (by decide +kernel) rfl), inT2 (i := 116) (by decide +kernel) rfl⟩
theorem mo_X12_ring : MOv m_X12_ring 0 := ⟨⟨rfl, (inT1 (i := 2020) (by decide +kernel) rfl), (inT1 (i := 11) (by decide +kernel) rfl), ⟨by decide, by decide, by decide +kernel⟩, by decide⟩, (inT1 (i := 2018) (by decide +kernel) rfl), (inT1 (i := 2019) (by decide +kernel) rfl)⟩
theorem mo_X12_before : MOv m_X12_before 1 := ⟨⟨rfl, (inT1 (i := 2032) (by decide +kernel) rfl), (inT1 (i := 11) (by decide +kernel) rfl), ⟨by decide, by decide, by decide +kernel⟩, by decide⟩, (inT1 (i := 2030) (by decide +kernel) rfl), (inT1 (i := 2031) (by decide +kernel) rfl)⟩
theorem mo_X12_after : MOv m_X12_after 1 := ⟨⟨rfl, (inT1 (i := 2036) (by decide +kernel) rfl), (inT1 (i := 11) (by decide +kernel) rfl), ⟨by decide, by decide, by decide +kernel⟩, by decide⟩, (inT1 (i := 2034) (by decide +kernel) rfl), (inT1 (i := 2035) (by decide +kernel) rfl)⟩
theorem mo_X12_depth : MOv m_X12_depth 1 := ⟨⟨rfl, (inT1 (i := 2040) (by decide +kernel) rfl), (inT1 (i := 11) (by decide +kernel) rfl), ⟨by decide, by decide, by decide +kernel⟩, by decide⟩, (inT1 (i := 2038) (by decide +kernel) rfl), (inT1 (i := 2039) (by decide +kernel) rfl)⟩
theorem mo_X12_chainOf : MOv m_X12_chainOf 1 := ⟨⟨rfl, (inT1 (i := 2052) (by decide +kernel) rfl), (inT1 (i := 11) (by decide +kernel) rfl), ⟨by decide, by decide, by decide +kernel⟩, by decide⟩, (inT1 (i := 2051) (by decide +kernel) rfl), inT2 (i := 119) (by decide +kernel) rfl⟩
theorem mo_X12_soonOf : MOv m_X12_soonOf 1 := ⟨⟨rfl, (inT1 (i := 2048) (by decide +kernel) rfl), (inT1 (i := 11) (by decide +kernel) rfl), ⟨by decide, by decide, by decide +kernel⟩, by decide⟩, (inT1 (i := 2047) (by decide +kernel) rfl), inT2 (i := 118) (by decide +kernel) rfl⟩
theorem mo_X12_soon : MOv m_X12_soon 1 := ⟨⟨rfl, (inT1 (i := 2044) (by decide +kernel) rfl), (inT1 (i := 11) (by decide +kernel) rfl), ⟨by decide, by decide, by decide +kernel⟩, by decide⟩, (inT1 (i := 2042) (by decide +kernel) rfl), (inT1 (i := 2043) (by decide +kernel) rfl)⟩
theorem mo_X12_longest : MOv m_X12_longest 0 := ⟨⟨rfl, (inT1 (i := 2056) (by decide +kernel) rfl), (inT1 (i := 11) (by decide +kernel) rfl), ⟨by decide, by decide, by decide +kernel⟩, by decide⟩, (inT1 (i := 2054) (by decide +kernel) rfl), (inT1 (i := 2055) (by decide +kernel) rfl)⟩
theorem mo_X12_olderOnes : MOv m_X12_olderOnes 1 := ⟨⟨rfl, (inT1 (i := 2064) (by decide +kernel) rfl), (inT1 (i := 11) (by decide +kernel) rfl), ⟨by decide, by decide, by decide +kernel⟩, by decide⟩, (inT1 (i := 2063) (by decide +kernel) rfl), inT2 (i := 120) (by decide +kernel) rfl⟩
theorem mo_X12_young : MOv m_X12_young 1 := ⟨⟨rfl, (inT1 (i := 2060) (by decide +kernel) rfl), (inT1 (i := 11) (by decide +kernel) rfl), ⟨by decide, by decide, by decide +kernel⟩, by decide⟩, (inT1 (i := 2058) (by decide +kernel) rfl), (inT1 (i := 2059) (by decide +kernel) rfl)⟩
theorem mo_X12_older : MOv m_X12_older 1 := ⟨⟨rfl, (inT1 (i := 2068) (by decide +kernel) rfl), (inT1 (i := 11) (by decide +kernel) rfl), ⟨by decide, by decide, by decide +kernel⟩, by decide⟩, (inT1 (i := 2066) (by decide +kernel) rfl), (inT1 (i := 2067) (by decide +kernel) rfl)⟩
theorem mo_X12_leanWithin : MOv m_X12_leanWithin 1 := ⟨⟨rfl, (inT1 (i := 2080) (by decide +kernel) rfl), (inT1 (i := 11) (by decide +kernel) rfl), ⟨by decide, by decide, by decide +kernel⟩, by decide⟩, (inT1 (i := 2079) (by decide +kernel) rfl), inT2 (i := 122) (by decide +kernel) rfl⟩
theorem mo_X12_toDo : MOv m_X12_toDo 1 := ⟨⟨rfl, (inT1 (i := 2076) (by decide +kernel) rfl), (inT1 (i := 11) (by decide +kernel) rfl), ⟨by decide, by decide, by decide +kernel⟩, by decide⟩, (inT1 (i := 2075) (by decide +kernel) rfl), inT2 (i := 121) (by decide +kernel) rfl⟩
theorem mo_X12_does : MOv m_X12_does 2 := ⟨⟨rfl, (inT1 (i := 2072) (by decide +kernel) rfl), (inT1 (i := 11) (by decide +kernel) rfl), ⟨by decide, by decide, by decide +kernel⟩, by decide⟩, (inT1 (i := 2070) (by decide +kernel) rfl), (inT1 (i := 2071) (by decide +kernel) rfl)⟩
theorem mo_X12_isTold : MOv m_X12_isTold 0 := ⟨⟨rfl, (inT1 (i := 2088) (by decide +kernel) rfl), (inT1 (i := 11) (by decide +kernel) rfl), ⟨by decide, by decide, by decide +kernel⟩, by decide⟩, (inT1 (i := 2087) (by decide +kernel) rfl), inT2 (i := 123) (by decide +kernel) rfl⟩
theorem mo_X12_allThatFit : MOv m_X12_allThatFit 0 := ⟨⟨rfl, (inT1 (i := 2092) (by decide +kernel) rfl), (inT1 (i := 11) (by decide +kernel) rfl), ⟨by decide, by decide, by decide +kernel⟩, by decide⟩, (inT1 (i := 2091) (by decide +kernel) rfl), inT2 (i := 124) (by decide +kernel) rfl⟩
theorem mo_X12_whose : MOv m_X12_whose 0 := ⟨⟨rfl, (inT1 (i := 2084) (by decide +kernel) rfl), (inT1 (i := 11) (by decide +kernel) rfl), ⟨by decide, by decide, by decide +kernel⟩, by decide⟩, (inT1 (i := 2082) (by decide +kernel) rfl), (inT1 (i := 2083) (by decide +kernel) rfl)⟩
theorem mo_X12_ask : MOv m_X12_ask 0 := ⟨⟨rfl, (inT1 (i := 2096) (by decide +kernel) rfl), (inT1 (i := 11) (by decide +kernel) rfl), ⟨by decide, by decide, by decide +kernel⟩, by decide⟩, (inT1 (i := 2094) (by decide +kernel) rfl), (inT1 (i := 2095) (by decide +kernel) rfl)⟩
theorem mo_X12_isGap : MOv m_X12_isGap 1 := ⟨⟨rfl, (inT1 (i := 2104) (by decide +kernel) rfl), (inT1 (i := 11) (by decide +kernel) rfl), ⟨by decide, by decide, by decide +kernel⟩, by decide⟩, (inT1 (i := 2103) (by decide +kernel) rfl), inT2 (i := 125) (by decide +kernel) rfl⟩
theorem mo_X12_gap : MOv m_X12_gap 0 := ⟨⟨rfl, (inT1 (i := 2100) (by decide +kernel) rfl), (inT1 (i := 11) (by decide +kernel) rfl), ⟨by decide, by decide, by decide +kernel⟩, by decide⟩, (inT1 (i := 2098) (by decide +kernel) rfl), (inT1 (i := 2099) (by decide +kernel) rfl)⟩
theorem mo_X12_lost : MOv m_X12_lost 0 := ⟨⟨rfl, (inT1 (i := 2108) (by decide +kernel) rfl), (inT1 (i := 11) (by decide +kernel) rfl), ⟨by decide, by decide, by decide +kernel⟩, by decide⟩, (inT1 (i := 2106) (by decide +kernel) rfl), (inT1 (i := 2107) (by decide +kernel) rfl)⟩
theorem mo_X12_missed : MOv m_X12_missed 0 := ⟨⟨rfl, (inT1 (i := 2112) (by decide +kernel) rfl), (inT1 (i := 11) (by decide +kernel) rfl), ⟨by decide, by decide, by decide +kernel⟩, by decide⟩, (inT1 (i := 2110) (by decide +kernel) rfl), (inT1 (i := 2111) (by decide +kernel) rfl)⟩
theorem mo_X12_serves : MOv m_X12_serves 4 := ⟨⟨rfl, (inT1 (i := 2120) (by decide +kernel) rfl), (inT1 (i := 11) (by decide +kernel) rfl), ⟨by decide, by decide, by decide +kernel⟩, by decide⟩, (inT1 (i := 2119) (by decide +kernel) rfl), inT2 (i := 126) (by decide +kernel) rfl⟩
theorem mo_X12_swap : MOv m_X12_swap 2 := ⟨⟨rfl, (inT1 (i := 2116) (by decide +kernel) rfl), (inT1 (i := 11) (by decide +kernel) rfl), ⟨by decide, by decide, by decide +kernel⟩, by decide⟩, (inT1 (i := 2114) (by decide +kernel) rfl), (inT1 (i := 2115) (by decide +kernel) rfl)⟩
theorem mo_X12_hasBy : MOv m_X12_hasBy 3 := ⟨⟨rfl, (inT1 (i := 2128) (by decide +kernel) rfl), (inT1 (i := 11) (by decide +kernel) rfl), ⟨by decide, by decide, by decide +kernel⟩, by decide⟩, (inT1 (i := 2127) (by decide +kernel) rfl), inT2 (i := 127) (by decide +kernel) rfl⟩
theorem mo_X12_rests : MOv m_X12_rests 3 := ⟨⟨rfl, (inT1 (i := 2124) (by decide +kernel) rfl), (inT1 (i := 11) (by decide +kernel) rfl), ⟨by decide, by decide, by decide +kernel⟩, by decide⟩, (inT1 (i := 2122) (by decide +kernel) rfl), (inT1 (i := 2123) (by decide +kernel) rfl)⟩
theorem mo_X12_sponsor : MOv m_X12_sponsor 0 := ⟨⟨rfl, (inT1 (i := 2132) (by decide +kernel) rfl), (inT1 (i := 11) (by decide +kernel) rfl), ⟨by decide, by decide, by decide +kernel⟩, by decide⟩, (inT1 (i := 2130) (by decide +kernel) rfl), (inT1 (i := 2131) (by decide +kernel) rfl)⟩
theorem mo_X12_idle : MOv m_X12_idle 0 := ⟨⟨rfl, (inT1 (i := 2136) (by decide +kernel) rfl), (inT1 (i := 11) (by decide +kernel) rfl), ⟨by decide, by decide, by decide +kernel⟩, by decide⟩, (inT1 (i := 2134) (by decide +kernel) rfl), (inT1 (i := 2135) (by decide +kernel) rfl)⟩
theorem mo_X12_worst : MOv m_X12_worst 0 := ⟨⟨rfl, (inT1 (i := 2140) (by decide +kernel) rfl), (inT1 (i := 11) (by decide +kernel) rfl), ⟨by decide, by decide, by decide +kernel⟩, by decide⟩, (inT1 (i := 2138) (by decide +kernel) rfl), (inT1 (i := 2139) (by decide +kernel) rfl)⟩
theorem mo_X12_alike : MOv m_X12_alike 0 := ⟨⟨rfl, (inT1 (i := 2144) (by decide +kernel) rfl), (inT1 (i := 11) (by decide +kernel) rfl), ⟨by decide, by decide, by decide +kernel⟩, by decide⟩, (inT1 (i := 2142) (by decide +kernel) rfl), (inT1 (i := 2143) (by decide +kernel) rfl)⟩
theorem mo_X12_oddsOf : MOv m_X12_oddsOf 3 := ⟨⟨rfl, (inT1 (i := 2152) (by decide +kernel) rfl), (inT1 (i := 11) (by decide +kernel) rfl), ⟨by decide, by decide, by decide +kernel⟩, by decide⟩, (inT1 (i := 2151) (by decide +kernel) rfl), inT2 (i := 128) (by decide +kernel) rfl⟩
theorem mo_X12_odds : MOv m_X12_odds 2 := ⟨⟨rfl, (inT1 (i := 2148) (by decide +kernel) rfl), (inT1 (i := 11) (by decide +kernel) rfl), ⟨by decide, by decide, by decide +kernel⟩, by decide⟩, (inT1 (i := 2146) (by decide +kernel) rfl), (inT1 (i := 2147) (by decide +kernel) rfl)⟩
theorem mo_X12_spare : MOv m_X12_spare 2 := ⟨⟨rfl, (inT1 (i := 2158) (by decide +kernel) rfl), (inT1 (i := 11) (by decide +kernel) rfl), ⟨by decide, by decide, by decide +kernel⟩, by decide⟩, (inT1 (i := 2156) (by decide +kernel) rfl), (inT1 (i := 2157) (by decide +kernel) rfl)⟩
theorem mo_X12_trial : MOv m_X12_trial 2 := ⟨⟨rfl, (inT1 (i := 2162) (by decide +kernel) rfl), (inT1 (i := 11) (by decide +kernel) rfl), ⟨by decide, by decide, by decide +kernel⟩, by decide⟩, (inT1 (i := 2160) (by decide +kernel) rfl), (inT1 (i := 2161) (by decide +kernel) rfl)⟩
theorem mo_X12_span : MOv m_X12_span 2 := ⟨⟨rfl, (inT1 (i := 2166) (by decide +kernel) rfl), (inT1 (i := 11) (by decide +kernel) rfl), ⟨by decide, by decide, by decide +kernel⟩, by decide⟩, (inT1 (i := 2164) (by decide +kernel) rfl), (inT1 (i := 2165) (by decide +kernel) rfl)⟩
theorem mo_X12_ofLog : MOv m_X12_ofLog 2 := ⟨⟨rfl, (inT1 (i := 2174) (by decide +kernel) rfl), (inT1 (i := 11) (by decide +kernel) rfl), ⟨by decide, by decide, by decide +kernel⟩, by decide⟩, (inT1 (i := 2173) (by decide +kernel) rfl), inT2 (i := 129) (by decide +kernel) rfl⟩
theorem mo_X12_led : MOv m_X12_led 2 := ⟨⟨rfl, (inT1 (i := 2170) (by decide +kernel) rfl), (inT1 (i := 11) (by decide +kernel) rfl), ⟨by decide, by decide, by decide +kernel⟩, by decide⟩, (inT1 (i := 2168) (by decide +kernel) rfl), (inT1 (i := 2169) (by decide +kernel) rfl)⟩
theorem mo_X12_log : MOv m_X12_log 2 := ⟨⟨rfl, (inT1 (i := 2178) (by decide +kernel) rfl), (inT1 (i := 11) (by decide +kernel) rfl), ⟨by decide, by decide, by decide +kernel⟩, by decide⟩, (inT1 (i := 2176) (by decide +kernel) rfl), (inT1 (i := 2177) (by decide +kernel) rfl)⟩
theorem mo_X12_seed : MOv m_X12_seed 1 := ⟨⟨rfl, (inT1 (i := 2182) (by decide +kernel) rfl), (inT1 (i := 11) (by decide +kernel) rfl), ⟨by decide, by decide, by decide +kernel⟩, by decide⟩, (inT1 (i := 2180) (by decide +kernel) rfl), (inT1 (i := 2181) (by decide +kernel) rfl)⟩
theorem mo_X12_readyOnes : MOv m_X12_readyOnes 0 := ⟨⟨rfl, (inT1 (i := 2190) (by decide +kernel) rfl), (inT1 (i := 11) (by decide +kernel) rfl), ⟨by decide, by decide, by decide +kernel⟩, by decide⟩, (inT1 (i := 2189) (by decide +kernel) rfl), inT2 (i := 130) (by decide +kernel) rfl⟩
theorem mo_X12_count : MOv m_X12_count 1 := ⟨⟨rfl, (inT1 (i := 2186) (by decide +kernel) rfl), (inT1 (i := 11) (by decide +kernel) rfl), ⟨by decide, by decide, by decide +kernel⟩, by decide⟩, (inT1 (i := 2184) (by decide +kernel) rfl), (inT1 (i := 2185) (by decide +kernel) rfl)⟩
theorem mo_J6_bitCount_0f7a4 : MOs m_J6_bitCount_0f7a4 1 := ⟨⟨rfl, (inT1 (i := 480) (by decide +kernel) rfl), (inT1 (i := 27) (by decide +kernel) rfl), ⟨by decide, by decide, by decide +kernel⟩, by decide⟩, (inT1 (i := 479) (by decide +kernel) rfl)⟩
theorem mo_J0_length_8abf5 : MOv m_J0_length_8abf5 0 := ⟨⟨rfl, (inT1 (i := 729) (by decide +kernel) rfl), (inT1 (i := 14) (by decide +kernel) rfl), ⟨by decide, by decide, by decide +kernel⟩, by decide⟩, (inT1 (i := 727) (by decide +kernel) rfl), (inT1 (i := 728) (by decide +kernel) rfl)⟩
theorem mo_J0_charAt_5068e : MOv m_J0_charAt_5068e 1 := ⟨⟨rfl, (inT1 (i := 739) (by decide +kernel) rfl), (inT1 (i := 14) (by decide +kernel) rfl), ⟨by decide, by decide, by decide +kernel⟩, by decide⟩, (inT1 (i := 737) (by decide +kernel) rfl), (inT1 (i := 738) (by decide +kernel) rfl)⟩
theorem mo_J0_coder_7d493 : MOv m_J0_coder_7d493 0 := ⟨⟨rfl, (inT1 (i := 733) (by decide +kernel) rfl), (inT1 (i := 14) (by decide +kernel) rfl), ⟨by decide, by decide, by decide +kernel⟩, by decide⟩, (inT1 (i := 731) (by decide +kernel) rfl), (inT1 (i := 732) (by decide +kernel) rfl)⟩
theorem mo_J0_isLatin1_aae02 : MOv m_J0_isLatin1_aae02 0 := ⟨⟨rfl, (inT1 (i := 743) (by decide +kernel) rfl), (inT1 (i := 14) (by decide +kernel) rfl), ⟨by decide, by decide, by decide +kernel⟩, by decide⟩, (inT1 (i := 741) (by decide +kernel) rfl), (inT1 (i := 742) (by decide +kernel) rfl)⟩
theorem mo_J0_checkIndex_df160 : MOs m_J0_checkIndex_df160 2 := ⟨⟨rfl, (inT1 (i := 749) (by decide +kernel) rfl), (inT1 (i := 14) (by decide +kernel) rfl), ⟨by decide, by decide, by decide +kernel⟩, by decide⟩, (inT1 (i := 748) (by decide +kernel) rfl)⟩
theorem mo_J1_charAt_3b067 : MOs m_J1_charAt_3b067 2 := ⟨⟨rfl, (inT1 (i := 746) (by decide +kernel) rfl), (inT1 (i := 15) (by decide +kernel) rfl), ⟨by decide, by decide, by decide +kernel⟩, by decide⟩, (inT1 (i := 745) (by decide +kernel) rfl)⟩
theorem mo_J2_getChar_3b067 : MOs m_J2_getChar_3b067 2 := ⟨⟨rfl, (inT1 (i := 767) (by decide +kernel) rfl), (inT1 (i := 17) (by decide +kernel) rfl), ⟨by decide, by decide, by decide +kernel⟩, by decide⟩, (inT1 (i := 766) (by decide +kernel) rfl)⟩
theorem mo_J2_length_9d52b : MOs m_J2_length_9d52b 1 := ⟨⟨rfl, (inT1 (i := 763) (by decide +kernel) rfl), (inT1 (i := 17) (by decide +kernel) rfl), ⟨by decide, by decide, by decide +kernel⟩, by decide⟩, (inT1 (i := 762) (by decide +kernel) rfl)⟩
theorem mo_J2_charAt_3b067 : MOs m_J2_charAt_3b067 2 := ⟨⟨rfl, (inT1 (i := 757) (by decide +kernel) rfl), (inT1 (i := 17) (by decide +kernel) rfl), ⟨by decide, by decide, by decide +kernel⟩, by decide⟩, (inT1 (i := 756) (by decide +kernel) rfl)⟩
theorem mo_J2_checkIndex_2214a : MOs m_J2_checkIndex_2214a 2 := ⟨⟨rfl, (inT1 (i := 760) (by decide +kernel) rfl), (inT1 (i := 17) (by decide +kernel) rfl), ⟨by decide, by decide, by decide +kernel⟩, by decide⟩, (inT1 (i := 759) (by decide +kernel) rfl)⟩
theorem mo_J3_checkIndex_8e157 : MOs m_J3_checkIndex_8e157 3 := ⟨⟨rfl, (inT1 (i := 754) (by decide +kernel) rfl), (inT1 (i := 16) (by decide +kernel) rfl), ⟨by decide, by decide, by decide +kernel⟩, by decide⟩, (inT1 (i := 753) (by decide +kernel) rfl)⟩
theorem mo_L_street : MOw m_L_street 2 := ⟨by decide, (inT1 (i := 682) (by decide +kernel) rfl), (inT1 (i := 0) (by decide +kernel) rfl), ⟨by decide, by decide, by decide +kernel⟩, by decide, (inT1 (i := 681) (by decide +kernel) rfl)⟩
theorem mo_L_law : MOw m_L_law 2 := ⟨by decide, (inT1 (i := 1032) (by decide +kernel) rfl), (inT1 (i := 0) (by decide +kernel) rfl), ⟨by decide, by decide, by decide +kernel⟩, by decide, (inT1 (i := 1031) (by decide +kernel) rfl)⟩
theorem mo_L_person : MOw m_L_person 4 := ⟨by decide, (inT1 (i := 1046) (by decide +kernel) rfl), (inT1 (i := 0) (by decide +kernel) rfl), ⟨by decide, by decide, by decide +kernel⟩, by decide, (inT1 (i := 1045) (by decide +kernel) rfl)⟩
theorem mo_L_duty : MOw m_L_duty 4 := ⟨by decide, (inT1 (i := 1097) (by decide +kernel) rfl), (inT1 (i := 0) (by decide +kernel) rfl), ⟨by decide, by decide, by decide +kernel⟩, by decide, (inT1 (i := 1096) (by decide +kernel) rfl)⟩
theorem mo_L_call : MOw m_L_call 3 := ⟨by decide, (inT1 (i := 1112) (by decide +kernel) rfl), (inT1 (i := 0) (by decide +kernel) rfl), ⟨by decide, by decide, by decide +kernel⟩, by decide, (inT1 (i := 1111) (by decide +kernel) rfl)⟩
theorem mo_L_put : MOw m_L_put 3 := ⟨by decide, (inT1 (i := 1140) (by decide +kernel) rfl), (inT1 (i := 0) (by decide +kernel) rfl), ⟨by decide, by decide, by decide +kernel⟩, by decide, (inT1 (i := 1139) (by decide +kernel) rfl)⟩
theorem mo_L_forget : MOw m_L_forget 3 := ⟨by decide, (inT1 (i := 1152) (by decide +kernel) rfl), (inT1 (i := 0) (by decide +kernel) rfl), ⟨by decide, by decide, by decide +kernel⟩, by decide, (inT1 (i := 1151) (by decide +kernel) rfl)⟩
theorem mo_L_recall : MOw m_L_recall 3 := ⟨by decide, (inT1 (i := 1159) (by decide +kernel) rfl), (inT1 (i := 0) (by decide +kernel) rfl), ⟨by decide, by decide, by decide +kernel⟩, by decide, (inT1 (i := 1158) (by decide +kernel) rfl)⟩
theorem mo_L_hand : MOw m_L_hand 4 := ⟨by decide, (inT1 (i := 1166) (by decide +kernel) rfl), (inT1 (i := 0) (by decide +kernel) rfl), ⟨by decide, by decide, by decide +kernel⟩, by decide, (inT1 (i := 1165) (by decide +kernel) rfl)⟩
theorem mo_L_lean : MOw m_L_lean 4 := ⟨by decide, (inT1 (i := 1176) (by decide +kernel) rfl), (inT1 (i := 0) (by decide +kernel) rfl), ⟨by decide, by decide, by decide +kernel⟩, by decide, (inT1 (i := 1175) (by decide +kernel) rfl)⟩
theorem mo_L_free : MOw m_L_free 4 := ⟨by decide, (inT1 (i := 1183) (by decide +kernel) rfl), (inT1 (i := 0) (by decide +kernel) rfl), ⟨by decide, by decide, by decide +kernel⟩, by decide, (inT1 (i := 1182) (by decide +kernel) rfl)⟩
theorem mo_L_days : MOw m_L_days 3 := ⟨by decide, (inT1 (i := 1193) (by decide +kernel) rfl), (inT1 (i := 0) (by decide +kernel) rfl), ⟨by decide, by decide, by decide +kernel⟩, by decide, (inT1 (i := 1192) (by decide +kernel) rfl)⟩
theorem mo_L_greets : MOw m_L_greets 4 := ⟨by decide, (inT1 (i := 1212) (by decide +kernel) rfl), (inT1 (i := 0) (by decide +kernel) rfl), ⟨by decide, by decide, by decide +kernel⟩, by decide, (inT1 (i := 1211) (by decide +kernel) rfl)⟩
theorem mo_L_where : MOw m_L_where 4 := ⟨by decide, (inT1 (i := 1222) (by decide +kernel) rfl), (inT1 (i := 0) (by decide +kernel) rfl), ⟨by decide, by decide, by decide +kernel⟩, by decide, (inT1 (i := 1221) (by decide +kernel) rfl)⟩
theorem mo_L_crowd : MOw m_L_crowd 5 := ⟨by decide, (inT1 (i := 1233) (by decide +kernel) rfl), (inT1 (i := 0) (by decide +kernel) rfl), ⟨by decide, by decide, by decide +kernel⟩, by decide, (inT1 (i := 1232) (by decide +kernel) rfl)⟩
theorem mo_L_does : MOw m_L_does 4 := ⟨by decide, (inT1 (i := 1240) (by decide +kernel) rfl), (inT1 (i := 0) (by decide +kernel) rfl), ⟨by decide, by decide, by decide +kernel⟩, by decide, (inT1 (i := 1239) (by decide +kernel) rfl)⟩
theorem mo_L_soon : MOw m_L_soon 3 := ⟨by decide, (inT1 (i := 1258) (by decide +kernel) rfl), (inT1 (i := 0) (by decide +kernel) rfl), ⟨by decide, by decide, by decide +kernel⟩, by decide, (inT1 (i := 1257) (by decide +kernel) rfl)⟩
theorem mo_L_before : MOw m_L_before 3 := ⟨by decide, (inT1 (i := 1265) (by decide +kernel) rfl), (inT1 (i := 0) (by decide +kernel) rfl), ⟨by decide, by decide, by decide +kernel⟩, by decide, (inT1 (i := 1264) (by decide +kernel) rfl)⟩
theorem mo_L_after : MOw m_L_after 3 := ⟨by decide, (inT1 (i := 1273) (by decide +kernel) rfl), (inT1 (i := 0) (by decide +kernel) rfl), ⟨by decide, by decide, by decide +kernel⟩, by decide, (inT1 (i := 1272) (by decide +kernel) rfl)⟩
theorem mo_L_depth : MOw m_L_depth 3 := ⟨by decide, (inT1 (i := 1283) (by decide +kernel) rfl), (inT1 (i := 0) (by decide +kernel) rfl), ⟨by decide, by decide, by decide +kernel⟩, by decide, (inT1 (i := 1282) (by decide +kernel) rfl)⟩
theorem mo_L_young : MOw m_L_young 3 := ⟨by decide, (inT1 (i := 1290) (by decide +kernel) rfl), (inT1 (i := 0) (by decide +kernel) rfl), ⟨by decide, by decide, by decide +kernel⟩, by decide, (inT1 (i := 1289) (by decide +kernel) rfl)⟩
theorem mo_L_older : MOw m_L_older 3 := ⟨by decide, (inT1 (i := 1301) (by decide +kernel) rfl), (inT1 (i := 0) (by decide +kernel) rfl), ⟨by decide, by decide, by decide +kernel⟩, by decide, (inT1 (i := 1300) (by decide +kernel) rfl)⟩
theorem mo_L_whose : MOw m_L_whose 2 := ⟨by decide, (inT1 (i := 1308) (by decide +kernel) rfl), (inT1 (i := 0) (by decide +kernel) rfl), ⟨by decide, by decide, by decide +kernel⟩, by decide, (inT1 (i := 1307) (by decide +kernel) rfl)⟩
theorem mo_L_ask : MOw m_L_ask 2 := ⟨by decide, (inT1 (i := 1328) (by decide +kernel) rfl), (inT1 (i := 0) (by decide +kernel) rfl), ⟨by decide, by decide, by decide +kernel⟩, by decide, (inT1 (i := 1327) (by decide +kernel) rfl)⟩
theorem mo_L_swap : MOw m_L_swap 4 := ⟨by decide, (inT1 (i := 1339) (by decide +kernel) rfl), (inT1 (i := 0) (by decide +kernel) rfl), ⟨by decide, by decide, by decide +kernel⟩, by decide, (inT1 (i := 1338) (by decide +kernel) rfl)⟩
theorem mo_L_rests : MOw m_L_rests 5 := ⟨by decide, (inT1 (i := 1355) (by decide +kernel) rfl), (inT1 (i := 0) (by decide +kernel) rfl), ⟨by decide, by decide, by decide +kernel⟩, by decide, (inT1 (i := 1354) (by decide +kernel) rfl)⟩
theorem mo_L_odds : MOw m_L_odds 4 := ⟨by decide, (inT1 (i := 1371) (by decide +kernel) rfl), (inT1 (i := 0) (by decide +kernel) rfl), ⟨by decide, by decide, by decide +kernel⟩, by decide, (inT1 (i := 1370) (by decide +kernel) rfl)⟩
theorem mo_L_spare : MOw m_L_spare 4 := ⟨by decide, (inT1 (i := 1385) (by decide +kernel) rfl), (inT1 (i := 0) (by decide +kernel) rfl), ⟨by decide, by decide, by decide +kernel⟩, by decide, (inT1 (i := 1384) (by decide +kernel) rfl)⟩
theorem mo_L_done : MOw m_L_done 3 := ⟨by decide, (inT1 (i := 1396) (by decide +kernel) rfl), (inT1 (i := 0) (by decide +kernel) rfl), ⟨by decide, by decide, by decide +kernel⟩, by decide, (inT1 (i := 1395) (by decide +kernel) rfl)⟩
theorem mo_L_sick : MOw m_L_sick 3 := ⟨by decide, (inT1 (i := 1407) (by decide +kernel) rfl), (inT1 (i := 0) (by decide +kernel) rfl), ⟨by decide, by decide, by decide +kernel⟩, by decide, (inT1 (i := 1406) (by decide +kernel) rfl)⟩
theorem mo_L_ahead : MOw m_L_ahead 5 := ⟨by decide, (inT1 (i := 1414) (by decide +kernel) rfl), (inT1 (i := 0) (by decide +kernel) rfl), ⟨by decide, by decide, by decide +kernel⟩, by decide, (inT1 (i := 1413) (by decide +kernel) rfl)⟩
theorem mo_L_trial : MOw m_L_trial 4 := ⟨by decide, (inT1 (i := 1421) (by decide +kernel) rfl), (inT1 (i := 0) (by decide +kernel) rfl), ⟨by decide, by decide, by decide +kernel⟩, by decide, (inT1 (i := 1420) (by decide +kernel) rfl)⟩
theorem mo_L_span : MOw m_L_span 4 := ⟨by decide, (inT1 (i := 1432) (by decide +kernel) rfl), (inT1 (i := 0) (by decide +kernel) rfl), ⟨by decide, by decide, by decide +kernel⟩, by decide, (inT1 (i := 1431) (by decide +kernel) rfl)⟩
theorem mo_L_led : MOw m_L_led 4 := ⟨by decide, (inT1 (i := 1439) (by decide +kernel) rfl), (inT1 (i := 0) (by decide +kernel) rfl), ⟨by decide, by decide, by decide +kernel⟩, by decide, (inT1 (i := 1438) (by decide +kernel) rfl)⟩
theorem mo_L_log : MOw m_L_log 4 := ⟨by decide, (inT1 (i := 1459) (by decide +kernel) rfl), (inT1 (i := 0) (by decide +kernel) rfl), ⟨by decide, by decide, by decide +kernel⟩, by decide, (inT1 (i := 1458) (by decide +kernel) rfl)⟩
theorem lX11_1 : inT (.methodLink RX11 1 Lib.objectInit) := (inT1 (i := 35) (by decide +kernel) rfl)
theorem lX11_9 : LKn RX11 9 m_X7_init := ⟨"PutOffParade", inT0 (i := 40) (by decide +kernel)⟩
theorem lX11_18 : LK RX11 18 m_X6_init := (inT1 (i := 56) (by decide +kernel) rfl)
theorem lX11_25 : LK RX11 25 m_X3_init := (inT1 (i := 244) (by decide +kernel) rfl)
theorem lX11_36 : LKn RX11 36 m_X5_init := ⟨"PutOffParade", inT0 (i := 300) (by decide +kernel)⟩
theorem lX11_43 : LKn RX11 43 m_X2_init := ⟨"PutOffParade", inT0 (i := 302) (by decide +kernel)⟩
theorem lX11_50 : LKn RX11 50 m_X0_init := ⟨"PutOffParade", inT0 (i := 305) (by decide +kernel)⟩
theorem lX11_71 : LK RX11 71 m_X7_append := (inT1 (i := 364) (by decide +kernel) rfl)
theorem lX11_78 : LK RX11 78 m_X5_copyFrom := (inT1 (i := 586) (by decide +kernel) rfl)
theorem lX11_100 : LK RX11 100 m_X2_clear := (inT1 (i := 1037) (by decide +kernel) rfl)
theorem lX11_104 : LK RX11 104 m_X2_copyFrom := (inT1 (i := 671) (by decide +kernel) rfl)
theorem lX11_110 : LK RX11 110 m_X11_needPerson := (inT1 (i := 1053) (by decide +kernel) rfl)
theorem lX11_117 : LK RX11 117 m_X11_at := (inT1 (i := 543) (by decide +kernel) rfl)
theorem lX11_124 : LK RX11 124 m_X5_ownedBy := (inT1 (i := 1072) (by decide +kernel) rfl)
theorem lX11_128 : LK RX11 128 m_X5_loadOf := (inT1 (i := 560) (by decide +kernel) rfl)
theorem lX11_131 : LK RX11 131 m_X11_needsOf := (inT1 (i := 1073) (by decide +kernel) rfl)
theorem lX11_135 : LK RX11 135 m_X11_shareOf := (inT1 (i := 1076) (by decide +kernel) rfl)
theorem lX11_141 : LK RX11 141 m_X11_needDuty := (inT1 (i := 1102) (by decide +kernel) rfl)
theorem lX11_162 : LK RX11 162 m_X5_isReady := (inT1 (i := 1106) (by decide +kernel) rfl)
theorem lX11_166 : LK RX11 166 m_X2_growthOf := (inT1 (i := 1107) (by decide +kernel) rfl)
theorem lX11_170 : LK RX11 170 m_X2_shameOf := (inT1 (i := 573) (by decide +kernel) rfl)
theorem lX11_173 : LK RX11 173 m_X5_placeOf := (inT1 (i := 1108) (by decide +kernel) rfl)
theorem lX11_176 : LK RX11 176 m_X5_passesOf := (inT1 (i := 1109) (by decide +kernel) rfl)
theorem lX11_200 : LK RX11 200 m_X5_bitsIn := (inT1 (i := 380) (by decide +kernel) rfl)
theorem lX11_203 : LK RX11 203 m_X5_readyBits := (inT1 (i := 390) (by decide +kernel) rfl)
theorem lX11_207 : LK RX11 207 m_X11_shameOfWaiting := (inT1 (i := 406) (by decide +kernel) rfl)
theorem lX11_220 : LK RX11 220 m_X5_canBits := (inT1 (i := 465) (by decide +kernel) rfl)
theorem lX11_223 : LK RX11 223 m_X11_has := (inT1 (i := 1118) (by decide +kernel) rfl)
theorem lX11_230 : LK RX11 230 m_X11_rememberAct := (inT1 (i := 1134) (by decide +kernel) rfl)
theorem lX11_233 : LK RX11 233 m_X5_finish := (inT1 (i := 644) (by decide +kernel) rfl)
theorem lX11_236 : LK RX11 236 m_X11_needState := (inT1 (i := 1145) (by decide +kernel) rfl)
theorem lX11_240 : LK RX11 240 m_X5_growOlder := (inT1 (i := 1149) (by decide +kernel) rfl)
theorem lX11_243 : LK RX11 243 m_X11_setAt := (inT1 (i := 639) (by decide +kernel) rfl)
theorem lX11_247 : LK RX11 247 m_X11_needTwo := (inT1 (i := 1171) (by decide +kernel) rfl)
theorem lX11_250 : LK RX11 250 m_X11_needNumber := (inT1 (i := 1188) (by decide +kernel) rfl)
theorem lX11_254 : LK RX11 254 m_X5_passDay := (inT1 (i := 1198) (by decide +kernel) rfl)
theorem lX11_258 : LK RX11 258 m_X11_letParadeGoBy := (inT1 (i := 1199) (by decide +kernel) rfl)
theorem lX11_261 : LK RX11 261 m_J6_bitCount_0f7a4 := (inT1 (i := 1209) (by decide +kernel) rfl)
theorem lX11_266 : LK RX11 266 m_X5_dutyAt := (inT1 (i := 453) (by decide +kernel) rfl)
theorem lX11_269 : LK RX11 269 m_X11_needKerb := (inT1 (i := 1217) (by decide +kernel) rfl)
theorem lX11_272 : LK RX11 272 m_X5_kerbAt := (inT1 (i := 1227) (by decide +kernel) rfl)
theorem lX11_275 : LK RX11 275 m_X0_mostCalled := (inT1 (i := 488) (by decide +kernel) rfl)
theorem lX11_278 : LK RX11 278 m_X0_leastShame := (inT1 (i := 1245) (by decide +kernel) rfl)
theorem lX11_282 : LK RX11 282 m_X2_shameOfSet := (inT1 (i := 410) (by decide +kernel) rfl)
theorem lX11_285 : LK RX11 285 m_X4_hoursTill := (inT1 (i := 507) (by decide +kernel) rfl)
theorem lX11_290 : inT (.methodLink RX11 290 Lib.Math.max.name) := (inT1 (i := 527) (by decide +kernel) rfl)
theorem lX11_295 : LK RX11 295 m_X4_ringBits := (inT1 (i := 532) (by decide +kernel) rfl)
theorem lX11_298 : LK RX11 298 m_X4_chainOf := (inT1 (i := 1270) (by decide +kernel) rfl)
theorem lX11_301 : LK RX11 301 m_X4_leaningOn := (inT1 (i := 1278) (by decide +kernel) rfl)
theorem lX11_304 : LK RX11 304 m_X4_hoursTillYoung := (inT1 (i := 1295) (by decide +kernel) rfl)
theorem lX11_307 : LK RX11 307 m_X5_olderThan := (inT1 (i := 541) (by decide +kernel) rfl)
theorem lX11_310 : LK RX11 310 m_X11_takeWhoFits := (inT1 (i := 1313) (by decide +kernel) rfl)
theorem lX11_313 : LK RX11 313 m_X11_kerbToAskFor := (inT1 (i := 1333) (by decide +kernel) rfl)
theorem lX11_316 : LK RX11 316 m_X11_isGap := (inT1 (i := 537) (by decide +kernel) rfl)
theorem lX11_319 : LK RX11 319 m_X11_bit := (inT1 (i := 417) (by decide +kernel) rfl)
theorem lX11_322 : LK RX11 322 m_X0_firstSwap := (inT1 (i := 1344) (by decide +kernel) rfl)
theorem lX11_326 : LK RX11 326 m_X0_restingChoices := (inT1 (i := 1360) (by decide +kernel) rfl)
theorem lX11_329 : LK RX11 329 m_X5_isWaiting := (inT1 (i := 542) (by decide +kernel) rfl)
theorem lX11_332 : LK RX11 332 m_X5_areAlike := (inT1 (i := 578) (by decide +kernel) rfl)
theorem lX11_335 : LK RX11 335 m_X0_oddsOf := (inT1 (i := 1376) (by decide +kernel) rfl)
theorem lX11_339 : LK RX11 339 m_X0_daysToLeaveFree := (inT1 (i := 1390) (by decide +kernel) rfl)
theorem lX11_342 : LK RX11 342 m_X5_daysTillDone := (inT1 (i := 1401) (by decide +kernel) rfl)
theorem lX11_346 : LK RX11 346 m_X5_daysTillNoneWaits := (inT1 (i := 599) (by decide +kernel) rfl)
theorem lX11_350 : inT (.methodLink RX11 350 Lib.Math.min.name) := (inT1 (i := 593) (by decide +kernel) rfl)
theorem lX11_356 : LK RX11 356 m_X11_shameTriedOut := (inT1 (i := 1426) (by decide +kernel) rfl)
theorem lX11_359 : LK RX11 359 m_X1_latestMonthOf := (inT1 (i := 1444) (by decide +kernel) rfl)
theorem lX11_362 : LK RX11 362 m_X1_rowsOf := (inT1 (i := 1453) (by decide +kernel) rfl)
theorem lX11_365 : LK RX11 365 m_X1_valueOf := (inT1 (i := 1464) (by decide +kernel) rfl)
theorem lX11_371 : LK RX11 371 m_X11_pastAt := (inT1 (i := 653) (by decide +kernel) rfl)
theorem lX11_375 : LK RX11 375 m_X5_copyAll := (inT1 (i := 657) (by decide +kernel) rfl)
theorem lX11_385 : LK RX11 385 m_X1_add := (inT1 (i := 1203) (by decide +kernel) rfl)
theorem lX11_389 : LK RX11 389 m_X11_whoFits := (inT1 (i := 1317) (by decide +kernel) rfl)
theorem lX11_392 : LK RX11 392 m_X7_byteAt := (inT1 (i := 1321) (by decide +kernel) rfl)
theorem lX11_395 : LK RX11 395 m_X5_standingBetween := (inT1 (i := 1322) (by decide +kernel) rfl)
theorem lX11_398 : inT (.methodLink RX11 398 arraycopyName) := (inT1 (i := 596) (by decide +kernel) rfl)
theorem lX0_3 : inT (.methodLink RX0 3 Lib.objectInit) := (inT1 (i := 308) (by decide +kernel) rfl)
theorem lX0_18 : LK RX0 18 m_X5_canBits := (inT1 (i := 492) (by decide +kernel) rfl)
theorem lX0_28 : LK RX0 28 m_X5_placeOf := (inT1 (i := 493) (by decide +kernel) rfl)
theorem lX0_32 : LKn RX0 32 m_X11_setAt := ⟨"PutOffParade", inT0 (i := 494) (by decide +kernel)⟩
theorem lX0_36 : LK RX0 36 m_J6_bitCount_0f7a4 := (inT1 (i := 495) (by decide +kernel) rfl)
theorem lX0_41 : LK RX0 41 m_X0_canBeCalledTogether := (inT1 (i := 496) (by decide +kernel) rfl)
theorem lX0_45 : LKn RX0 45 m_X11_has := ⟨"PutOffParade", inT0 (i := 500) (by decide +kernel)⟩
theorem lX0_52 : LKn RX0 52 m_X11_at := ⟨"PutOffParade", inT0 (i := 501) (by decide +kernel)⟩
theorem lX0_56 : LKn RX0 56 m_X11_bit := ⟨"PutOffParade", inT0 (i := 502) (by decide +kernel)⟩
theorem lX0_59 : LK RX0 59 m_X5_bitsIn := (inT1 (i := 1249) (by decide +kernel) rfl)
theorem lX0_62 : LK RX0 62 m_X2_shameOf := (inT1 (i := 1250) (by decide +kernel) rfl)
theorem lX0_71 : LKn RX0 71 m_X11_sumOver := ⟨"PutOffParade", inT0 (i := 1251) (by decide +kernel)⟩
theorem lX0_74 : LK RX0 74 m_X0_leansWithin := (inT1 (i := 1252) (by decide +kernel) rfl)
theorem lX0_77 : LK RX0 77 m_X5_leansFreely := (inT1 (i := 1255) (by decide +kernel) rfl)
theorem lX0_84 : LK RX0 84 m_X5_ownedBy := (inT1 (i := 1347) (by decide +kernel) rfl)
theorem lX0_87 : LK RX0 87 m_X0_gainOf := (inT1 (i := 1348) (by decide +kernel) rfl)
theorem lX0_91 : LK RX0 91 m_X5_loadOf := (inT1 (i := 1351) (by decide +kernel) rfl)
theorem lX0_97 : LKn RX0 97 m_X11_needsOf := ⟨"PutOffParade", inT0 (i := 1352) (by decide +kernel)⟩
theorem lX0_101 : LK RX0 101 m_X0_isBest := (inT1 (i := 1363) (by decide +kernel) rfl)
theorem lX0_105 : LK RX0 105 m_X0_payOf := (inT1 (i := 1366) (by decide +kernel) rfl)
theorem lX0_109 : LK RX0 109 m_X0_power := (inT1 (i := 1379) (by decide +kernel) rfl)
theorem lX0_115 : LK RX0 115 m_X0_oddsOf := (inT1 (i := 1393) (by decide +kernel) rfl)
theorem lX1_3 : inT (.methodLink RX1 3 Lib.objectInit) := (inT1 (i := 119) (by decide +kernel) rfl)
theorem lX1_22 : LKn RX1 22 m_X11_copyRow := ⟨"PutOffParade", inT0 (i := 666) (by decide +kernel)⟩
theorem lX1_26 : LKn RX1 26 m_X11_setAt := ⟨"PutOffParade", inT0 (i := 1207) (by decide +kernel)⟩
theorem lX1_30 : inT (.methodLink RX1 30 Lib.Math.min.name) := (inT1 (i := 1208) (by decide +kernel) rfl)
theorem lX1_36 : LKn RX1 36 m_X11_at := ⟨"PutOffParade", inT0 (i := 1452) (by decide +kernel)⟩
theorem lX1_40 : LK RX1 40 m_X1_valueOf := (inT1 (i := 1448) (by decide +kernel) rfl)
theorem lX2_5 : inT (.methodLink RX2 5 Lib.objectInit) := (inT1 (i := 253) (by decide +kernel) rfl)
theorem lX2_37 : LKn RX2 37 m_X11_copyRow := ⟨"PutOffParade", inT0 (i := 675) (by decide +kernel)⟩
theorem lX2_44 : LKn RX2 44 m_X11_setAt := ⟨"PutOffParade", inT0 (i := 431) (by decide +kernel)⟩
theorem lX2_48 : LK RX2 48 m_X2_takeParts := (inT1 (i := 422) (by decide +kernel) rfl)
theorem lX2_52 : LK RX2 52 m_X2_sumOfLines := (inT1 (i := 435) (by decide +kernel) rfl)
theorem lX2_61 : LKn RX2 61 m_X11_at := ⟨"PutOffParade", inT0 (i := 426) (by decide +kernel)⟩
theorem lX2_65 : inT (.methodLink RX2 65 Lib.Math.max.name) := (inT1 (i := 446) (by decide +kernel) rfl)
theorem lX2_74 : LKn RX2 74 m_X11_has := ⟨"PutOffParade", inT0 (i := 414) (by decide +kernel)⟩
theorem lX2_78 : LK RX2 78 m_X2_shameOf := (inT1 (i := 418) (by decide +kernel) rfl)
theorem lX2_88 : LK RX2 88 m_X2_setPart := (inT1 (i := 427) (by decide +kernel) rfl)
theorem lX2_101 : LK RX2 101 m_X5_leansFreely := (inT1 (i := 434) (by decide +kernel) rfl)
theorem lX2_105 : LK RX2 105 m_X2_holds := (inT1 (i := 439) (by decide +kernel) rfl)
theorem lX2_108 : LK RX2 108 m_X2_joined := (inT1 (i := 443) (by decide +kernel) rfl)
theorem lX3_5 : LK RX3 5 m_X8_init := (inT1 (i := 247) (by decide +kernel) rfl)
theorem lX3_11 : LKn RX3 11 m_X2_init := ⟨"PutOffParade", inT0 (i := 250) (by decide +kernel)⟩
theorem lX3_24 : LK RX3 24 m_X3_takeKind := (inT1 (i := 793) (by decide +kernel) rfl)
theorem lX3_32 : LK RX3 32 m_X9_takeNumber := (inT1 (i := 807) (by decide +kernel) rfl)
theorem lX3_38 : LK RX3 38 m_X2_openLine := (inT1 (i := 811) (by decide +kernel) rfl)
theorem lX3_48 : LK RX3 48 m_X9_takeWord := (inT1 (i := 799) (by decide +kernel) rfl)
theorem lX3_52 : LK RX3 52 m_X3_readCondition := (inT1 (i := 817) (by decide +kernel) rfl)
theorem lX3_56 : LK RX3 56 m_X2_closeLine := (inT1 (i := 879) (by decide +kernel) rfl)
theorem lX3_75 : LK RX3 75 m_X3_openDeeper := (inT1 (i := 821) (by decide +kernel) rfl)
theorem lX3_78 : LK RX3 78 m_X3_readAtom := (inT1 (i := 837) (by decide +kernel) rfl)
theorem lX3_81 : LK RX3 81 m_X3_closeDeeper := (inT1 (i := 862) (by decide +kernel) rfl)
theorem lX3_84 : LK RX3 84 m_X3_joinAtHand := (inT1 (i := 871) (by decide +kernel) rfl)
theorem lX3_87 : LK RX3 87 m_X3_emitHeld := (inT1 (i := 866) (by decide +kernel) rfl)
theorem lX3_90 : LK RX3 90 m_X3_hold := (inT1 (i := 831) (by decide +kernel) rfl)
theorem lX3_93 : LK RX3 93 m_X9_next := (inT1 (i := 836) (by decide +kernel) rfl)
theorem lX3_108 : LK RX3 108 m_X9_isSign := (inT1 (i := 827) (by decide +kernel) rfl)
theorem lX3_112 : LKn RX3 112 m_X11_setAt := ⟨"PutOffParade", inT0 (i := 835) (by decide +kernel)⟩
theorem lX3_116 : LKn RX3 116 m_X11_at := ⟨"PutOffParade", inT0 (i := 870) (by decide +kernel)⟩
theorem lX3_120 : LK RX3 120 m_X2_emit := (inT1 (i := 843) (by decide +kernel) rfl)
theorem lX3_129 : LK RX3 129 m_X3_readSum := (inT1 (i := 849) (by decide +kernel) rfl)
theorem lX3_132 : LK RX3 132 m_X9_takeSign := (inT1 (i := 857) (by decide +kernel) rfl)
theorem lX3_135 : LK RX3 135 m_X3_partAtHand := (inT1 (i := 853) (by decide +kernel) rfl)
theorem lX4_15 : LKn RX4 15 m_X11_at := ⟨"PutOffParade", inT0 (i := 515) (by decide +kernel)⟩
theorem lX4_19 : LKn RX4 19 m_X11_bit := ⟨"PutOffParade", inT0 (i := 511) (by decide +kernel)⟩
theorem lX4_27 : LK RX4 27 m_X4_chainOf := (inT1 (i := 512) (by decide +kernel) rfl)
theorem lX4_33 : LKn RX4 33 m_X11_has := ⟨"PutOffParade", inT0 (i := 522) (by decide +kernel)⟩
theorem lX4_37 : LK RX4 37 m_X5_isWaiting := (inT1 (i := 510) (by decide +kernel) rfl)
theorem lX4_41 : LK RX4 41 m_X4_hoursOf := (inT1 (i := 516) (by decide +kernel) rfl)
theorem lX4_44 : LK RX4 44 m_X5_olderThan := (inT1 (i := 1298) (by decide +kernel) rfl)
theorem lX4_47 : LK RX4 47 m_X5_bitsIn := (inT1 (i := 523) (by decide +kernel) rfl)
theorem lX4_50 : LK RX4 50 m_X4_ringBits := (inT1 (i := 519) (by decide +kernel) rfl)
theorem lX4_57 : LKn RX4 57 m_X11_sumOver := ⟨"PutOffParade", inT0 (i := 524) (by decide +kernel)⟩
theorem lX5_3 : inT (.methodLink RX5 3 Lib.objectInit) := (inT1 (i := 113) (by decide +kernel) rfl)
theorem lX5_51 : LKn RX5 51 m_X1_init := ⟨"PutOffParade", inT0 (i := 116) (by decide +kernel)⟩
theorem lX5_59 : LKn RX5 59 m_X11_copyRow := ⟨"PutOffParade", inT0 (i := 590) (by decide +kernel)⟩
theorem lX5_75 : LK RX5 75 m_X5_copyFrom := (inT1 (i := 661) (by decide +kernel) rfl)
theorem lX5_79 : LK RX5 79 m_X1_copyFrom := (inT1 (i := 662) (by decide +kernel) rfl)
theorem lX5_82 : LKn RX5 82 m_X11_setAt := ⟨"PutOffParade", inT0 (i := 618) (by decide +kernel)⟩
theorem lX5_86 : LKn RX5 86 m_X11_at := ⟨"PutOffParade", inT0 (i := 384) (by decide +kernel)⟩
theorem lX5_90 : LK RX5 90 m_X5_isWaiting := (inT1 (i := 398) (by decide +kernel) rfl)
theorem lX5_94 : LK RX5 94 m_X5_leansFreely := (inT1 (i := 402) (by decide +kernel) rfl)
theorem lX5_97 : LKn RX5 97 m_X11_bit := ⟨"PutOffParade", inT0 (i := 387) (by decide +kernel)⟩
theorem lX5_101 : LK RX5 101 m_X5_isReady := (inT1 (i := 394) (by decide +kernel) rfl)
theorem lX5_104 : LK RX5 104 m_X5_bitsIn := (inT1 (i := 473) (by decide +kernel) rfl)
theorem lX5_107 : LK RX5 107 m_X5_ownedBy := (inT1 (i := 564) (by decide +kernel) rfl)
theorem lX5_110 : LKn RX5 110 m_X11_sumOver := ⟨"PutOffParade", inT0 (i := 568) (by decide +kernel)⟩
theorem lX5_113 : LK RX5 113 m_X5_placeOf := (inT1 (i := 457) (by decide +kernel) rfl)
theorem lX5_116 : LK RX5 116 m_X5_olderThan := (inT1 (i := 474) (by decide +kernel) rfl)
theorem lX5_119 : LK RX5 119 m_J6_bitCount_0f7a4 := (inT1 (i := 478) (by decide +kernel) rfl)
theorem lX5_124 : LK RX5 124 m_X5_passesOf := (inT1 (i := 469) (by decide +kernel) rfl)
theorem lX5_127 : inT (.methodLink RX5 127 Lib.Math.min.name) := (inT1 (i := 617) (by decide +kernel) rfl)
theorem lX5_133 : LK RX5 133 m_X5_draw := (inT1 (i := 607) (by decide +kernel) rfl)
theorem lX5_137 : LK RX5 137 m_X5_work := (inT1 (i := 612) (by decide +kernel) rfl)
theorem lX5_140 : LK RX5 140 m_X5_passMonth := (inT1 (i := 623) (by decide +kernel) rfl)
theorem lX5_144 : LK RX5 144 m_X5_passDay := (inT1 (i := 603) (by decide +kernel) rfl)
theorem lX5_149 : LKn RX5 149 m_X11_has := ⟨"PutOffParade", inT0 (i := 616) (by decide +kernel)⟩
theorem lX5_153 : LK RX5 153 m_X5_finish := (inT1 (i := 619) (by decide +kernel) rfl)
theorem lX5_157 : LK RX5 157 m_X2_growthOf := (inT1 (i := 627) (by decide +kernel) rfl)
theorem lX5_163 : LK RX5 163 m_X5_growOlder := (inT1 (i := 631) (by decide +kernel) rfl)
theorem lX6_5 : LK RX6 5 m_X8_init := (inT1 (i := 59) (by decide +kernel) rfl)
theorem lX6_13 : LKn RX6 13 m_X5_init := ⟨"PutOffParade", inT0 (i := 110) (by decide +kernel)⟩
theorem lX6_39 : LK RX6 39 m_X6_readPerson := (inT1 (i := 888) (by decide +kernel) rfl)
theorem lX6_49 : LK RX6 49 m_X6_readDuty := (inT1 (i := 909) (by decide +kernel) rfl)
theorem lX6_55 : LK RX6 55 m_X9_takeWord := (inT1 (i := 899) (by decide +kernel) rfl)
theorem lX6_59 : LK RX6 59 m_X6_readForgotten := (inT1 (i := 929) (by decide +kernel) rfl)
theorem lX6_62 : LK RX6 62 m_X6_readSetting := (inT1 (i := 935) (by decide +kernel) rfl)
theorem lX6_65 : LK RX6 65 m_X9_next := (inT1 (i := 892) (by decide +kernel) rfl)
theorem lX6_71 : LK RX6 71 m_X6_readNumberOf := (inT1 (i := 895) (by decide +kernel) rfl)
theorem lX6_78 : LK RX6 78 m_X5_addPerson := (inT1 (i := 903) (by decide +kernel) rfl)
theorem lX6_97 : LK RX6 97 m_X5_addDuty := (inT1 (i := 923) (by decide +kernel) rfl)
theorem lX6_107 : LK RX6 107 m_X5_isWaiting := (inT1 (i := 933) (by decide +kernel) rfl)
theorem lX6_115 : LKn RX6 115 m_X11_setAt := ⟨"PutOffParade", inT0 (i := 934) (by decide +kernel)⟩
theorem lX6_149 : LK RX6 149 m_X9_takeNumber := (inT1 (i := 900) (by decide +kernel) rfl)
theorem lX7_3 : inT (.methodLink RX7 3 Lib.objectInit) := (inT1 (i := 43) (by decide +kernel) rfl)
theorem lX8_3 : inT (.methodLink RX8 3 Lib.objectInit) := (inT1 (i := 62) (by decide +kernel) rfl)
theorem lX8_11 : LKn RX8 11 m_X9_init := ⟨"PutOffParade", inT0 (i := 65) (by decide +kernel)⟩
theorem lX8_22 : LK RX8 22 m_X9_scan := (inT1 (i := 695) (by decide +kernel) rfl)
theorem lX8_26 : LK RX8 26 m_X9_isEnd := (inT1 (i := 783) (by decide +kernel) rfl)
theorem lX8_36 : LK RX8 36 m_X9_takeSign := (inT1 (i := 949) (by decide +kernel) rfl)
theorem lX9_3 : inT (.methodLink RX9 3 Lib.objectInit) := (inT1 (i := 68) (by decide +kernel) rfl)
theorem lX9_33 : LK RX9 33 m_X7_byteAt := (inT1 (i := 699) (by decide +kernel) rfl)
theorem lX9_37 : LK RX9 37 m_X9_kindOf := (inT1 (i := 703) (by decide +kernel) rfl)
theorem lX9_40 : LK RX9 40 m_X9_open := (inT1 (i := 706) (by decide +kernel) rfl)
theorem lX9_44 : LKn RX9 44 m_X11_setAt := ⟨"PutOffParade", inT0 (i := 710) (by decide +kernel)⟩
theorem lX9_48 : LK RX9 48 m_X9_valueOf := (inT1 (i := 711) (by decide +kernel) rfl)
theorem lX9_55 : LK RX9 55 m_X9_next := (inT1 (i := 778) (by decide +kernel) rfl)
theorem lX9_58 : LKn RX9 58 m_X11_at := ⟨"PutOffParade", inT0 (i := 715) (by decide +kernel)⟩
theorem lX9_62 : LK RX9 62 m_X9_wordOf := (inT1 (i := 716) (by decide +kernel) rfl)
theorem lX9_65 : LK RX9 65 m_X9_numberOf := (inT1 (i := 774) (by decide +kernel) rfl)
theorem lX9_78 : LK RX9 78 m_X9_isText := (inT1 (i := 722) (by decide +kernel) rfl)
theorem lX9_82 : LK RX9 82 m_J0_length_8abf5 := (inT1 (i := 726) (by decide +kernel) rfl)
theorem lX9_87 : LK RX9 87 m_J0_charAt_5068e := (inT1 (i := 736) (by decide +kernel) rfl)
theorem lX9_91 : inT (.methodLink RX9 91 Lib.Math.min.name) := (inT1 (i := 782) (by decide +kernel) rfl)
theorem lX9_110 : LK RX9 110 m_X9_isSign := (inT1 (i := 861) (by decide +kernel) rfl)
theorem lL_7 : LK RL 7 m_X11_street := (inT1 (i := 685) (by decide +kernel) rfl)
theorem lL_17 : LK RL 17 m_X11_law := (inT1 (i := 1033) (by decide +kernel) rfl)
theorem lL_20 : LK RL 20 m_X11_person := (inT1 (i := 1049) (by decide +kernel) rfl)
theorem lL_28 : LK RL 28 m_X11_duty := (inT1 (i := 1098) (by decide +kernel) rfl)
theorem lL_31 : LK RL 31 m_X11_call := (inT1 (i := 1114) (by decide +kernel) rfl)
theorem lL_37 : LK RL 37 m_X11_put := (inT1 (i := 1141) (by decide +kernel) rfl)
theorem lL_40 : LK RL 40 m_X11_forget := (inT1 (i := 1153) (by decide +kernel) rfl)
theorem lL_43 : LK RL 43 m_X11_recall := (inT1 (i := 1160) (by decide +kernel) rfl)
theorem lL_46 : LK RL 46 m_X11_hand := (inT1 (i := 1167) (by decide +kernel) rfl)
theorem lL_49 : LK RL 49 m_X11_lean := (inT1 (i := 1177) (by decide +kernel) rfl)
theorem lL_52 : LK RL 52 m_X11_free := (inT1 (i := 1184) (by decide +kernel) rfl)
theorem lL_55 : LK RL 55 m_X11_days := (inT1 (i := 1194) (by decide +kernel) rfl)
theorem lL_58 : LK RL 58 m_X11_greets := (inT1 (i := 1213) (by decide +kernel) rfl)
theorem lL_61 : LK RL 61 m_X11_where := (inT1 (i := 1223) (by decide +kernel) rfl)
theorem lL_64 : LK RL 64 m_X11_crowd := (inT1 (i := 1234) (by decide +kernel) rfl)
theorem lL_68 : LK RL 68 m_X11_does := (inT1 (i := 1241) (by decide +kernel) rfl)
theorem lL_72 : LK RL 72 m_X11_soon := (inT1 (i := 1259) (by decide +kernel) rfl)
theorem lL_75 : LK RL 75 m_X11_before := (inT1 (i := 1266) (by decide +kernel) rfl)
theorem lL_78 : LK RL 78 m_X11_after := (inT1 (i := 1274) (by decide +kernel) rfl)
theorem lL_81 : LK RL 81 m_X11_depth := (inT1 (i := 1284) (by decide +kernel) rfl)
theorem lL_84 : LK RL 84 m_X11_young := (inT1 (i := 1291) (by decide +kernel) rfl)
theorem lL_87 : LK RL 87 m_X11_older := (inT1 (i := 1302) (by decide +kernel) rfl)
theorem lL_90 : LK RL 90 m_X11_whose := (inT1 (i := 1309) (by decide +kernel) rfl)
theorem lL_93 : LK RL 93 m_X11_ask := (inT1 (i := 1329) (by decide +kernel) rfl)
theorem lL_96 : LK RL 96 m_X11_swap := (inT1 (i := 1340) (by decide +kernel) rfl)
theorem lL_99 : LK RL 99 m_X11_rests := (inT1 (i := 1356) (by decide +kernel) rfl)
theorem lL_102 : LK RL 102 m_X11_odds := (inT1 (i := 1372) (by decide +kernel) rfl)
theorem lL_105 : LK RL 105 m_X11_spare := (inT1 (i := 1386) (by decide +kernel) rfl)
theorem lL_108 : LK RL 108 m_X11_done := (inT1 (i := 1397) (by decide +kernel) rfl)
theorem lL_111 : LK RL 111 m_X11_sick := (inT1 (i := 1408) (by decide +kernel) rfl)
theorem lL_114 : LK RL 114 m_X11_ahead := (inT1 (i := 1415) (by decide +kernel) rfl)
theorem lL_117 : LK RL 117 m_X11_trial := (inT1 (i := 1422) (by decide +kernel) rfl)
theorem lL_120 : LK RL 120 m_X11_span := (inT1 (i := 1433) (by decide +kernel) rfl)
theorem lL_123 : LK RL 123 m_X11_led := (inT1 (i := 1440) (by decide +kernel) rfl)
theorem lL_126 : LK RL 126 m_X11_log := (inT1 (i := 1460) (by decide +kernel) rfl)
theorem lL_129 : LK RL 129 m_X11_init := (inT1 (i := 32) (by decide +kernel) rfl)
theorem lL_132 : LK RL 132 m_X12_init := (inT1 (i := 1471) (by decide +kernel) rfl)
theorem lL_133 : LK RL 133 m_X11_feed := (inT1 (i := 360) (by decide +kernel) rfl)
theorem lL_137 : LK RL 137 m_X12_feed := (inT1 (i := 1549) (by decide +kernel) rfl)
theorem lL_138 : LK RL 138 m_X11_end := (inT1 (i := 368) (by decide +kernel) rfl)
theorem lL_142 : LK RL 142 m_X12_end := (inT1 (i := 1553) (by decide +kernel) rfl)
theorem lL_143 : LK RL 143 m_L_street := (inT1 (i := 680) (by decide +kernel) rfl)
theorem lL_148 : LK RL 148 m_X12_street := (inT1 (i := 1561) (by decide +kernel) rfl)
theorem lL_149 : LK RL 149 m_X12_thrown := (inT1 (i := 1465) (by decide +kernel) rfl)
theorem lL_152 : LK RL 152 m_L_law := (inT1 (i := 1030) (by decide +kernel) rfl)
theorem lL_154 : LK RL 154 m_X12_law := (inT1 (i := 1720) (by decide +kernel) rfl)
theorem lL_155 : LK RL 155 m_X11_fault := (inT1 (i := 372) (by decide +kernel) rfl)
theorem lL_158 : LK RL 158 m_X12_fault := (inT1 (i := 1557) (by decide +kernel) rfl)
theorem lL_159 : LK RL 159 m_L_person := (inT1 (i := 1044) (by decide +kernel) rfl)
theorem lL_162 : LK RL 162 m_X12_person := (inT1 (i := 1809) (by decide +kernel) rfl)
theorem lL_163 : LK RL 163 m_L_duty := (inT1 (i := 1095) (by decide +kernel) rfl)
theorem lL_165 : LK RL 165 m_X12_duty := (inT1 (i := 1873) (by decide +kernel) rfl)
theorem lL_166 : LK RL 166 m_L_call := (inT1 (i := 1110) (by decide +kernel) rfl)
theorem lL_169 : LK RL 169 m_X12_call := (inT1 (i := 1881) (by decide +kernel) rfl)
theorem lL_170 : LK RL 170 m_L_put := (inT1 (i := 1138) (by decide +kernel) rfl)
theorem lL_172 : LK RL 172 m_X12_put := (inT1 (i := 1897) (by decide +kernel) rfl)
theorem lL_173 : LK RL 173 m_L_forget := (inT1 (i := 1150) (by decide +kernel) rfl)
theorem lL_175 : LK RL 175 m_X12_forget := (inT1 (i := 1901) (by decide +kernel) rfl)
theorem lL_176 : LK RL 176 m_L_recall := (inT1 (i := 1157) (by decide +kernel) rfl)
theorem lL_178 : LK RL 178 m_X12_recall := (inT1 (i := 1905) (by decide +kernel) rfl)
theorem lL_179 : LK RL 179 m_L_hand := (inT1 (i := 1164) (by decide +kernel) rfl)
theorem lL_181 : LK RL 181 m_X12_hand := (inT1 (i := 1913) (by decide +kernel) rfl)
theorem lL_182 : LK RL 182 m_L_lean := (inT1 (i := 1174) (by decide +kernel) rfl)
theorem lL_184 : LK RL 184 m_X12_lean := (inT1 (i := 1917) (by decide +kernel) rfl)
theorem lL_185 : LK RL 185 m_L_free := (inT1 (i := 1181) (by decide +kernel) rfl)
theorem lL_187 : LK RL 187 m_X12_free := (inT1 (i := 1921) (by decide +kernel) rfl)
theorem lL_188 : LK RL 188 m_L_days := (inT1 (i := 1191) (by decide +kernel) rfl)
theorem lL_190 : LK RL 190 m_X12_days := (inT1 (i := 1925) (by decide +kernel) rfl)
theorem lL_191 : LK RL 191 m_X11_parade := (inT1 (i := 449) (by decide +kernel) rfl)
theorem lL_194 : LK RL 194 m_X12_parade := (inT1 (i := 1724) (by decide +kernel) rfl)
theorem lL_195 : LK RL 195 m_X11_can := (inT1 (i := 461) (by decide +kernel) rfl)
theorem lL_198 : LK RL 198 m_X12_can := (inT1 (i := 1736) (by decide +kernel) rfl)
theorem lL_199 : LK RL 199 m_L_greets := (inT1 (i := 1210) (by decide +kernel) rfl)
theorem lL_201 : LK RL 201 m_X12_greets := (inT1 (i := 1764) (by decide +kernel) rfl)
theorem lL_202 : LK RL 202 m_L_where := (inT1 (i := 1220) (by decide +kernel) rfl)
theorem lL_204 : LK RL 204 m_X12_where := (inT1 (i := 1778) (by decide +kernel) rfl)
theorem lL_205 : LK RL 205 m_L_crowd := (inT1 (i := 1231) (by decide +kernel) rfl)
theorem lL_208 : LK RL 208 m_X12_crowd := (inT1 (i := 1790) (by decide +kernel) rfl)
theorem lL_209 : LK RL 209 m_X11_most := (inT1 (i := 484) (by decide +kernel) rfl)
theorem lL_212 : LK RL 212 m_X12_most := (inT1 (i := 1794) (by decide +kernel) rfl)
theorem lL_213 : LK RL 213 m_L_does := (inT1 (i := 1238) (by decide +kernel) rfl)
theorem lL_216 : LK RL 216 m_X12_does := (inT1 (i := 2069) (by decide +kernel) rfl)
theorem lL_217 : LK RL 217 m_L_soon := (inT1 (i := 1256) (by decide +kernel) rfl)
theorem lL_219 : LK RL 219 m_X12_soon := (inT1 (i := 2041) (by decide +kernel) rfl)
theorem lL_220 : LK RL 220 m_X11_longest := (inT1 (i := 503) (by decide +kernel) rfl)
theorem lL_223 : LK RL 223 m_X12_longest := (inT1 (i := 2053) (by decide +kernel) rfl)
theorem lL_224 : LK RL 224 m_X11_ring := (inT1 (i := 528) (by decide +kernel) rfl)
theorem lL_227 : LK RL 227 m_X12_ring := (inT1 (i := 2017) (by decide +kernel) rfl)
theorem lL_228 : LK RL 228 m_L_before := (inT1 (i := 1263) (by decide +kernel) rfl)
theorem lL_230 : LK RL 230 m_X12_before := (inT1 (i := 2029) (by decide +kernel) rfl)
theorem lL_231 : LK RL 231 m_L_after := (inT1 (i := 1271) (by decide +kernel) rfl)
theorem lL_233 : LK RL 233 m_X12_after := (inT1 (i := 2033) (by decide +kernel) rfl)
theorem lL_234 : LK RL 234 m_L_depth := (inT1 (i := 1281) (by decide +kernel) rfl)
theorem lL_236 : LK RL 236 m_X12_depth := (inT1 (i := 2037) (by decide +kernel) rfl)
theorem lL_237 : LK RL 237 m_L_young := (inT1 (i := 1288) (by decide +kernel) rfl)
theorem lL_239 : LK RL 239 m_X12_young := (inT1 (i := 2057) (by decide +kernel) rfl)
theorem lL_240 : LK RL 240 m_L_older := (inT1 (i := 1299) (by decide +kernel) rfl)
theorem lL_242 : LK RL 242 m_X12_older := (inT1 (i := 2065) (by decide +kernel) rfl)
theorem lL_243 : LK RL 243 m_L_whose := (inT1 (i := 1306) (by decide +kernel) rfl)
theorem lL_245 : LK RL 245 m_X12_whose := (inT1 (i := 2081) (by decide +kernel) rfl)
theorem lL_246 : LK RL 246 m_L_ask := (inT1 (i := 1326) (by decide +kernel) rfl)
theorem lL_248 : LK RL 248 m_X12_ask := (inT1 (i := 2093) (by decide +kernel) rfl)
theorem lL_249 : LK RL 249 m_X11_gap := (inT1 (i := 533) (by decide +kernel) rfl)
theorem lL_252 : LK RL 252 m_X12_gap := (inT1 (i := 2097) (by decide +kernel) rfl)
theorem lL_253 : LK RL 253 m_X11_lost := (inT1 (i := 544) (by decide +kernel) rfl)
theorem lL_256 : LK RL 256 m_X12_lost := (inT1 (i := 2105) (by decide +kernel) rfl)
theorem lL_257 : LK RL 257 m_X11_missed := (inT1 (i := 548) (by decide +kernel) rfl)
theorem lL_260 : LK RL 260 m_X12_missed := (inT1 (i := 2109) (by decide +kernel) rfl)
theorem lL_261 : LK RL 261 m_L_swap := (inT1 (i := 1337) (by decide +kernel) rfl)
theorem lL_263 : LK RL 263 m_X12_swap := (inT1 (i := 2113) (by decide +kernel) rfl)
theorem lL_264 : LK RL 264 m_L_rests := (inT1 (i := 1353) (by decide +kernel) rfl)
theorem lL_266 : LK RL 266 m_X12_rests := (inT1 (i := 2121) (by decide +kernel) rfl)
theorem lL_267 : LK RL 267 m_X11_sponsor := (inT1 (i := 552) (by decide +kernel) rfl)
theorem lL_270 : LK RL 270 m_X12_sponsor := (inT1 (i := 2129) (by decide +kernel) rfl)
theorem lL_271 : LK RL 271 m_X11_idle := (inT1 (i := 556) (by decide +kernel) rfl)
theorem lL_274 : LK RL 274 m_X12_idle := (inT1 (i := 2133) (by decide +kernel) rfl)
theorem lL_275 : LK RL 275 m_X11_worst := (inT1 (i := 569) (by decide +kernel) rfl)
theorem lL_278 : LK RL 278 m_X12_worst := (inT1 (i := 2137) (by decide +kernel) rfl)
theorem lL_279 : LK RL 279 m_L_odds := (inT1 (i := 1369) (by decide +kernel) rfl)
theorem lL_281 : LK RL 281 m_X12_odds := (inT1 (i := 2145) (by decide +kernel) rfl)
theorem lL_282 : LK RL 282 m_L_spare := (inT1 (i := 1383) (by decide +kernel) rfl)
theorem lL_284 : LK RL 284 m_X12_spare := (inT1 (i := 2155) (by decide +kernel) rfl)
theorem lL_285 : LK RL 285 m_L_done := (inT1 (i := 1394) (by decide +kernel) rfl)
theorem lL_287 : LK RL 287 m_X12_done := (inT1 (i := 1977) (by decide +kernel) rfl)
theorem lL_288 : LK RL 288 m_X11_all := (inT1 (i := 582) (by decide +kernel) rfl)
theorem lL_291 : LK RL 291 m_X12_all := (inT1 (i := 1989) (by decide +kernel) rfl)
theorem lL_292 : LK RL 292 m_X11_help := (inT1 (i := 635) (by decide +kernel) rfl)
theorem lL_295 : LK RL 295 m_X12_help := (inT1 (i := 2001) (by decide +kernel) rfl)
theorem lL_296 : LK RL 296 m_X11_crux := (inT1 (i := 640) (by decide +kernel) rfl)
theorem lL_299 : LK RL 299 m_X12_crux := (inT1 (i := 2009) (by decide +kernel) rfl)
theorem lL_300 : LK RL 300 m_L_sick := (inT1 (i := 1405) (by decide +kernel) rfl)
theorem lL_302 : LK RL 302 m_X12_sick := (inT1 (i := 2013) (by decide +kernel) rfl)
theorem lL_303 : LK RL 303 m_X11_alike := (inT1 (i := 574) (by decide +kernel) rfl)
theorem lL_306 : LK RL 306 m_X12_alike := (inT1 (i := 2141) (by decide +kernel) rfl)
theorem lL_307 : LK RL 307 m_L_ahead := (inT1 (i := 1412) (by decide +kernel) rfl)
theorem lL_309 : LK RL 309 m_X12_ahead := (inT1 (i := 1962) (by decide +kernel) rfl)
theorem lL_310 : LK RL 310 m_L_trial := (inT1 (i := 1419) (by decide +kernel) rfl)
theorem lL_312 : LK RL 312 m_X12_trial := (inT1 (i := 2159) (by decide +kernel) rfl)
theorem lL_313 : LK RL 313 m_L_span := (inT1 (i := 1430) (by decide +kernel) rfl)
theorem lL_315 : LK RL 315 m_X12_span := (inT1 (i := 2163) (by decide +kernel) rfl)
theorem lL_316 : LK RL 316 m_L_led := (inT1 (i := 1437) (by decide +kernel) rfl)
theorem lL_318 : LK RL 318 m_X12_led := (inT1 (i := 2167) (by decide +kernel) rfl)
theorem lL_319 : LK RL 319 m_L_log := (inT1 (i := 1457) (by decide +kernel) rfl)
theorem lL_321 : LK RL 321 m_X12_log := (inT1 (i := 2175) (by decide +kernel) rfl)
theorem lL_322 : LK RL 322 m_X11_seed := (inT1 (i := 645) (by decide +kernel) rfl)
theorem lL_325 : LK RL 325 m_X12_seed := (inT1 (i := 2179) (by decide +kernel) rfl)
theorem lL_326 : LK RL 326 m_X11_undo := (inT1 (i := 649) (by decide +kernel) rfl)
theorem lL_330 : LK RL 330 m_X12_undo := (inT1 (i := 1545) (by decide +kernel) rfl)
theorem lL_331 : LK RL 331 m_X11_image := (inT1 (i := 667) (by decide +kernel) rfl)
theorem lL_334 : LK RL 334 m_X12_image := (inT1 (i := 1537) (by decide +kernel) rfl)
theorem lL_335 : LK RL 335 m_X11_back := (inT1 (i := 676) (by decide +kernel) rfl)
theorem lL_338 : LK RL 338 m_X12_back := (inT1 (i := 1541) (by decide +kernel) rfl)
theorem lL_339 : LK RL 339 m_X11_count := (inT1 (i := 376) (by decide +kernel) rfl)
theorem lL_342 : LK RL 342 m_X12_count := (inT1 (i := 2183) (by decide +kernel) rfl)
theorem lX12_7 : inT (.methodLink RX12 7 Lib.objectInit) := (inT1 (i := 1474) (by decide +kernel) rfl)
theorem lX12_56 : LK RX12 56 m_X12_personAt := (inT1 (i := 1618) (by decide +kernel) rfl)
theorem lX12_60 : LK RX12 60 m_X12_at := (inT1 (i := 1639) (by decide +kernel) rfl)
theorem lX12_63 : LK RX12 63 m_X12_of := (inT1 (i := 1651) (by decide +kernel) rfl)
theorem lX12_66 : LK RX12 66 m_X12_people := (inT1 (i := 1604) (by decide +kernel) rfl)
theorem lX12_70 : LK RX12 70 m_X12_in := (inT1 (i := 1772) (by decide +kernel) rfl)
theorem lX12_74 : LK RX12 74 m_X12_duties := (inT1 (i := 1626) (by decide +kernel) rfl)
theorem lX12_87 : LK RX12 87 m_X12_isAt := (inT1 (i := 1577) (by decide +kernel) rfl)
theorem lX12_94 : LK RX12 94 m_X12_blanks := (inT1 (i := 1573) (by decide +kernel) rfl)
theorem lX12_97 : LK RX12 97 m_J0_length_8abf5 := (inT1 (i := 1598) (by decide +kernel) rfl)
theorem lX12_102 : LK RX12 102 m_J0_charAt_5068e := (inT1 (i := 1599) (by decide +kernel) rfl)
theorem lX12_106 : LK RX12 106 m_X12_letters := (inT1 (i := 1585) (by decide +kernel) rfl)
theorem lX12_109 : LK RX12 109 m_X12_isWord := (inT1 (i := 1594) (by decide +kernel) rfl)
theorem lX12_113 : LK RX12 113 m_X12_number := (inT1 (i := 1613) (by decide +kernel) rfl)
theorem lX12_117 : LK RX12 117 m_X12_numberBehind := (inT1 (i := 1609) (by decide +kernel) rfl)
theorem lX12_128 : LK RX12 128 m_X12_passes := (inT1 (i := 1633) (by decide +kernel) rfl)
theorem lX12_135 : LK RX12 135 m_X12_isWaiting := (inT1 (i := 1647) (by decide +kernel) rfl)
theorem lX12_141 : LK RX12 141 m_X12_readPerson := (inT1 (i := 1600) (by decide +kernel) rfl)
theorem lX12_147 : LK RX12 147 m_X12_readDuty := (inT1 (i := 1622) (by decide +kernel) rfl)
theorem lX12_152 : LK RX12 152 m_X12_readForgotten := (inT1 (i := 1643) (by decide +kernel) rfl)
theorem lX12_157 : LK RX12 157 m_X12_readNumber := (inT1 (i := 1656) (by decide +kernel) rfl)
theorem lX12_177 : LK RX12 177 m_X12_wordOfPart := (inT1 (i := 1707) (by decide +kernel) rfl)
theorem lX12_180 : LK RX12 180 m_X12_emits := (inT1 (i := 1689) (by decide +kernel) rfl)
theorem lX12_184 : LK RX12 184 m_X12_readPart := (inT1 (i := 1703) (by decide +kernel) rfl)
theorem lX12_187 : LK RX12 187 m_X12_sign := (inT1 (i := 1684) (by decide +kernel) rfl)
theorem lX12_197 : LK RX12 197 m_X12_readCond := (inT1 (i := 1672) (by decide +kernel) rfl)
theorem lX12_202 : LK RX12 202 m_X12_readAtom := (inT1 (i := 1680) (by decide +kernel) rfl)
theorem lX12_205 : LK RX12 205 m_X12_readTag := (inT1 (i := 1693) (by decide +kernel) rfl)
theorem lX12_208 : LK RX12 208 m_X12_readSum := (inT1 (i := 1699) (by decide +kernel) rfl)
theorem lX12_213 : LK RX12 213 m_X12_readAllOf := (inT1 (i := 1676) (by decide +kernel) rfl)
theorem lX12_226 : LK RX12 226 m_X12_readStreetLine := (inT1 (i := 1589) (by decide +kernel) rfl)
theorem lX12_229 : LK RX12 229 m_X12_readLawLine := (inT1 (i := 1664) (by decide +kernel) rfl)
theorem lX12_232 : LK RX12 232 m_X12_uses := (inT1 (i := 1569) (by decide +kernel) rfl)
theorem lX12_235 : LK RX12 235 m_X12_readLine := (inT1 (i := 1581) (by decide +kernel) rfl)
theorem lX12_239 : LK RX12 239 m_X12_readAll := (inT1 (i := 1565) (by decide +kernel) rfl)
theorem lX12_243 : LK RX12 243 m_X12_throwsIf := (inT1 (i := 1716) (by decide +kernel) rfl)
theorem lX12_246 : LK RX12 246 m_X12_isDone := (inT1 (i := 1756) (by decide +kernel) rfl)
theorem lX12_249 : LK RX12 249 m_X12_leansWell := (inT1 (i := 1752) (by decide +kernel) rfl)
theorem lX12_252 : LK RX12 252 m_X12_ofPerson := (inT1 (i := 1841) (by decide +kernel) rfl)
theorem lX12_255 : LK RX12 255 m_X12_factOf := (inT1 (i := 1868) (by decide +kernel) rfl)
theorem lX12_259 : LK RX12 259 m_X12_holdsLine := (inT1 (i := 1864) (by decide +kernel) rfl)
theorem lX12_262 : LK RX12 262 m_X12_sumOf := (inT1 (i := 1860) (by decide +kernel) rfl)
theorem lX12_265 : inT (.methodLink RX12 265 Lib.Math.max.name) := (inT1 (i := 1872) (by decide +kernel) rfl)
theorem lX12_270 : LK RX12 270 m_X12_goesAhead := (inT1 (i := 1732) (by decide +kernel) rfl)
theorem lX12_273 : LK RX12 273 m_X12_isReady := (inT1 (i := 1748) (by decide +kernel) rfl)
theorem lX12_276 : LK RX12 276 m_X12_passesBy := (inT1 (i := 1760) (by decide +kernel) rfl)
theorem lX12_280 : LK RX12 280 m_X12_canBeCalled := (inT1 (i := 1744) (by decide +kernel) rfl)
theorem lX12_283 : LK RX12 283 m_X12_placeOf := (inT1 (i := 1728) (by decide +kernel) rfl)
theorem lX12_286 : LK RX12 286 m_X12_canOnes := (inT1 (i := 1740) (by decide +kernel) rfl)
theorem lX12_289 : LK RX12 289 m_X12_noDuty := (inT1 (i := 1768) (by decide +kernel) rfl)
theorem lX12_292 : LK RX12 292 m_X12_noKerb := (inT1 (i := 1775) (by decide +kernel) rfl)
theorem lX12_295 : inT (.methodLink RX12 295 Lib.Math.min.name) := (inT1 (i := 1789) (by decide +kernel) rfl)
theorem lX12_298 : LK RX12 298 m_X12_noHour := (inT1 (i := 1782) (by decide +kernel) rfl)
theorem lX12_301 : LK RX12 301 m_X12_whereAt := (inT1 (i := 1785) (by decide +kernel) rfl)
theorem lX12_304 : LK RX12 304 m_X12_has := (inT1 (i := 1803) (by decide +kernel) rfl)
theorem lX12_307 : inT (.methodLink RX12 307 Lib.Math.abs.name) := (inT1 (i := 1806) (by decide +kernel) rfl)
theorem lX12_310 : LK RX12 310 m_J6_bitCount_0f7a4 := (inT1 (i := 1798) (by decide +kernel) rfl)
theorem lX12_315 : LK RX12 315 m_X12_canAll := (inT1 (i := 1799) (by decide +kernel) rfl)
theorem lX12_318 : LK RX12 318 m_X12_shamesBy := (inT1 (i := 1856) (by decide +kernel) rfl)
theorem lX12_321 : LK RX12 321 m_X12_ownedBy := (inT1 (i := 1817) (by decide +kernel) rfl)
theorem lX12_324 : LK RX12 324 m_X12_ofState := (inT1 (i := 1829) (by decide +kernel) rfl)
theorem lX12_327 : LK RX12 327 m_X12_waitingOf := (inT1 (i := 1825) (by decide +kernel) rfl)
theorem lX12_330 : LK RX12 330 m_X12_hoursOf := (inT1 (i := 1833) (by decide +kernel) rfl)
theorem lX12_333 : LK RX12 333 m_X12_loadOf := (inT1 (i := 1821) (by decide +kernel) rfl)
theorem lX12_336 : LK RX12 336 m_X12_daysFor := (inT1 (i := 1845) (by decide +kernel) rfl)
theorem lX12_339 : LK RX12 339 m_X12_shameOf := (inT1 (i := 1852) (by decide +kernel) rfl)
theorem lX12_342 : LK RX12 342 m_X12_noPerson := (inT1 (i := 1813) (by decide +kernel) rfl)
theorem lX12_345 : LK RX12 345 m_X12_needsOf := (inT1 (i := 1837) (by decide +kernel) rfl)
theorem lX12_348 : LK RX12 348 m_X12_shareOf := (inT1 (i := 1848) (by decide +kernel) rfl)
theorem lX12_351 : LK RX12 351 m_X12_growsBy := (inT1 (i := 1877) (by decide +kernel) rfl)
theorem lX12_354 : LK RX12 354 m_X12_isNow := (inT1 (i := 1893) (by decide +kernel) rfl)
theorem lX12_357 : LK RX12 357 m_X12_remembers := (inT1 (i := 1885) (by decide +kernel) rfl)
theorem lX12_360 : LK RX12 360 m_X12_finishes := (inT1 (i := 1889) (by decide +kernel) rfl)
theorem lX12_364 : LK RX12 364 m_X12_isForgotten := (inT1 (i := 1909) (by decide +kernel) rfl)
theorem lX12_367 : LK RX12 367 m_X12_hasTool := (inT1 (i := 1946) (by decide +kernel) rfl)
theorem lX12_370 : LK RX12 370 m_X12_tells := (inT1 (i := 1958) (by decide +kernel) rfl)
theorem lX12_373 : LK RX12 373 m_X12_drawn := (inT1 (i := 1937) (by decide +kernel) rfl)
theorem lX12_376 : LK RX12 376 m_X12_works := (inT1 (i := 1942) (by decide +kernel) rfl)
theorem lX12_379 : LK RX12 379 m_X12_growsOlder := (inT1 (i := 1950) (by decide +kernel) rfl)
theorem lX12_382 : LK RX12 382 m_X12_goesBy := (inT1 (i := 1954) (by decide +kernel) rfl)
theorem lX12_385 : LK RX12 385 m_X12_oneDay := (inT1 (i := 1933) (by decide +kernel) rfl)
theorem lX12_388 : LK RX12 388 m_X12_goesOn := (inT1 (i := 1929) (by decide +kernel) rfl)
theorem lX12_392 : LK RX12 392 m_X12_noDays := (inT1 (i := 1966) (by decide +kernel) rfl)
theorem lX12_395 : LK RX12 395 m_X12_keepsAll := (inT1 (i := 1969) (by decide +kernel) rfl)
theorem lX12_398 : LK RX12 398 m_X12_bringsBack := (inT1 (i := 1973) (by decide +kernel) rfl)
theorem lX12_402 : LK RX12 402 m_X12_allDuties := (inT1 (i := 1997) (by decide +kernel) rfl)
theorem lX12_405 : LK RX12 405 m_X12_overIn := (inT1 (i := 1981) (by decide +kernel) rfl)
theorem lX12_408 : LK RX12 408 m_X12_orNone := (inT1 (i := 1986) (by decide +kernel) rfl)
theorem lX12_411 : LK RX12 411 m_X12_allOver := (inT1 (i := 1993) (by decide +kernel) rfl)
theorem lX12_414 : LK RX12 414 m_X12_overWith := (inT1 (i := 2005) (by decide +kernel) rfl)
theorem lX12_417 : LK RX12 417 m_X12_beforeOf := (inT1 (i := 2025) (by decide +kernel) rfl)
theorem lX12_420 : LK RX12 420 m_X12_ringOnes := (inT1 (i := 2021) (by decide +kernel) rfl)
theorem lX12_423 : LK RX12 423 m_X12_chainOf := (inT1 (i := 2049) (by decide +kernel) rfl)
theorem lX12_426 : LK RX12 426 m_X12_soonOf := (inT1 (i := 2045) (by decide +kernel) rfl)
theorem lX12_429 : LK RX12 429 m_X12_olderOnes := (inT1 (i := 2061) (by decide +kernel) rfl)
theorem lX12_432 : LK RX12 432 m_X12_leanWithin := (inT1 (i := 2077) (by decide +kernel) rfl)
theorem lX12_435 : LK RX12 435 m_X12_toDo := (inT1 (i := 2073) (by decide +kernel) rfl)
theorem lX12_438 : LK RX12 438 m_X12_isTold := (inT1 (i := 2085) (by decide +kernel) rfl)
theorem lX12_441 : LK RX12 441 m_X12_allThatFit := (inT1 (i := 2089) (by decide +kernel) rfl)
theorem lX12_444 : LK RX12 444 m_X12_isGap := (inT1 (i := 2101) (by decide +kernel) rfl)
theorem lX12_447 : LK RX12 447 m_X12_serves := (inT1 (i := 2117) (by decide +kernel) rfl)
theorem lX12_451 : LK RX12 451 m_X12_hasBy := (inT1 (i := 2125) (by decide +kernel) rfl)
theorem lX12_458 : LK RX12 458 m_X12_oddsOf := (inT1 (i := 2149) (by decide +kernel) rfl)
theorem lX12_461 : LK RX12 461 m_X12_ofLog := (inT1 (i := 2171) (by decide +kernel) rfl)
theorem lX12_464 : LK RX12 464 m_X12_readyOnes := (inT1 (i := 2187) (by decide +kernel) rfl)
theorem lJ0_335 : LK RJ0 335 m_J0_coder_7d493 := (inT1 (i := 730) (by decide +kernel) rfl)
theorem lJ0_492 : LK RJ0 492 m_J0_isLatin1_aae02 := (inT1 (i := 740) (by decide +kernel) rfl)
theorem lJ0_495 : LK RJ0 495 m_J1_charAt_3b067 := (inT1 (i := 744) (by decide +kernel) rfl)
theorem lJ0_498 : LK RJ0 498 m_J2_charAt_3b067 := (inT1 (i := 755) (by decide +kernel) rfl)
theorem lJ0_1059 : LK RJ0 1059 m_J3_checkIndex_8e157 := (inT1 (i := 752) (by decide +kernel) rfl)
theorem lJ1_9 : LK RJ1 9 m_J0_checkIndex_df160 := (inT1 (i := 747) (by decide +kernel) rfl)
theorem lJ2_48 : LK RJ2 48 m_J2_length_9d52b := (inT1 (i := 761) (by decide +kernel) rfl)
theorem lJ2_67 : LK RJ2 67 m_J2_checkIndex_2214a := (inT1 (i := 758) (by decide +kernel) rfl)
theorem lJ2_71 : LK RJ2 71 m_J2_getChar_3b067 := (inT1 (i := 765) (by decide +kernel) rfl)
theorem lJ2_414 : LK RJ2 414 m_J0_checkIndex_df160 := (inT1 (i := 764) (by decide +kernel) rfl)
