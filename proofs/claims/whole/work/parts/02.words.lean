-- printed by wip/whole/gen1.py: the words of the tables, by their places
theorem wcX10_init : Cond.code yX10_init cX10_init 1 none ∈ tbG := tg (i := 113) (by decide +kernel) rfl
theorem wiX10_init : Cond.instanceMethod yX10_init ∈ tbG := tg (i := 112) (by decide +kernel) rfl
theorem wcX6_init : Cond.code yX6_init cX6_init 1 none ∈ tbG := tg (i := 121) (by decide +kernel) rfl
theorem wiX6_init : Cond.instanceMethod yX6_init ∈ tbG := tg (i := 120) (by decide +kernel) rfl
theorem wcX1_init : Cond.code yX1_init cX1_init 1 none ∈ tbG := tg (i := 146) (by decide +kernel) rfl
theorem wiX1_init : Cond.instanceMethod yX1_init ∈ tbG := tg (i := 145) (by decide +kernel) rfl
theorem wcX0_init : Cond.code yX0_init cX0_init 1 none ∈ tbG := tg (i := 165) (by decide +kernel) rfl
theorem wiX0_init : Cond.instanceMethod yX0_init ∈ tbG := tg (i := 164) (by decide +kernel) rfl
theorem wcX2_init : Cond.code yX2_init cX2_init 1 none ∈ tbG := tg (i := 188) (by decide +kernel) rfl
theorem wiX2_init : Cond.instanceMethod yX2_init ∈ tbG := tg (i := 187) (by decide +kernel) rfl
theorem wcX9_init : Cond.code yX9_init cX9_init 1 none ∈ tbG := tg (i := 260) (by decide +kernel) rfl
theorem wiX9_init : Cond.instanceMethod yX9_init ∈ tbG := tg (i := 259) (by decide +kernel) rfl
theorem wcX3_init : Cond.code yX3_init cX3_init 1 none ∈ tbG := tg (i := 276) (by decide +kernel) rfl
theorem wiX3_init : Cond.instanceMethod yX3_init ∈ tbG := tg (i := 275) (by decide +kernel) rfl
theorem wcX4_init : Cond.code yX4_init cX4_init 1 none ∈ tbG := tg (i := 294) (by decide +kernel) rfl
theorem wiX4_init : Cond.instanceMethod yX4_init ∈ tbG := tg (i := 293) (by decide +kernel) rfl
theorem wcX5_init : Cond.code yX5_init cX5_init 1 none ∈ tbG := tg (i := 326) (by decide +kernel) rfl
theorem wiX5_init : Cond.instanceMethod yX5_init ∈ tbG := tg (i := 325) (by decide +kernel) rfl
theorem wcX7_init : Cond.code yX7_init cX7_init 1 none ∈ tbG := tg (i := 336) (by decide +kernel) rfl
theorem wiX7_init : Cond.instanceMethod yX7_init ∈ tbG := tg (i := 335) (by decide +kernel) rfl
theorem wcX8_init : Cond.code yX8_init cX8_init 1 none ∈ tbG := tg (i := 350) (by decide +kernel) rfl
theorem wiX8_init : Cond.instanceMethod yX8_init ∈ tbG := tg (i := 349) (by decide +kernel) rfl
theorem wcX10_write : Cond.code yX10_write cX10_write 2 (some .int) ∈ tbG := tg (i := 487) (by decide +kernel) rfl
theorem wiX10_write : Cond.instanceMethod yX10_write ∈ tbG := tg (i := 485) (by decide +kernel) rfl
theorem wsX10_write : Cond.selects RX10 yX10_write yX10_write ∈ tbG := tg (i := 486) (by decide +kernel) rfl
theorem wcX6_append : Cond.code yX6_append cX6_append 2 (some .boolean) ∈ tbG := tg (i := 492) (by decide +kernel) rfl
theorem wiX6_append : Cond.instanceMethod yX6_append ∈ tbG := tg (i := 490) (by decide +kernel) rfl
theorem wsX6_append : Cond.selects RX6 yX6_append yX6_append ∈ tbG := tg (i := 491) (by decide +kernel) rfl
theorem wcX10_talk : Cond.code yX10_talk cX10_talk 3 (some .int) ∈ tbG := tg (i := 497) (by decide +kernel) rfl
theorem wiX10_talk : Cond.instanceMethod yX10_talk ∈ tbG := tg (i := 495) (by decide +kernel) rfl
theorem wsX10_talk : Cond.selects RX10 yX10_talk yX10_talk ∈ tbG := tg (i := 496) (by decide +kernel) rfl
theorem wcX6_readInto : Cond.code yX6_readInto cX6_readInto 4 (some .int) ∈ tbG := tg (i := 501) (by decide +kernel) rfl
theorem wiX6_readInto : Cond.instanceMethod yX6_readInto ∈ tbG := tg (i := 499) (by decide +kernel) rfl
theorem wsX6_readInto : Cond.selects RX6 yX6_readInto yX6_readInto ∈ tbG := tg (i := 500) (by decide +kernel) rfl
theorem wcX8_clear : Cond.code yX8_clear cX8_clear 1 none ∈ tbG := tg (i := 505) (by decide +kernel) rfl
theorem wiX8_clear : Cond.instanceMethod yX8_clear ∈ tbG := tg (i := 503) (by decide +kernel) rfl
theorem wsX8_clear : Cond.selects RX8 yX8_clear yX8_clear ∈ tbG := tg (i := 504) (by decide +kernel) rfl
theorem wcX6_accept : Cond.code yX6_accept cX6_accept 3 (some .int) ∈ tbG := tg (i := 509) (by decide +kernel) rfl
theorem wiX6_accept : Cond.instanceMethod yX6_accept ∈ tbG := tg (i := 508) (by decide +kernel) rfl
theorem wsX6_accept : Cond.selects RX6 yX6_accept yX6_accept ∈ tbG := tg (i := 0) (by decide +kernel) rfl
theorem wcX6_acceptFirstLine : Cond.code yX6_acceptFirstLine cX6_acceptFirstLine 3 (some .int) ∈ tbG := tg (i := 513) (by decide +kernel) rfl
theorem wiX6_acceptFirstLine : Cond.instanceMethod yX6_acceptFirstLine ∈ tbG := tg (i := 512) (by decide +kernel) rfl
theorem wsX6_acceptFirstLine : Cond.selects RX6 yX6_acceptFirstLine yX6_acceptFirstLine ∈ tbG := tg (i := 1) (by decide +kernel) rfl
theorem wcX8_nameLine : Cond.code yX8_nameLine cX8_nameLine 2 none ∈ tbG := tg (i := 517) (by decide +kernel) rfl
theorem wiX8_nameLine : Cond.instanceMethod yX8_nameLine ∈ tbG := tg (i := 515) (by decide +kernel) rfl
theorem wsX8_nameLine : Cond.selects RX8 yX8_nameLine yX8_nameLine ∈ tbG := tg (i := 516) (by decide +kernel) rfl
theorem wcX6_goOn : Cond.code yX6_goOn cX6_goOn 2 (some .int) ∈ tbG := tg (i := 521) (by decide +kernel) rfl
theorem wiX6_goOn : Cond.instanceMethod yX6_goOn ∈ tbG := tg (i := 520) (by decide +kernel) rfl
theorem wsX6_goOn : Cond.selects RX6 yX6_goOn yX6_goOn ∈ tbG := tg (i := 2) (by decide +kernel) rfl
theorem wcX6_acceptArrowOrDot : Cond.code yX6_acceptArrowOrDot cX6_acceptArrowOrDot 3 (some .int) ∈ tbG := tg (i := 525) (by decide +kernel) rfl
theorem wiX6_acceptArrowOrDot : Cond.instanceMethod yX6_acceptArrowOrDot ∈ tbG := tg (i := 524) (by decide +kernel) rfl
theorem wsX6_acceptArrowOrDot : Cond.selects RX6 yX6_acceptArrowOrDot yX6_acceptArrowOrDot ∈ tbG := tg (i := 3) (by decide +kernel) rfl
theorem wcX8_addAnswer : Cond.code yX8_addAnswer cX8_addAnswer 2 (some .boolean) ∈ tbG := tg (i := 529) (by decide +kernel) rfl
theorem wiX8_addAnswer : Cond.instanceMethod yX8_addAnswer ∈ tbG := tg (i := 527) (by decide +kernel) rfl
theorem wsX8_addAnswer : Cond.selects RX8 yX8_addAnswer yX8_addAnswer ∈ tbG := tg (i := 528) (by decide +kernel) rfl
theorem wcX6_acceptClauseEnd : Cond.code yX6_acceptClauseEnd cX6_acceptClauseEnd 2 (some .int) ∈ tbG := tg (i := 533) (by decide +kernel) rfl
theorem wiX6_acceptClauseEnd : Cond.instanceMethod yX6_acceptClauseEnd ∈ tbG := tg (i := 532) (by decide +kernel) rfl
theorem wsX6_acceptClauseEnd : Cond.selects RX6 yX6_acceptClauseEnd yX6_acceptClauseEnd ∈ tbG := tg (i := 4) (by decide +kernel) rfl
theorem wcX6_acceptSecondLine : Cond.code yX6_acceptSecondLine cX6_acceptSecondLine 3 (some .int) ∈ tbG := tg (i := 537) (by decide +kernel) rfl
theorem wiX6_acceptSecondLine : Cond.instanceMethod yX6_acceptSecondLine ∈ tbG := tg (i := 536) (by decide +kernel) rfl
theorem wsX6_acceptSecondLine : Cond.selects RX6 yX6_acceptSecondLine yX6_acceptSecondLine ∈ tbG := tg (i := 5) (by decide +kernel) rfl
theorem wcX6_acceptCost : Cond.code yX6_acceptCost cX6_acceptCost 3 (some .int) ∈ tbG := tg (i := 541) (by decide +kernel) rfl
theorem wiX6_acceptCost : Cond.instanceMethod yX6_acceptCost ∈ tbG := tg (i := 540) (by decide +kernel) rfl
theorem wsX6_acceptCost : Cond.selects RX6 yX6_acceptCost yX6_acceptCost ∈ tbG := tg (i := 6) (by decide +kernel) rfl
theorem wcX6_acceptRest : Cond.code yX6_acceptRest cX6_acceptRest 3 (some .int) ∈ tbG := tg (i := 545) (by decide +kernel) rfl
theorem wiX6_acceptRest : Cond.instanceMethod yX6_acceptRest ∈ tbG := tg (i := 544) (by decide +kernel) rfl
theorem wsX6_acceptRest : Cond.selects RX6 yX6_acceptRest yX6_acceptRest ∈ tbG := tg (i := 7) (by decide +kernel) rfl
theorem wcX6_openAlternative : Cond.code yX6_openAlternative cX6_openAlternative 2 (some .int) ∈ tbG := tg (i := 549) (by decide +kernel) rfl
theorem wiX6_openAlternative : Cond.instanceMethod yX6_openAlternative ∈ tbG := tg (i := 548) (by decide +kernel) rfl
theorem wsX6_openAlternative : Cond.selects RX6 yX6_openAlternative yX6_openAlternative ∈ tbG := tg (i := 8) (by decide +kernel) rfl
theorem wcX8_addAlternative : Cond.code yX8_addAlternative cX8_addAlternative 1 (some .boolean) ∈ tbG := tg (i := 553) (by decide +kernel) rfl
theorem wiX8_addAlternative : Cond.instanceMethod yX8_addAlternative ∈ tbG := tg (i := 551) (by decide +kernel) rfl
theorem wsX8_addAlternative : Cond.selects RX8 yX8_addAlternative yX8_addAlternative ∈ tbG := tg (i := 552) (by decide +kernel) rfl
theorem wcX6_acceptAsked : Cond.code yX6_acceptAsked cX6_acceptAsked 5 (some .int) ∈ tbG := tg (i := 557) (by decide +kernel) rfl
theorem wiX6_acceptAsked : Cond.instanceMethod yX6_acceptAsked ∈ tbG := tg (i := 556) (by decide +kernel) rfl
theorem wsX6_acceptAsked : Cond.selects RX6 yX6_acceptAsked yX6_acceptAsked ∈ tbG := tg (i := 9) (by decide +kernel) rfl
theorem wcX6_smallMark : Cond.code yX6_smallMark cX6_smallMark 1 (some .int) ∈ tbG := tg (i := 560) (by decide +kernel) rfl
theorem wtX6_smallMark : Cond.static yX6_smallMark ∈ tbG := tg (i := 559) (by decide +kernel) rfl
theorem wcX6_greatMark : Cond.code yX6_greatMark cX6_greatMark 1 (some .int) ∈ tbG := tg (i := 563) (by decide +kernel) rfl
theorem wtX6_greatMark : Cond.static yX6_greatMark ∈ tbG := tg (i := 562) (by decide +kernel) rfl
theorem wcX6_acceptMoreOfGuard : Cond.code yX6_acceptMoreOfGuard cX6_acceptMoreOfGuard 3 (some .int) ∈ tbG := tg (i := 567) (by decide +kernel) rfl
theorem wiX6_acceptMoreOfGuard : Cond.instanceMethod yX6_acceptMoreOfGuard ∈ tbG := tg (i := 566) (by decide +kernel) rfl
theorem wsX6_acceptMoreOfGuard : Cond.selects RX6 yX6_acceptMoreOfGuard yX6_acceptMoreOfGuard ∈ tbG := tg (i := 10) (by decide +kernel) rfl
theorem wcX6_acceptChanged : Cond.code yX6_acceptChanged cX6_acceptChanged 6 (some .int) ∈ tbG := tg (i := 571) (by decide +kernel) rfl
theorem wiX6_acceptChanged : Cond.instanceMethod yX6_acceptChanged ∈ tbG := tg (i := 570) (by decide +kernel) rfl
theorem wsX6_acceptChanged : Cond.selects RX6 yX6_acceptChanged yX6_acceptChanged ∈ tbG := tg (i := 11) (by decide +kernel) rfl
theorem wcX6_acceptMoreOfEffect : Cond.code yX6_acceptMoreOfEffect cX6_acceptMoreOfEffect 3 (some .int) ∈ tbG := tg (i := 575) (by decide +kernel) rfl
theorem wiX6_acceptMoreOfEffect : Cond.instanceMethod yX6_acceptMoreOfEffect ∈ tbG := tg (i := 574) (by decide +kernel) rfl
theorem wsX6_acceptMoreOfEffect : Cond.selects RX6 yX6_acceptMoreOfEffect yX6_acceptMoreOfEffect ∈ tbG := tg (i := 12) (by decide +kernel) rfl
theorem wcX8_sortByLine : Cond.code yX8_sortByLine cX8_sortByLine 4 none ∈ tbG := tg (i := 579) (by decide +kernel) rfl
theorem wiX8_sortByLine : Cond.instanceMethod yX8_sortByLine ∈ tbG := tg (i := 577) (by decide +kernel) rfl
theorem wsX8_sortByLine : Cond.selects RX8 yX8_sortByLine yX8_sortByLine ∈ tbG := tg (i := 578) (by decide +kernel) rfl
theorem wcX1_restart : Cond.code yX1_restart cX1_restart 2 none ∈ tbG := tg (i := 583) (by decide +kernel) rfl
theorem wiX1_restart : Cond.instanceMethod yX1_restart ∈ tbG := tg (i := 581) (by decide +kernel) rfl
theorem wsX1_restart : Cond.selects RX1 yX1_restart yX1_restart ∈ tbG := tg (i := 582) (by decide +kernel) rfl
theorem wcX10_fault : Cond.code yX10_fault cX10_fault 1 (some .int) ∈ tbG := tg (i := 587) (by decide +kernel) rfl
theorem wiX10_fault : Cond.instanceMethod yX10_fault ∈ tbG := tg (i := 585) (by decide +kernel) rfl
theorem wsX10_fault : Cond.selects RX10 yX10_fault yX10_fault ∈ tbG := tg (i := 586) (by decide +kernel) rfl
theorem wcX10_begin : Cond.code yX10_begin cX10_begin 2 (some .int) ∈ tbG := tg (i := 591) (by decide +kernel) rfl
theorem wiX10_begin : Cond.instanceMethod yX10_begin ∈ tbG := tg (i := 589) (by decide +kernel) rfl
theorem wsX10_begin : Cond.selects RX10 yX10_begin yX10_begin ∈ tbG := tg (i := 590) (by decide +kernel) rfl
theorem wcX10_take : Cond.code yX10_take cX10_take 2 (some .int) ∈ tbG := tg (i := 596) (by decide +kernel) rfl
theorem wiX10_take : Cond.instanceMethod yX10_take ∈ tbG := tg (i := 594) (by decide +kernel) rfl
theorem wsX10_take : Cond.selects RX10 yX10_take yX10_take ∈ tbG := tg (i := 595) (by decide +kernel) rfl
theorem wcX10_isAnswer : Cond.code yX10_isAnswer cX10_isAnswer 2 (some .boolean) ∈ tbG := tg (i := 600) (by decide +kernel) rfl
theorem wiX10_isAnswer : Cond.instanceMethod yX10_isAnswer ∈ tbG := tg (i := 599) (by decide +kernel) rfl
theorem wsX10_isAnswer : Cond.selects RX10 yX10_isAnswer yX10_isAnswer ∈ tbG := tg (i := 13) (by decide +kernel) rfl
theorem wcX10_isOpenHere : Cond.code yX10_isOpenHere cX10_isOpenHere 2 (some .boolean) ∈ tbG := tg (i := 604) (by decide +kernel) rfl
theorem wiX10_isOpenHere : Cond.instanceMethod yX10_isOpenHere ∈ tbG := tg (i := 603) (by decide +kernel) rfl
theorem wsX10_isOpenHere : Cond.selects RX10 yX10_isOpenHere yX10_isOpenHere ∈ tbG := tg (i := 14) (by decide +kernel) rfl
theorem wcX1_lineHere : Cond.code yX1_lineHere cX1_lineHere 2 (some .int) ∈ tbG := tg (i := 608) (by decide +kernel) rfl
theorem wiX1_lineHere : Cond.instanceMethod yX1_lineHere ∈ tbG := tg (i := 606) (by decide +kernel) rfl
theorem wsX1_lineHere : Cond.selects RX1 yX1_lineHere yX1_lineHere ∈ tbG := tg (i := 607) (by decide +kernel) rfl
theorem wcX1_marksHere : Cond.code yX1_marksHere cX1_marksHere 4 (some .int) ∈ tbG := tg (i := 612) (by decide +kernel) rfl
theorem wiX1_marksHere : Cond.instanceMethod yX1_marksHere ∈ tbG := tg (i := 610) (by decide +kernel) rfl
theorem wsX1_marksHere : Cond.selects RX1 yX1_marksHere yX1_marksHere ∈ tbG := tg (i := 611) (by decide +kernel) rfl
theorem wcX8_marksBehind : Cond.code yX8_marksBehind cX8_marksBehind 3 (some .int) ∈ tbG := tg (i := 616) (by decide +kernel) rfl
theorem wiX8_marksBehind : Cond.instanceMethod yX8_marksBehind ∈ tbG := tg (i := 614) (by decide +kernel) rfl
theorem wsX8_marksBehind : Cond.selects RX8 yX8_marksBehind yX8_marksBehind ∈ tbG := tg (i := 615) (by decide +kernel) rfl
theorem wcX8_isOpen : Cond.code yX8_isOpen cX8_isOpen 4 (some .boolean) ∈ tbG := tg (i := 620) (by decide +kernel) rfl
theorem wiX8_isOpen : Cond.instanceMethod yX8_isOpen ∈ tbG := tg (i := 618) (by decide +kernel) rfl
theorem wsX8_isOpen : Cond.selects RX8 yX8_isOpen yX8_isOpen ∈ tbG := tg (i := 619) (by decide +kernel) rfl
theorem wcX10_bit : Cond.code yX10_bit cX10_bit 2 (some .int) ∈ tbG := tg (i := 623) (by decide +kernel) rfl
theorem wtX10_bit : Cond.static yX10_bit ∈ tbG := tg (i := 622) (by decide +kernel) rfl
theorem wcX8_guardHolds : Cond.code yX8_guardHolds cX8_guardHolds 8 (some .boolean) ∈ tbG := tg (i := 627) (by decide +kernel) rfl
theorem wiX8_guardHolds : Cond.instanceMethod yX8_guardHolds ∈ tbG := tg (i := 625) (by decide +kernel) rfl
theorem wsX8_guardHolds : Cond.selects RX8 yX8_guardHolds yX8_guardHolds ∈ tbG := tg (i := 626) (by decide +kernel) rfl
theorem wcX1_advance : Cond.code yX1_advance cX1_advance 2 (some .boolean) ∈ tbG := tg (i := 632) (by decide +kernel) rfl
theorem wiX1_advance : Cond.instanceMethod yX1_advance ∈ tbG := tg (i := 630) (by decide +kernel) rfl
theorem wsX1_advance : Cond.selects RX1 yX1_advance yX1_advance ∈ tbG := tg (i := 631) (by decide +kernel) rfl
theorem wcX10_back : Cond.code yX10_back cX10_back 2 (some .int) ∈ tbG := tg (i := 636) (by decide +kernel) rfl
theorem wiX10_back : Cond.instanceMethod yX10_back ∈ tbG := tg (i := 634) (by decide +kernel) rfl
theorem wsX10_back : Cond.selects RX10 yX10_back yX10_back ∈ tbG := tg (i := 635) (by decide +kernel) rfl
theorem wcX10_cut : Cond.code yX10_cut cX10_cut 3 (some .int) ∈ tbG := tg (i := 640) (by decide +kernel) rfl
theorem wiX10_cut : Cond.instanceMethod yX10_cut ∈ tbG := tg (i := 638) (by decide +kernel) rfl
theorem wsX10_cut : Cond.selects RX10 yX10_cut yX10_cut ∈ tbG := tg (i := 639) (by decide +kernel) rfl
theorem wcX0_keep : Cond.code yX0_keep cX0_keep 4 none ∈ tbG := tg (i := 645) (by decide +kernel) rfl
theorem wiX0_keep : Cond.instanceMethod yX0_keep ∈ tbG := tg (i := 643) (by decide +kernel) rfl
theorem wsX0_keep : Cond.selects RX0 yX0_keep yX0_keep ∈ tbG := tg (i := 644) (by decide +kernel) rfl
theorem wcX0_forgetOldest : Cond.code yX0_forgetOldest cX0_forgetOldest 1 none ∈ tbG := tg (i := 649) (by decide +kernel) rfl
theorem wiX0_forgetOldest : Cond.instanceMethod yX0_forgetOldest ∈ tbG := tg (i := 648) (by decide +kernel) rfl
theorem wsX0_forgetOldest : Cond.selects RX0 yX0_forgetOldest yX0_forgetOldest ∈ tbG := tg (i := 15) (by decide +kernel) rfl
theorem wcX8_setCut : Cond.code yX8_setCut cX8_setCut 3 none ∈ tbG := tg (i := 656) (by decide +kernel) rfl
theorem wiX8_setCut : Cond.instanceMethod yX8_setCut ∈ tbG := tg (i := 654) (by decide +kernel) rfl
theorem wsX8_setCut : Cond.selects RX8 yX8_setCut yX8_setCut ∈ tbG := tg (i := 655) (by decide +kernel) rfl
theorem wcJ6_bitCount_0f7a4 : Cond.code yJ6_bitCount_0f7a4 cJ6_bitCount_0f7a4 1 (some .int) ∈ tbG := tg (i := 659) (by decide +kernel) rfl
theorem wtJ6_bitCount_0f7a4 : Cond.static yJ6_bitCount_0f7a4 ∈ tbG := tg (i := 658) (by decide +kernel) rfl
theorem wcX10_cost : Cond.code yX10_cost cX10_cost 4 (some .int) ∈ tbG := tg (i := 666) (by decide +kernel) rfl
theorem wiX10_cost : Cond.instanceMethod yX10_cost ∈ tbG := tg (i := 664) (by decide +kernel) rfl
theorem wsX10_cost : Cond.selects RX10 yX10_cost yX10_cost ∈ tbG := tg (i := 665) (by decide +kernel) rfl
theorem wcX10_undo : Cond.code yX10_undo cX10_undo 3 (some .int) ∈ tbG := tg (i := 670) (by decide +kernel) rfl
theorem wiX10_undo : Cond.instanceMethod yX10_undo ∈ tbG := tg (i := 668) (by decide +kernel) rfl
theorem wsX10_undo : Cond.selects RX10 yX10_undo yX10_undo ∈ tbG := tg (i := 669) (by decide +kernel) rfl
theorem wcX10_answer : Cond.code yX10_answer cX10_answer 3 (some .int) ∈ tbG := tg (i := 674) (by decide +kernel) rfl
theorem wiX10_answer : Cond.instanceMethod yX10_answer ∈ tbG := tg (i := 672) (by decide +kernel) rfl
theorem wsX10_answer : Cond.selects RX10 yX10_answer yX10_answer ∈ tbG := tg (i := 673) (by decide +kernel) rfl
theorem wcX8_guardContradictsItself : Cond.code yX8_guardContradictsItself cX8_guardContradictsItself 4 (some .boolean) ∈ tbG := tg (i := 678) (by decide +kernel) rfl
theorem wiX8_guardContradictsItself : Cond.instanceMethod yX8_guardContradictsItself ∈ tbG := tg (i := 676) (by decide +kernel) rfl
theorem wsX8_guardContradictsItself : Cond.selects RX8 yX8_guardContradictsItself yX8_guardContradictsItself ∈ tbG := tg (i := 677) (by decide +kernel) rfl
theorem wcX10_alternativeSet : Cond.code yX10_alternativeSet cX10_alternativeSet 4 (some .int) ∈ tbG := tg (i := 682) (by decide +kernel) rfl
theorem wiX10_alternativeSet : Cond.instanceMethod yX10_alternativeSet ∈ tbG := tg (i := 681) (by decide +kernel) rfl
theorem wsX10_alternativeSet : Cond.selects RX10 yX10_alternativeSet yX10_alternativeSet ∈ tbG := tg (i := 16) (by decide +kernel) rfl
theorem wcX10_count : Cond.code yX10_count cX10_count 2 (some .int) ∈ tbG := tg (i := 686) (by decide +kernel) rfl
theorem wiX10_count : Cond.instanceMethod yX10_count ∈ tbG := tg (i := 684) (by decide +kernel) rfl
theorem wsX10_count : Cond.selects RX10 yX10_count yX10_count ∈ tbG := tg (i := 685) (by decide +kernel) rfl
theorem wcX10_openHere : Cond.code yX10_openHere cX10_openHere 3 (some .int) ∈ tbG := tg (i := 690) (by decide +kernel) rfl
theorem wiX10_openHere : Cond.instanceMethod yX10_openHere ∈ tbG := tg (i := 689) (by decide +kernel) rfl
theorem wsX10_openHere : Cond.selects RX10 yX10_openHere yX10_openHere ∈ tbG := tg (i := 17) (by decide +kernel) rfl
theorem wcX1_priceOfSteps : Cond.code yX1_priceOfSteps cX1_priceOfSteps 4 (some .int) ∈ tbG := tg (i := 694) (by decide +kernel) rfl
theorem wiX1_priceOfSteps : Cond.instanceMethod yX1_priceOfSteps ∈ tbG := tg (i := 692) (by decide +kernel) rfl
theorem wsX1_priceOfSteps : Cond.selects RX1 yX1_priceOfSteps yX1_priceOfSteps ∈ tbG := tg (i := 693) (by decide +kernel) rfl
theorem wcX10_step : Cond.code yX10_step cX10_step 2 (some .int) ∈ tbG := tg (i := 698) (by decide +kernel) rfl
theorem wiX10_step : Cond.instanceMethod yX10_step ∈ tbG := tg (i := 696) (by decide +kernel) rfl
theorem wsX10_step : Cond.selects RX10 yX10_step yX10_step ∈ tbG := tg (i := 697) (by decide +kernel) rfl
theorem wcX10_line : Cond.code yX10_line cX10_line 3 (some .int) ∈ tbG := tg (i := 702) (by decide +kernel) rfl
theorem wiX10_line : Cond.instanceMethod yX10_line ∈ tbG := tg (i := 700) (by decide +kernel) rfl
theorem wsX10_line : Cond.selects RX10 yX10_line yX10_line ∈ tbG := tg (i := 701) (by decide +kernel) rfl
theorem wcX10_isLine : Cond.code yX10_isLine cX10_isLine 2 (some .boolean) ∈ tbG := tg (i := 706) (by decide +kernel) rfl
theorem wiX10_isLine : Cond.instanceMethod yX10_isLine ∈ tbG := tg (i := 705) (by decide +kernel) rfl
theorem wsX10_isLine : Cond.selects RX10 yX10_isLine yX10_isLine ∈ tbG := tg (i := 18) (by decide +kernel) rfl
theorem wcX10_refreshGraph : Cond.code yX10_refreshGraph cX10_refreshGraph 1 none ∈ tbG := tg (i := 710) (by decide +kernel) rfl
theorem wiX10_refreshGraph : Cond.instanceMethod yX10_refreshGraph ∈ tbG := tg (i := 709) (by decide +kernel) rfl
theorem wsX10_refreshGraph : Cond.selects RX10 yX10_refreshGraph yX10_refreshGraph ∈ tbG := tg (i := 19) (by decide +kernel) rfl
theorem wcX2_explore : Cond.code yX2_explore cX2_explore 4 none ∈ tbG := tg (i := 714) (by decide +kernel) rfl
theorem wiX2_explore : Cond.instanceMethod yX2_explore ∈ tbG := tg (i := 712) (by decide +kernel) rfl
theorem wsX2_explore : Cond.selects RX2 yX2_explore yX2_explore ∈ tbG := tg (i := 713) (by decide +kernel) rfl
theorem wcJ7_fill_53178 : Cond.code yJ7_fill_53178 cJ7_fill_53178 4 none ∈ tbG := tg (i := 717) (by decide +kernel) rfl
theorem wtJ7_fill_53178 : Cond.static yJ7_fill_53178 ∈ tbG := tg (i := 716) (by decide +kernel) rfl
theorem wcX2_admit : Cond.code yX2_admit cX2_admit 4 (some .boolean) ∈ tbG := tg (i := 721) (by decide +kernel) rfl
theorem wiX2_admit : Cond.instanceMethod yX2_admit ∈ tbG := tg (i := 720) (by decide +kernel) rfl
theorem wsX2_admit : Cond.selects RX2 yX2_admit yX2_admit ∈ tbG := tg (i := 20) (by decide +kernel) rfl
theorem wcX2_addMovesFrom : Cond.code yX2_addMovesFrom cX2_addMovesFrom 7 none ∈ tbG := tg (i := 725) (by decide +kernel) rfl
theorem wiX2_addMovesFrom : Cond.instanceMethod yX2_addMovesFrom ∈ tbG := tg (i := 724) (by decide +kernel) rfl
theorem wsX2_addMovesFrom : Cond.selects RX2 yX2_addMovesFrom yX2_addMovesFrom ∈ tbG := tg (i := 21) (by decide +kernel) rfl
theorem wcX2_lineAt : Cond.code yX2_lineAt cX2_lineAt 2 (some .int) ∈ tbG := tg (i := 729) (by decide +kernel) rfl
theorem wiX2_lineAt : Cond.instanceMethod yX2_lineAt ∈ tbG := tg (i := 727) (by decide +kernel) rfl
theorem wsX2_lineAt : Cond.selects RX2 yX2_lineAt yX2_lineAt ∈ tbG := tg (i := 728) (by decide +kernel) rfl
theorem wcX2_marksAt : Cond.code yX2_marksAt cX2_marksAt 2 (some .int) ∈ tbG := tg (i := 733) (by decide +kernel) rfl
theorem wiX2_marksAt : Cond.instanceMethod yX2_marksAt ∈ tbG := tg (i := 731) (by decide +kernel) rfl
theorem wsX2_marksAt : Cond.selects RX2 yX2_marksAt yX2_marksAt ∈ tbG := tg (i := 732) (by decide +kernel) rfl
theorem wcX8_stateBehind : Cond.code yX8_stateBehind cX8_stateBehind 3 (some .int) ∈ tbG := tg (i := 738) (by decide +kernel) rfl
theorem wiX8_stateBehind : Cond.instanceMethod yX8_stateBehind ∈ tbG := tg (i := 736) (by decide +kernel) rfl
theorem wsX8_stateBehind : Cond.selects RX8 yX8_stateBehind yX8_stateBehind ∈ tbG := tg (i := 737) (by decide +kernel) rfl
theorem wcX2_addMove : Cond.code yX2_addMove cX2_addMove 4 none ∈ tbG := tg (i := 743) (by decide +kernel) rfl
theorem wiX2_addMove : Cond.instanceMethod yX2_addMove ∈ tbG := tg (i := 742) (by decide +kernel) rfl
theorem wsX2_addMove : Cond.selects RX2 yX2_addMove yX2_addMove ∈ tbG := tg (i := 22) (by decide +kernel) rfl
theorem wcX2_turnRound : Cond.code yX2_turnRound cX2_turnRound 3 none ∈ tbG := tg (i := 747) (by decide +kernel) rfl
theorem wiX2_turnRound : Cond.instanceMethod yX2_turnRound ∈ tbG := tg (i := 746) (by decide +kernel) rfl
theorem wsX2_turnRound : Cond.selects RX2 yX2_turnRound yX2_turnRound ∈ tbG := tg (i := 23) (by decide +kernel) rfl
theorem wcX2_statesOf : Cond.code yX2_statesOf cX2_statesOf 4 (some .int) ∈ tbG := tg (i := 751) (by decide +kernel) rfl
theorem wiX2_statesOf : Cond.instanceMethod yX2_statesOf ∈ tbG := tg (i := 749) (by decide +kernel) rfl
theorem wsX2_statesOf : Cond.selects RX2 yX2_statesOf yX2_statesOf ∈ tbG := tg (i := 750) (by decide +kernel) rfl
theorem wcX2_marksInAll : Cond.code yX2_marksInAll cX2_marksInAll 4 (some .int) ∈ tbG := tg (i := 755) (by decide +kernel) rfl
theorem wiX2_marksInAll : Cond.instanceMethod yX2_marksInAll ∈ tbG := tg (i := 753) (by decide +kernel) rfl
theorem wsX2_marksInAll : Cond.selects RX2 yX2_marksInAll yX2_marksInAll ∈ tbG := tg (i := 754) (by decide +kernel) rfl
theorem wcX2_marksInSome : Cond.code yX2_marksInSome cX2_marksInSome 4 (some .int) ∈ tbG := tg (i := 759) (by decide +kernel) rfl
theorem wiX2_marksInSome : Cond.instanceMethod yX2_marksInSome ∈ tbG := tg (i := 757) (by decide +kernel) rfl
theorem wsX2_marksInSome : Cond.selects RX2 yX2_marksInSome yX2_marksInSome ∈ tbG := tg (i := 758) (by decide +kernel) rfl
theorem wcX10_stuckStates : Cond.code yX10_stuckStates cX10_stuckStates 4 (some .int) ∈ tbG := tg (i := 763) (by decide +kernel) rfl
theorem wiX10_stuckStates : Cond.instanceMethod yX10_stuckStates ∈ tbG := tg (i := 762) (by decide +kernel) rfl
theorem wsX10_stuckStates : Cond.selects RX10 yX10_stuckStates yX10_stuckStates ∈ tbG := tg (i := 24) (by decide +kernel) rfl
theorem wcX10_isStuck : Cond.code yX10_isStuck cX10_isStuck 2 (some .boolean) ∈ tbG := tg (i := 768) (by decide +kernel) rfl
theorem wiX10_isStuck : Cond.instanceMethod yX10_isStuck ∈ tbG := tg (i := 767) (by decide +kernel) rfl
theorem wsX10_isStuck : Cond.selects RX10 yX10_isStuck yX10_isStuck ∈ tbG := tg (i := 25) (by decide +kernel) rfl
theorem wcX2_movesFrom : Cond.code yX2_movesFrom cX2_movesFrom 2 (some .int) ∈ tbG := tg (i := 772) (by decide +kernel) rfl
theorem wiX2_movesFrom : Cond.instanceMethod yX2_movesFrom ∈ tbG := tg (i := 770) (by decide +kernel) rfl
theorem wsX2_movesFrom : Cond.selects RX2 yX2_movesFrom yX2_movesFrom ∈ tbG := tg (i := 771) (by decide +kernel) rfl
theorem wcX10_lostStates : Cond.code yX10_lostStates cX10_lostStates 4 (some .int) ∈ tbG := tg (i := 776) (by decide +kernel) rfl
theorem wiX10_lostStates : Cond.instanceMethod yX10_lostStates ∈ tbG := tg (i := 775) (by decide +kernel) rfl
theorem wsX10_lostStates : Cond.selects RX10 yX10_lostStates yX10_lostStates ∈ tbG := tg (i := 26) (by decide +kernel) rfl
theorem wcX10_refreshHopes : Cond.code yX10_refreshHopes cX10_refreshHopes 1 none ∈ tbG := tg (i := 780) (by decide +kernel) rfl
theorem wiX10_refreshHopes : Cond.instanceMethod yX10_refreshHopes ∈ tbG := tg (i := 779) (by decide +kernel) rfl
theorem wsX10_refreshHopes : Cond.selects RX10 yX10_refreshHopes yX10_refreshHopes ∈ tbG := tg (i := 27) (by decide +kernel) rfl
theorem wcX3_learn : Cond.code yX3_learn cX3_learn 6 none ∈ tbG := tg (i := 784) (by decide +kernel) rfl
theorem wiX3_learn : Cond.instanceMethod yX3_learn ∈ tbG := tg (i := 782) (by decide +kernel) rfl
theorem wsX3_learn : Cond.selects RX3 yX3_learn yX3_learn ∈ tbG := tg (i := 783) (by decide +kernel) rfl
theorem wcX3_admit : Cond.code yX3_admit cX3_admit 2 none ∈ tbG := tg (i := 790) (by decide +kernel) rfl
theorem wiX3_admit : Cond.instanceMethod yX3_admit ∈ tbG := tg (i := 789) (by decide +kernel) rfl
theorem wsX3_admit : Cond.selects RX3 yX3_admit yX3_admit ∈ tbG := tg (i := 28) (by decide +kernel) rfl
theorem wcX10_least : Cond.code yX10_least cX10_least 4 (some .int) ∈ tbG := tg (i := 794) (by decide +kernel) rfl
theorem wiX10_least : Cond.instanceMethod yX10_least ∈ tbG := tg (i := 792) (by decide +kernel) rfl
theorem wsX10_least : Cond.selects RX10 yX10_least yX10_least ∈ tbG := tg (i := 793) (by decide +kernel) rfl
theorem wcX10_refreshPrices : Cond.code yX10_refreshPrices cX10_refreshPrices 1 none ∈ tbG := tg (i := 798) (by decide +kernel) rfl
theorem wiX10_refreshPrices : Cond.instanceMethod yX10_refreshPrices ∈ tbG := tg (i := 797) (by decide +kernel) rfl
theorem wsX10_refreshPrices : Cond.selects RX10 yX10_refreshPrices yX10_refreshPrices ∈ tbG := tg (i := 29) (by decide +kernel) rfl
theorem wcX5_learn : Cond.code yX5_learn cX5_learn 7 none ∈ tbG := tg (i := 802) (by decide +kernel) rfl
theorem wiX5_learn : Cond.instanceMethod yX5_learn ∈ tbG := tg (i := 800) (by decide +kernel) rfl
theorem wsX5_learn : Cond.selects RX5 yX5_learn yX5_learn ∈ tbG := tg (i := 801) (by decide +kernel) rfl
theorem wcX5_cheapestOf : Cond.code yX5_cheapestOf cX5_cheapestOf 5 (some .int) ∈ tbG := tg (i := 807) (by decide +kernel) rfl
theorem wiX5_cheapestOf : Cond.instanceMethod yX5_cheapestOf ∈ tbG := tg (i := 805) (by decide +kernel) rfl
theorem wsX5_cheapestOf : Cond.selects RX5 yX5_cheapestOf yX5_cheapestOf ∈ tbG := tg (i := 806) (by decide +kernel) rfl
theorem wcJ9_min_7cf53 : Cond.code yJ9_min_7cf53 cJ9_min_7cf53 2 (some .int) ∈ tbG := tg (i := 811) (by decide +kernel) rfl
theorem wtJ9_min_7cf53 : Cond.static yJ9_min_7cf53 ∈ tbG := tg (i := 810) (by decide +kernel) rfl
theorem wcX10_row : Cond.code yX10_row cX10_row 3 (some .int) ∈ tbG := tg (i := 815) (by decide +kernel) rfl
theorem wiX10_row : Cond.instanceMethod yX10_row ∈ tbG := tg (i := 813) (by decide +kernel) rfl
theorem wsX10_row : Cond.selects RX10 yX10_row yX10_row ∈ tbG := tg (i := 814) (by decide +kernel) rfl
theorem wcX2_answerOfRow : Cond.code yX2_answerOfRow cX2_answerOfRow 5 (some .int) ∈ tbG := tg (i := 819) (by decide +kernel) rfl
theorem wiX2_answerOfRow : Cond.instanceMethod yX2_answerOfRow ∈ tbG := tg (i := 817) (by decide +kernel) rfl
theorem wsX2_answerOfRow : Cond.selects RX2 yX2_answerOfRow yX2_answerOfRow ∈ tbG := tg (i := 818) (by decide +kernel) rfl
theorem wcX10_needs : Cond.code yX10_needs cX10_needs 4 (some .int) ∈ tbG := tg (i := 823) (by decide +kernel) rfl
theorem wiX10_needs : Cond.instanceMethod yX10_needs ∈ tbG := tg (i := 821) (by decide +kernel) rfl
theorem wsX10_needs : Cond.selects RX10 yX10_needs yX10_needs ∈ tbG := tg (i := 822) (by decide +kernel) rfl
theorem wcX8_answersThatLay : Cond.code yX8_answersThatLay cX8_answersThatLay 4 (some .int) ∈ tbG := tg (i := 827) (by decide +kernel) rfl
theorem wiX8_answersThatLay : Cond.instanceMethod yX8_answersThatLay ∈ tbG := tg (i := 825) (by decide +kernel) rfl
theorem wsX8_answersThatLay : Cond.selects RX8 yX8_answersThatLay yX8_answersThatLay ∈ tbG := tg (i := 826) (by decide +kernel) rfl
theorem wcX9_comesTo : Cond.code yX9_comesTo cX9_comesTo 7 (some .boolean) ∈ tbG := tg (i := 831) (by decide +kernel) rfl
theorem wiX9_comesTo : Cond.instanceMethod yX9_comesTo ∈ tbG := tg (i := 829) (by decide +kernel) rfl
theorem wsX9_comesTo : Cond.selects RX9 yX9_comesTo yX9_comesTo ∈ tbG := tg (i := 830) (by decide +kernel) rfl
theorem wcX9_startAt : Cond.code yX9_startAt cX9_startAt 2 none ∈ tbG := tg (i := 835) (by decide +kernel) rfl
theorem wiX9_startAt : Cond.instanceMethod yX9_startAt ∈ tbG := tg (i := 834) (by decide +kernel) rfl
theorem wsX9_startAt : Cond.selects RX9 yX9_startAt yX9_startAt ∈ tbG := tg (i := 30) (by decide +kernel) rfl
theorem wcX9_enqueue : Cond.code yX9_enqueue cX9_enqueue 3 none ∈ tbG := tg (i := 840) (by decide +kernel) rfl
theorem wiX9_enqueue : Cond.instanceMethod yX9_enqueue ∈ tbG := tg (i := 839) (by decide +kernel) rfl
theorem wsX9_enqueue : Cond.selects RX9 yX9_enqueue yX9_enqueue ∈ tbG := tg (i := 31) (by decide +kernel) rfl
theorem wcX10_must : Cond.code yX10_must cX10_must 6 (some .int) ∈ tbG := tg (i := 846) (by decide +kernel) rfl
theorem wiX10_must : Cond.instanceMethod yX10_must ∈ tbG := tg (i := 844) (by decide +kernel) rfl
theorem wsX10_must : Cond.selects RX10 yX10_must yX10_must ∈ tbG := tg (i := 845) (by decide +kernel) rfl
theorem wcX2_answersOfRow : Cond.code yX2_answersOfRow cX2_answersOfRow 5 (some .int) ∈ tbG := tg (i := 850) (by decide +kernel) rfl
theorem wiX2_answersOfRow : Cond.instanceMethod yX2_answersOfRow ∈ tbG := tg (i := 848) (by decide +kernel) rfl
theorem wsX2_answersOfRow : Cond.selects RX2 yX2_answersOfRow yX2_answersOfRow ∈ tbG := tg (i := 849) (by decide +kernel) rfl
theorem wcX10_loop : Cond.code yX10_loop cX10_loop 5 (some .int) ∈ tbG := tg (i := 854) (by decide +kernel) rfl
theorem wiX10_loop : Cond.instanceMethod yX10_loop ∈ tbG := tg (i := 852) (by decide +kernel) rfl
theorem wsX10_loop : Cond.selects RX10 yX10_loop yX10_loop ∈ tbG := tg (i := 853) (by decide +kernel) rfl
theorem wcX10_refreshLoops : Cond.code yX10_refreshLoops cX10_refreshLoops 1 none ∈ tbG := tg (i := 858) (by decide +kernel) rfl
theorem wiX10_refreshLoops : Cond.instanceMethod yX10_refreshLoops ∈ tbG := tg (i := 857) (by decide +kernel) rfl
theorem wsX10_refreshLoops : Cond.selects RX10 yX10_refreshLoops yX10_refreshLoops ∈ tbG := tg (i := 32) (by decide +kernel) rfl
theorem wcX4_learn : Cond.code yX4_learn cX4_learn 3 none ∈ tbG := tg (i := 862) (by decide +kernel) rfl
theorem wiX4_learn : Cond.instanceMethod yX4_learn ∈ tbG := tg (i := 860) (by decide +kernel) rfl
theorem wsX4_learn : Cond.selects RX4 yX4_learn yX4_learn ∈ tbG := tg (i := 861) (by decide +kernel) rfl
theorem wcX4_finishAll : Cond.code yX4_finishAll cX4_finishAll 6 none ∈ tbG := tg (i := 866) (by decide +kernel) rfl
theorem wiX4_finishAll : Cond.instanceMethod yX4_finishAll ∈ tbG := tg (i := 865) (by decide +kernel) rfl
theorem wsX4_finishAll : Cond.selects RX4 yX4_finishAll yX4_finishAll ∈ tbG := tg (i := 33) (by decide +kernel) rfl
theorem wcX4_clear : Cond.code yX4_clear cX4_clear 2 none ∈ tbG := tg (i := 869) (by decide +kernel) rfl
theorem wtX4_clear : Cond.static yX4_clear ∈ tbG := tg (i := 868) (by decide +kernel) rfl
theorem wcX4_push : Cond.code yX4_push cX4_push 3 none ∈ tbG := tg (i := 873) (by decide +kernel) rfl
theorem wiX4_push : Cond.instanceMethod yX4_push ∈ tbG := tg (i := 872) (by decide +kernel) rfl
theorem wsX4_push : Cond.selects RX4 yX4_push yX4_push ∈ tbG := tg (i := 34) (by decide +kernel) rfl
theorem wcX4_gatherComponent : Cond.code yX4_gatherComponent cX4_gatherComponent 7 none ∈ tbG := tg (i := 877) (by decide +kernel) rfl
theorem wiX4_gatherComponent : Cond.instanceMethod yX4_gatherComponent ∈ tbG := tg (i := 876) (by decide +kernel) rfl
theorem wsX4_gatherComponent : Cond.selects RX4 yX4_gatherComponent yX4_gatherComponent ∈ tbG := tg (i := 35) (by decide +kernel) rfl
theorem wcX4_join : Cond.code yX4_join cX4_join 2 none ∈ tbG := tg (i := 881) (by decide +kernel) rfl
theorem wiX4_join : Cond.instanceMethod yX4_join ∈ tbG := tg (i := 880) (by decide +kernel) rfl
theorem wsX4_join : Cond.selects RX4 yX4_join yX4_join ∈ tbG := tg (i := 36) (by decide +kernel) rfl
theorem wcX9_shortestLoop : Cond.code yX9_shortestLoop cX9_shortestLoop 8 (some .int) ∈ tbG := tg (i := 885) (by decide +kernel) rfl
theorem wiX9_shortestLoop : Cond.instanceMethod yX9_shortestLoop ∈ tbG := tg (i := 883) (by decide +kernel) rfl
theorem wsX9_shortestLoop : Cond.selects RX9 yX9_shortestLoop yX9_shortestLoop ∈ tbG := tg (i := 884) (by decide +kernel) rfl
theorem wcX10_use : Cond.code yX10_use cX10_use 3 (some .int) ∈ tbG := tg (i := 889) (by decide +kernel) rfl
theorem wiX10_use : Cond.instanceMethod yX10_use ∈ tbG := tg (i := 887) (by decide +kernel) rfl
theorem wsX10_use : Cond.selects RX10 yX10_use yX10_use ∈ tbG := tg (i := 888) (by decide +kernel) rfl
theorem wcX2_movesBy : Cond.code yX2_movesBy cX2_movesBy 4 (some .int) ∈ tbG := tg (i := 893) (by decide +kernel) rfl
theorem wiX2_movesBy : Cond.instanceMethod yX2_movesBy ∈ tbG := tg (i := 891) (by decide +kernel) rfl
theorem wsX2_movesBy : Cond.selects RX2 yX2_movesBy yX2_movesBy ∈ tbG := tg (i := 892) (by decide +kernel) rfl
theorem wcX10_mark : Cond.code yX10_mark cX10_mark 3 (some .int) ∈ tbG := tg (i := 897) (by decide +kernel) rfl
theorem wiX10_mark : Cond.instanceMethod yX10_mark ∈ tbG := tg (i := 895) (by decide +kernel) rfl
theorem wsX10_mark : Cond.selects RX10 yX10_mark yX10_mark ∈ tbG := tg (i := 896) (by decide +kernel) rfl
theorem wcX8_guardsThatName : Cond.code yX8_guardsThatName cX8_guardsThatName 4 (some .int) ∈ tbG := tg (i := 901) (by decide +kernel) rfl
theorem wiX8_guardsThatName : Cond.instanceMethod yX8_guardsThatName ∈ tbG := tg (i := 899) (by decide +kernel) rfl
theorem wsX8_guardsThatName : Cond.selects RX8 yX8_guardsThatName yX8_guardsThatName ∈ tbG := tg (i := 900) (by decide +kernel) rfl
theorem wcX8_marksOfGuard : Cond.code yX8_marksOfGuard cX8_marksOfGuard 5 (some .int) ∈ tbG := tg (i := 905) (by decide +kernel) rfl
theorem wiX8_marksOfGuard : Cond.instanceMethod yX8_marksOfGuard ∈ tbG := tg (i := 904) (by decide +kernel) rfl
theorem wsX8_marksOfGuard : Cond.selects RX8 yX8_marksOfGuard yX8_marksOfGuard ∈ tbG := tg (i := 37) (by decide +kernel) rfl
theorem wcX8_effectsThatName : Cond.code yX8_effectsThatName cX8_effectsThatName 4 (some .int) ∈ tbG := tg (i := 909) (by decide +kernel) rfl
theorem wiX8_effectsThatName : Cond.instanceMethod yX8_effectsThatName ∈ tbG := tg (i := 907) (by decide +kernel) rfl
theorem wsX8_effectsThatName : Cond.selects RX8 yX8_effectsThatName yX8_effectsThatName ∈ tbG := tg (i := 908) (by decide +kernel) rfl
theorem wcX10_isMarkReached : Cond.code yX10_isMarkReached cX10_isMarkReached 3 (some .boolean) ∈ tbG := tg (i := 913) (by decide +kernel) rfl
theorem wiX10_isMarkReached : Cond.instanceMethod yX10_isMarkReached ∈ tbG := tg (i := 912) (by decide +kernel) rfl
theorem wsX10_isMarkReached : Cond.selects RX10 yX10_isMarkReached yX10_isMarkReached ∈ tbG := tg (i := 38) (by decide +kernel) rfl
theorem wcX10_isAskedForInVain : Cond.code yX10_isAskedForInVain cX10_isAskedForInVain 3 (some .boolean) ∈ tbG := tg (i := 918) (by decide +kernel) rfl
theorem wiX10_isAskedForInVain : Cond.instanceMethod yX10_isAskedForInVain ∈ tbG := tg (i := 917) (by decide +kernel) rfl
theorem wsX10_isAskedForInVain : Cond.selects RX10 yX10_isAskedForInVain yX10_isAskedForInVain ∈ tbG := tg (i := 39) (by decide +kernel) rfl
theorem wcX10_leadsOutWithout : Cond.code yX10_leadsOutWithout cX10_leadsOutWithout 6 (some .boolean) ∈ tbG := tg (i := 922) (by decide +kernel) rfl
theorem wiX10_leadsOutWithout : Cond.instanceMethod yX10_leadsOutWithout ∈ tbG := tg (i := 921) (by decide +kernel) rfl
theorem wsX10_leadsOutWithout : Cond.selects RX10 yX10_leadsOutWithout yX10_leadsOutWithout ∈ tbG := tg (i := 40) (by decide +kernel) rfl
theorem wcX10_whole : Cond.code yX10_whole cX10_whole 2 (some .int) ∈ tbG := tg (i := 928) (by decide +kernel) rfl
theorem wiX10_whole : Cond.instanceMethod yX10_whole ∈ tbG := tg (i := 926) (by decide +kernel) rfl
theorem wsX10_whole : Cond.selects RX10 yX10_whole yX10_whole ∈ tbG := tg (i := 927) (by decide +kernel) rfl
theorem wcX2_linesReached : Cond.code yX2_linesReached cX2_linesReached 3 (some .int) ∈ tbG := tg (i := 932) (by decide +kernel) rfl
theorem wiX2_linesReached : Cond.instanceMethod yX2_linesReached ∈ tbG := tg (i := 930) (by decide +kernel) rfl
theorem wsX2_linesReached : Cond.selects RX2 yX2_linesReached yX2_linesReached ∈ tbG := tg (i := 931) (by decide +kernel) rfl
theorem wcX10_stuckLines : Cond.code yX10_stuckLines cX10_stuckLines 3 (some .int) ∈ tbG := tg (i := 936) (by decide +kernel) rfl
theorem wiX10_stuckLines : Cond.instanceMethod yX10_stuckLines ∈ tbG := tg (i := 935) (by decide +kernel) rfl
theorem wsX10_stuckLines : Cond.selects RX10 yX10_stuckLines yX10_stuckLines ∈ tbG := tg (i := 41) (by decide +kernel) rfl
theorem wcX10_lostLines : Cond.code yX10_lostLines cX10_lostLines 3 (some .int) ∈ tbG := tg (i := 940) (by decide +kernel) rfl
theorem wiX10_lostLines : Cond.instanceMethod yX10_lostLines ∈ tbG := tg (i := 939) (by decide +kernel) rfl
theorem wsX10_lostLines : Cond.selects RX10 yX10_lostLines yX10_lostLines ∈ tbG := tg (i := 42) (by decide +kernel) rfl
theorem wcX10_loopingLines : Cond.code yX10_loopingLines cX10_loopingLines 3 (some .int) ∈ tbG := tg (i := 944) (by decide +kernel) rfl
theorem wiX10_loopingLines : Cond.instanceMethod yX10_loopingLines ∈ tbG := tg (i := 943) (by decide +kernel) rfl
theorem wsX10_loopingLines : Cond.selects RX10 yX10_loopingLines yX10_loopingLines ∈ tbG := tg (i := 43) (by decide +kernel) rfl
theorem wcX2_mostMovesOfAState : Cond.code yX2_mostMovesOfAState cX2_mostMovesOfAState 3 (some .int) ∈ tbG := tg (i := 948) (by decide +kernel) rfl
theorem wiX2_mostMovesOfAState : Cond.instanceMethod yX2_mostMovesOfAState ∈ tbG := tg (i := 946) (by decide +kernel) rfl
theorem wsX2_mostMovesOfAState : Cond.selects RX2 yX2_mostMovesOfAState yX2_mostMovesOfAState ∈ tbG := tg (i := 947) (by decide +kernel) rfl
theorem wcJ9_max_7cf53 : Cond.code yJ9_max_7cf53 cJ9_max_7cf53 2 (some .int) ∈ tbG := tg (i := 952) (by decide +kernel) rfl
theorem wtJ9_max_7cf53 : Cond.static yJ9_max_7cf53 ∈ tbG := tg (i := 951) (by decide +kernel) rfl
theorem wcX10_statesAtEndings : Cond.code yX10_statesAtEndings cX10_statesAtEndings 3 (some .int) ∈ tbG := tg (i := 956) (by decide +kernel) rfl
theorem wiX10_statesAtEndings : Cond.instanceMethod yX10_statesAtEndings ∈ tbG := tg (i := 955) (by decide +kernel) rfl
theorem wsX10_statesAtEndings : Cond.selects RX10 yX10_statesAtEndings yX10_statesAtEndings ∈ tbG := tg (i := 44) (by decide +kernel) rfl
theorem wcX2_greatestDepth : Cond.code yX2_greatestDepth cX2_greatestDepth 1 (some .int) ∈ tbG := tg (i := 960) (by decide +kernel) rfl
theorem wiX2_greatestDepth : Cond.instanceMethod yX2_greatestDepth ∈ tbG := tg (i := 958) (by decide +kernel) rfl
theorem wsX2_greatestDepth : Cond.selects RX2 yX2_greatestDepth yX2_greatestDepth ∈ tbG := tg (i := 959) (by decide +kernel) rfl
theorem wcX10_rows : Cond.code yX10_rows cX10_rows 3 (some .long) ∈ tbG := tg (i := 964) (by decide +kernel) rfl
theorem wiX10_rows : Cond.instanceMethod yX10_rows ∈ tbG := tg (i := 962) (by decide +kernel) rfl
theorem wsX10_rows : Cond.selects RX10 yX10_rows yX10_rows ∈ tbG := tg (i := 963) (by decide +kernel) rfl
theorem wcX7_rowsTo : Cond.code yX7_rowsTo cX7_rowsTo 7 (some .long) ∈ tbG := tg (i := 970) (by decide +kernel) rfl
theorem wiX7_rowsTo : Cond.instanceMethod yX7_rowsTo ∈ tbG := tg (i := 968) (by decide +kernel) rfl
theorem wsX7_rowsTo : Cond.selects RX7 yX7_rowsTo yX7_rowsTo ∈ tbG := tg (i := 969) (by decide +kernel) rfl
theorem wcJ7_fill_d0a16 : Cond.code yJ7_fill_d0a16 cJ7_fill_d0a16 5 none ∈ tbG := tg (i := 973) (by decide +kernel) rfl
theorem wtJ7_fill_d0a16 : Cond.static yJ7_fill_d0a16 ∈ tbG := tg (i := 972) (by decide +kernel) rfl
theorem wcX7_lengthen : Cond.code yX7_lengthen cX7_lengthen 6 (some .boolean) ∈ tbG := tg (i := 977) (by decide +kernel) rfl
theorem wiX7_lengthen : Cond.instanceMethod yX7_lengthen ∈ tbG := tg (i := 976) (by decide +kernel) rfl
theorem wsX7_lengthen : Cond.selects RX7 yX7_lengthen yX7_lengthen ∈ tbG := tg (i := 45) (by decide +kernel) rfl
theorem wcX11_init : Cond.code yX11_init cX11_init 1 none ∈ tbG := tg (i := 985) (by decide +kernel) rfl
theorem wiX11_init : Cond.instanceMethod yX11_init ∈ tbG := tg (i := 984) (by decide +kernel) rfl
theorem wcX11_write : Cond.code yX11_write cX11_write 2 (some .int) ∈ tbG := tg (i := 1105) (by decide +kernel) rfl
theorem wiX11_write : Cond.instanceMethod yX11_write ∈ tbG := tg (i := 1103) (by decide +kernel) rfl
theorem wsX11_write : Cond.selects RX11 yX11_write yX11_write ∈ tbG := tg (i := 1104) (by decide +kernel) rfl
theorem wcX11_in : Cond.code yX11_in cX11_in 6 (some .boolean) ∈ tbG := tg (i := 1109) (by decide +kernel) rfl
theorem wtX11_in : Cond.static yX11_in ∈ tbG := tg (i := 1108) (by decide +kernel) rfl
theorem wcX11_talk : Cond.code yX11_talk cX11_talk 3 (some .int) ∈ tbG := tg (i := 1115) (by decide +kernel) rfl
theorem wiX11_talk : Cond.instanceMethod yX11_talk ∈ tbG := tg (i := 1113) (by decide +kernel) rfl
theorem wsX11_talk : Cond.selects RX11 yX11_talk yX11_talk ∈ tbG := tg (i := 1114) (by decide +kernel) rfl
theorem wcX11_readsClause : Cond.code yX11_readsClause cX11_readsClause 2 none ∈ tbG := tg (i := 1119) (by decide +kernel) rfl
theorem wiX11_readsClause : Cond.instanceMethod yX11_readsClause ∈ tbG := tg (i := 1118) (by decide +kernel) rfl
theorem wsX11_readsClause : Cond.selects RX11 yX11_readsClause yX11_readsClause ∈ tbG := tg (i := 46) (by decide +kernel) rfl
theorem wcX11_line : Cond.code yX11_line cX11_line 2 (some .int) ∈ tbG := tg (i := 1123) (by decide +kernel) rfl
theorem wiX11_line : Cond.instanceMethod yX11_line ∈ tbG := tg (i := 1122) (by decide +kernel) rfl
theorem wsX11_line : Cond.selects RX11 yX11_line yX11_line ∈ tbG := tg (i := 47) (by decide +kernel) rfl
theorem wcX11_look : Cond.code yX11_look cX11_look 1 (some .int) ∈ tbG := tg (i := 1127) (by decide +kernel) rfl
theorem wiX11_look : Cond.instanceMethod yX11_look ∈ tbG := tg (i := 1126) (by decide +kernel) rfl
theorem wsX11_look : Cond.selects RX11 yX11_look yX11_look ∈ tbG := tg (i := 48) (by decide +kernel) rfl
theorem wcX11_wrong : Cond.code yX11_wrong cX11_wrong 2 none ∈ tbG := tg (i := 1133) (by decide +kernel) rfl
theorem wiX11_wrong : Cond.instanceMethod yX11_wrong ∈ tbG := tg (i := 1132) (by decide +kernel) rfl
theorem wsX11_wrong : Cond.selects RX11 yX11_wrong yX11_wrong ∈ tbG := tg (i := 49) (by decide +kernel) rfl
theorem wcX11_readsAnswer : Cond.code yX11_readsAnswer cX11_readsAnswer 4 none ∈ tbG := tg (i := 1137) (by decide +kernel) rfl
theorem wiX11_readsAnswer : Cond.instanceMethod yX11_readsAnswer ∈ tbG := tg (i := 1136) (by decide +kernel) rfl
theorem wsX11_readsAnswer : Cond.selects RX11 yX11_readsAnswer yX11_readsAnswer ∈ tbG := tg (i := 50) (by decide +kernel) rfl
theorem wcX11_passes : Cond.code yX11_passes cX11_passes 2 none ∈ tbG := tg (i := 1141) (by decide +kernel) rfl
theorem wiX11_passes : Cond.instanceMethod yX11_passes ∈ tbG := tg (i := 1140) (by decide +kernel) rfl
theorem wsX11_passes : Cond.selects RX11 yX11_passes yX11_passes ∈ tbG := tg (i := 51) (by decide +kernel) rfl
theorem wcX11_readsGuard : Cond.code yX11_readsGuard cX11_readsGuard 2 none ∈ tbG := tg (i := 1147) (by decide +kernel) rfl
theorem wiX11_readsGuard : Cond.instanceMethod yX11_readsGuard ∈ tbG := tg (i := 1146) (by decide +kernel) rfl
theorem wsX11_readsGuard : Cond.selects RX11 yX11_readsGuard yX11_readsGuard ∈ tbG := tg (i := 52) (by decide +kernel) rfl
theorem wcX11_readsAlternative : Cond.code yX11_readsAlternative cX11_readsAlternative 4 none ∈ tbG := tg (i := 1151) (by decide +kernel) rfl
theorem wiX11_readsAlternative : Cond.instanceMethod yX11_readsAlternative ∈ tbG := tg (i := 1150) (by decide +kernel) rfl
theorem wsX11_readsAlternative : Cond.selects RX11 yX11_readsAlternative yX11_readsAlternative ∈ tbG := tg (i := 53) (by decide +kernel) rfl
theorem wcX11_isMark : Cond.code yX11_isMark cX11_isMark 1 (some .boolean) ∈ tbG := tg (i := 1155) (by decide +kernel) rfl
theorem wiX11_isMark : Cond.instanceMethod yX11_isMark ∈ tbG := tg (i := 1154) (by decide +kernel) rfl
theorem wsX11_isMark : Cond.selects RX11 yX11_isMark yX11_isMark ∈ tbG := tg (i := 54) (by decide +kernel) rfl
theorem wcX11_readsEffect : Cond.code yX11_readsEffect cX11_readsEffect 4 none ∈ tbG := tg (i := 1163) (by decide +kernel) rfl
theorem wiX11_readsEffect : Cond.instanceMethod yX11_readsEffect ∈ tbG := tg (i := 1162) (by decide +kernel) rfl
theorem wsX11_readsEffect : Cond.selects RX11 yX11_readsEffect yX11_readsEffect ∈ tbG := tg (i := 55) (by decide +kernel) rfl
theorem wcX11_has : Cond.code yX11_has cX11_has 2 (some .boolean) ∈ tbG := tg (i := 1166) (by decide +kernel) rfl
theorem wtX11_has : Cond.static yX11_has ∈ tbG := tg (i := 1165) (by decide +kernel) rfl
theorem wcX11_keeps : Cond.code yX11_keeps cX11_keeps 2 none ∈ tbG := tg (i := 1170) (by decide +kernel) rfl
theorem wiX11_keeps : Cond.instanceMethod yX11_keeps ∈ tbG := tg (i := 1169) (by decide +kernel) rfl
theorem wsX11_keeps : Cond.selects RX11 yX11_keeps yX11_keeps ∈ tbG := tg (i := 56) (by decide +kernel) rfl
theorem wcX11_fault : Cond.code yX11_fault cX11_fault 1 (some .int) ∈ tbG := tg (i := 1174) (by decide +kernel) rfl
theorem wiX11_fault : Cond.instanceMethod yX11_fault ∈ tbG := tg (i := 1172) (by decide +kernel) rfl
theorem wsX11_fault : Cond.selects RX11 yX11_fault yX11_fault ∈ tbG := tg (i := 1173) (by decide +kernel) rfl
theorem wcX11_begin : Cond.code yX11_begin cX11_begin 2 (some .int) ∈ tbG := tg (i := 1178) (by decide +kernel) rfl
theorem wiX11_begin : Cond.instanceMethod yX11_begin ∈ tbG := tg (i := 1176) (by decide +kernel) rfl
theorem wsX11_begin : Cond.selects RX11 yX11_begin yX11_begin ∈ tbG := tg (i := 1177) (by decide +kernel) rfl
theorem wcX11_isTalk : Cond.code yX11_isTalk cX11_isTalk 1 (some .boolean) ∈ tbG := tg (i := 1182) (by decide +kernel) rfl
theorem wiX11_isTalk : Cond.instanceMethod yX11_isTalk ∈ tbG := tg (i := 1181) (by decide +kernel) rfl
theorem wsX11_isTalk : Cond.selects RX11 yX11_isTalk yX11_isTalk ∈ tbG := tg (i := 57) (by decide +kernel) rfl
theorem wcX11_take : Cond.code yX11_take cX11_take 2 (some .int) ∈ tbG := tg (i := 1188) (by decide +kernel) rfl
theorem wiX11_take : Cond.instanceMethod yX11_take ∈ tbG := tg (i := 1186) (by decide +kernel) rfl
theorem wsX11_take : Cond.selects RX11 yX11_take yX11_take ∈ tbG := tg (i := 1187) (by decide +kernel) rfl
theorem wcX11_isAnswer : Cond.code yX11_isAnswer cX11_isAnswer 2 (some .boolean) ∈ tbG := tg (i := 1192) (by decide +kernel) rfl
theorem wiX11_isAnswer : Cond.instanceMethod yX11_isAnswer ∈ tbG := tg (i := 1191) (by decide +kernel) rfl
theorem wsX11_isAnswer : Cond.selects RX11 yX11_isAnswer yX11_isAnswer ∈ tbG := tg (i := 58) (by decide +kernel) rfl
theorem wcX11_here : Cond.code yX11_here cX11_here 3 (some .int) ∈ tbG := tg (i := 1196) (by decide +kernel) rfl
theorem wiX11_here : Cond.instanceMethod yX11_here ∈ tbG := tg (i := 1195) (by decide +kernel) rfl
theorem wsX11_here : Cond.selects RX11 yX11_here yX11_here ∈ tbG := tg (i := 59) (by decide +kernel) rfl
theorem wcX11_first : Cond.code yX11_first cX11_first 1 (some .int) ∈ tbG := tg (i := 1200) (by decide +kernel) rfl
theorem wiX11_first : Cond.instanceMethod yX11_first ∈ tbG := tg (i := 1199) (by decide +kernel) rfl
theorem wsX11_first : Cond.selects RX11 yX11_first yX11_first ∈ tbG := tg (i := 60) (by decide +kernel) rfl
theorem wcX11_next : Cond.code yX11_next cX11_next 3 (some .int) ∈ tbG := tg (i := 1204) (by decide +kernel) rfl
theorem wiX11_next : Cond.instanceMethod yX11_next ∈ tbG := tg (i := 1203) (by decide +kernel) rfl
theorem wsX11_next : Cond.selects RX11 yX11_next yX11_next ∈ tbG := tg (i := 61) (by decide +kernel) rfl
theorem wcX11_isOpen : Cond.code yX11_isOpen cX11_isOpen 5 (some .boolean) ∈ tbG := tg (i := 1208) (by decide +kernel) rfl
theorem wiX11_isOpen : Cond.instanceMethod yX11_isOpen ∈ tbG := tg (i := 1207) (by decide +kernel) rfl
theorem wsX11_isOpen : Cond.selects RX11 yX11_isOpen yX11_isOpen ∈ tbG := tg (i := 62) (by decide +kernel) rfl
theorem wcX11_holds : Cond.code yX11_holds cX11_holds 9 (some .boolean) ∈ tbG := tg (i := 1212) (by decide +kernel) rfl
theorem wiX11_holds : Cond.instanceMethod yX11_holds ∈ tbG := tg (i := 1211) (by decide +kernel) rfl
theorem wsX11_holds : Cond.selects RX11 yX11_holds yX11_holds ∈ tbG := tg (i := 63) (by decide +kernel) rfl
theorem wcX11_back : Cond.code yX11_back cX11_back 2 (some .int) ∈ tbG := tg (i := 1217) (by decide +kernel) rfl
theorem wiX11_back : Cond.instanceMethod yX11_back ∈ tbG := tg (i := 1215) (by decide +kernel) rfl
theorem wsX11_back : Cond.selects RX11 yX11_back yX11_back ∈ tbG := tg (i := 1216) (by decide +kernel) rfl
theorem wcX11_cut : Cond.code yX11_cut cX11_cut 5 (some .int) ∈ tbG := tg (i := 1222) (by decide +kernel) rfl
theorem wiX11_cut : Cond.instanceMethod yX11_cut ∈ tbG := tg (i := 1220) (by decide +kernel) rfl
theorem wsX11_cut : Cond.selects RX11 yX11_cut yX11_cut ∈ tbG := tg (i := 1221) (by decide +kernel) rfl
theorem wcX11_notes : Cond.code yX11_notes cX11_notes 2 none ∈ tbG := tg (i := 1226) (by decide +kernel) rfl
theorem wiX11_notes : Cond.instanceMethod yX11_notes ∈ tbG := tg (i := 1225) (by decide +kernel) rfl
theorem wsX11_notes : Cond.selects RX11 yX11_notes yX11_notes ∈ tbG := tg (i := 64) (by decide +kernel) rfl
theorem wcX11_cost : Cond.code yX11_cost cX11_cost 4 (some .int) ∈ tbG := tg (i := 1230) (by decide +kernel) rfl
theorem wiX11_cost : Cond.instanceMethod yX11_cost ∈ tbG := tg (i := 1228) (by decide +kernel) rfl
theorem wsX11_cost : Cond.selects RX11 yX11_cost yX11_cost ∈ tbG := tg (i := 1229) (by decide +kernel) rfl
theorem wcX11_undo : Cond.code yX11_undo cX11_undo 2 (some .int) ∈ tbG := tg (i := 1235) (by decide +kernel) rfl
theorem wiX11_undo : Cond.instanceMethod yX11_undo ∈ tbG := tg (i := 1233) (by decide +kernel) rfl
theorem wsX11_undo : Cond.selects RX11 yX11_undo yX11_undo ∈ tbG := tg (i := 1234) (by decide +kernel) rfl
theorem wcX11_answer : Cond.code yX11_answer cX11_answer 4 (some .int) ∈ tbG := tg (i := 1239) (by decide +kernel) rfl
theorem wiX11_answer : Cond.instanceMethod yX11_answer ∈ tbG := tg (i := 1237) (by decide +kernel) rfl
theorem wsX11_answer : Cond.selects RX11 yX11_answer yX11_answer ∈ tbG := tg (i := 1238) (by decide +kernel) rfl
theorem wcX11_isVain : Cond.code yX11_isVain cX11_isVain 4 (some .boolean) ∈ tbG := tg (i := 1243) (by decide +kernel) rfl
theorem wiX11_isVain : Cond.instanceMethod yX11_isVain ∈ tbG := tg (i := 1242) (by decide +kernel) rfl
theorem wsX11_isVain : Cond.selects RX11 yX11_isVain yX11_isVain ∈ tbG := tg (i := 65) (by decide +kernel) rfl
theorem wcX11_count : Cond.code yX11_count cX11_count 2 (some .int) ∈ tbG := tg (i := 1248) (by decide +kernel) rfl
theorem wiX11_count : Cond.instanceMethod yX11_count ∈ tbG := tg (i := 1246) (by decide +kernel) rfl
theorem wsX11_count : Cond.selects RX11 yX11_count yX11_count ∈ tbG := tg (i := 1247) (by decide +kernel) rfl
theorem wcX11_openIn : Cond.code yX11_openIn cX11_openIn 4 (some .int) ∈ tbG := tg (i := 1252) (by decide +kernel) rfl
theorem wiX11_openIn : Cond.instanceMethod yX11_openIn ∈ tbG := tg (i := 1251) (by decide +kernel) rfl
theorem wsX11_openIn : Cond.selects RX11 yX11_openIn yX11_openIn ∈ tbG := tg (i := 66) (by decide +kernel) rfl
theorem wcX11_costOfSteps : Cond.code yX11_costOfSteps cX11_costOfSteps 3 (some .int) ∈ tbG := tg (i := 1256) (by decide +kernel) rfl
theorem wiX11_costOfSteps : Cond.instanceMethod yX11_costOfSteps ∈ tbG := tg (i := 1255) (by decide +kernel) rfl
theorem wsX11_costOfSteps : Cond.selects RX11 yX11_costOfSteps yX11_costOfSteps ∈ tbG := tg (i := 67) (by decide +kernel) rfl
theorem wcX11_step : Cond.code yX11_step cX11_step 2 (some .int) ∈ tbG := tg (i := 1260) (by decide +kernel) rfl
theorem wiX11_step : Cond.instanceMethod yX11_step ∈ tbG := tg (i := 1258) (by decide +kernel) rfl
theorem wsX11_step : Cond.selects RX11 yX11_step yX11_step ∈ tbG := tg (i := 1259) (by decide +kernel) rfl
theorem wcX11_line_ : Cond.code yX11_line_ cX11_line_ 3 (some .int) ∈ tbG := tg (i := 1264) (by decide +kernel) rfl
theorem wiX11_line_ : Cond.instanceMethod yX11_line_ ∈ tbG := tg (i := 1262) (by decide +kernel) rfl
theorem wsX11_line_ : Cond.selects RX11 yX11_line_ yX11_line_ ∈ tbG := tg (i := 1263) (by decide +kernel) rfl
theorem wcX11_isLine : Cond.code yX11_isLine cX11_isLine 2 (some .boolean) ∈ tbG := tg (i := 1268) (by decide +kernel) rfl
theorem wiX11_isLine : Cond.instanceMethod yX11_isLine ∈ tbG := tg (i := 1267) (by decide +kernel) rfl
theorem wsX11_isLine : Cond.selects RX11 yX11_isLine yX11_isLine ∈ tbG := tg (i := 68) (by decide +kernel) rfl
theorem wcX11_reachesAll : Cond.code yX11_reachesAll cX11_reachesAll 1 (some .int) ∈ tbG := tg (i := 1274) (by decide +kernel) rfl
theorem wiX11_reachesAll : Cond.instanceMethod yX11_reachesAll ∈ tbG := tg (i := 1273) (by decide +kernel) rfl
theorem wsX11_reachesAll : Cond.selects RX11 yX11_reachesAll yX11_reachesAll ∈ tbG := tg (i := 69) (by decide +kernel) rfl
theorem wcX11_reaches : Cond.code yX11_reaches cX11_reaches 11 (some .int) ∈ tbG := tg (i := 1278) (by decide +kernel) rfl
theorem wiX11_reaches : Cond.instanceMethod yX11_reaches ∈ tbG := tg (i := 1277) (by decide +kernel) rfl
theorem wsX11_reaches : Cond.selects RX11 yX11_reaches yX11_reaches ∈ tbG := tg (i := 70) (by decide +kernel) rfl
theorem wcX11_laysEnds : Cond.code yX11_laysEnds cX11_laysEnds 4 none ∈ tbG := tg (i := 1282) (by decide +kernel) rfl
theorem wiX11_laysEnds : Cond.instanceMethod yX11_laysEnds ∈ tbG := tg (i := 1281) (by decide +kernel) rfl
theorem wsX11_laysEnds : Cond.selects RX11 yX11_laysEnds yX11_laysEnds ∈ tbG := tg (i := 71) (by decide +kernel) rfl
theorem wcX11_statesOf : Cond.code yX11_statesOf cX11_statesOf 6 (some .int) ∈ tbG := tg (i := 1286) (by decide +kernel) rfl
theorem wiX11_statesOf : Cond.instanceMethod yX11_statesOf ∈ tbG := tg (i := 1285) (by decide +kernel) rfl
theorem wsX11_statesOf : Cond.selects RX11 yX11_statesOf yX11_statesOf ∈ tbG := tg (i := 72) (by decide +kernel) rfl
theorem wcX11_isStuck : Cond.code yX11_isStuck cX11_isStuck 2 (some .boolean) ∈ tbG := tg (i := 1290) (by decide +kernel) rfl
theorem wiX11_isStuck : Cond.instanceMethod yX11_isStuck ∈ tbG := tg (i := 1289) (by decide +kernel) rfl
theorem wsX11_isStuck : Cond.selects RX11 yX11_isStuck yX11_isStuck ∈ tbG := tg (i := 73) (by decide +kernel) rfl
theorem wcX11_isLost : Cond.code yX11_isLost cX11_isLost 2 (some .boolean) ∈ tbG := tg (i := 1294) (by decide +kernel) rfl
theorem wiX11_isLost : Cond.instanceMethod yX11_isLost ∈ tbG := tg (i := 1293) (by decide +kernel) rfl
theorem wsX11_isLost : Cond.selects RX11 yX11_isLost yX11_isLost ∈ tbG := tg (i := 74) (by decide +kernel) rfl
theorem wcX11_marksOf : Cond.code yX11_marksOf cX11_marksOf 6 (some .int) ∈ tbG := tg (i := 1298) (by decide +kernel) rfl
theorem wiX11_marksOf : Cond.instanceMethod yX11_marksOf ∈ tbG := tg (i := 1297) (by decide +kernel) rfl
theorem wsX11_marksOf : Cond.selects RX11 yX11_marksOf yX11_marksOf ∈ tbG := tg (i := 75) (by decide +kernel) rfl
theorem wcX11_least : Cond.code yX11_least cX11_least 3 (some .int) ∈ tbG := tg (i := 1302) (by decide +kernel) rfl
theorem wiX11_least : Cond.instanceMethod yX11_least ∈ tbG := tg (i := 1300) (by decide +kernel) rfl
theorem wsX11_least : Cond.selects RX11 yX11_least yX11_least ∈ tbG := tg (i := 1301) (by decide +kernel) rfl
theorem wcX11_cheapest : Cond.code yX11_cheapest cX11_cheapest 7 (some .int) ∈ tbG := tg (i := 1306) (by decide +kernel) rfl
theorem wiX11_cheapest : Cond.instanceMethod yX11_cheapest ∈ tbG := tg (i := 1305) (by decide +kernel) rfl
theorem wsX11_cheapest : Cond.selects RX11 yX11_cheapest yX11_cheapest ∈ tbG := tg (i := 76) (by decide +kernel) rfl
theorem wcX11_fewest : Cond.code yX11_fewest cX11_fewest 4 (some .int) ∈ tbG := tg (i := 1310) (by decide +kernel) rfl
theorem wiX11_fewest : Cond.instanceMethod yX11_fewest ∈ tbG := tg (i := 1309) (by decide +kernel) rfl
theorem wsX11_fewest : Cond.selects RX11 yX11_fewest yX11_fewest ∈ tbG := tg (i := 77) (by decide +kernel) rfl
theorem wcX11_row : Cond.code yX11_row cX11_row 7 (some .int) ∈ tbG := tg (i := 1314) (by decide +kernel) rfl
theorem wiX11_row : Cond.instanceMethod yX11_row ∈ tbG := tg (i := 1312) (by decide +kernel) rfl
theorem wsX11_row : Cond.selects RX11 yX11_row yX11_row ∈ tbG := tg (i := 1313) (by decide +kernel) rfl
theorem wcX11_laysGood : Cond.code yX11_laysGood cX11_laysGood 6 none ∈ tbG := tg (i := 1318) (by decide +kernel) rfl
theorem wiX11_laysGood : Cond.instanceMethod yX11_laysGood ∈ tbG := tg (i := 1317) (by decide +kernel) rfl
theorem wsX11_laysGood : Cond.selects RX11 yX11_laysGood yX11_laysGood ∈ tbG := tg (i := 78) (by decide +kernel) rfl
theorem wcX11_goesOn : Cond.code yX11_goesOn cX11_goesOn 4 (some .boolean) ∈ tbG := tg (i := 1322) (by decide +kernel) rfl
theorem wiX11_goesOn : Cond.instanceMethod yX11_goesOn ∈ tbG := tg (i := 1321) (by decide +kernel) rfl
theorem wsX11_goesOn : Cond.selects RX11 yX11_goesOn yX11_goesOn ∈ tbG := tg (i := 79) (by decide +kernel) rfl
theorem wcX11_needs : Cond.code yX11_needs cX11_needs 4 (some .int) ∈ tbG := tg (i := 1326) (by decide +kernel) rfl
theorem wiX11_needs : Cond.instanceMethod yX11_needs ∈ tbG := tg (i := 1324) (by decide +kernel) rfl
theorem wsX11_needs : Cond.selects RX11 yX11_needs yX11_needs ∈ tbG := tg (i := 1325) (by decide +kernel) rfl
theorem wcX11_must : Cond.code yX11_must cX11_must 5 (some .int) ∈ tbG := tg (i := 1330) (by decide +kernel) rfl
theorem wiX11_must : Cond.instanceMethod yX11_must ∈ tbG := tg (i := 1328) (by decide +kernel) rfl
theorem wsX11_must : Cond.selects RX11 yX11_must yX11_must ∈ tbG := tg (i := 1329) (by decide +kernel) rfl
theorem wcX11_loop : Cond.code yX11_loop cX11_loop 2 (some .int) ∈ tbG := tg (i := 1334) (by decide +kernel) rfl
theorem wiX11_loop : Cond.instanceMethod yX11_loop ∈ tbG := tg (i := 1332) (by decide +kernel) rfl
theorem wsX11_loop : Cond.selects RX11 yX11_loop yX11_loop ∈ tbG := tg (i := 1333) (by decide +kernel) rfl
theorem wcX11_laysReached : Cond.code yX11_laysReached cX11_laysReached 2 none ∈ tbG := tg (i := 1338) (by decide +kernel) rfl
theorem wiX11_laysReached : Cond.instanceMethod yX11_laysReached ∈ tbG := tg (i := 1337) (by decide +kernel) rfl
theorem wsX11_laysReached : Cond.selects RX11 yX11_laysReached yX11_laysReached ∈ tbG := tg (i := 80) (by decide +kernel) rfl
theorem wcX11_loopOfLine : Cond.code yX11_loopOfLine cX11_loopOfLine 5 (some .int) ∈ tbG := tg (i := 1342) (by decide +kernel) rfl
theorem wiX11_loopOfLine : Cond.instanceMethod yX11_loopOfLine ∈ tbG := tg (i := 1341) (by decide +kernel) rfl
theorem wsX11_loopOfLine : Cond.selects RX11 yX11_loopOfLine yX11_loopOfLine ∈ tbG := tg (i := 81) (by decide +kernel) rfl
theorem wcX11_loopOf : Cond.code yX11_loopOf cX11_loopOf 6 (some .int) ∈ tbG := tg (i := 1346) (by decide +kernel) rfl
theorem wiX11_loopOf : Cond.instanceMethod yX11_loopOf ∈ tbG := tg (i := 1345) (by decide +kernel) rfl
theorem wsX11_loopOf : Cond.selects RX11 yX11_loopOf yX11_loopOf ∈ tbG := tg (i := 82) (by decide +kernel) rfl
theorem wcX11_use : Cond.code yX11_use cX11_use 5 (some .int) ∈ tbG := tg (i := 1350) (by decide +kernel) rfl
theorem wiX11_use : Cond.instanceMethod yX11_use ∈ tbG := tg (i := 1348) (by decide +kernel) rfl
theorem wsX11_use : Cond.selects RX11 yX11_use yX11_use ∈ tbG := tg (i := 1349) (by decide +kernel) rfl
theorem wcX11_mark : Cond.code yX11_mark cX11_mark 3 (some .int) ∈ tbG := tg (i := 1354) (by decide +kernel) rfl
theorem wiX11_mark : Cond.instanceMethod yX11_mark ∈ tbG := tg (i := 1352) (by decide +kernel) rfl
theorem wsX11_mark : Cond.selects RX11 yX11_mark yX11_mark ∈ tbG := tg (i := 1353) (by decide +kernel) rfl
theorem wcX11_asked : Cond.code yX11_asked cX11_asked 4 (some .int) ∈ tbG := tg (i := 1358) (by decide +kernel) rfl
theorem wiX11_asked : Cond.instanceMethod yX11_asked ∈ tbG := tg (i := 1357) (by decide +kernel) rfl
theorem wsX11_asked : Cond.selects RX11 yX11_asked yX11_asked ∈ tbG := tg (i := 83) (by decide +kernel) rfl
theorem wcX11_isAskedFor : Cond.code yX11_isAskedFor cX11_isAskedFor 5 (some .boolean) ∈ tbG := tg (i := 1362) (by decide +kernel) rfl
theorem wiX11_isAskedFor : Cond.instanceMethod yX11_isAskedFor ∈ tbG := tg (i := 1361) (by decide +kernel) rfl
theorem wsX11_isAskedFor : Cond.selects RX11 yX11_isAskedFor yX11_isAskedFor ∈ tbG := tg (i := 84) (by decide +kernel) rfl
theorem wcX11_laid : Cond.code yX11_laid cX11_laid 4 (some .int) ∈ tbG := tg (i := 1366) (by decide +kernel) rfl
theorem wiX11_laid : Cond.instanceMethod yX11_laid ∈ tbG := tg (i := 1365) (by decide +kernel) rfl
theorem wsX11_laid : Cond.selects RX11 yX11_laid yX11_laid ∈ tbG := tg (i := 85) (by decide +kernel) rfl
theorem wcX11_isAnywhere : Cond.code yX11_isAnywhere cX11_isAnywhere 4 (some .boolean) ∈ tbG := tg (i := 1370) (by decide +kernel) rfl
theorem wiX11_isAnywhere : Cond.instanceMethod yX11_isAnywhere ∈ tbG := tg (i := 1369) (by decide +kernel) rfl
theorem wsX11_isAnywhere : Cond.selects RX11 yX11_isAnywhere yX11_isAnywhere ∈ tbG := tg (i := 86) (by decide +kernel) rfl
theorem wcX11_isIdle : Cond.code yX11_isIdle cX11_isIdle 4 (some .boolean) ∈ tbG := tg (i := 1374) (by decide +kernel) rfl
theorem wiX11_isIdle : Cond.instanceMethod yX11_isIdle ∈ tbG := tg (i := 1373) (by decide +kernel) rfl
theorem wsX11_isIdle : Cond.selects RX11 yX11_isIdle yX11_isIdle ∈ tbG := tg (i := 87) (by decide +kernel) rfl
theorem wcX11_whole : Cond.code yX11_whole cX11_whole 3 (some .int) ∈ tbG := tg (i := 1378) (by decide +kernel) rfl
theorem wiX11_whole : Cond.instanceMethod yX11_whole ∈ tbG := tg (i := 1376) (by decide +kernel) rfl
theorem wsX11_whole : Cond.selects RX11 yX11_whole yX11_whole ∈ tbG := tg (i := 1377) (by decide +kernel) rfl
theorem wcX11_linesThat : Cond.code yX11_linesThat cX11_linesThat 5 (some .int) ∈ tbG := tg (i := 1382) (by decide +kernel) rfl
theorem wiX11_linesThat : Cond.instanceMethod yX11_linesThat ∈ tbG := tg (i := 1381) (by decide +kernel) rfl
theorem wsX11_linesThat : Cond.selects RX11 yX11_linesThat yX11_linesThat ∈ tbG := tg (i := 88) (by decide +kernel) rfl
theorem wcX11_linesWithLoops : Cond.code yX11_linesWithLoops cX11_linesWithLoops 3 (some .int) ∈ tbG := tg (i := 1386) (by decide +kernel) rfl
theorem wiX11_linesWithLoops : Cond.instanceMethod yX11_linesWithLoops ∈ tbG := tg (i := 1385) (by decide +kernel) rfl
theorem wsX11_linesWithLoops : Cond.selects RX11 yX11_linesWithLoops yX11_linesWithLoops ∈ tbG := tg (i := 89) (by decide +kernel) rfl
theorem wcX11_ofStates : Cond.code yX11_ofStates cX11_ofStates 6 (some .int) ∈ tbG := tg (i := 1390) (by decide +kernel) rfl
theorem wiX11_ofStates : Cond.instanceMethod yX11_ofStates ∈ tbG := tg (i := 1389) (by decide +kernel) rfl
theorem wsX11_ofStates : Cond.selects RX11 yX11_ofStates yX11_ofStates ∈ tbG := tg (i := 90) (by decide +kernel) rfl
theorem wcX11_rows : Cond.code yX11_rows cX11_rows 6 (some .long) ∈ tbG := tg (i := 1394) (by decide +kernel) rfl
theorem wiX11_rows : Cond.instanceMethod yX11_rows ∈ tbG := tg (i := 1392) (by decide +kernel) rfl
theorem wsX11_rows : Cond.selects RX11 yX11_rows yX11_rows ∈ tbG := tg (i := 1393) (by decide +kernel) rfl
theorem wcX11_goes : Cond.code yX11_goes cX11_goes 4 (some .boolean) ∈ tbG := tg (i := 1401) (by decide +kernel) rfl
theorem wiX11_goes : Cond.instanceMethod yX11_goes ∈ tbG := tg (i := 1400) (by decide +kernel) rfl
theorem wsX11_goes : Cond.selects RX11 yX11_goes yX11_goes ∈ tbG := tg (i := 91) (by decide +kernel) rfl
theorem wcX11_isTooMuch : Cond.code yX11_isTooMuch cX11_isTooMuch 4 (some .boolean) ∈ tbG := tg (i := 1404) (by decide +kernel) rfl
theorem wtX11_isTooMuch : Cond.static yX11_isTooMuch ∈ tbG := tg (i := 1403) (by decide +kernel) rfl
theorem cpX0 : Cond.methodLink RX0 28 arraycopyName ∈ tbG := tg (i := 650) (by decide +kernel) rfl
theorem cpSt : Cond.static arraycopyName ∈ tbG := tg (i := 651) (by decide +kernel) rfl
theorem cpNa : Cond.native arraycopyName ∈ tbG := tg (i := 652) (by decide +kernel) rfl
theorem cpIn : Cond.initialized "java/lang/System" ∈ tbG := tg (i := 105) (by decide +kernel) rfl
theorem wnL : Cond.initialized RL ∈ tbG := tg (i := 92) (by decide +kernel) rfl
theorem wnX10 : Cond.initialized RX10 ∈ tbG := tg (i := 93) (by decide +kernel) rfl
theorem wnX6 : Cond.initialized RX6 ∈ tbG := tg (i := 94) (by decide +kernel) rfl
theorem wnX1 : Cond.initialized RX1 ∈ tbG := tg (i := 95) (by decide +kernel) rfl
theorem wnX0 : Cond.initialized RX0 ∈ tbG := tg (i := 96) (by decide +kernel) rfl
theorem wnX2 : Cond.initialized RX2 ∈ tbG := tg (i := 97) (by decide +kernel) rfl
theorem wnX9 : Cond.initialized RX9 ∈ tbG := tg (i := 98) (by decide +kernel) rfl
theorem wnX3 : Cond.initialized RX3 ∈ tbG := tg (i := 99) (by decide +kernel) rfl
theorem wnX4 : Cond.initialized RX4 ∈ tbG := tg (i := 100) (by decide +kernel) rfl
theorem wnX5 : Cond.initialized RX5 ∈ tbG := tg (i := 101) (by decide +kernel) rfl
theorem wnX7 : Cond.initialized RX7 ∈ tbG := tg (i := 102) (by decide +kernel) rfl
theorem wnX8 : Cond.initialized RX8 ∈ tbG := tg (i := 103) (by decide +kernel) rfl
theorem wnX11 : Cond.initialized RX11 ∈ tbG := tg (i := 104) (by decide +kernel) rfl
theorem wnJ10 : Cond.initialized RJ10 ∈ tbG := tg (i := 105) (by decide +kernel) rfl
theorem wnJ6 : Cond.initialized RJ6 ∈ tbG := tg (i := 106) (by decide +kernel) rfl
theorem wnJ7 : Cond.initialized RJ7 ∈ tbG := tg (i := 107) (by decide +kernel) rfl
theorem wnJ9 : Cond.initialized RJ9 ∈ tbG := tg (i := 108) (by decide +kernel) rfl
theorem mkL_9 : Cond.methodLink RL 9 yX10_init ∈ tbG := tg (i := 111) (by decide +kernel) rfl
theorem mkL_13 : Cond.methodLink RL 13 yX10_write ∈ tbG := tg (i := 484) (by decide +kernel) rfl
theorem mkX10_83 : Cond.methodLink RX10 83 yX6_append ∈ tbG := tg (i := 489) (by decide +kernel) rfl
theorem mkL_18 : Cond.methodLink RL 18 yX10_talk ∈ tbG := tg (i := 494) (by decide +kernel) rfl
theorem mkX10_92 : Cond.methodLink RX10 92 yX6_readInto ∈ tbG := tg (i := 498) (by decide +kernel) rfl
theorem mkX6_19 : Cond.methodLink RX6 19 yX8_clear ∈ tbG := tg (i := 502) (by decide +kernel) rfl
theorem mkX6_27 : Cond.methodLink RX6 27 yX6_accept ∈ tbG := tg (i := 506) (by decide +kernel) rfl
theorem mkX6_40 : Cond.methodLink RX6 40 yX6_acceptFirstLine ∈ tbG := tg (i := 510) (by decide +kernel) rfl
theorem mkX6_74 : Cond.methodLink RX6 74 yX8_nameLine ∈ tbG := tg (i := 514) (by decide +kernel) rfl
theorem mkX6_78 : Cond.methodLink RX6 78 yX6_goOn ∈ tbG := tg (i := 518) (by decide +kernel) rfl
theorem mkX6_43 : Cond.methodLink RX6 43 yX6_acceptArrowOrDot ∈ tbG := tg (i := 522) (by decide +kernel) rfl
theorem mkX6_84 : Cond.methodLink RX6 84 yX8_addAnswer ∈ tbG := tg (i := 526) (by decide +kernel) rfl
theorem mkX6_46 : Cond.methodLink RX6 46 yX6_acceptClauseEnd ∈ tbG := tg (i := 530) (by decide +kernel) rfl
theorem mkX6_50 : Cond.methodLink RX6 50 yX6_acceptSecondLine ∈ tbG := tg (i := 534) (by decide +kernel) rfl
theorem mkX6_53 : Cond.methodLink RX6 53 yX6_acceptCost ∈ tbG := tg (i := 538) (by decide +kernel) rfl
theorem mkX6_56 : Cond.methodLink RX6 56 yX6_acceptRest ∈ tbG := tg (i := 542) (by decide +kernel) rfl
theorem mkX6_97 : Cond.methodLink RX6 97 yX6_openAlternative ∈ tbG := tg (i := 546) (by decide +kernel) rfl
theorem mkX6_101 : Cond.methodLink RX6 101 yX8_addAlternative ∈ tbG := tg (i := 550) (by decide +kernel) rfl
theorem mkX6_59 : Cond.methodLink RX6 59 yX6_acceptAsked ∈ tbG := tg (i := 554) (by decide +kernel) rfl
theorem mkX6_105 : Cond.methodLink RX6 105 yX6_smallMark ∈ tbG := tg (i := 558) (by decide +kernel) rfl
theorem mkX6_108 : Cond.methodLink RX6 108 yX6_greatMark ∈ tbG := tg (i := 561) (by decide +kernel) rfl
theorem mkX6_62 : Cond.methodLink RX6 62 yX6_acceptMoreOfGuard ∈ tbG := tg (i := 564) (by decide +kernel) rfl
theorem mkX6_65 : Cond.methodLink RX6 65 yX6_acceptChanged ∈ tbG := tg (i := 568) (by decide +kernel) rfl
theorem mkX6_68 : Cond.methodLink RX6 68 yX6_acceptMoreOfEffect ∈ tbG := tg (i := 572) (by decide +kernel) rfl
theorem mkX6_37 : Cond.methodLink RX6 37 yX8_sortByLine ∈ tbG := tg (i := 576) (by decide +kernel) rfl
theorem mkX10_101 : Cond.methodLink RX10 101 yX1_restart ∈ tbG := tg (i := 580) (by decide +kernel) rfl
theorem mkL_23 : Cond.methodLink RL 23 yX10_fault ∈ tbG := tg (i := 584) (by decide +kernel) rfl
theorem mkL_27 : Cond.methodLink RL 27 yX10_begin ∈ tbG := tg (i := 588) (by decide +kernel) rfl
theorem mkL_31 : Cond.methodLink RL 31 yX10_take ∈ tbG := tg (i := 593) (by decide +kernel) rfl
theorem mkX10_118 : Cond.methodLink RX10 118 yX10_isAnswer ∈ tbG := tg (i := 597) (by decide +kernel) rfl
theorem mkX10_121 : Cond.methodLink RX10 121 yX10_isOpenHere ∈ tbG := tg (i := 601) (by decide +kernel) rfl
theorem mkX10_128 : Cond.methodLink RX10 128 yX1_lineHere ∈ tbG := tg (i := 605) (by decide +kernel) rfl
theorem mkX10_190 : Cond.methodLink RX10 190 yX1_marksHere ∈ tbG := tg (i := 609) (by decide +kernel) rfl
theorem mkX1_30 : Cond.methodLink RX1 30 yX8_marksBehind ∈ tbG := tg (i := 613) (by decide +kernel) rfl
theorem mkX10_320 : Cond.methodLink RX10 320 yX8_isOpen ∈ tbG := tg (i := 617) (by decide +kernel) rfl
theorem mkX8_68 : Cond.methodLink RX8 68 yX8_guardHolds ∈ tbG := tg (i := 624) (by decide +kernel) rfl
theorem mkX10_125 : Cond.methodLink RX10 125 yX1_advance ∈ tbG := tg (i := 629) (by decide +kernel) rfl
theorem mkL_35 : Cond.methodLink RL 35 yX10_back ∈ tbG := tg (i := 633) (by decide +kernel) rfl
theorem mkL_39 : Cond.methodLink RL 39 yX10_cut ∈ tbG := tg (i := 637) (by decide +kernel) rfl
theorem mkX10_135 : Cond.methodLink RX10 135 yX10_bit ∈ tbG := tg (i := 641) (by decide +kernel) rfl
theorem mkX10_139 : Cond.methodLink RX10 139 yX0_keep ∈ tbG := tg (i := 642) (by decide +kernel) rfl
theorem mkX0_25 : Cond.methodLink RX0 25 yX0_forgetOldest ∈ tbG := tg (i := 646) (by decide +kernel) rfl
theorem mkX10_143 : Cond.methodLink RX10 143 yX8_setCut ∈ tbG := tg (i := 653) (by decide +kernel) rfl
theorem mkX10_147 : Cond.methodLink RX10 147 yJ6_bitCount_0f7a4 ∈ tbG := tg (i := 657) (by decide +kernel) rfl
theorem mkL_44 : Cond.methodLink RL 44 yX10_cost ∈ tbG := tg (i := 663) (by decide +kernel) rfl
theorem mkL_48 : Cond.methodLink RL 48 yX10_undo ∈ tbG := tg (i := 667) (by decide +kernel) rfl
theorem mkL_52 : Cond.methodLink RL 52 yX10_answer ∈ tbG := tg (i := 671) (by decide +kernel) rfl
theorem mkX10_184 : Cond.methodLink RX10 184 yX8_guardContradictsItself ∈ tbG := tg (i := 675) (by decide +kernel) rfl
theorem mkX10_187 : Cond.methodLink RX10 187 yX10_alternativeSet ∈ tbG := tg (i := 679) (by decide +kernel) rfl
theorem mkL_56 : Cond.methodLink RL 56 yX10_count ∈ tbG := tg (i := 683) (by decide +kernel) rfl
theorem mkX10_193 : Cond.methodLink RX10 193 yX10_openHere ∈ tbG := tg (i := 687) (by decide +kernel) rfl
theorem mkX10_197 : Cond.methodLink RX10 197 yX1_priceOfSteps ∈ tbG := tg (i := 691) (by decide +kernel) rfl
theorem mkL_60 : Cond.methodLink RL 60 yX10_step ∈ tbG := tg (i := 695) (by decide +kernel) rfl
theorem mkL_64 : Cond.methodLink RL 64 yX10_line ∈ tbG := tg (i := 699) (by decide +kernel) rfl
theorem mkX10_209 : Cond.methodLink RX10 209 yX10_isLine ∈ tbG := tg (i := 703) (by decide +kernel) rfl
theorem mkX10_212 : Cond.methodLink RX10 212 yX10_refreshGraph ∈ tbG := tg (i := 707) (by decide +kernel) rfl
theorem mkX10_330 : Cond.methodLink RX10 330 yX2_explore ∈ tbG := tg (i := 711) (by decide +kernel) rfl
theorem mkX2_45 : Cond.methodLink RX2 45 yJ7_fill_53178 ∈ tbG := tg (i := 715) (by decide +kernel) rfl
theorem mkX2_63 : Cond.methodLink RX2 63 yX2_admit ∈ tbG := tg (i := 718) (by decide +kernel) rfl
theorem mkX2_67 : Cond.methodLink RX2 67 yX2_addMovesFrom ∈ tbG := tg (i := 722) (by decide +kernel) rfl
theorem mkX2_74 : Cond.methodLink RX2 74 yX2_lineAt ∈ tbG := tg (i := 726) (by decide +kernel) rfl
theorem mkX2_78 : Cond.methodLink RX2 78 yX2_marksAt ∈ tbG := tg (i := 730) (by decide +kernel) rfl
theorem mkX2_87 : Cond.methodLink RX2 87 yX8_isOpen ∈ tbG := tg (i := 734) (by decide +kernel) rfl
theorem mkX2_90 : Cond.methodLink RX2 90 yX8_stateBehind ∈ tbG := tg (i := 735) (by decide +kernel) rfl
theorem mkX8_72 : Cond.methodLink RX8 72 yX8_marksBehind ∈ tbG := tg (i := 739) (by decide +kernel) rfl
theorem mkX2_94 : Cond.methodLink RX2 94 yX2_addMove ∈ tbG := tg (i := 740) (by decide +kernel) rfl
theorem mkX2_71 : Cond.methodLink RX2 71 yX2_turnRound ∈ tbG := tg (i := 744) (by decide +kernel) rfl
theorem mkX10_215 : Cond.methodLink RX10 215 yX2_statesOf ∈ tbG := tg (i := 748) (by decide +kernel) rfl
theorem mkX10_218 : Cond.methodLink RX10 218 yX2_marksInAll ∈ tbG := tg (i := 752) (by decide +kernel) rfl
theorem mkX10_221 : Cond.methodLink RX10 221 yX2_marksInSome ∈ tbG := tg (i := 756) (by decide +kernel) rfl
theorem mkX10_224 : Cond.methodLink RX10 224 yX10_stuckStates ∈ tbG := tg (i := 760) (by decide +kernel) rfl
theorem mkX10_265 : Cond.methodLink RX10 265 yX2_lineAt ∈ tbG := tg (i := 764) (by decide +kernel) rfl
theorem mkX10_353 : Cond.methodLink RX10 353 yX10_isStuck ∈ tbG := tg (i := 765) (by decide +kernel) rfl
theorem mkX10_350 : Cond.methodLink RX10 350 yX2_movesFrom ∈ tbG := tg (i := 769) (by decide +kernel) rfl
theorem mkX10_227 : Cond.methodLink RX10 227 yX10_lostStates ∈ tbG := tg (i := 773) (by decide +kernel) rfl
theorem mkX10_356 : Cond.methodLink RX10 356 yX10_refreshHopes ∈ tbG := tg (i := 777) (by decide +kernel) rfl
theorem mkX10_340 : Cond.methodLink RX10 340 yX3_learn ∈ tbG := tg (i := 781) (by decide +kernel) rfl
theorem mkX3_28 : Cond.methodLink RX3 28 yX2_lineAt ∈ tbG := tg (i := 785) (by decide +kernel) rfl
theorem mkX3_36 : Cond.methodLink RX3 36 yX3_admit ∈ tbG := tg (i := 787) (by decide +kernel) rfl
theorem mkL_68 : Cond.methodLink RL 68 yX10_least ∈ tbG := tg (i := 791) (by decide +kernel) rfl
theorem mkX10_236 : Cond.methodLink RX10 236 yX10_refreshPrices ∈ tbG := tg (i := 795) (by decide +kernel) rfl
theorem mkX10_347 : Cond.methodLink RX10 347 yX5_learn ∈ tbG := tg (i := 799) (by decide +kernel) rfl
theorem mkX5_15 : Cond.methodLink RX5 15 yJ7_fill_53178 ∈ tbG := tg (i := 803) (by decide +kernel) rfl
theorem mkX10_239 : Cond.methodLink RX10 239 yX5_cheapestOf ∈ tbG := tg (i := 804) (by decide +kernel) rfl
theorem mkX5_39 : Cond.methodLink RX5 39 yX2_lineAt ∈ tbG := tg (i := 808) (by decide +kernel) rfl
theorem mkX5_43 : Cond.methodLink RX5 43 yJ9_min_7cf53 ∈ tbG := tg (i := 809) (by decide +kernel) rfl
theorem mkL_72 : Cond.methodLink RL 72 yX10_row ∈ tbG := tg (i := 812) (by decide +kernel) rfl
theorem mkX10_243 : Cond.methodLink RX10 243 yX2_answerOfRow ∈ tbG := tg (i := 816) (by decide +kernel) rfl
theorem mkL_76 : Cond.methodLink RL 76 yX10_needs ∈ tbG := tg (i := 820) (by decide +kernel) rfl
theorem mkX10_249 : Cond.methodLink RX10 249 yX8_answersThatLay ∈ tbG := tg (i := 824) (by decide +kernel) rfl
theorem mkX10_252 : Cond.methodLink RX10 252 yX9_comesTo ∈ tbG := tg (i := 828) (by decide +kernel) rfl
theorem mkX9_32 : Cond.methodLink RX9 32 yX9_startAt ∈ tbG := tg (i := 832) (by decide +kernel) rfl
theorem mkX9_18 : Cond.methodLink RX9 18 yJ7_fill_53178 ∈ tbG := tg (i := 836) (by decide +kernel) rfl
theorem mkX9_28 : Cond.methodLink RX9 28 yX9_enqueue ∈ tbG := tg (i := 837) (by decide +kernel) rfl
theorem mkX9_36 : Cond.methodLink RX9 36 yX2_lineAt ∈ tbG := tg (i := 841) (by decide +kernel) rfl
theorem mkL_80 : Cond.methodLink RL 80 yX10_must ∈ tbG := tg (i := 843) (by decide +kernel) rfl
theorem mkX10_256 : Cond.methodLink RX10 256 yX2_answersOfRow ∈ tbG := tg (i := 847) (by decide +kernel) rfl
theorem mkL_84 : Cond.methodLink RL 84 yX10_loop ∈ tbG := tg (i := 851) (by decide +kernel) rfl
theorem mkX10_259 : Cond.methodLink RX10 259 yX10_refreshLoops ∈ tbG := tg (i := 855) (by decide +kernel) rfl
theorem mkX10_344 : Cond.methodLink RX10 344 yX4_learn ∈ tbG := tg (i := 859) (by decide +kernel) rfl
theorem mkX4_31 : Cond.methodLink RX4 31 yX4_finishAll ∈ tbG := tg (i := 863) (by decide +kernel) rfl
theorem mkX4_35 : Cond.methodLink RX4 35 yX4_clear ∈ tbG := tg (i := 867) (by decide +kernel) rfl
theorem mkX4_64 : Cond.methodLink RX4 64 yX4_push ∈ tbG := tg (i := 870) (by decide +kernel) rfl
theorem mkX4_48 : Cond.methodLink RX4 48 yX4_gatherComponent ∈ tbG := tg (i := 874) (by decide +kernel) rfl
theorem mkX4_70 : Cond.methodLink RX4 70 yX4_join ∈ tbG := tg (i := 878) (by decide +kernel) rfl
theorem mkX10_272 : Cond.methodLink RX10 272 yX9_shortestLoop ∈ tbG := tg (i := 882) (by decide +kernel) rfl
theorem mkL_88 : Cond.methodLink RL 88 yX10_use ∈ tbG := tg (i := 886) (by decide +kernel) rfl
theorem mkX10_276 : Cond.methodLink RX10 276 yX2_movesBy ∈ tbG := tg (i := 890) (by decide +kernel) rfl
theorem mkL_92 : Cond.methodLink RL 92 yX10_mark ∈ tbG := tg (i := 894) (by decide +kernel) rfl
theorem mkX10_279 : Cond.methodLink RX10 279 yX8_guardsThatName ∈ tbG := tg (i := 898) (by decide +kernel) rfl
theorem mkX8_75 : Cond.methodLink RX8 75 yX8_marksOfGuard ∈ tbG := tg (i := 902) (by decide +kernel) rfl
theorem mkX10_282 : Cond.methodLink RX10 282 yX8_effectsThatName ∈ tbG := tg (i := 906) (by decide +kernel) rfl
theorem mkX10_285 : Cond.methodLink RX10 285 yX10_isMarkReached ∈ tbG := tg (i := 910) (by decide +kernel) rfl
theorem mkX10_362 : Cond.methodLink RX10 362 yX2_marksAt ∈ tbG := tg (i := 914) (by decide +kernel) rfl
theorem mkX10_288 : Cond.methodLink RX10 288 yX10_isAskedForInVain ∈ tbG := tg (i := 915) (by decide +kernel) rfl
theorem mkX10_365 : Cond.methodLink RX10 365 yX10_leadsOutWithout ∈ tbG := tg (i := 919) (by decide +kernel) rfl
theorem mkX10_374 : Cond.methodLink RX10 374 yX8_guardHolds ∈ tbG := tg (i := 923) (by decide +kernel) rfl
theorem mkX10_380 : Cond.methodLink RX10 380 yX8_stateBehind ∈ tbG := tg (i := 924) (by decide +kernel) rfl
theorem mkL_96 : Cond.methodLink RL 96 yX10_whole ∈ tbG := tg (i := 925) (by decide +kernel) rfl
theorem mkX10_291 : Cond.methodLink RX10 291 yX2_linesReached ∈ tbG := tg (i := 929) (by decide +kernel) rfl
theorem mkX10_294 : Cond.methodLink RX10 294 yX10_stuckLines ∈ tbG := tg (i := 933) (by decide +kernel) rfl
theorem mkX10_297 : Cond.methodLink RX10 297 yX10_lostLines ∈ tbG := tg (i := 937) (by decide +kernel) rfl
theorem mkX10_300 : Cond.methodLink RX10 300 yX10_loopingLines ∈ tbG := tg (i := 941) (by decide +kernel) rfl
theorem mkX10_303 : Cond.methodLink RX10 303 yX2_mostMovesOfAState ∈ tbG := tg (i := 945) (by decide +kernel) rfl
theorem mkX2_98 : Cond.methodLink RX2 98 yX2_movesFrom ∈ tbG := tg (i := 949) (by decide +kernel) rfl
theorem mkX2_101 : Cond.methodLink RX2 101 yJ9_max_7cf53 ∈ tbG := tg (i := 950) (by decide +kernel) rfl
theorem mkX10_306 : Cond.methodLink RX10 306 yX10_statesAtEndings ∈ tbG := tg (i := 953) (by decide +kernel) rfl
theorem mkX10_309 : Cond.methodLink RX10 309 yX2_greatestDepth ∈ tbG := tg (i := 957) (by decide +kernel) rfl
theorem mkL_100 : Cond.methodLink RL 100 yX10_rows ∈ tbG := tg (i := 961) (by decide +kernel) rfl
theorem mkX10_316 : Cond.methodLink RX10 316 yX7_rowsTo ∈ tbG := tg (i := 967) (by decide +kernel) rfl
theorem mkX7_18 : Cond.methodLink RX7 18 yJ7_fill_d0a16 ∈ tbG := tg (i := 971) (by decide +kernel) rfl
theorem mkX7_24 : Cond.methodLink RX7 24 yX7_lengthen ∈ tbG := tg (i := 974) (by decide +kernel) rfl
theorem mkX7_36 : Cond.methodLink RX7 36 yX2_lineAt ∈ tbG := tg (i := 980) (by decide +kernel) rfl
theorem mkL_12 : Cond.methodLink RL 12 yX11_init ∈ tbG := tg (i := 983) (by decide +kernel) rfl
theorem mkL_17 : Cond.methodLink RL 17 yX11_write ∈ tbG := tg (i := 1102) (by decide +kernel) rfl
theorem mkX11_88 : Cond.methodLink RX11 88 yX11_in ∈ tbG := tg (i := 1107) (by decide +kernel) rfl
theorem mkL_22 : Cond.methodLink RL 22 yX11_talk ∈ tbG := tg (i := 1112) (by decide +kernel) rfl
theorem mkX11_199 : Cond.methodLink RX11 199 yX11_readsClause ∈ tbG := tg (i := 1116) (by decide +kernel) rfl
theorem mkX11_180 : Cond.methodLink RX11 180 yX11_line ∈ tbG := tg (i := 1120) (by decide +kernel) rfl
theorem mkX11_142 : Cond.methodLink RX11 142 yX11_look ∈ tbG := tg (i := 1124) (by decide +kernel) rfl
theorem mkX11_145 : Cond.methodLink RX11 145 yX11_wrong ∈ tbG := tg (i := 1130) (by decide +kernel) rfl
theorem mkX11_196 : Cond.methodLink RX11 196 yX11_readsAnswer ∈ tbG := tg (i := 1134) (by decide +kernel) rfl
theorem mkX11_171 : Cond.methodLink RX11 171 yX11_passes ∈ tbG := tg (i := 1138) (by decide +kernel) rfl
theorem mkX11_187 : Cond.methodLink RX11 187 yX11_readsGuard ∈ tbG := tg (i := 1144) (by decide +kernel) rfl
theorem mkX11_174 : Cond.methodLink RX11 174 yX11_readsAlternative ∈ tbG := tg (i := 1148) (by decide +kernel) rfl
theorem mkX11_167 : Cond.methodLink RX11 167 yX11_isMark ∈ tbG := tg (i := 1152) (by decide +kernel) rfl
theorem mkX11_190 : Cond.methodLink RX11 190 yX11_readsEffect ∈ tbG := tg (i := 1160) (by decide +kernel) rfl
theorem mkX11_94 : Cond.methodLink RX11 94 yX11_has ∈ tbG := tg (i := 1164) (by decide +kernel) rfl
theorem mkX11_205 : Cond.methodLink RX11 205 yX11_keeps ∈ tbG := tg (i := 1167) (by decide +kernel) rfl
theorem mkL_26 : Cond.methodLink RL 26 yX11_fault ∈ tbG := tg (i := 1171) (by decide +kernel) rfl
theorem mkL_30 : Cond.methodLink RL 30 yX11_begin ∈ tbG := tg (i := 1175) (by decide +kernel) rfl
theorem mkX11_211 : Cond.methodLink RX11 211 yX11_isTalk ∈ tbG := tg (i := 1179) (by decide +kernel) rfl
theorem mkL_34 : Cond.methodLink RL 34 yX11_take ∈ tbG := tg (i := 1185) (by decide +kernel) rfl
theorem mkX11_217 : Cond.methodLink RX11 217 yX11_isAnswer ∈ tbG := tg (i := 1189) (by decide +kernel) rfl
theorem mkX11_221 : Cond.methodLink RX11 221 yX11_here ∈ tbG := tg (i := 1193) (by decide +kernel) rfl
theorem mkX11_118 : Cond.methodLink RX11 118 yX11_first ∈ tbG := tg (i := 1197) (by decide +kernel) rfl
theorem mkX11_108 : Cond.methodLink RX11 108 yX11_next ∈ tbG := tg (i := 1201) (by decide +kernel) rfl
theorem mkX11_105 : Cond.methodLink RX11 105 yX11_isOpen ∈ tbG := tg (i := 1205) (by decide +kernel) rfl
theorem mkX11_101 : Cond.methodLink RX11 101 yX11_holds ∈ tbG := tg (i := 1209) (by decide +kernel) rfl
theorem mkL_38 : Cond.methodLink RL 38 yX11_back ∈ tbG := tg (i := 1214) (by decide +kernel) rfl
theorem mkL_43 : Cond.methodLink RL 43 yX11_cut ∈ tbG := tg (i := 1219) (by decide +kernel) rfl
theorem mkX11_227 : Cond.methodLink RX11 227 yX11_notes ∈ tbG := tg (i := 1223) (by decide +kernel) rfl
theorem mkL_47 : Cond.methodLink RL 47 yX11_cost ∈ tbG := tg (i := 1227) (by decide +kernel) rfl
theorem mkL_51 : Cond.methodLink RL 51 yX11_undo ∈ tbG := tg (i := 1232) (by decide +kernel) rfl
theorem mkL_55 : Cond.methodLink RL 55 yX11_answer ∈ tbG := tg (i := 1236) (by decide +kernel) rfl
theorem mkX11_232 : Cond.methodLink RX11 232 yX11_isVain ∈ tbG := tg (i := 1240) (by decide +kernel) rfl
theorem mkL_59 : Cond.methodLink RL 59 yX11_count ∈ tbG := tg (i := 1245) (by decide +kernel) rfl
theorem mkX11_237 : Cond.methodLink RX11 237 yX11_openIn ∈ tbG := tg (i := 1249) (by decide +kernel) rfl
theorem mkX11_241 : Cond.methodLink RX11 241 yX11_costOfSteps ∈ tbG := tg (i := 1253) (by decide +kernel) rfl
theorem mkL_63 : Cond.methodLink RL 63 yX11_step ∈ tbG := tg (i := 1257) (by decide +kernel) rfl
theorem mkL_67 : Cond.methodLink RL 67 yX11_line_ ∈ tbG := tg (i := 1261) (by decide +kernel) rfl
theorem mkX11_250 : Cond.methodLink RX11 250 yX11_isLine ∈ tbG := tg (i := 1265) (by decide +kernel) rfl
theorem mkX11_255 : Cond.methodLink RX11 255 yX11_reachesAll ∈ tbG := tg (i := 1271) (by decide +kernel) rfl
theorem mkX11_122 : Cond.methodLink RX11 122 yX11_reaches ∈ tbG := tg (i := 1275) (by decide +kernel) rfl
theorem mkX11_258 : Cond.methodLink RX11 258 yX11_laysEnds ∈ tbG := tg (i := 1279) (by decide +kernel) rfl
theorem mkX11_261 : Cond.methodLink RX11 261 yX11_statesOf ∈ tbG := tg (i := 1283) (by decide +kernel) rfl
theorem mkX11_244 : Cond.methodLink RX11 244 yX11_isStuck ∈ tbG := tg (i := 1287) (by decide +kernel) rfl
theorem mkX11_247 : Cond.methodLink RX11 247 yX11_isLost ∈ tbG := tg (i := 1291) (by decide +kernel) rfl
theorem mkX11_264 : Cond.methodLink RX11 264 yX11_marksOf ∈ tbG := tg (i := 1295) (by decide +kernel) rfl
theorem mkL_71 : Cond.methodLink RL 71 yX11_least ∈ tbG := tg (i := 1299) (by decide +kernel) rfl
theorem mkX11_268 : Cond.methodLink RX11 268 yX11_cheapest ∈ tbG := tg (i := 1303) (by decide +kernel) rfl
theorem mkX11_271 : Cond.methodLink RX11 271 yX11_fewest ∈ tbG := tg (i := 1307) (by decide +kernel) rfl
theorem mkL_75 : Cond.methodLink RL 75 yX11_row ∈ tbG := tg (i := 1311) (by decide +kernel) rfl
theorem mkX11_277 : Cond.methodLink RX11 277 yX11_laysGood ∈ tbG := tg (i := 1315) (by decide +kernel) rfl
theorem mkX11_274 : Cond.methodLink RX11 274 yX11_goesOn ∈ tbG := tg (i := 1319) (by decide +kernel) rfl
theorem mkL_79 : Cond.methodLink RL 79 yX11_needs ∈ tbG := tg (i := 1323) (by decide +kernel) rfl
theorem mkL_83 : Cond.methodLink RL 83 yX11_must ∈ tbG := tg (i := 1327) (by decide +kernel) rfl
theorem mkL_87 : Cond.methodLink RL 87 yX11_loop ∈ tbG := tg (i := 1331) (by decide +kernel) rfl
theorem mkX11_284 : Cond.methodLink RX11 284 yX11_laysReached ∈ tbG := tg (i := 1335) (by decide +kernel) rfl
theorem mkX11_287 : Cond.methodLink RX11 287 yX11_loopOfLine ∈ tbG := tg (i := 1339) (by decide +kernel) rfl
theorem mkX11_281 : Cond.methodLink RX11 281 yX11_loopOf ∈ tbG := tg (i := 1343) (by decide +kernel) rfl
theorem mkL_91 : Cond.methodLink RL 91 yX11_use ∈ tbG := tg (i := 1347) (by decide +kernel) rfl
theorem mkL_95 : Cond.methodLink RL 95 yX11_mark ∈ tbG := tg (i := 1351) (by decide +kernel) rfl
theorem mkX11_293 : Cond.methodLink RX11 293 yX11_asked ∈ tbG := tg (i := 1355) (by decide +kernel) rfl
theorem mkX11_290 : Cond.methodLink RX11 290 yX11_isAskedFor ∈ tbG := tg (i := 1359) (by decide +kernel) rfl
theorem mkX11_296 : Cond.methodLink RX11 296 yX11_laid ∈ tbG := tg (i := 1363) (by decide +kernel) rfl
theorem mkX11_299 : Cond.methodLink RX11 299 yX11_isAnywhere ∈ tbG := tg (i := 1367) (by decide +kernel) rfl
theorem mkX11_302 : Cond.methodLink RX11 302 yX11_isIdle ∈ tbG := tg (i := 1371) (by decide +kernel) rfl
theorem mkL_99 : Cond.methodLink RL 99 yX11_whole ∈ tbG := tg (i := 1375) (by decide +kernel) rfl
theorem mkX11_305 : Cond.methodLink RX11 305 yX11_linesThat ∈ tbG := tg (i := 1379) (by decide +kernel) rfl
theorem mkX11_308 : Cond.methodLink RX11 308 yX11_linesWithLoops ∈ tbG := tg (i := 1383) (by decide +kernel) rfl
theorem mkX11_311 : Cond.methodLink RX11 311 yX11_ofStates ∈ tbG := tg (i := 1387) (by decide +kernel) rfl
theorem mkL_104 : Cond.methodLink RL 104 yX11_rows ∈ tbG := tg (i := 1391) (by decide +kernel) rfl
theorem mkX11_326 : Cond.methodLink RX11 326 yX11_goes ∈ tbG := tg (i := 1398) (by decide +kernel) rfl
theorem mkX11_316 : Cond.methodLink RX11 316 yX11_isTooMuch ∈ tbG := tg (i := 1402) (by decide +kernel) rfl
theorem fkX6_9 : Cond.fieldLink RX6 9 (TX6 0).1 (TX6 0).2.1 (TX6 0).2.2.1 ∈ tbG := tg (i := 123) (by decide +kernel) rfl
theorem fkX6_15 : Cond.fieldLink RX6 15 (TX6 1).1 (TX6 1).2.1 (TX6 1).2.2.1 ∈ tbG := tg (i := 124) (by decide +kernel) rfl
theorem fkX10_87 : Cond.fieldLink RX10 87 (TX6 1).1 (TX6 1).2.1 (TX6 1).2.2.1 ∈ tbG := tg (i := 125) (by decide +kernel) rfl
theorem fkX6_31 : Cond.fieldLink RX6 31 (TX6 2).1 (TX6 2).2.1 (TX6 2).2.2.1 ∈ tbG := tg (i := 126) (by decide +kernel) rfl
theorem fkX10_111 : Cond.fieldLink RX10 111 (TX6 2).1 (TX6 2).2.1 (TX6 2).2.2.1 ∈ tbG := tg (i := 127) (by decide +kernel) rfl
theorem fkX6_24 : Cond.fieldLink RX6 24 (TX6 3).1 (TX6 3).2.1 (TX6 3).2.2.1 ∈ tbG := tg (i := 128) (by decide +kernel) rfl
theorem fkX6_71 : Cond.fieldLink RX6 71 (TX6 4).1 (TX6 4).2.1 (TX6 4).2.2.1 ∈ tbG := tg (i := 129) (by decide +kernel) rfl
theorem fkX1_9 : Cond.fieldLink RX1 9 (TX1 0).1 (TX1 0).2.1 (TX1 0).2.2.1 ∈ tbG := tg (i := 148) (by decide +kernel) rfl
theorem fkX10_206 : Cond.fieldLink RX10 206 (TX1 0).1 (TX1 0).2.1 (TX1 0).2.2.1 ∈ tbG := tg (i := 149) (by decide +kernel) rfl
theorem fkX1_19 : Cond.fieldLink RX1 19 (TX1 1).1 (TX1 1).2.1 (TX1 1).2.2.1 ∈ tbG := tg (i := 150) (by decide +kernel) rfl
theorem fkX10_131 : Cond.fieldLink RX10 131 (TX1 1).1 (TX1 1).2.1 (TX1 1).2.2.1 ∈ tbG := tg (i := 151) (by decide +kernel) rfl
theorem fkX1_15 : Cond.fieldLink RX1 15 (TX1 2).1 (TX1 2).2.1 (TX1 2).2.2.1 ∈ tbG := tg (i := 152) (by decide +kernel) rfl
theorem fkX10_246 : Cond.fieldLink RX10 246 (TX1 2).1 (TX1 2).2.1 (TX1 2).2.2.1 ∈ tbG := tg (i := 153) (by decide +kernel) rfl
theorem fkX0_9 : Cond.fieldLink RX0 9 (TX0 0).1 (TX0 0).2.1 (TX0 0).2.2.1 ∈ tbG := tg (i := 167) (by decide +kernel) rfl
theorem fkX10_160 : Cond.fieldLink RX10 160 (TX0 0).1 (TX0 0).2.1 (TX0 0).2.2.1 ∈ tbG := tg (i := 168) (by decide +kernel) rfl
theorem fkX0_15 : Cond.fieldLink RX0 15 (TX0 1).1 (TX0 1).2.1 (TX0 1).2.2.1 ∈ tbG := tg (i := 169) (by decide +kernel) rfl
theorem fkX10_166 : Cond.fieldLink RX10 166 (TX0 1).1 (TX0 1).2.1 (TX0 1).2.2.1 ∈ tbG := tg (i := 170) (by decide +kernel) rfl
theorem fkX0_18 : Cond.fieldLink RX0 18 (TX0 2).1 (TX0 2).2.1 (TX0 2).2.2.1 ∈ tbG := tg (i := 171) (by decide +kernel) rfl
theorem fkX10_163 : Cond.fieldLink RX10 163 (TX0 2).1 (TX0 2).2.1 (TX0 2).2.2.1 ∈ tbG := tg (i := 172) (by decide +kernel) rfl
theorem fkX0_21 : Cond.fieldLink RX0 21 (TX0 3).1 (TX0 3).2.1 (TX0 3).2.2.1 ∈ tbG := tg (i := 173) (by decide +kernel) rfl
theorem fkX10_100 : Cond.fieldLink RX10 100 (TX0 3).1 (TX0 3).2.1 (TX0 3).2.2.1 ∈ tbG := tg (i := 174) (by decide +kernel) rfl
theorem fkX2_9 : Cond.fieldLink RX2 9 (TX2 0).1 (TX2 0).2.1 (TX2 0).2.2.1 ∈ tbG := tg (i := 190) (by decide +kernel) rfl
theorem fkX2_15 : Cond.fieldLink RX2 15 (TX2 1).1 (TX2 1).2.1 (TX2 1).2.2.1 ∈ tbG := tg (i := 191) (by decide +kernel) rfl
theorem fkX10_377 : Cond.fieldLink RX10 377 (TX2 1).1 (TX2 1).2.1 (TX2 1).2.2.1 ∈ tbG := tg (i := 192) (by decide +kernel) rfl
theorem fkX2_18 : Cond.fieldLink RX2 18 (TX2 2).1 (TX2 2).2.1 (TX2 2).2.2.1 ∈ tbG := tg (i := 193) (by decide +kernel) rfl
theorem fkX10_233 : Cond.fieldLink RX10 233 (TX2 2).1 (TX2 2).2.1 (TX2 2).2.2.1 ∈ tbG := tg (i := 194) (by decide +kernel) rfl
theorem fkX2_21 : Cond.fieldLink RX2 21 (TX2 3).1 (TX2 3).2.1 (TX2 3).2.2.1 ∈ tbG := tg (i := 195) (by decide +kernel) rfl
theorem fkX2_24 : Cond.fieldLink RX2 24 (TX2 4).1 (TX2 4).2.1 (TX2 4).2.2.1 ∈ tbG := tg (i := 196) (by decide +kernel) rfl
theorem fkX10_230 : Cond.fieldLink RX10 230 (TX2 4).1 (TX2 4).2.1 (TX2 4).2.2.1 ∈ tbG := tg (i := 197) (by decide +kernel) rfl
theorem fkX2_27 : Cond.fieldLink RX2 27 (TX2 5).1 (TX2 5).2.1 (TX2 5).2.2.1 ∈ tbG := tg (i := 198) (by decide +kernel) rfl
theorem fkX9_42 : Cond.fieldLink RX9 42 (TX2 5).1 (TX2 5).2.1 (TX2 5).2.2.1 ∈ tbG := tg (i := 199) (by decide +kernel) rfl
theorem fkX4_67 : Cond.fieldLink RX4 67 (TX2 5).1 (TX2 5).2.1 (TX2 5).2.2.1 ∈ tbG := tg (i := 200) (by decide +kernel) rfl
theorem fkX2_30 : Cond.fieldLink RX2 30 (TX2 6).1 (TX2 6).2.1 (TX2 6).2.2.1 ∈ tbG := tg (i := 201) (by decide +kernel) rfl
theorem fkX5_27 : Cond.fieldLink RX5 27 (TX2 6).1 (TX2 6).2.1 (TX2 6).2.2.1 ∈ tbG := tg (i := 202) (by decide +kernel) rfl
theorem fkX4_55 : Cond.fieldLink RX4 55 (TX2 6).1 (TX2 6).2.1 (TX2 6).2.2.1 ∈ tbG := tg (i := 203) (by decide +kernel) rfl
theorem fkX7_45 : Cond.fieldLink RX7 45 (TX2 6).1 (TX2 6).2.1 (TX2 6).2.2.1 ∈ tbG := tg (i := 204) (by decide +kernel) rfl
theorem fkX2_33 : Cond.fieldLink RX2 33 (TX2 7).1 (TX2 7).2.1 (TX2 7).2.2.1 ∈ tbG := tg (i := 205) (by decide +kernel) rfl
theorem fkX4_58 : Cond.fieldLink RX4 58 (TX2 7).1 (TX2 7).2.1 (TX2 7).2.2.1 ∈ tbG := tg (i := 206) (by decide +kernel) rfl
theorem fkX5_33 : Cond.fieldLink RX5 33 (TX2 7).1 (TX2 7).2.1 (TX2 7).2.2.1 ∈ tbG := tg (i := 207) (by decide +kernel) rfl
theorem fkX7_49 : Cond.fieldLink RX7 49 (TX2 7).1 (TX2 7).2.1 (TX2 7).2.2.1 ∈ tbG := tg (i := 208) (by decide +kernel) rfl
theorem fkX9_52 : Cond.fieldLink RX9 52 (TX2 7).1 (TX2 7).2.1 (TX2 7).2.2.1 ∈ tbG := tg (i := 209) (by decide +kernel) rfl
theorem fkX2_36 : Cond.fieldLink RX2 36 (TX2 8).1 (TX2 8).2.1 (TX2 8).2.2.1 ∈ tbG := tg (i := 210) (by decide +kernel) rfl
theorem fkX5_30 : Cond.fieldLink RX5 30 (TX2 8).1 (TX2 8).2.1 (TX2 8).2.2.1 ∈ tbG := tg (i := 211) (by decide +kernel) rfl
theorem fkX9_45 : Cond.fieldLink RX9 45 (TX2 8).1 (TX2 8).2.1 (TX2 8).2.2.1 ∈ tbG := tg (i := 212) (by decide +kernel) rfl
theorem fkX2_39 : Cond.fieldLink RX2 39 (TX2 9).1 (TX2 9).2.1 (TX2 9).2.2.1 ∈ tbG := tg (i := 213) (by decide +kernel) rfl
theorem fkX3_40 : Cond.fieldLink RX3 40 (TX2 9).1 (TX2 9).2.1 (TX2 9).2.2.1 ∈ tbG := tg (i := 214) (by decide +kernel) rfl
theorem fkX4_74 : Cond.fieldLink RX4 74 (TX2 9).1 (TX2 9).2.1 (TX2 9).2.2.1 ∈ tbG := tg (i := 215) (by decide +kernel) rfl
theorem fkX2_42 : Cond.fieldLink RX2 42 (TX2 10).1 (TX2 10).2.1 (TX2 10).2.2.1 ∈ tbG := tg (i := 216) (by decide +kernel) rfl
theorem fkX3_43 : Cond.fieldLink RX3 43 (TX2 10).1 (TX2 10).2.1 (TX2 10).2.2.1 ∈ tbG := tg (i := 217) (by decide +kernel) rfl
theorem fkX4_77 : Cond.fieldLink RX4 77 (TX2 10).1 (TX2 10).2.1 (TX2 10).2.2.1 ∈ tbG := tg (i := 218) (by decide +kernel) rfl
theorem fkX3_23 : Cond.fieldLink RX3 23 (TX2 11).1 (TX2 11).2.1 (TX2 11).2.2.1 ∈ tbG := tg (i := 219) (by decide +kernel) rfl
theorem fkX2_51 : Cond.fieldLink RX2 51 (TX2 11).1 (TX2 11).2.1 (TX2 11).2.2.1 ∈ tbG := tg (i := 220) (by decide +kernel) rfl
theorem fkX4_43 : Cond.fieldLink RX4 43 (TX2 11).1 (TX2 11).2.1 (TX2 11).2.2.1 ∈ tbG := tg (i := 221) (by decide +kernel) rfl
theorem fkX7_30 : Cond.fieldLink RX7 30 (TX2 11).1 (TX2 11).2.1 (TX2 11).2.2.1 ∈ tbG := tg (i := 222) (by decide +kernel) rfl
theorem fkX5_36 : Cond.fieldLink RX5 36 (TX2 11).1 (TX2 11).2.1 (TX2 11).2.2.1 ∈ tbG := tg (i := 223) (by decide +kernel) rfl
theorem fkX10_262 : Cond.fieldLink RX10 262 (TX2 11).1 (TX2 11).2.1 (TX2 11).2.2.1 ∈ tbG := tg (i := 224) (by decide +kernel) rfl
theorem fkX2_55 : Cond.fieldLink RX2 55 (TX2 12).1 (TX2 12).2.1 (TX2 12).2.2.1 ∈ tbG := tg (i := 225) (by decide +kernel) rfl
theorem fkX5_21 : Cond.fieldLink RX5 21 (TX2 12).1 (TX2 12).2.1 (TX2 12).2.2.1 ∈ tbG := tg (i := 226) (by decide +kernel) rfl
theorem fkX4_52 : Cond.fieldLink RX4 52 (TX2 12).1 (TX2 12).2.1 (TX2 12).2.2.1 ∈ tbG := tg (i := 227) (by decide +kernel) rfl
theorem fkX7_42 : Cond.fieldLink RX7 42 (TX2 12).1 (TX2 12).2.1 (TX2 12).2.2.1 ∈ tbG := tg (i := 228) (by decide +kernel) rfl
theorem fkX9_9 : Cond.fieldLink RX9 9 (TX9 0).1 (TX9 0).2.1 (TX9 0).2.2.1 ∈ tbG := tg (i := 262) (by decide +kernel) rfl
theorem fkX9_15 : Cond.fieldLink RX9 15 (TX9 1).1 (TX9 1).2.1 (TX9 1).2.2.1 ∈ tbG := tg (i := 263) (by decide +kernel) rfl
theorem fkX9_24 : Cond.fieldLink RX9 24 (TX9 2).1 (TX9 2).2.1 (TX9 2).2.2.1 ∈ tbG := tg (i := 264) (by decide +kernel) rfl
theorem fkX3_9 : Cond.fieldLink RX3 9 (TX3 0).1 (TX3 0).2.1 (TX3 0).2.2.1 ∈ tbG := tg (i := 278) (by decide +kernel) rfl
theorem fkX10_359 : Cond.fieldLink RX10 359 (TX3 0).1 (TX3 0).2.1 (TX3 0).2.2.1 ∈ tbG := tg (i := 279) (by decide +kernel) rfl
theorem fkX3_15 : Cond.fieldLink RX3 15 (TX3 1).1 (TX3 1).2.1 (TX3 1).2.2.1 ∈ tbG := tg (i := 280) (by decide +kernel) rfl
theorem fkX3_19 : Cond.fieldLink RX3 19 (TX3 2).1 (TX3 2).2.1 (TX3 2).2.2.1 ∈ tbG := tg (i := 281) (by decide +kernel) rfl
theorem fkX4_9 : Cond.fieldLink RX4 9 (TX4 0).1 (TX4 0).2.1 (TX4 0).2.2.1 ∈ tbG := tg (i := 296) (by decide +kernel) rfl
theorem fkX10_268 : Cond.fieldLink RX10 268 (TX4 0).1 (TX4 0).2.1 (TX4 0).2.2.1 ∈ tbG := tg (i := 297) (by decide +kernel) rfl
theorem fkX4_15 : Cond.fieldLink RX4 15 (TX4 1).1 (TX4 1).2.1 (TX4 1).2.2.1 ∈ tbG := tg (i := 298) (by decide +kernel) rfl
theorem fkX4_18 : Cond.fieldLink RX4 18 (TX4 2).1 (TX4 2).2.1 (TX4 2).2.2.1 ∈ tbG := tg (i := 299) (by decide +kernel) rfl
theorem fkX4_22 : Cond.fieldLink RX4 22 (TX4 3).1 (TX4 3).2.1 (TX4 3).2.2.1 ∈ tbG := tg (i := 300) (by decide +kernel) rfl
theorem fkX4_25 : Cond.fieldLink RX4 25 (TX4 4).1 (TX4 4).2.1 (TX4 4).2.2.1 ∈ tbG := tg (i := 301) (by decide +kernel) rfl
theorem fkX4_28 : Cond.fieldLink RX4 28 (TX4 5).1 (TX4 5).2.1 (TX4 5).2.2.1 ∈ tbG := tg (i := 302) (by decide +kernel) rfl
theorem fkX4_61 : Cond.fieldLink RX4 61 (TX4 6).1 (TX4 6).2.1 (TX4 6).2.2.1 ∈ tbG := tg (i := 303) (by decide +kernel) rfl
theorem fkX4_39 : Cond.fieldLink RX4 39 (TX4 7).1 (TX4 7).2.1 (TX4 7).2.2.1 ∈ tbG := tg (i := 304) (by decide +kernel) rfl
theorem fkX5_9 : Cond.fieldLink RX5 9 (TX5 0).1 (TX5 0).2.1 (TX5 0).2.2.1 ∈ tbG := tg (i := 328) (by decide +kernel) rfl
theorem fkX7_9 : Cond.fieldLink RX7 9 (TX7 0).1 (TX7 0).2.1 (TX7 0).2.2.1 ∈ tbG := tg (i := 338) (by decide +kernel) rfl
theorem fkX7_15 : Cond.fieldLink RX7 15 (TX7 1).1 (TX7 1).2.1 (TX7 1).2.2.1 ∈ tbG := tg (i := 339) (by decide +kernel) rfl
theorem fkX8_9 : Cond.fieldLink RX8 9 (TX8 0).1 (TX8 0).2.1 (TX8 0).2.2.1 ∈ tbG := tg (i := 352) (by decide +kernel) rfl
theorem fkX10_169 : Cond.fieldLink RX10 169 (TX8 0).1 (TX8 0).2.1 (TX8 0).2.2.1 ∈ tbG := tg (i := 353) (by decide +kernel) rfl
theorem fkX8_15 : Cond.fieldLink RX8 15 (TX8 1).1 (TX8 1).2.1 (TX8 1).2.2.1 ∈ tbG := tg (i := 354) (by decide +kernel) rfl
theorem fkX1_27 : Cond.fieldLink RX1 27 (TX8 1).1 (TX8 1).2.1 (TX8 1).2.2.1 ∈ tbG := tg (i := 355) (by decide +kernel) rfl
theorem fkX6_88 : Cond.fieldLink RX6 88 (TX8 1).1 (TX8 1).2.1 (TX8 1).2.2.1 ∈ tbG := tg (i := 356) (by decide +kernel) rfl
theorem fkX10_172 : Cond.fieldLink RX10 172 (TX8 1).1 (TX8 1).2.1 (TX8 1).2.2.1 ∈ tbG := tg (i := 357) (by decide +kernel) rfl
theorem fkX8_18 : Cond.fieldLink RX8 18 (TX8 2).1 (TX8 2).2.1 (TX8 2).2.2.1 ∈ tbG := tg (i := 358) (by decide +kernel) rfl
theorem fkX1_34 : Cond.fieldLink RX1 34 (TX8 2).1 (TX8 2).2.1 (TX8 2).2.2.1 ∈ tbG := tg (i := 359) (by decide +kernel) rfl
theorem fkX10_153 : Cond.fieldLink RX10 153 (TX8 2).1 (TX8 2).2.1 (TX8 2).2.2.1 ∈ tbG := tg (i := 360) (by decide +kernel) rfl
theorem fkX6_94 : Cond.fieldLink RX6 94 (TX8 2).1 (TX8 2).2.1 (TX8 2).2.2.1 ∈ tbG := tg (i := 361) (by decide +kernel) rfl
theorem fkX8_21 : Cond.fieldLink RX8 21 (TX8 3).1 (TX8 3).2.1 (TX8 3).2.2.1 ∈ tbG := tg (i := 362) (by decide +kernel) rfl
theorem fkX10_175 : Cond.fieldLink RX10 175 (TX8 3).1 (TX8 3).2.1 (TX8 3).2.2.1 ∈ tbG := tg (i := 363) (by decide +kernel) rfl
theorem fkX8_24 : Cond.fieldLink RX8 24 (TX8 4).1 (TX8 4).2.1 (TX8 4).2.2.1 ∈ tbG := tg (i := 364) (by decide +kernel) rfl
theorem fkX6_111 : Cond.fieldLink RX6 111 (TX8 4).1 (TX8 4).2.1 (TX8 4).2.2.1 ∈ tbG := tg (i := 365) (by decide +kernel) rfl
theorem fkX10_324 : Cond.fieldLink RX10 324 (TX8 4).1 (TX8 4).2.1 (TX8 4).2.2.1 ∈ tbG := tg (i := 366) (by decide +kernel) rfl
theorem fkX8_27 : Cond.fieldLink RX8 27 (TX8 5).1 (TX8 5).2.1 (TX8 5).2.2.1 ∈ tbG := tg (i := 367) (by decide +kernel) rfl
theorem fkX6_117 : Cond.fieldLink RX6 117 (TX8 5).1 (TX8 5).2.1 (TX8 5).2.2.1 ∈ tbG := tg (i := 368) (by decide +kernel) rfl
theorem fkX10_327 : Cond.fieldLink RX10 327 (TX8 5).1 (TX8 5).2.1 (TX8 5).2.2.1 ∈ tbG := tg (i := 369) (by decide +kernel) rfl
theorem fkX8_30 : Cond.fieldLink RX8 30 (TX8 6).1 (TX8 6).2.1 (TX8 6).2.2.1 ∈ tbG := tg (i := 370) (by decide +kernel) rfl
theorem fkX10_178 : Cond.fieldLink RX10 178 (TX8 6).1 (TX8 6).2.1 (TX8 6).2.2.1 ∈ tbG := tg (i := 371) (by decide +kernel) rfl
theorem fkX6_120 : Cond.fieldLink RX6 120 (TX8 6).1 (TX8 6).2.1 (TX8 6).2.2.1 ∈ tbG := tg (i := 372) (by decide +kernel) rfl
theorem fkX8_33 : Cond.fieldLink RX8 33 (TX8 7).1 (TX8 7).2.1 (TX8 7).2.2.1 ∈ tbG := tg (i := 373) (by decide +kernel) rfl
theorem fkX10_181 : Cond.fieldLink RX10 181 (TX8 7).1 (TX8 7).2.1 (TX8 7).2.2.1 ∈ tbG := tg (i := 374) (by decide +kernel) rfl
theorem fkX6_123 : Cond.fieldLink RX6 123 (TX8 7).1 (TX8 7).2.1 (TX8 7).2.2.1 ∈ tbG := tg (i := 375) (by decide +kernel) rfl
theorem fkX8_36 : Cond.fieldLink RX8 36 (TX8 8).1 (TX8 8).2.1 (TX8 8).2.2.1 ∈ tbG := tg (i := 376) (by decide +kernel) rfl
theorem fkX2_84 : Cond.fieldLink RX2 84 (TX8 8).1 (TX8 8).2.1 (TX8 8).2.2.1 ∈ tbG := tg (i := 377) (by decide +kernel) rfl
theorem fkX10_371 : Cond.fieldLink RX10 371 (TX8 8).1 (TX8 8).2.1 (TX8 8).2.2.1 ∈ tbG := tg (i := 378) (by decide +kernel) rfl
theorem fkX8_39 : Cond.fieldLink RX8 39 (TX8 9).1 (TX8 9).2.1 (TX8 9).2.2.1 ∈ tbG := tg (i := 379) (by decide +kernel) rfl
theorem fkX2_81 : Cond.fieldLink RX2 81 (TX8 9).1 (TX8 9).2.1 (TX8 9).2.2.1 ∈ tbG := tg (i := 380) (by decide +kernel) rfl
theorem fkX10_368 : Cond.fieldLink RX10 368 (TX8 9).1 (TX8 9).2.1 (TX8 9).2.2.1 ∈ tbG := tg (i := 381) (by decide +kernel) rfl
theorem fkX8_42 : Cond.fieldLink RX8 42 (TX8 10).1 (TX8 10).2.1 (TX8 10).2.2.1 ∈ tbG := tg (i := 382) (by decide +kernel) rfl
theorem fkX10_108 : Cond.fieldLink RX10 108 (TX8 10).1 (TX8 10).2.1 (TX8 10).2.2.1 ∈ tbG := tg (i := 383) (by decide +kernel) rfl
theorem fkX8_46 : Cond.fieldLink RX8 46 (TX8 15).1 (TX8 15).2.1 (TX8 15).2.2.1 ∈ tbG := tg (i := 384) (by decide +kernel) rfl
theorem fkX6_91 : Cond.fieldLink RX6 91 (TX8 15).1 (TX8 15).2.1 (TX8 15).2.2.1 ∈ tbG := tg (i := 385) (by decide +kernel) rfl
theorem fkX8_49 : Cond.fieldLink RX8 49 (TX8 16).1 (TX8 16).2.1 (TX8 16).2.2.1 ∈ tbG := tg (i := 386) (by decide +kernel) rfl
theorem fkX6_114 : Cond.fieldLink RX6 114 (TX8 16).1 (TX8 16).2.1 (TX8 16).2.2.1 ∈ tbG := tg (i := 387) (by decide +kernel) rfl
theorem fkX8_52 : Cond.fieldLink RX8 52 (TX8 11).1 (TX8 11).2.1 (TX8 11).2.2.1 ∈ tbG := tg (i := 388) (by decide +kernel) rfl
theorem fkX6_34 : Cond.fieldLink RX6 34 (TX8 11).1 (TX8 11).2.1 (TX8 11).2.2.1 ∈ tbG := tg (i := 389) (by decide +kernel) rfl
theorem fkX10_200 : Cond.fieldLink RX10 200 (TX8 11).1 (TX8 11).2.1 (TX8 11).2.2.1 ∈ tbG := tg (i := 390) (by decide +kernel) rfl
theorem fkX8_55 : Cond.fieldLink RX8 55 (TX8 12).1 (TX8 12).2.1 (TX8 12).2.2.1 ∈ tbG := tg (i := 391) (by decide +kernel) rfl
theorem fkX6_81 : Cond.fieldLink RX6 81 (TX8 12).1 (TX8 12).2.1 (TX8 12).2.2.1 ∈ tbG := tg (i := 392) (by decide +kernel) rfl
theorem fkX10_203 : Cond.fieldLink RX10 203 (TX8 12).1 (TX8 12).2.1 (TX8 12).2.2.1 ∈ tbG := tg (i := 393) (by decide +kernel) rfl
theorem fkX8_58 : Cond.fieldLink RX8 58 (TX8 13).1 (TX8 13).2.1 (TX8 13).2.2.1 ∈ tbG := tg (i := 394) (by decide +kernel) rfl
theorem fkX2_58 : Cond.fieldLink RX2 58 (TX8 13).1 (TX8 13).2.1 (TX8 13).2.2.1 ∈ tbG := tg (i := 395) (by decide +kernel) rfl
theorem fkX1_22 : Cond.fieldLink RX1 22 (TX8 13).1 (TX8 13).2.1 (TX8 13).2.2.1 ∈ tbG := tg (i := 396) (by decide +kernel) rfl
theorem fkX10_115 : Cond.fieldLink RX10 115 (TX8 13).1 (TX8 13).2.1 (TX8 13).2.2.1 ∈ tbG := tg (i := 397) (by decide +kernel) rfl
theorem fkX8_61 : Cond.fieldLink RX8 61 (TX8 14).1 (TX8 14).2.1 (TX8 14).2.2.1 ∈ tbG := tg (i := 398) (by decide +kernel) rfl
theorem fkX10_132 : Cond.fieldLink RX10 132 (TX8 14).1 (TX8 14).2.1 (TX8 14).2.2.1 ∈ tbG := tg (i := 399) (by decide +kernel) rfl
theorem fkX10_10 : Cond.fieldLink RX10 10 (TX10 0).1 (TX10 0).2.1 (TX10 0).2.2.1 ∈ tbG := tg (i := 435) (by decide +kernel) rfl
theorem fkX10_19 : Cond.fieldLink RX10 19 (TX10 1).1 (TX10 1).2.1 (TX10 1).2.2.1 ∈ tbG := tg (i := 436) (by decide +kernel) rfl
theorem fkX10_26 : Cond.fieldLink RX10 26 (TX10 2).1 (TX10 2).2.1 (TX10 2).2.2.1 ∈ tbG := tg (i := 437) (by decide +kernel) rfl
theorem fkX10_33 : Cond.fieldLink RX10 33 (TX10 3).1 (TX10 3).2.1 (TX10 3).2.2.1 ∈ tbG := tg (i := 438) (by decide +kernel) rfl
theorem fkX10_40 : Cond.fieldLink RX10 40 (TX10 4).1 (TX10 4).2.1 (TX10 4).2.2.1 ∈ tbG := tg (i := 439) (by decide +kernel) rfl
theorem fkX10_47 : Cond.fieldLink RX10 47 (TX10 5).1 (TX10 5).2.1 (TX10 5).2.2.1 ∈ tbG := tg (i := 440) (by decide +kernel) rfl
theorem fkX10_54 : Cond.fieldLink RX10 54 (TX10 6).1 (TX10 6).2.1 (TX10 6).2.2.1 ∈ tbG := tg (i := 441) (by decide +kernel) rfl
theorem fkX10_61 : Cond.fieldLink RX10 61 (TX10 7).1 (TX10 7).2.1 (TX10 7).2.2.1 ∈ tbG := tg (i := 442) (by decide +kernel) rfl
theorem fkX10_68 : Cond.fieldLink RX10 68 (TX10 8).1 (TX10 8).2.1 (TX10 8).2.2.1 ∈ tbG := tg (i := 443) (by decide +kernel) rfl
theorem fkX10_75 : Cond.fieldLink RX10 75 (TX10 9).1 (TX10 9).2.1 (TX10 9).2.2.1 ∈ tbG := tg (i := 444) (by decide +kernel) rfl
theorem fkX10_79 : Cond.fieldLink RX10 79 (TX10 10).1 (TX10 10).2.1 (TX10 10).2.2.1 ∈ tbG := tg (i := 445) (by decide +kernel) rfl
theorem fkX10_96 : Cond.fieldLink RX10 96 (TX10 11).1 (TX10 11).2.1 (TX10 11).2.2.1 ∈ tbG := tg (i := 446) (by decide +kernel) rfl
theorem fkX10_105 : Cond.fieldLink RX10 105 (TX10 12).1 (TX10 12).2.1 (TX10 12).2.2.1 ∈ tbG := tg (i := 447) (by decide +kernel) rfl
theorem fkX10_334 : Cond.fieldLink RX10 334 (TX10 13).1 (TX10 13).2.1 (TX10 13).2.2.1 ∈ tbG := tg (i := 448) (by decide +kernel) rfl
theorem fkX10_337 : Cond.fieldLink RX10 337 (TX10 14).1 (TX10 14).2.1 (TX10 14).2.2.1 ∈ tbG := tg (i := 449) (by decide +kernel) rfl
theorem fkX10_157 : Cond.fieldLink RX10 157 (TX10 15).1 (TX10 15).2.1 (TX10 15).2.2.1 ∈ tbG := tg (i := 450) (by decide +kernel) rfl
theorem fkX11_85 : Cond.fieldLink RX11 85 (TX11 0).1 (TX11 0).2.1 (TX11 0).2.2.1 ∈ tbG := tg (i := 987) (by decide +kernel) rfl
theorem fkX11_81 : Cond.fieldLink RX11 81 (TX11 1).1 (TX11 1).2.1 (TX11 1).2.2.1 ∈ tbG := tg (i := 988) (by decide +kernel) rfl
theorem fkX11_98 : Cond.fieldLink RX11 98 (TX11 2).1 (TX11 2).2.1 (TX11 2).2.2.1 ∈ tbG := tg (i := 989) (by decide +kernel) rfl
theorem fkX11_112 : Cond.fieldLink RX11 112 (TX11 3).1 (TX11 3).2.1 (TX11 3).2.2.1 ∈ tbG := tg (i := 990) (by decide +kernel) rfl
theorem fkX11_7 : Cond.fieldLink RX11 7 (TX11 4).1 (TX11 4).2.1 (TX11 4).2.2.1 ∈ tbG := tg (i := 991) (by decide +kernel) rfl
theorem fkX11_13 : Cond.fieldLink RX11 13 (TX11 5).1 (TX11 5).2.1 (TX11 5).2.2.1 ∈ tbG := tg (i := 992) (by decide +kernel) rfl
theorem fkX11_16 : Cond.fieldLink RX11 16 (TX11 6).1 (TX11 6).2.1 (TX11 6).2.2.1 ∈ tbG := tg (i := 993) (by decide +kernel) rfl
theorem fkX11_19 : Cond.fieldLink RX11 19 (TX11 7).1 (TX11 7).2.1 (TX11 7).2.2.1 ∈ tbG := tg (i := 994) (by decide +kernel) rfl
theorem fkX11_22 : Cond.fieldLink RX11 22 (TX11 8).1 (TX11 8).2.1 (TX11 8).2.2.1 ∈ tbG := tg (i := 995) (by decide +kernel) rfl
theorem fkX11_25 : Cond.fieldLink RX11 25 (TX11 9).1 (TX11 9).2.1 (TX11 9).2.2.1 ∈ tbG := tg (i := 996) (by decide +kernel) rfl
theorem fkX11_28 : Cond.fieldLink RX11 28 (TX11 10).1 (TX11 10).2.1 (TX11 10).2.2.1 ∈ tbG := tg (i := 997) (by decide +kernel) rfl
theorem fkX11_31 : Cond.fieldLink RX11 31 (TX11 11).1 (TX11 11).2.1 (TX11 11).2.2.1 ∈ tbG := tg (i := 998) (by decide +kernel) rfl
theorem fkX11_34 : Cond.fieldLink RX11 34 (TX11 12).1 (TX11 12).2.1 (TX11 12).2.2.1 ∈ tbG := tg (i := 999) (by decide +kernel) rfl
theorem fkX11_115 : Cond.fieldLink RX11 115 (TX11 13).1 (TX11 13).2.1 (TX11 13).2.2.1 ∈ tbG := tg (i := 1000) (by decide +kernel) rfl
theorem fkX11_38 : Cond.fieldLink RX11 38 (TX11 14).1 (TX11 14).2.1 (TX11 14).2.2.1 ∈ tbG := tg (i := 1001) (by decide +kernel) rfl
theorem fkX11_126 : Cond.fieldLink RX11 126 (TX11 15).1 (TX11 15).2.1 (TX11 15).2.2.1 ∈ tbG := tg (i := 1002) (by decide +kernel) rfl
theorem fkX11_41 : Cond.fieldLink RX11 41 (TX11 16).1 (TX11 16).2.1 (TX11 16).2.2.1 ∈ tbG := tg (i := 1003) (by decide +kernel) rfl
theorem fkX11_208 : Cond.fieldLink RX11 208 (TX11 17).1 (TX11 17).2.1 (TX11 17).2.2.1 ∈ tbG := tg (i := 1004) (by decide +kernel) rfl
theorem fkX11_44 : Cond.fieldLink RX11 44 (TX11 18).1 (TX11 18).2.1 (TX11 18).2.2.1 ∈ tbG := tg (i := 1005) (by decide +kernel) rfl
theorem fkX11_47 : Cond.fieldLink RX11 47 (TX11 19).1 (TX11 19).2.1 (TX11 19).2.2.1 ∈ tbG := tg (i := 1006) (by decide +kernel) rfl
theorem fkX11_50 : Cond.fieldLink RX11 50 (TX11 20).1 (TX11 20).2.1 (TX11 20).2.2.1 ∈ tbG := tg (i := 1007) (by decide +kernel) rfl
theorem fkX11_132 : Cond.fieldLink RX11 132 (TX11 21).1 (TX11 21).2.1 (TX11 21).2.2.1 ∈ tbG := tg (i := 1008) (by decide +kernel) rfl
theorem fkX11_202 : Cond.fieldLink RX11 202 (TX11 22).1 (TX11 22).2.1 (TX11 22).2.2.1 ∈ tbG := tg (i := 1009) (by decide +kernel) rfl
theorem fkX11_136 : Cond.fieldLink RX11 136 (TX11 23).1 (TX11 23).2.1 (TX11 23).2.2.1 ∈ tbG := tg (i := 1010) (by decide +kernel) rfl
theorem fkX11_139 : Cond.fieldLink RX11 139 (TX11 24).1 (TX11 24).2.1 (TX11 24).2.2.1 ∈ tbG := tg (i := 1011) (by decide +kernel) rfl
theorem fkX11_53 : Cond.fieldLink RX11 53 (TX11 25).1 (TX11 25).2.1 (TX11 25).2.2.1 ∈ tbG := tg (i := 1012) (by decide +kernel) rfl
theorem fkX11_56 : Cond.fieldLink RX11 56 (TX11 26).1 (TX11 26).2.1 (TX11 26).2.2.1 ∈ tbG := tg (i := 1013) (by decide +kernel) rfl
theorem fkX11_59 : Cond.fieldLink RX11 59 (TX11 27).1 (TX11 27).2.1 (TX11 27).2.2.1 ∈ tbG := tg (i := 1014) (by decide +kernel) rfl
theorem fkX11_177 : Cond.fieldLink RX11 177 (TX11 28).1 (TX11 28).2.1 (TX11 28).2.2.1 ∈ tbG := tg (i := 1015) (by decide +kernel) rfl
theorem fkX11_153 : Cond.fieldLink RX11 153 (TX11 29).1 (TX11 29).2.1 (TX11 29).2.2.1 ∈ tbG := tg (i := 1016) (by decide +kernel) rfl
theorem fkX11_193 : Cond.fieldLink RX11 193 (TX11 30).1 (TX11 30).2.1 (TX11 30).2.2.1 ∈ tbG := tg (i := 1017) (by decide +kernel) rfl
theorem fkX11_156 : Cond.fieldLink RX11 156 (TX11 31).1 (TX11 31).2.1 (TX11 31).2.2.1 ∈ tbG := tg (i := 1018) (by decide +kernel) rfl
theorem fkX11_62 : Cond.fieldLink RX11 62 (TX11 32).1 (TX11 32).2.1 (TX11 32).2.2.1 ∈ tbG := tg (i := 1019) (by decide +kernel) rfl
theorem fkX11_65 : Cond.fieldLink RX11 65 (TX11 33).1 (TX11 33).2.1 (TX11 33).2.2.1 ∈ tbG := tg (i := 1020) (by decide +kernel) rfl
theorem fkX11_68 : Cond.fieldLink RX11 68 (TX11 34).1 (TX11 34).2.1 (TX11 34).2.2.1 ∈ tbG := tg (i := 1021) (by decide +kernel) rfl
theorem fkX11_71 : Cond.fieldLink RX11 71 (TX11 35).1 (TX11 35).2.1 (TX11 35).2.2.1 ∈ tbG := tg (i := 1022) (by decide +kernel) rfl
theorem fkX11_74 : Cond.fieldLink RX11 74 (TX11 36).1 (TX11 36).2.1 (TX11 36).2.2.1 ∈ tbG := tg (i := 1023) (by decide +kernel) rfl
theorem fkX11_78 : Cond.fieldLink RX11 78 (TX11 37).1 (TX11 37).2.1 (TX11 37).2.2.1 ∈ tbG := tg (i := 1024) (by decide +kernel) rfl
theorem ckX10_82 : Cond.constant RX10 82 (-1000002) ∈ tbG := tg (i := 488) (by decide +kernel) rfl
theorem ckX10_91 : Cond.constant RX10 91 (-1000004) ∈ tbG := tg (i := 493) (by decide +kernel) rfl
theorem ckX10_114 : Cond.constant RX10 114 (-1000001) ∈ tbG := tg (i := 592) (by decide +kernel) rfl
theorem ckX10_124 : Cond.constant RX10 124 (-1000003) ∈ tbG := tg (i := 628) (by decide +kernel) rfl
theorem ckJ6_265 : Cond.constant RJ6 265 (1431655765) ∈ tbG := tg (i := 660) (by decide +kernel) rfl
theorem ckJ6_266 : Cond.constant RJ6 266 (858993459) ∈ tbG := tg (i := 661) (by decide +kernel) rfl
theorem ckJ6_267 : Cond.constant RJ6 267 (252645135) ∈ tbG := tg (i := 662) (by decide +kernel) rfl
theorem ckX11_131 : Cond.constant RX11 131 (-1000002) ∈ tbG := tg (i := 1110) (by decide +kernel) rfl
theorem ckX11_135 : Cond.constant RX11 135 (-1000004) ∈ tbG := tg (i := 1111) (by decide +kernel) rfl
theorem ckX11_214 : Cond.constant RX11 214 (-1000001) ∈ tbG := tg (i := 1183) (by decide +kernel) rfl
theorem ckX11_224 : Cond.constant RX11 224 (-1000003) ∈ tbG := tg (i := 1213) (by decide +kernel) rfl
theorem clX10_312 : Cond.constantLong RX10 312 (-1000001) ∈ tbG := tg (i := 965) (by decide +kernel) rfl
theorem clX10_314 : Cond.constantLong RX10 314 (-1000002) ∈ tbG := tg (i := 966) (by decide +kernel) rfl
theorem clX7_40 : Cond.constantLong RX7 40 (9223372036854775807) ∈ tbG := tg (i := 978) (by decide +kernel) rfl
theorem clX7_28 : Cond.constantLong RX7 28 (-1000004) ∈ tbG := tg (i := 979) (by decide +kernel) rfl
theorem clX11_129 : Cond.constantLong RX11 129 (255) ∈ tbG := tg (i := 1106) (by decide +kernel) rfl
theorem clX11_149 : Cond.constantLong RX11 149 (97) ∈ tbG := tg (i := 1128) (by decide +kernel) rfl
theorem clX11_151 : Cond.constantLong RX11 151 (112) ∈ tbG := tg (i := 1129) (by decide +kernel) rfl
theorem clX11_183 : Cond.constantLong RX11 183 (48) ∈ tbG := tg (i := 1142) (by decide +kernel) rfl
theorem clX11_185 : Cond.constantLong RX11 185 (57) ∈ tbG := tg (i := 1143) (by decide +kernel) rfl
theorem clX11_159 : Cond.constantLong RX11 159 (113) ∈ tbG := tg (i := 1156) (by decide +kernel) rfl
theorem clX11_161 : Cond.constantLong RX11 161 (118) ∈ tbG := tg (i := 1157) (by decide +kernel) rfl
theorem clX11_163 : Cond.constantLong RX11 163 (81) ∈ tbG := tg (i := 1158) (by decide +kernel) rfl
theorem clX11_165 : Cond.constantLong RX11 165 (86) ∈ tbG := tg (i := 1159) (by decide +kernel) rfl
theorem clX11_215 : Cond.constantLong RX11 215 (63) ∈ tbG := tg (i := 1184) (by decide +kernel) rfl
theorem clX11_225 : Cond.constantLong RX11 225 (60) ∈ tbG := tg (i := 1218) (by decide +kernel) rfl
theorem clX11_230 : Cond.constantLong RX11 230 (9) ∈ tbG := tg (i := 1231) (by decide +kernel) rfl
theorem clX11_235 : Cond.constantLong RX11 235 (10) ∈ tbG := tg (i := 1244) (by decide +kernel) rfl
theorem clX11_92 : Cond.constantLong RX11 92 (15) ∈ tbG := tg (i := 1269) (by decide +kernel) rfl
theorem clX11_253 : Cond.constantLong RX11 253 (5) ∈ tbG := tg (i := 1270) (by decide +kernel) rfl
theorem clX11_320 : Cond.constantLong RX11 320 (-1000001) ∈ tbG := tg (i := 1395) (by decide +kernel) rfl
theorem clX11_322 : Cond.constantLong RX11 322 (80) ∈ tbG := tg (i := 1396) (by decide +kernel) rfl
theorem clX11_324 : Cond.constantLong RX11 324 (-1000002) ∈ tbG := tg (i := 1397) (by decide +kernel) rfl
theorem clX11_314 : Cond.constantLong RX11 314 (9223372036854775807) ∈ tbG := tg (i := 1405) (by decide +kernel) rfl
theorem clX11_329 : Cond.constantLong RX11 329 (-1000004) ∈ tbG := tg (i := 1406) (by decide +kernel) rfl
theorem waX10 : Cond.instantiable RX10 16 ∈ tbG := tg (i := 110) (by decide +kernel) rfl
theorem waX6 : Cond.instantiable RX6 5 ∈ tbG := tg (i := 118) (by decide +kernel) rfl
theorem waX1 : Cond.instantiable RX1 3 ∈ tbG := tg (i := 143) (by decide +kernel) rfl
theorem waX0 : Cond.instantiable RX0 4 ∈ tbG := tg (i := 162) (by decide +kernel) rfl
theorem waX2 : Cond.instantiable RX2 13 ∈ tbG := tg (i := 185) (by decide +kernel) rfl
theorem waX9 : Cond.instantiable RX9 3 ∈ tbG := tg (i := 257) (by decide +kernel) rfl
theorem waX3 : Cond.instantiable RX3 3 ∈ tbG := tg (i := 273) (by decide +kernel) rfl
theorem waX4 : Cond.instantiable RX4 8 ∈ tbG := tg (i := 291) (by decide +kernel) rfl
theorem waX5 : Cond.instantiable RX5 1 ∈ tbG := tg (i := 323) (by decide +kernel) rfl
theorem waX7 : Cond.instantiable RX7 2 ∈ tbG := tg (i := 333) (by decide +kernel) rfl
theorem waX8 : Cond.instantiable RX8 17 ∈ tbG := tg (i := 347) (by decide +kernel) rfl
theorem waX11 : Cond.instantiable RX11 38 ∈ tbG := tg (i := 982) (by decide +kernel) rfl
theorem xkL_7 : Cond.classLink RL 7 RX10 ∈ tbG := tg (i := 109) (by decide +kernel) rfl
theorem xkX10_7 : Cond.classLink RX10 7 RX6 ∈ tbG := tg (i := 117) (by decide +kernel) rfl
theorem xkX10_16 : Cond.classLink RX10 16 RX1 ∈ tbG := tg (i := 142) (by decide +kernel) rfl
theorem xkX10_23 : Cond.classLink RX10 23 RX0 ∈ tbG := tg (i := 161) (by decide +kernel) rfl
theorem xkX10_30 : Cond.classLink RX10 30 RX2 ∈ tbG := tg (i := 184) (by decide +kernel) rfl
theorem xkX10_37 : Cond.classLink RX10 37 RX9 ∈ tbG := tg (i := 256) (by decide +kernel) rfl
theorem xkX10_44 : Cond.classLink RX10 44 RX3 ∈ tbG := tg (i := 272) (by decide +kernel) rfl
theorem xkX10_51 : Cond.classLink RX10 51 RX4 ∈ tbG := tg (i := 290) (by decide +kernel) rfl
theorem xkX10_58 : Cond.classLink RX10 58 RX5 ∈ tbG := tg (i := 322) (by decide +kernel) rfl
theorem xkX10_65 : Cond.classLink RX10 65 RX7 ∈ tbG := tg (i := 332) (by decide +kernel) rfl
theorem xkX10_72 : Cond.classLink RX10 72 RX8 ∈ tbG := tg (i := 346) (by decide +kernel) rfl
theorem xkL_10 : Cond.classLink RL 10 RX11 ∈ tbG := tg (i := 981) (by decide +kernel) rfl
theorem ar_int : Cond.arrayClass .int ∈ tbG := tg (i := 141) (by decide +kernel) rfl
theorem ar_boolean : Cond.arrayClass .boolean ∈ tbG := tg (i := 289) (by decide +kernel) rfl
theorem ar_long : Cond.arrayClass .long ∈ tbG := tg (i := 345) (by decide +kernel) rfl
theorem ly0_0 : u_lay RX0 TX0 0 ∈ tbG := tg (i := 175) (by decide +kernel) rfl
theorem ly0_1 : u_lay RX0 TX0 1 ∈ tbG := tg (i := 177) (by decide +kernel) rfl
theorem ly0_2 : u_lay RX0 TX0 2 ∈ tbG := tg (i := 179) (by decide +kernel) rfl
theorem ly0_3 : u_lay RX0 TX0 3 ∈ tbG := tg (i := 181) (by decide +kernel) rfl
theorem in0 : ∀ w ∈ u_ws RX0 TX0 4, w ∈ tbG := by
  intro w hw
  obtain ⟨k, hk, rfl⟩ := List.mem_map.mp hw
  have hk := List.mem_range.mp hk
  match k, hk with
  | 0, _ => exact ly0_0
  | 1, _ => exact ly0_1
  | 2, _ => exact ly0_2
  | 3, _ => exact ly0_3
  | k + 4, h => exact absurd h (by omega)
theorem ly1_0 : u_lay RX1 TX1 0 ∈ tbG := tg (i := 154) (by decide +kernel) rfl
theorem ly1_1 : u_lay RX1 TX1 1 ∈ tbG := tg (i := 156) (by decide +kernel) rfl
theorem ly1_2 : u_lay RX1 TX1 2 ∈ tbG := tg (i := 158) (by decide +kernel) rfl
theorem in1 : ∀ w ∈ u_ws RX1 TX1 3, w ∈ tbG := by
  intro w hw
  obtain ⟨k, hk, rfl⟩ := List.mem_map.mp hw
  have hk := List.mem_range.mp hk
  match k, hk with
  | 0, _ => exact ly1_0
  | 1, _ => exact ly1_1
  | 2, _ => exact ly1_2
  | k + 3, h => exact absurd h (by omega)
theorem ly2_0 : u_lay RX2 TX2 0 ∈ tbG := tg (i := 229) (by decide +kernel) rfl
theorem ly2_1 : u_lay RX2 TX2 1 ∈ tbG := tg (i := 231) (by decide +kernel) rfl
theorem ly2_2 : u_lay RX2 TX2 2 ∈ tbG := tg (i := 233) (by decide +kernel) rfl
theorem ly2_3 : u_lay RX2 TX2 3 ∈ tbG := tg (i := 235) (by decide +kernel) rfl
theorem ly2_4 : u_lay RX2 TX2 4 ∈ tbG := tg (i := 237) (by decide +kernel) rfl
theorem ly2_5 : u_lay RX2 TX2 5 ∈ tbG := tg (i := 239) (by decide +kernel) rfl
theorem ly2_6 : u_lay RX2 TX2 6 ∈ tbG := tg (i := 241) (by decide +kernel) rfl
theorem ly2_7 : u_lay RX2 TX2 7 ∈ tbG := tg (i := 243) (by decide +kernel) rfl
theorem ly2_8 : u_lay RX2 TX2 8 ∈ tbG := tg (i := 245) (by decide +kernel) rfl
theorem ly2_9 : u_lay RX2 TX2 9 ∈ tbG := tg (i := 247) (by decide +kernel) rfl
theorem ly2_10 : u_lay RX2 TX2 10 ∈ tbG := tg (i := 249) (by decide +kernel) rfl
theorem ly2_11 : u_lay RX2 TX2 11 ∈ tbG := tg (i := 251) (by decide +kernel) rfl
theorem ly2_12 : u_lay RX2 TX2 12 ∈ tbG := tg (i := 253) (by decide +kernel) rfl
theorem in2 : ∀ w ∈ u_ws RX2 TX2 13, w ∈ tbG := by
  intro w hw
  obtain ⟨k, hk, rfl⟩ := List.mem_map.mp hw
  have hk := List.mem_range.mp hk
  match k, hk with
  | 0, _ => exact ly2_0
  | 1, _ => exact ly2_1
  | 2, _ => exact ly2_2
  | 3, _ => exact ly2_3
  | 4, _ => exact ly2_4
  | 5, _ => exact ly2_5
  | 6, _ => exact ly2_6
  | 7, _ => exact ly2_7
  | 8, _ => exact ly2_8
  | 9, _ => exact ly2_9
  | 10, _ => exact ly2_10
  | 11, _ => exact ly2_11
  | 12, _ => exact ly2_12
  | k + 13, h => exact absurd h (by omega)
theorem ly3_0 : u_lay RX3 TX3 0 ∈ tbG := tg (i := 282) (by decide +kernel) rfl
theorem ly3_1 : u_lay RX3 TX3 1 ∈ tbG := tg (i := 284) (by decide +kernel) rfl
theorem ly3_2 : u_lay RX3 TX3 2 ∈ tbG := tg (i := 286) (by decide +kernel) rfl
theorem in3 : ∀ w ∈ u_ws RX3 TX3 3, w ∈ tbG := by
  intro w hw
  obtain ⟨k, hk, rfl⟩ := List.mem_map.mp hw
  have hk := List.mem_range.mp hk
  match k, hk with
  | 0, _ => exact ly3_0
  | 1, _ => exact ly3_1
  | 2, _ => exact ly3_2
  | k + 3, h => exact absurd h (by omega)
theorem ly4_0 : u_lay RX4 TX4 0 ∈ tbG := tg (i := 305) (by decide +kernel) rfl
theorem ly4_1 : u_lay RX4 TX4 1 ∈ tbG := tg (i := 307) (by decide +kernel) rfl
theorem ly4_2 : u_lay RX4 TX4 2 ∈ tbG := tg (i := 309) (by decide +kernel) rfl
theorem ly4_3 : u_lay RX4 TX4 3 ∈ tbG := tg (i := 311) (by decide +kernel) rfl
theorem ly4_4 : u_lay RX4 TX4 4 ∈ tbG := tg (i := 313) (by decide +kernel) rfl
theorem ly4_5 : u_lay RX4 TX4 5 ∈ tbG := tg (i := 315) (by decide +kernel) rfl
theorem ly4_6 : u_lay RX4 TX4 6 ∈ tbG := tg (i := 317) (by decide +kernel) rfl
theorem ly4_7 : u_lay RX4 TX4 7 ∈ tbG := tg (i := 319) (by decide +kernel) rfl
theorem in4 : ∀ w ∈ u_ws RX4 TX4 8, w ∈ tbG := by
  intro w hw
  obtain ⟨k, hk, rfl⟩ := List.mem_map.mp hw
  have hk := List.mem_range.mp hk
  match k, hk with
  | 0, _ => exact ly4_0
  | 1, _ => exact ly4_1
  | 2, _ => exact ly4_2
  | 3, _ => exact ly4_3
  | 4, _ => exact ly4_4
  | 5, _ => exact ly4_5
  | 6, _ => exact ly4_6
  | 7, _ => exact ly4_7
  | k + 8, h => exact absurd h (by omega)
theorem ly5_0 : u_lay RX5 TX5 0 ∈ tbG := tg (i := 329) (by decide +kernel) rfl
theorem in5 : ∀ w ∈ u_ws RX5 TX5 1, w ∈ tbG := by
  intro w hw
  obtain ⟨k, hk, rfl⟩ := List.mem_map.mp hw
  have hk := List.mem_range.mp hk
  match k, hk with
  | 0, _ => exact ly5_0
  | k + 1, h => exact absurd h (by omega)
theorem ly6_0 : u_lay RX6 TX6 0 ∈ tbG := tg (i := 130) (by decide +kernel) rfl
theorem ly6_1 : u_lay RX6 TX6 1 ∈ tbG := tg (i := 132) (by decide +kernel) rfl
theorem ly6_2 : u_lay RX6 TX6 2 ∈ tbG := tg (i := 134) (by decide +kernel) rfl
theorem ly6_3 : u_lay RX6 TX6 3 ∈ tbG := tg (i := 136) (by decide +kernel) rfl
theorem ly6_4 : u_lay RX6 TX6 4 ∈ tbG := tg (i := 138) (by decide +kernel) rfl
theorem in6 : ∀ w ∈ u_ws RX6 TX6 5, w ∈ tbG := by
  intro w hw
  obtain ⟨k, hk, rfl⟩ := List.mem_map.mp hw
  have hk := List.mem_range.mp hk
  match k, hk with
  | 0, _ => exact ly6_0
  | 1, _ => exact ly6_1
  | 2, _ => exact ly6_2
  | 3, _ => exact ly6_3
  | 4, _ => exact ly6_4
  | k + 5, h => exact absurd h (by omega)
theorem ly7_0 : u_lay RX7 TX7 0 ∈ tbG := tg (i := 340) (by decide +kernel) rfl
theorem ly7_1 : u_lay RX7 TX7 1 ∈ tbG := tg (i := 342) (by decide +kernel) rfl
theorem in7 : ∀ w ∈ u_ws RX7 TX7 2, w ∈ tbG := by
  intro w hw
  obtain ⟨k, hk, rfl⟩ := List.mem_map.mp hw
  have hk := List.mem_range.mp hk
  match k, hk with
  | 0, _ => exact ly7_0
  | 1, _ => exact ly7_1
  | k + 2, h => exact absurd h (by omega)
theorem ly8_0 : u_lay RX8 TX8 0 ∈ tbG := tg (i := 400) (by decide +kernel) rfl
theorem ly8_1 : u_lay RX8 TX8 1 ∈ tbG := tg (i := 402) (by decide +kernel) rfl
theorem ly8_2 : u_lay RX8 TX8 2 ∈ tbG := tg (i := 404) (by decide +kernel) rfl
theorem ly8_3 : u_lay RX8 TX8 3 ∈ tbG := tg (i := 406) (by decide +kernel) rfl
theorem ly8_4 : u_lay RX8 TX8 4 ∈ tbG := tg (i := 408) (by decide +kernel) rfl
theorem ly8_5 : u_lay RX8 TX8 5 ∈ tbG := tg (i := 410) (by decide +kernel) rfl
theorem ly8_6 : u_lay RX8 TX8 6 ∈ tbG := tg (i := 412) (by decide +kernel) rfl
theorem ly8_7 : u_lay RX8 TX8 7 ∈ tbG := tg (i := 414) (by decide +kernel) rfl
theorem ly8_8 : u_lay RX8 TX8 8 ∈ tbG := tg (i := 416) (by decide +kernel) rfl
theorem ly8_9 : u_lay RX8 TX8 9 ∈ tbG := tg (i := 418) (by decide +kernel) rfl
theorem ly8_10 : u_lay RX8 TX8 10 ∈ tbG := tg (i := 420) (by decide +kernel) rfl
theorem ly8_11 : u_lay RX8 TX8 11 ∈ tbG := tg (i := 426) (by decide +kernel) rfl
theorem ly8_12 : u_lay RX8 TX8 12 ∈ tbG := tg (i := 428) (by decide +kernel) rfl
theorem ly8_13 : u_lay RX8 TX8 13 ∈ tbG := tg (i := 430) (by decide +kernel) rfl
theorem ly8_14 : u_lay RX8 TX8 14 ∈ tbG := tg (i := 432) (by decide +kernel) rfl
theorem ly8_15 : u_lay RX8 TX8 15 ∈ tbG := tg (i := 422) (by decide +kernel) rfl
theorem ly8_16 : u_lay RX8 TX8 16 ∈ tbG := tg (i := 424) (by decide +kernel) rfl
theorem in8 : ∀ w ∈ u_ws RX8 TX8 17, w ∈ tbG := by
  intro w hw
  obtain ⟨k, hk, rfl⟩ := List.mem_map.mp hw
  have hk := List.mem_range.mp hk
  match k, hk with
  | 0, _ => exact ly8_0
  | 1, _ => exact ly8_1
  | 2, _ => exact ly8_2
  | 3, _ => exact ly8_3
  | 4, _ => exact ly8_4
  | 5, _ => exact ly8_5
  | 6, _ => exact ly8_6
  | 7, _ => exact ly8_7
  | 8, _ => exact ly8_8
  | 9, _ => exact ly8_9
  | 10, _ => exact ly8_10
  | 11, _ => exact ly8_11
  | 12, _ => exact ly8_12
  | 13, _ => exact ly8_13
  | 14, _ => exact ly8_14
  | 15, _ => exact ly8_15
  | 16, _ => exact ly8_16
  | k + 17, h => exact absurd h (by omega)
theorem ly9_0 : u_lay RX9 TX9 0 ∈ tbG := tg (i := 265) (by decide +kernel) rfl
theorem ly9_1 : u_lay RX9 TX9 1 ∈ tbG := tg (i := 267) (by decide +kernel) rfl
theorem ly9_2 : u_lay RX9 TX9 2 ∈ tbG := tg (i := 269) (by decide +kernel) rfl
theorem in9 : ∀ w ∈ u_ws RX9 TX9 3, w ∈ tbG := by
  intro w hw
  obtain ⟨k, hk, rfl⟩ := List.mem_map.mp hw
  have hk := List.mem_range.mp hk
  match k, hk with
  | 0, _ => exact ly9_0
  | 1, _ => exact ly9_1
  | 2, _ => exact ly9_2
  | k + 3, h => exact absurd h (by omega)
theorem ly10_0 : u_lay RX10 TX10 0 ∈ tbG := tg (i := 451) (by decide +kernel) rfl
theorem ly10_1 : u_lay RX10 TX10 1 ∈ tbG := tg (i := 453) (by decide +kernel) rfl
theorem ly10_2 : u_lay RX10 TX10 2 ∈ tbG := tg (i := 455) (by decide +kernel) rfl
theorem ly10_3 : u_lay RX10 TX10 3 ∈ tbG := tg (i := 457) (by decide +kernel) rfl
theorem ly10_4 : u_lay RX10 TX10 4 ∈ tbG := tg (i := 459) (by decide +kernel) rfl
theorem ly10_5 : u_lay RX10 TX10 5 ∈ tbG := tg (i := 461) (by decide +kernel) rfl
theorem ly10_6 : u_lay RX10 TX10 6 ∈ tbG := tg (i := 463) (by decide +kernel) rfl
theorem ly10_7 : u_lay RX10 TX10 7 ∈ tbG := tg (i := 465) (by decide +kernel) rfl
theorem ly10_8 : u_lay RX10 TX10 8 ∈ tbG := tg (i := 467) (by decide +kernel) rfl
theorem ly10_9 : u_lay RX10 TX10 9 ∈ tbG := tg (i := 469) (by decide +kernel) rfl
theorem ly10_10 : u_lay RX10 TX10 10 ∈ tbG := tg (i := 471) (by decide +kernel) rfl
theorem ly10_11 : u_lay RX10 TX10 11 ∈ tbG := tg (i := 473) (by decide +kernel) rfl
theorem ly10_12 : u_lay RX10 TX10 12 ∈ tbG := tg (i := 475) (by decide +kernel) rfl
theorem ly10_13 : u_lay RX10 TX10 13 ∈ tbG := tg (i := 477) (by decide +kernel) rfl
theorem ly10_14 : u_lay RX10 TX10 14 ∈ tbG := tg (i := 479) (by decide +kernel) rfl
theorem ly10_15 : u_lay RX10 TX10 15 ∈ tbG := tg (i := 481) (by decide +kernel) rfl
theorem in10 : ∀ w ∈ u_ws RX10 TX10 16, w ∈ tbG := by
  intro w hw
  obtain ⟨k, hk, rfl⟩ := List.mem_map.mp hw
  have hk := List.mem_range.mp hk
  match k, hk with
  | 0, _ => exact ly10_0
  | 1, _ => exact ly10_1
  | 2, _ => exact ly10_2
  | 3, _ => exact ly10_3
  | 4, _ => exact ly10_4
  | 5, _ => exact ly10_5
  | 6, _ => exact ly10_6
  | 7, _ => exact ly10_7
  | 8, _ => exact ly10_8
  | 9, _ => exact ly10_9
  | 10, _ => exact ly10_10
  | 11, _ => exact ly10_11
  | 12, _ => exact ly10_12
  | 13, _ => exact ly10_13
  | 14, _ => exact ly10_14
  | 15, _ => exact ly10_15
  | k + 16, h => exact absurd h (by omega)
theorem ly11_0 : u_lay RX11 TX11 0 ∈ tbG := tg (i := 1025) (by decide +kernel) rfl
theorem ly11_1 : u_lay RX11 TX11 1 ∈ tbG := tg (i := 1027) (by decide +kernel) rfl
theorem ly11_2 : u_lay RX11 TX11 2 ∈ tbG := tg (i := 1029) (by decide +kernel) rfl
theorem ly11_3 : u_lay RX11 TX11 3 ∈ tbG := tg (i := 1031) (by decide +kernel) rfl
theorem ly11_4 : u_lay RX11 TX11 4 ∈ tbG := tg (i := 1033) (by decide +kernel) rfl
theorem ly11_5 : u_lay RX11 TX11 5 ∈ tbG := tg (i := 1035) (by decide +kernel) rfl
theorem ly11_6 : u_lay RX11 TX11 6 ∈ tbG := tg (i := 1037) (by decide +kernel) rfl
theorem ly11_7 : u_lay RX11 TX11 7 ∈ tbG := tg (i := 1039) (by decide +kernel) rfl
theorem ly11_8 : u_lay RX11 TX11 8 ∈ tbG := tg (i := 1041) (by decide +kernel) rfl
theorem ly11_9 : u_lay RX11 TX11 9 ∈ tbG := tg (i := 1043) (by decide +kernel) rfl
theorem ly11_10 : u_lay RX11 TX11 10 ∈ tbG := tg (i := 1045) (by decide +kernel) rfl
theorem ly11_11 : u_lay RX11 TX11 11 ∈ tbG := tg (i := 1047) (by decide +kernel) rfl
theorem ly11_12 : u_lay RX11 TX11 12 ∈ tbG := tg (i := 1049) (by decide +kernel) rfl
theorem ly11_13 : u_lay RX11 TX11 13 ∈ tbG := tg (i := 1051) (by decide +kernel) rfl
theorem ly11_14 : u_lay RX11 TX11 14 ∈ tbG := tg (i := 1053) (by decide +kernel) rfl
theorem ly11_15 : u_lay RX11 TX11 15 ∈ tbG := tg (i := 1055) (by decide +kernel) rfl
theorem ly11_16 : u_lay RX11 TX11 16 ∈ tbG := tg (i := 1057) (by decide +kernel) rfl
theorem ly11_17 : u_lay RX11 TX11 17 ∈ tbG := tg (i := 1059) (by decide +kernel) rfl
theorem ly11_18 : u_lay RX11 TX11 18 ∈ tbG := tg (i := 1061) (by decide +kernel) rfl
theorem ly11_19 : u_lay RX11 TX11 19 ∈ tbG := tg (i := 1063) (by decide +kernel) rfl
theorem ly11_20 : u_lay RX11 TX11 20 ∈ tbG := tg (i := 1065) (by decide +kernel) rfl
theorem ly11_21 : u_lay RX11 TX11 21 ∈ tbG := tg (i := 1067) (by decide +kernel) rfl
theorem ly11_22 : u_lay RX11 TX11 22 ∈ tbG := tg (i := 1069) (by decide +kernel) rfl
theorem ly11_23 : u_lay RX11 TX11 23 ∈ tbG := tg (i := 1071) (by decide +kernel) rfl
theorem ly11_24 : u_lay RX11 TX11 24 ∈ tbG := tg (i := 1073) (by decide +kernel) rfl
theorem ly11_25 : u_lay RX11 TX11 25 ∈ tbG := tg (i := 1075) (by decide +kernel) rfl
theorem ly11_26 : u_lay RX11 TX11 26 ∈ tbG := tg (i := 1077) (by decide +kernel) rfl
theorem ly11_27 : u_lay RX11 TX11 27 ∈ tbG := tg (i := 1079) (by decide +kernel) rfl
theorem ly11_28 : u_lay RX11 TX11 28 ∈ tbG := tg (i := 1081) (by decide +kernel) rfl
theorem ly11_29 : u_lay RX11 TX11 29 ∈ tbG := tg (i := 1083) (by decide +kernel) rfl
theorem ly11_30 : u_lay RX11 TX11 30 ∈ tbG := tg (i := 1085) (by decide +kernel) rfl
theorem ly11_31 : u_lay RX11 TX11 31 ∈ tbG := tg (i := 1087) (by decide +kernel) rfl
theorem ly11_32 : u_lay RX11 TX11 32 ∈ tbG := tg (i := 1089) (by decide +kernel) rfl
theorem ly11_33 : u_lay RX11 TX11 33 ∈ tbG := tg (i := 1091) (by decide +kernel) rfl
theorem ly11_34 : u_lay RX11 TX11 34 ∈ tbG := tg (i := 1093) (by decide +kernel) rfl
theorem ly11_35 : u_lay RX11 TX11 35 ∈ tbG := tg (i := 1095) (by decide +kernel) rfl
theorem ly11_36 : u_lay RX11 TX11 36 ∈ tbG := tg (i := 1097) (by decide +kernel) rfl
theorem ly11_37 : u_lay RX11 TX11 37 ∈ tbG := tg (i := 1099) (by decide +kernel) rfl
theorem in11 : ∀ w ∈ u_ws RX11 TX11 38, w ∈ tbG := by
  intro w hw
  obtain ⟨k, hk, rfl⟩ := List.mem_map.mp hw
  have hk := List.mem_range.mp hk
  match k, hk with
  | 0, _ => exact ly11_0
  | 1, _ => exact ly11_1
  | 2, _ => exact ly11_2
  | 3, _ => exact ly11_3
  | 4, _ => exact ly11_4
  | 5, _ => exact ly11_5
  | 6, _ => exact ly11_6
  | 7, _ => exact ly11_7
  | 8, _ => exact ly11_8
  | 9, _ => exact ly11_9
  | 10, _ => exact ly11_10
  | 11, _ => exact ly11_11
  | 12, _ => exact ly11_12
  | 13, _ => exact ly11_13
  | 14, _ => exact ly11_14
  | 15, _ => exact ly11_15
  | 16, _ => exact ly11_16
  | 17, _ => exact ly11_17
  | 18, _ => exact ly11_18
  | 19, _ => exact ly11_19
  | 20, _ => exact ly11_20
  | 21, _ => exact ly11_21
  | 22, _ => exact ly11_22
  | 23, _ => exact ly11_23
  | 24, _ => exact ly11_24
  | 25, _ => exact ly11_25
  | 26, _ => exact ly11_26
  | 27, _ => exact ly11_27
  | 28, _ => exact ly11_28
  | 29, _ => exact ly11_29
  | 30, _ => exact ly11_30
  | 31, _ => exact ly11_31
  | 32, _ => exact ly11_32
  | 33, _ => exact ly11_33
  | 34, _ => exact ly11_34
  | 35, _ => exact ly11_35
  | 36, _ => exact ly11_36
  | 37, _ => exact ly11_37
  | k + 38, h => exact absurd h (by omega)
