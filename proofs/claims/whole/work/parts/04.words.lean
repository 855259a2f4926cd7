def TT : List Cond := lw_tbl.filter goodWord
theorem wd_253 : Cond.fieldLink RX0 9 RX0 "left" "I" ∈ TT := List.mem_filter.mpr ⟨List.mem_of_getElem? (i := 253) (by decide +kernel), by decide +kernel⟩
theorem wd_256 : Cond.fieldLink RX0 15 RX0 "turns" "I" ∈ TT := List.mem_filter.mpr ⟨List.mem_of_getElem? (i := 256) (by decide +kernel), by decide +kernel⟩
theorem wd_610 : Cond.methodLink RX0 18 yX0_gotOff ∈ TT := List.mem_filter.mpr ⟨List.mem_of_getElem? (i := 610) (by decide +kernel), by decide +kernel⟩
theorem wd_611 : Cond.static yX0_gotOff ∈ TT := List.mem_filter.mpr ⟨List.mem_of_getElem? (i := 611) (by decide +kernel), by decide +kernel⟩
theorem wd_74 : Cond.initialized RX0 ∈ TT := List.mem_filter.mpr ⟨List.mem_of_getElem? (i := 74) (by decide +kernel), by decide +kernel⟩
theorem wd_612 : Cond.code yX0_gotOff cX0_gotOff 4 (some .int) ∈ TT := List.mem_filter.mpr ⟨List.mem_of_getElem? (i := 612) (by decide +kernel), by decide +kernel⟩
theorem wd_613 : Cond.methodLink RX0 22 Lib.Math.max.name ∈ TT := List.mem_filter.mpr ⟨List.mem_of_getElem? (i := 613) (by decide +kernel), by decide +kernel⟩
theorem wd_614 : Cond.methodLink RX0 28 Lib.Math.min.name ∈ TT := List.mem_filter.mpr ⟨List.mem_of_getElem? (i := 614) (by decide +kernel), by decide +kernel⟩
theorem wd_354 : Cond.fieldLink RX1 18 RX1 "size" "I" ∈ TT := List.mem_filter.mpr ⟨List.mem_of_getElem? (i := 354) (by decide +kernel), by decide +kernel⟩
theorem wd_356 : Cond.fieldLink RX1 9 RX1 "person" "[I" ∈ TT := List.mem_filter.mpr ⟨List.mem_of_getElem? (i := 356) (by decide +kernel), by decide +kernel⟩
theorem wd_357 : Cond.fieldLink RX1 15 RX1 "harm" "[I" ∈ TT := List.mem_filter.mpr ⟨List.mem_of_getElem? (i := 357) (by decide +kernel), by decide +kernel⟩
theorem wd_263 : Cond.fieldLink RX2 12 RX2 "hills" "LAnsweredFates$Hills;" ∈ TT := List.mem_filter.mpr ⟨List.mem_of_getElem? (i := 263) (by decide +kernel), by decide +kernel⟩
theorem wd_153 : Cond.fieldLink RX2 32 RX4 "persons" "I" ∈ TT := List.mem_filter.mpr ⟨List.mem_of_getElem? (i := 153) (by decide +kernel), by decide +kernel⟩
theorem wd_149 : Cond.fieldLink RX2 36 RX4 "villages" "I" ∈ TT := List.mem_filter.mpr ⟨List.mem_of_getElem? (i := 149) (by decide +kernel), by decide +kernel⟩
theorem wd_154 : Cond.fieldLink RX4 44 RX4 "persons" "I" ∈ TT := List.mem_filter.mpr ⟨List.mem_of_getElem? (i := 154) (by decide +kernel), by decide +kernel⟩
theorem wd_529 : Cond.methodLink RX2 39 yX4_everybody ∈ TT := List.mem_filter.mpr ⟨List.mem_of_getElem? (i := 529) (by decide +kernel), by decide +kernel⟩
theorem wd_530 : Cond.instanceMethod yX4_everybody ∈ TT := List.mem_filter.mpr ⟨List.mem_of_getElem? (i := 530) (by decide +kernel), by decide +kernel⟩
theorem wd_531 : Cond.selects RX4 yX4_everybody yX4_everybody ∈ TT := List.mem_filter.mpr ⟨List.mem_of_getElem? (i := 531) (by decide +kernel), by decide +kernel⟩
theorem wd_72 : Cond.initialized RX4 ∈ TT := List.mem_filter.mpr ⟨List.mem_of_getElem? (i := 72) (by decide +kernel), by decide +kernel⟩
theorem wd_532 : Cond.code yX4_everybody cX4_everybody 1 (some .int) ∈ TT := List.mem_filter.mpr ⟨List.mem_of_getElem? (i := 532) (by decide +kernel), by decide +kernel⟩
theorem wd_266 : Cond.fieldLink RX2 21 RX2 "now" "LAnsweredFates$State;" ∈ TT := List.mem_filter.mpr ⟨List.mem_of_getElem? (i := 266) (by decide +kernel), by decide +kernel⟩
theorem wd_211 : Cond.fieldLink RX2 43 RX10 "toldThisYear" "I" ∈ TT := List.mem_filter.mpr ⟨List.mem_of_getElem? (i := 211) (by decide +kernel), by decide +kernel⟩
theorem wd_217 : Cond.fieldLink RX2 46 RX10 "fate" "[I" ∈ TT := List.mem_filter.mpr ⟨List.mem_of_getElem? (i := 217) (by decide +kernel), by decide +kernel⟩
theorem wd_214 : Cond.fieldLink RX2 50 RX10 "wentUp" "I" ∈ TT := List.mem_filter.mpr ⟨List.mem_of_getElem? (i := 214) (by decide +kernel), by decide +kernel⟩
theorem wd_670 : Cond.methodLink RX2 53 yX2_canGoUp ∈ TT := List.mem_filter.mpr ⟨List.mem_of_getElem? (i := 670) (by decide +kernel), by decide +kernel⟩
theorem wd_671 : Cond.instanceMethod yX2_canGoUp ∈ TT := List.mem_filter.mpr ⟨List.mem_of_getElem? (i := 671) (by decide +kernel), by decide +kernel⟩
theorem wd_672 : Cond.selects RX2 yX2_canGoUp yX2_canGoUp ∈ TT := List.mem_filter.mpr ⟨List.mem_of_getElem? (i := 672) (by decide +kernel), by decide +kernel⟩
theorem wd_71 : Cond.initialized RX2 ∈ TT := List.mem_filter.mpr ⟨List.mem_of_getElem? (i := 71) (by decide +kernel), by decide +kernel⟩
theorem wd_673 : Cond.code yX2_canGoUp cX2_canGoUp 2 (some .boolean) ∈ TT := List.mem_filter.mpr ⟨List.mem_of_getElem? (i := 673) (by decide +kernel), by decide +kernel⟩
theorem wd_269 : Cond.fieldLink RX2 28 RX2 "bargain" "LAnsweredFates$Bargain;" ∈ TT := List.mem_filter.mpr ⟨List.mem_of_getElem? (i := 269) (by decide +kernel), by decide +kernel⟩
theorem wd_159 : Cond.fieldLink RX2 57 RX4 "kind" "[I" ∈ TT := List.mem_filter.mpr ⟨List.mem_of_getElem? (i := 159) (by decide +kernel), by decide +kernel⟩
theorem wd_224 : Cond.fieldLink RX2 60 RX10 "wit" "[I" ∈ TT := List.mem_filter.mpr ⟨List.mem_of_getElem? (i := 224) (by decide +kernel), by decide +kernel⟩
theorem wd_203 : Cond.fieldLink RX2 63 RX10 "patience" "I" ∈ TT := List.mem_filter.mpr ⟨List.mem_of_getElem? (i := 203) (by decide +kernel), by decide +kernel⟩
theorem wd_146 : Cond.fieldLink RX2 66 RX4 "step" "I" ∈ TT := List.mem_filter.mpr ⟨List.mem_of_getElem? (i := 146) (by decide +kernel), by decide +kernel⟩
theorem wd_606 : Cond.methodLink RX2 69 yX0_hold ∈ TT := List.mem_filter.mpr ⟨List.mem_of_getElem? (i := 606) (by decide +kernel), by decide +kernel⟩
theorem wd_607 : Cond.instanceMethod yX0_hold ∈ TT := List.mem_filter.mpr ⟨List.mem_of_getElem? (i := 607) (by decide +kernel), by decide +kernel⟩
theorem wd_608 : Cond.selects RX0 yX0_hold yX0_hold ∈ TT := List.mem_filter.mpr ⟨List.mem_of_getElem? (i := 608) (by decide +kernel), by decide +kernel⟩
theorem wd_609 : Cond.code yX0_hold cX0_hold 8 none ∈ TT := List.mem_filter.mpr ⟨List.mem_of_getElem? (i := 609) (by decide +kernel), by decide +kernel⟩
theorem wd_602 : Cond.methodLink RX2 73 yX2_bargainBy ∈ TT := List.mem_filter.mpr ⟨List.mem_of_getElem? (i := 602) (by decide +kernel), by decide +kernel⟩
theorem wd_603 : Cond.instanceMethod yX2_bargainBy ∈ TT := List.mem_filter.mpr ⟨List.mem_of_getElem? (i := 603) (by decide +kernel), by decide +kernel⟩
theorem wd_604 : Cond.selects RX2 yX2_bargainBy yX2_bargainBy ∈ TT := List.mem_filter.mpr ⟨List.mem_of_getElem? (i := 604) (by decide +kernel), by decide +kernel⟩
theorem wd_605 : Cond.code yX2_bargainBy cX2_bargainBy 3 none ∈ TT := List.mem_filter.mpr ⟨List.mem_of_getElem? (i := 605) (by decide +kernel), by decide +kernel⟩
theorem wd_254 : Cond.fieldLink RX2 77 RX0 "left" "I" ∈ TT := List.mem_filter.mpr ⟨List.mem_of_getElem? (i := 254) (by decide +kernel), by decide +kernel⟩
theorem wd_598 : Cond.methodLink RX2 80 yX2_leftBy ∈ TT := List.mem_filter.mpr ⟨List.mem_of_getElem? (i := 598) (by decide +kernel), by decide +kernel⟩
theorem wd_599 : Cond.instanceMethod yX2_leftBy ∈ TT := List.mem_filter.mpr ⟨List.mem_of_getElem? (i := 599) (by decide +kernel), by decide +kernel⟩
theorem wd_600 : Cond.selects RX2 yX2_leftBy yX2_leftBy ∈ TT := List.mem_filter.mpr ⟨List.mem_of_getElem? (i := 600) (by decide +kernel), by decide +kernel⟩
theorem wd_601 : Cond.code yX2_leftBy cX2_leftBy 3 (some .int) ∈ TT := List.mem_filter.mpr ⟨List.mem_of_getElem? (i := 601) (by decide +kernel), by decide +kernel⟩
theorem wd_679 : Cond.methodLink RX2 84 Lib.Math.max.name ∈ TT := List.mem_filter.mpr ⟨List.mem_of_getElem? (i := 679) (by decide +kernel), by decide +kernel⟩
theorem wd_206 : Cond.fieldLink RX2 89 RX10 "owed" "I" ∈ TT := List.mem_filter.mpr ⟨List.mem_of_getElem? (i := 206) (by decide +kernel), by decide +kernel⟩
theorem wd_641 : Cond.methodLink RX2 92 Lib.Math.min.name ∈ TT := List.mem_filter.mpr ⟨List.mem_of_getElem? (i := 641) (by decide +kernel), by decide +kernel⟩
theorem wd_219 : Cond.fieldLink RX10 15 RX10 "harm" "[I" ∈ TT := List.mem_filter.mpr ⟨List.mem_of_getElem? (i := 219) (by decide +kernel), by decide +kernel⟩
theorem wd_696 : Cond.methodLink RX10 57 Lib.Math.min.name ∈ TT := List.mem_filter.mpr ⟨List.mem_of_getElem? (i := 696) (by decide +kernel), by decide +kernel⟩
theorem wd_171 : Cond.fieldLink RX2 108 RX4 "people" "[I" ∈ TT := List.mem_filter.mpr ⟨List.mem_of_getElem? (i := 171) (by decide +kernel), by decide +kernel⟩
theorem wd_227 : Cond.fieldLink RX2 138 RX10 "bear" "[I" ∈ TT := List.mem_filter.mpr ⟨List.mem_of_getElem? (i := 227) (by decide +kernel), by decide +kernel⟩
theorem wd_537 : Cond.methodLink RX2 141 yX2_untold ∈ TT := List.mem_filter.mpr ⟨List.mem_of_getElem? (i := 537) (by decide +kernel), by decide +kernel⟩
theorem wd_526 : Cond.instanceMethod yX2_untold ∈ TT := List.mem_filter.mpr ⟨List.mem_of_getElem? (i := 526) (by decide +kernel), by decide +kernel⟩
theorem wd_527 : Cond.selects RX2 yX2_untold yX2_untold ∈ TT := List.mem_filter.mpr ⟨List.mem_of_getElem? (i := 527) (by decide +kernel), by decide +kernel⟩
theorem wd_528 : Cond.code yX2_untold cX2_untold 1 (some .int) ∈ TT := List.mem_filter.mpr ⟨List.mem_of_getElem? (i := 528) (by decide +kernel), by decide +kernel⟩
theorem wd_542 : Cond.methodLink RX2 144 yX2_canTake ∈ TT := List.mem_filter.mpr ⟨List.mem_of_getElem? (i := 542) (by decide +kernel), by decide +kernel⟩
theorem wd_544 : Cond.instanceMethod yX2_canTake ∈ TT := List.mem_filter.mpr ⟨List.mem_of_getElem? (i := 544) (by decide +kernel), by decide +kernel⟩
theorem wd_10 : Cond.selects RX2 yX2_canTake yX2_canTake ∈ TT := List.mem_filter.mpr ⟨List.mem_of_getElem? (i := 10) (by decide +kernel), by decide +kernel⟩
theorem wd_545 : Cond.code yX2_canTake cX2_canTake 4 (some .int) ∈ TT := List.mem_filter.mpr ⟨List.mem_of_getElem? (i := 545) (by decide +kernel), by decide +kernel⟩
theorem wd_704 : Cond.constant RJ6 265 (1431655765) ∈ TT := List.mem_filter.mpr ⟨List.mem_of_getElem? (i := 704) (by decide +kernel), by decide +kernel⟩
theorem wd_705 : Cond.constant RJ6 266 (858993459) ∈ TT := List.mem_filter.mpr ⟨List.mem_of_getElem? (i := 705) (by decide +kernel), by decide +kernel⟩
theorem wd_706 : Cond.constant RJ6 267 (252645135) ∈ TT := List.mem_filter.mpr ⟨List.mem_of_getElem? (i := 706) (by decide +kernel), by decide +kernel⟩
theorem wd_701 : Cond.methodLink RX2 111 yJ6_bitCount_0f7a4 ∈ TT := List.mem_filter.mpr ⟨List.mem_of_getElem? (i := 701) (by decide +kernel), by decide +kernel⟩
theorem wd_702 : Cond.static yJ6_bitCount_0f7a4 ∈ TT := List.mem_filter.mpr ⟨List.mem_of_getElem? (i := 702) (by decide +kernel), by decide +kernel⟩
theorem wd_85 : Cond.initialized "java/lang/Integer" ∈ TT := List.mem_filter.mpr ⟨List.mem_of_getElem? (i := 85) (by decide +kernel), by decide +kernel⟩
theorem wd_703 : Cond.code yJ6_bitCount_0f7a4 cJ6_bitCount_0f7a4 1 (some .int) ∈ TT := List.mem_filter.mpr ⟨List.mem_of_getElem? (i := 703) (by decide +kernel), by decide +kernel⟩
theorem wd_162 : Cond.fieldLink RX2 117 RX4 "home" "[I" ∈ TT := List.mem_filter.mpr ⟨List.mem_of_getElem? (i := 162) (by decide +kernel), by decide +kernel⟩
theorem wd_692 : Cond.methodLink RX2 95 yX10_hurt ∈ TT := List.mem_filter.mpr ⟨List.mem_of_getElem? (i := 692) (by decide +kernel), by decide +kernel⟩
theorem wd_693 : Cond.instanceMethod yX10_hurt ∈ TT := List.mem_filter.mpr ⟨List.mem_of_getElem? (i := 693) (by decide +kernel), by decide +kernel⟩
theorem wd_694 : Cond.selects RX10 yX10_hurt yX10_hurt ∈ TT := List.mem_filter.mpr ⟨List.mem_of_getElem? (i := 694) (by decide +kernel), by decide +kernel⟩
theorem wd_73 : Cond.initialized RX10 ∈ TT := List.mem_filter.mpr ⟨List.mem_of_getElem? (i := 73) (by decide +kernel), by decide +kernel⟩
theorem wd_695 : Cond.code yX10_hurt cX10_hurt 3 none ∈ TT := List.mem_filter.mpr ⟨List.mem_of_getElem? (i := 695) (by decide +kernel), by decide +kernel⟩
theorem wd_637 : Cond.methodLink RX2 98 yX2_taken ∈ TT := List.mem_filter.mpr ⟨List.mem_of_getElem? (i := 637) (by decide +kernel), by decide +kernel⟩
theorem wd_639 : Cond.instanceMethod yX2_taken ∈ TT := List.mem_filter.mpr ⟨List.mem_of_getElem? (i := 639) (by decide +kernel), by decide +kernel⟩
theorem wd_14 : Cond.selects RX2 yX2_taken yX2_taken ∈ TT := List.mem_filter.mpr ⟨List.mem_of_getElem? (i := 14) (by decide +kernel), by decide +kernel⟩
theorem wd_640 : Cond.code yX2_taken cX2_taken 3 (some .int) ∈ TT := List.mem_filter.mpr ⟨List.mem_of_getElem? (i := 640) (by decide +kernel), by decide +kernel⟩
theorem wd_697 : Cond.methodLink RX2 101 yX2_hurtVillage ∈ TT := List.mem_filter.mpr ⟨List.mem_of_getElem? (i := 697) (by decide +kernel), by decide +kernel⟩
theorem wd_699 : Cond.instanceMethod yX2_hurtVillage ∈ TT := List.mem_filter.mpr ⟨List.mem_of_getElem? (i := 699) (by decide +kernel), by decide +kernel⟩
theorem wd_16 : Cond.selects RX2 yX2_hurtVillage yX2_hurtVillage ∈ TT := List.mem_filter.mpr ⟨List.mem_of_getElem? (i := 16) (by decide +kernel), by decide +kernel⟩
theorem wd_700 : Cond.code yX2_hurtVillage cX2_hurtVillage 6 none ∈ TT := List.mem_filter.mpr ⟨List.mem_of_getElem? (i := 700) (by decide +kernel), by decide +kernel⟩
theorem wd_142 : Cond.fieldLink RX2 104 RX4 "patience" "I" ∈ TT := List.mem_filter.mpr ⟨List.mem_of_getElem? (i := 142) (by decide +kernel), by decide +kernel⟩
theorem wd_209 : Cond.fieldLink RX2 105 RX10 "years" "I" ∈ TT := List.mem_filter.mpr ⟨List.mem_of_getElem? (i := 209) (by decide +kernel), by decide +kernel⟩
theorem wd_326 : Cond.fieldLink RX3 7 RX3 "seed" "I" ∈ TT := List.mem_filter.mpr ⟨List.mem_of_getElem? (i := 326) (by decide +kernel), by decide +kernel⟩
theorem wd_727 : Cond.constantLong RX3 13 (1103515245) ∈ TT := List.mem_filter.mpr ⟨List.mem_of_getElem? (i := 727) (by decide +kernel), by decide +kernel⟩
theorem wd_728 : Cond.constantLong RX3 15 (12345) ∈ TT := List.mem_filter.mpr ⟨List.mem_of_getElem? (i := 728) (by decide +kernel), by decide +kernel⟩
theorem wd_729 : Cond.constantLong RX3 17 (2147483647) ∈ TT := List.mem_filter.mpr ⟨List.mem_of_getElem? (i := 729) (by decide +kernel), by decide +kernel⟩
theorem wd_730 : Cond.constant RX3 19 (65536) ∈ TT := List.mem_filter.mpr ⟨List.mem_of_getElem? (i := 730) (by decide +kernel), by decide +kernel⟩
theorem wd_723 : Cond.methodLink RX2 120 yX3_next ∈ TT := List.mem_filter.mpr ⟨List.mem_of_getElem? (i := 723) (by decide +kernel), by decide +kernel⟩
theorem wd_724 : Cond.instanceMethod yX3_next ∈ TT := List.mem_filter.mpr ⟨List.mem_of_getElem? (i := 724) (by decide +kernel), by decide +kernel⟩
theorem wd_725 : Cond.selects RX3 yX3_next yX3_next ∈ TT := List.mem_filter.mpr ⟨List.mem_of_getElem? (i := 725) (by decide +kernel), by decide +kernel⟩
theorem wd_77 : Cond.initialized RX3 ∈ TT := List.mem_filter.mpr ⟨List.mem_of_getElem? (i := 77) (by decide +kernel), by decide +kernel⟩
theorem wd_726 : Cond.code yX3_next cX3_next 2 (some .int) ∈ TT := List.mem_filter.mpr ⟨List.mem_of_getElem? (i := 726) (by decide +kernel), by decide +kernel⟩
theorem wd_731 : Cond.methodLink RX2 125 yX2_isPerson ∈ TT := List.mem_filter.mpr ⟨List.mem_of_getElem? (i := 731) (by decide +kernel), by decide +kernel⟩
theorem wd_590 : Cond.instanceMethod yX2_isPerson ∈ TT := List.mem_filter.mpr ⟨List.mem_of_getElem? (i := 590) (by decide +kernel), by decide +kernel⟩
theorem wd_591 : Cond.selects RX2 yX2_isPerson yX2_isPerson ∈ TT := List.mem_filter.mpr ⟨List.mem_of_getElem? (i := 591) (by decide +kernel), by decide +kernel⟩
theorem wd_592 : Cond.code yX2_isPerson cX2_isPerson 2 (some .boolean) ∈ TT := List.mem_filter.mpr ⟨List.mem_of_getElem? (i := 592) (by decide +kernel), by decide +kernel⟩
theorem wd_733 : Cond.methodLink RX2 131 yX2_canAnswer ∈ TT := List.mem_filter.mpr ⟨List.mem_of_getElem? (i := 733) (by decide +kernel), by decide +kernel⟩
theorem wd_667 : Cond.instanceMethod yX2_canAnswer ∈ TT := List.mem_filter.mpr ⟨List.mem_of_getElem? (i := 667) (by decide +kernel), by decide +kernel⟩
theorem wd_668 : Cond.selects RX2 yX2_canAnswer yX2_canAnswer ∈ TT := List.mem_filter.mpr ⟨List.mem_of_getElem? (i := 668) (by decide +kernel), by decide +kernel⟩
theorem wd_669 : Cond.code yX2_canAnswer cX2_canAnswer 3 (some .boolean) ∈ TT := List.mem_filter.mpr ⟨List.mem_of_getElem? (i := 669) (by decide +kernel), by decide +kernel⟩
theorem wd_734 : Cond.methodLink RX2 135 yX2_answerBack ∈ TT := List.mem_filter.mpr ⟨List.mem_of_getElem? (i := 734) (by decide +kernel), by decide +kernel⟩
theorem wd_676 : Cond.instanceMethod yX2_answerBack ∈ TT := List.mem_filter.mpr ⟨List.mem_of_getElem? (i := 676) (by decide +kernel), by decide +kernel⟩
theorem wd_677 : Cond.selects RX2 yX2_answerBack yX2_answerBack ∈ TT := List.mem_filter.mpr ⟨List.mem_of_getElem? (i := 677) (by decide +kernel), by decide +kernel⟩
theorem wd_678 : Cond.code yX2_answerBack cX2_answerBack 5 none ∈ TT := List.mem_filter.mpr ⟨List.mem_of_getElem? (i := 678) (by decide +kernel), by decide +kernel⟩
theorem wd_732 : Cond.methodLink RX2 128 yX2_foretell ∈ TT := List.mem_filter.mpr ⟨List.mem_of_getElem? (i := 732) (by decide +kernel), by decide +kernel⟩
theorem wd_659 : Cond.instanceMethod yX2_foretell ∈ TT := List.mem_filter.mpr ⟨List.mem_of_getElem? (i := 659) (by decide +kernel), by decide +kernel⟩
theorem wd_660 : Cond.selects RX2 yX2_foretell yX2_foretell ∈ TT := List.mem_filter.mpr ⟨List.mem_of_getElem? (i := 660) (by decide +kernel), by decide +kernel⟩
theorem wd_661 : Cond.code yX2_foretell cX2_foretell 3 none ∈ TT := List.mem_filter.mpr ⟨List.mem_of_getElem? (i := 661) (by decide +kernel), by decide +kernel⟩
theorem wd_538 : Cond.methodLink RX2 147 yX2_canTakeTogether ∈ TT := List.mem_filter.mpr ⟨List.mem_of_getElem? (i := 538) (by decide +kernel), by decide +kernel⟩
theorem wd_540 : Cond.instanceMethod yX2_canTakeTogether ∈ TT := List.mem_filter.mpr ⟨List.mem_of_getElem? (i := 540) (by decide +kernel), by decide +kernel⟩
theorem wd_9 : Cond.selects RX2 yX2_canTakeTogether yX2_canTakeTogether ∈ TT := List.mem_filter.mpr ⟨List.mem_of_getElem? (i := 9) (by decide +kernel), by decide +kernel⟩
theorem wd_541 : Cond.code yX2_canTakeTogether cX2_canTakeTogether 4 (some .int) ∈ TT := List.mem_filter.mpr ⟨List.mem_of_getElem? (i := 541) (by decide +kernel), by decide +kernel⟩
theorem wd_221 : Cond.fieldLink RX2 150 RX10 "harm" "[I" ∈ TT := List.mem_filter.mpr ⟨List.mem_of_getElem? (i := 221) (by decide +kernel), by decide +kernel⟩
theorem wd_807 : Cond.methodLink RX2 160 yX2_roomFrom ∈ TT := List.mem_filter.mpr ⟨List.mem_of_getElem? (i := 807) (by decide +kernel), by decide +kernel⟩
theorem wd_809 : Cond.instanceMethod yX2_roomFrom ∈ TT := List.mem_filter.mpr ⟨List.mem_of_getElem? (i := 809) (by decide +kernel), by decide +kernel⟩
theorem wd_24 : Cond.selects RX2 yX2_roomFrom yX2_roomFrom ∈ TT := List.mem_filter.mpr ⟨List.mem_of_getElem? (i := 24) (by decide +kernel), by decide +kernel⟩
theorem wd_810 : Cond.code yX2_roomFrom cX2_roomFrom 5 (some .int) ∈ TT := List.mem_filter.mpr ⟨List.mem_of_getElem? (i := 810) (by decide +kernel), by decide +kernel⟩
theorem wd_803 : Cond.methodLink RX2 153 yX2_leastCeiling ∈ TT := List.mem_filter.mpr ⟨List.mem_of_getElem? (i := 803) (by decide +kernel), by decide +kernel⟩
theorem wd_805 : Cond.instanceMethod yX2_leastCeiling ∈ TT := List.mem_filter.mpr ⟨List.mem_of_getElem? (i := 805) (by decide +kernel), by decide +kernel⟩
theorem wd_23 : Cond.selects RX2 yX2_leastCeiling yX2_leastCeiling ∈ TT := List.mem_filter.mpr ⟨List.mem_of_getElem? (i := 23) (by decide +kernel), by decide +kernel⟩
theorem wd_806 : Cond.code yX2_leastCeiling cX2_leastCeiling 3 (some .int) ∈ TT := List.mem_filter.mpr ⟨List.mem_of_getElem? (i := 806) (by decide +kernel), by decide +kernel⟩
theorem wd_811 : Cond.methodLink RX2 156 yX2_shareAhead ∈ TT := List.mem_filter.mpr ⟨List.mem_of_getElem? (i := 811) (by decide +kernel), by decide +kernel⟩
theorem wd_813 : Cond.instanceMethod yX2_shareAhead ∈ TT := List.mem_filter.mpr ⟨List.mem_of_getElem? (i := 813) (by decide +kernel), by decide +kernel⟩
theorem wd_25 : Cond.selects RX2 yX2_shareAhead yX2_shareAhead ∈ TT := List.mem_filter.mpr ⟨List.mem_of_getElem? (i := 25) (by decide +kernel), by decide +kernel⟩
theorem wd_814 : Cond.code yX2_shareAhead cX2_shareAhead 4 (some .int) ∈ TT := List.mem_filter.mpr ⟨List.mem_of_getElem? (i := 814) (by decide +kernel), by decide +kernel⟩
theorem wd_135 : Cond.fieldLink RX4 30 RX4 "there" "Z" ∈ TT := List.mem_filter.mpr ⟨List.mem_of_getElem? (i := 135) (by decide +kernel), by decide +kernel⟩
theorem wd_140 : Cond.fieldLink RX4 34 RX4 "patience" "I" ∈ TT := List.mem_filter.mpr ⟨List.mem_of_getElem? (i := 140) (by decide +kernel), by decide +kernel⟩
theorem wd_143 : Cond.fieldLink RX4 38 RX4 "step" "I" ∈ TT := List.mem_filter.mpr ⟨List.mem_of_getElem? (i := 143) (by decide +kernel), by decide +kernel⟩
theorem wd_147 : Cond.fieldLink RX4 41 RX4 "villages" "I" ∈ TT := List.mem_filter.mpr ⟨List.mem_of_getElem? (i := 147) (by decide +kernel), by decide +kernel⟩
theorem wd_169 : Cond.fieldLink RX4 27 RX4 "people" "[I" ∈ TT := List.mem_filter.mpr ⟨List.mem_of_getElem? (i := 169) (by decide +kernel), by decide +kernel⟩
theorem wd_440 : Cond.methodLink RX4 47 yJ7_fill_53178 ∈ TT := List.mem_filter.mpr ⟨List.mem_of_getElem? (i := 440) (by decide +kernel), by decide +kernel⟩
theorem wd_441 : Cond.static yJ7_fill_53178 ∈ TT := List.mem_filter.mpr ⟨List.mem_of_getElem? (i := 441) (by decide +kernel), by decide +kernel⟩
theorem wd_82 : Cond.initialized RJ7 ∈ TT := List.mem_filter.mpr ⟨List.mem_of_getElem? (i := 82) (by decide +kernel), by decide +kernel⟩
theorem wd_442 : Cond.code yJ7_fill_53178 cJ7_fill_53178 4 none ∈ TT := List.mem_filter.mpr ⟨List.mem_of_getElem? (i := 442) (by decide +kernel), by decide +kernel⟩
theorem wd_167 : Cond.fieldLink RX4 24 RX4 "bear" "[I" ∈ TT := List.mem_filter.mpr ⟨List.mem_of_getElem? (i := 167) (by decide +kernel), by decide +kernel⟩
theorem wd_157 : Cond.fieldLink RX4 9 RX4 "kind" "[I" ∈ TT := List.mem_filter.mpr ⟨List.mem_of_getElem? (i := 157) (by decide +kernel), by decide +kernel⟩
theorem wd_160 : Cond.fieldLink RX4 15 RX4 "home" "[I" ∈ TT := List.mem_filter.mpr ⟨List.mem_of_getElem? (i := 160) (by decide +kernel), by decide +kernel⟩
theorem wd_163 : Cond.fieldLink RX4 18 RX4 "wit" "[I" ∈ TT := List.mem_filter.mpr ⟨List.mem_of_getElem? (i := 163) (by decide +kernel), by decide +kernel⟩
theorem wd_165 : Cond.fieldLink RX4 21 RX4 "from" "[I" ∈ TT := List.mem_filter.mpr ⟨List.mem_of_getElem? (i := 165) (by decide +kernel), by decide +kernel⟩
theorem wd_201 : Cond.fieldLink RX10 30 RX10 "patience" "I" ∈ TT := List.mem_filter.mpr ⟨List.mem_of_getElem? (i := 201) (by decide +kernel), by decide +kernel⟩
theorem wd_204 : Cond.fieldLink RX10 31 RX10 "owed" "I" ∈ TT := List.mem_filter.mpr ⟨List.mem_of_getElem? (i := 204) (by decide +kernel), by decide +kernel⟩
theorem wd_207 : Cond.fieldLink RX10 34 RX10 "years" "I" ∈ TT := List.mem_filter.mpr ⟨List.mem_of_getElem? (i := 207) (by decide +kernel), by decide +kernel⟩
theorem wd_210 : Cond.fieldLink RX10 37 RX10 "toldThisYear" "I" ∈ TT := List.mem_filter.mpr ⟨List.mem_of_getElem? (i := 210) (by decide +kernel), by decide +kernel⟩
theorem wd_212 : Cond.fieldLink RX10 40 RX10 "wentUp" "I" ∈ TT := List.mem_filter.mpr ⟨List.mem_of_getElem? (i := 212) (by decide +kernel), by decide +kernel⟩
theorem wd_215 : Cond.fieldLink RX10 9 RX10 "fate" "[I" ∈ TT := List.mem_filter.mpr ⟨List.mem_of_getElem? (i := 215) (by decide +kernel), by decide +kernel⟩
theorem wd_502 : Cond.methodLink RX10 50 arraycopyName ∈ TT := List.mem_filter.mpr ⟨List.mem_of_getElem? (i := 502) (by decide +kernel), by decide +kernel⟩
theorem wd_222 : Cond.fieldLink RX10 18 RX10 "wit" "[I" ∈ TT := List.mem_filter.mpr ⟨List.mem_of_getElem? (i := 222) (by decide +kernel), by decide +kernel⟩
theorem wd_225 : Cond.fieldLink RX10 21 RX10 "bear" "[I" ∈ TT := List.mem_filter.mpr ⟨List.mem_of_getElem? (i := 225) (by decide +kernel), by decide +kernel⟩
theorem wd_308 : Cond.fieldLink RX5 17 RX5 "states" "[LAnsweredFates$State;" ∈ TT := List.mem_filter.mpr ⟨List.mem_of_getElem? (i := 308) (by decide +kernel), by decide +kernel⟩
theorem wd_862 : Cond.methodLink RX5 26 yX10_copyFrom ∈ TT := List.mem_filter.mpr ⟨List.mem_of_getElem? (i := 862) (by decide +kernel), by decide +kernel⟩
theorem wd_655 : Cond.instanceMethod yX10_copyFrom ∈ TT := List.mem_filter.mpr ⟨List.mem_of_getElem? (i := 655) (by decide +kernel), by decide +kernel⟩
theorem wd_656 : Cond.selects RX10 yX10_copyFrom yX10_copyFrom ∈ TT := List.mem_filter.mpr ⟨List.mem_of_getElem? (i := 656) (by decide +kernel), by decide +kernel⟩
theorem wd_657 : Cond.code yX10_copyFrom cX10_copyFrom 2 none ∈ TT := List.mem_filter.mpr ⟨List.mem_of_getElem? (i := 657) (by decide +kernel), by decide +kernel⟩
theorem wd_310 : Cond.fieldLink RX5 21 RX5 "seeds" "[I" ∈ TT := List.mem_filter.mpr ⟨List.mem_of_getElem? (i := 310) (by decide +kernel), by decide +kernel⟩
theorem wd_306 : Cond.fieldLink RX5 9 RX5 "kept" "[Z" ∈ TT := List.mem_filter.mpr ⟨List.mem_of_getElem? (i := 306) (by decide +kernel), by decide +kernel⟩
theorem wd_376 : Cond.fieldLink RX6 36 RX6 "persons" "I" ∈ TT := List.mem_filter.mpr ⟨List.mem_of_getElem? (i := 376) (by decide +kernel), by decide +kernel⟩
theorem wd_373 : Cond.fieldLink RX6 15 RX6 "kept" "[I" ∈ TT := List.mem_filter.mpr ⟨List.mem_of_getElem? (i := 373) (by decide +kernel), by decide +kernel⟩
theorem wd_268 : Cond.fieldLink RX6 48 RX2 "now" "LAnsweredFates$State;" ∈ TT := List.mem_filter.mpr ⟨List.mem_of_getElem? (i := 268) (by decide +kernel), by decide +kernel⟩
theorem wd_216 : Cond.fieldLink RX6 52 RX10 "fate" "[I" ∈ TT := List.mem_filter.mpr ⟨List.mem_of_getElem? (i := 216) (by decide +kernel), by decide +kernel⟩
theorem wd_374 : Cond.fieldLink RX6 18 RX6 "left" "[I" ∈ TT := List.mem_filter.mpr ⟨List.mem_of_getElem? (i := 374) (by decide +kernel), by decide +kernel⟩
theorem wd_768 : Cond.methodLink RX6 57 yX2_canAnswer ∈ TT := List.mem_filter.mpr ⟨List.mem_of_getElem? (i := 768) (by decide +kernel), by decide +kernel⟩
theorem wd_769 : Cond.methodLink RX6 61 yX2_leftBy ∈ TT := List.mem_filter.mpr ⟨List.mem_of_getElem? (i := 769) (by decide +kernel), by decide +kernel⟩
theorem wd_375 : Cond.fieldLink RX6 21 RX6 "least" "[I" ∈ TT := List.mem_filter.mpr ⟨List.mem_of_getElem? (i := 375) (by decide +kernel), by decide +kernel⟩
theorem wd_774 : Cond.methodLink RX6 64 yX6_mayGo ∈ TT := List.mem_filter.mpr ⟨List.mem_of_getElem? (i := 774) (by decide +kernel), by decide +kernel⟩
theorem wd_776 : Cond.instanceMethod yX6_mayGo ∈ TT := List.mem_filter.mpr ⟨List.mem_of_getElem? (i := 776) (by decide +kernel), by decide +kernel⟩
theorem wd_19 : Cond.selects RX6 yX6_mayGo yX6_mayGo ∈ TT := List.mem_filter.mpr ⟨List.mem_of_getElem? (i := 19) (by decide +kernel), by decide +kernel⟩
theorem wd_80 : Cond.initialized RX6 ∈ TT := List.mem_filter.mpr ⟨List.mem_of_getElem? (i := 80) (by decide +kernel), by decide +kernel⟩
theorem wd_777 : Cond.code yX6_mayGo cX6_mayGo 4 (some .boolean) ∈ TT := List.mem_filter.mpr ⟨List.mem_of_getElem? (i := 777) (by decide +kernel), by decide +kernel⟩
theorem wd_778 : Cond.methodLink RX6 68 yX6_leftWith ∈ TT := List.mem_filter.mpr ⟨List.mem_of_getElem? (i := 778) (by decide +kernel), by decide +kernel⟩
theorem wd_780 : Cond.instanceMethod yX6_leftWith ∈ TT := List.mem_filter.mpr ⟨List.mem_of_getElem? (i := 780) (by decide +kernel), by decide +kernel⟩
theorem wd_20 : Cond.selects RX6 yX6_leftWith yX6_leftWith ∈ TT := List.mem_filter.mpr ⟨List.mem_of_getElem? (i := 20) (by decide +kernel), by decide +kernel⟩
theorem wd_781 : Cond.code yX6_leftWith cX6_leftWith 4 (some .int) ∈ TT := List.mem_filter.mpr ⟨List.mem_of_getElem? (i := 781) (by decide +kernel), by decide +kernel⟩
theorem wd_782 : Cond.methodLink RX6 72 Lib.Math.min.name ∈ TT := List.mem_filter.mpr ⟨List.mem_of_getElem? (i := 782) (by decide +kernel), by decide +kernel⟩
theorem wd_371 : Cond.fieldLink RX6 9 RX6 "goer" "[I" ∈ TT := List.mem_filter.mpr ⟨List.mem_of_getElem? (i := 371) (by decide +kernel), by decide +kernel⟩
theorem wd_787 : Cond.methodLink RX6 77 yX6_firstGoer ∈ TT := List.mem_filter.mpr ⟨List.mem_of_getElem? (i := 787) (by decide +kernel), by decide +kernel⟩
theorem wd_789 : Cond.instanceMethod yX6_firstGoer ∈ TT := List.mem_filter.mpr ⟨List.mem_of_getElem? (i := 789) (by decide +kernel), by decide +kernel⟩
theorem wd_22 : Cond.selects RX6 yX6_firstGoer yX6_firstGoer ∈ TT := List.mem_filter.mpr ⟨List.mem_of_getElem? (i := 22) (by decide +kernel), by decide +kernel⟩
theorem wd_790 : Cond.code yX6_firstGoer cX6_firstGoer 4 (some .int) ∈ TT := List.mem_filter.mpr ⟨List.mem_of_getElem? (i := 790) (by decide +kernel), by decide +kernel⟩
theorem wd_264 : Cond.fieldLink RX6 24 RX2 "hills" "LAnsweredFates$Hills;" ∈ TT := List.mem_filter.mpr ⟨List.mem_of_getElem? (i := 264) (by decide +kernel), by decide +kernel⟩
theorem wd_152 : Cond.fieldLink RX6 30 RX4 "persons" "I" ∈ TT := List.mem_filter.mpr ⟨List.mem_of_getElem? (i := 152) (by decide +kernel), by decide +kernel⟩
theorem wd_764 : Cond.methodLink RX6 37 yX6_tryAll ∈ TT := List.mem_filter.mpr ⟨List.mem_of_getElem? (i := 764) (by decide +kernel), by decide +kernel⟩
theorem wd_766 : Cond.instanceMethod yX6_tryAll ∈ TT := List.mem_filter.mpr ⟨List.mem_of_getElem? (i := 766) (by decide +kernel), by decide +kernel⟩
theorem wd_17 : Cond.selects RX6 yX6_tryAll yX6_tryAll ∈ TT := List.mem_filter.mpr ⟨List.mem_of_getElem? (i := 17) (by decide +kernel), by decide +kernel⟩
theorem wd_767 : Cond.code yX6_tryAll cX6_tryAll 4 none ∈ TT := List.mem_filter.mpr ⟨List.mem_of_getElem? (i := 767) (by decide +kernel), by decide +kernel⟩
theorem wd_770 : Cond.methodLink RX6 41 yX6_leastFrom ∈ TT := List.mem_filter.mpr ⟨List.mem_of_getElem? (i := 770) (by decide +kernel), by decide +kernel⟩
theorem wd_772 : Cond.instanceMethod yX6_leastFrom ∈ TT := List.mem_filter.mpr ⟨List.mem_of_getElem? (i := 772) (by decide +kernel), by decide +kernel⟩
theorem wd_18 : Cond.selects RX6 yX6_leastFrom yX6_leastFrom ∈ TT := List.mem_filter.mpr ⟨List.mem_of_getElem? (i := 18) (by decide +kernel), by decide +kernel⟩
theorem wd_773 : Cond.code yX6_leastFrom cX6_leastFrom 5 (some .int) ∈ TT := List.mem_filter.mpr ⟨List.mem_of_getElem? (i := 773) (by decide +kernel), by decide +kernel⟩
theorem wd_783 : Cond.methodLink RX6 45 yX6_choose ∈ TT := List.mem_filter.mpr ⟨List.mem_of_getElem? (i := 783) (by decide +kernel), by decide +kernel⟩
theorem wd_785 : Cond.instanceMethod yX6_choose ∈ TT := List.mem_filter.mpr ⟨List.mem_of_getElem? (i := 785) (by decide +kernel), by decide +kernel⟩
theorem wd_21 : Cond.selects RX6 yX6_choose yX6_choose ∈ TT := List.mem_filter.mpr ⟨List.mem_of_getElem? (i := 21) (by decide +kernel), by decide +kernel⟩
theorem wd_786 : Cond.code yX6_choose cX6_choose 3 none ∈ TT := List.mem_filter.mpr ⟨List.mem_of_getElem? (i := 786) (by decide +kernel), by decide +kernel⟩
theorem wd_287 : Cond.fieldLink RX7 18 RX7 "size" "I" ∈ TT := List.mem_filter.mpr ⟨List.mem_of_getElem? (i := 287) (by decide +kernel), by decide +kernel⟩
theorem wd_290 : Cond.fieldLink RX7 11 RX7 "states" "[LAnsweredFates$State;" ∈ TT := List.mem_filter.mpr ⟨List.mem_of_getElem? (i := 290) (by decide +kernel), by decide +kernel⟩
theorem wd_289 : Cond.fieldLink RX7 22 RX7 "oldest" "I" ∈ TT := List.mem_filter.mpr ⟨List.mem_of_getElem? (i := 289) (by decide +kernel), by decide +kernel⟩
theorem wd_654 : Cond.methodLink RX7 25 yX10_copyFrom ∈ TT := List.mem_filter.mpr ⟨List.mem_of_getElem? (i := 654) (by decide +kernel), by decide +kernel⟩
theorem wd_101 : Cond.fieldLink RX8 19 RX8 "length" "I" ∈ TT := List.mem_filter.mpr ⟨List.mem_of_getElem? (i := 101) (by decide +kernel), by decide +kernel⟩
theorem wd_100 : Cond.fieldLink RX8 9 RX8 "text" "[I" ∈ TT := List.mem_filter.mpr ⟨List.mem_of_getElem? (i := 100) (by decide +kernel), by decide +kernel⟩
theorem wd_107 : Cond.fieldLink RX8 30 RX8 "at" "I" ∈ TT := List.mem_filter.mpr ⟨List.mem_of_getElem? (i := 107) (by decide +kernel), by decide +kernel⟩
theorem wd_103 : Cond.fieldLink RX8 27 RX8 "fault" "I" ∈ TT := List.mem_filter.mpr ⟨List.mem_of_getElem? (i := 103) (by decide +kernel), by decide +kernel⟩
theorem wd_447 : Cond.methodLink RX8 43 yX8_letter ∈ TT := List.mem_filter.mpr ⟨List.mem_of_getElem? (i := 447) (by decide +kernel), by decide +kernel⟩
theorem wd_449 : Cond.instanceMethod yX8_letter ∈ TT := List.mem_filter.mpr ⟨List.mem_of_getElem? (i := 449) (by decide +kernel), by decide +kernel⟩
theorem wd_1 : Cond.selects RX8 yX8_letter yX8_letter ∈ TT := List.mem_filter.mpr ⟨List.mem_of_getElem? (i := 1) (by decide +kernel), by decide +kernel⟩
theorem wd_70 : Cond.initialized RX8 ∈ TT := List.mem_filter.mpr ⟨List.mem_of_getElem? (i := 70) (by decide +kernel), by decide +kernel⟩
theorem wd_450 : Cond.code yX8_letter cX8_letter 1 (some .int) ∈ TT := List.mem_filter.mpr ⟨List.mem_of_getElem? (i := 450) (by decide +kernel), by decide +kernel⟩
theorem wd_137 : Cond.fieldLink RX8 64 RX4 "there" "Z" ∈ TT := List.mem_filter.mpr ⟨List.mem_of_getElem? (i := 137) (by decide +kernel), by decide +kernel⟩
theorem wd_156 : Cond.fieldLink RX8 71 RX4 "persons" "I" ∈ TT := List.mem_filter.mpr ⟨List.mem_of_getElem? (i := 156) (by decide +kernel), by decide +kernel⟩
theorem wd_150 : Cond.fieldLink RX8 68 RX4 "villages" "I" ∈ TT := List.mem_filter.mpr ⟨List.mem_of_getElem? (i := 150) (by decide +kernel), by decide +kernel⟩
theorem wd_105 : Cond.fieldLink RX8 15 RX8 "faultAt" "I" ∈ TT := List.mem_filter.mpr ⟨List.mem_of_getElem? (i := 105) (by decide +kernel), by decide +kernel⟩
theorem wd_443 : Cond.methodLink RX8 33 yX8_skipBlanks ∈ TT := List.mem_filter.mpr ⟨List.mem_of_getElem? (i := 443) (by decide +kernel), by decide +kernel⟩
theorem wd_445 : Cond.instanceMethod yX8_skipBlanks ∈ TT := List.mem_filter.mpr ⟨List.mem_of_getElem? (i := 445) (by decide +kernel), by decide +kernel⟩
theorem wd_0 : Cond.selects RX8 yX8_skipBlanks yX8_skipBlanks ∈ TT := List.mem_filter.mpr ⟨List.mem_of_getElem? (i := 0) (by decide +kernel), by decide +kernel⟩
theorem wd_446 : Cond.code yX8_skipBlanks cX8_skipBlanks 1 none ∈ TT := List.mem_filter.mpr ⟨List.mem_of_getElem? (i := 446) (by decide +kernel), by decide +kernel⟩
theorem wd_108 : Cond.fieldLink RX8 91 RX8 "numberAt" "I" ∈ TT := List.mem_filter.mpr ⟨List.mem_of_getElem? (i := 108) (by decide +kernel), by decide +kernel⟩
theorem wd_470 : Cond.methodLink RX8 98 yX8_isFigure ∈ TT := List.mem_filter.mpr ⟨List.mem_of_getElem? (i := 470) (by decide +kernel), by decide +kernel⟩
theorem wd_471 : Cond.static yX8_isFigure ∈ TT := List.mem_filter.mpr ⟨List.mem_of_getElem? (i := 471) (by decide +kernel), by decide +kernel⟩
theorem wd_472 : Cond.code yX8_isFigure cX8_isFigure 1 (some .boolean) ∈ TT := List.mem_filter.mpr ⟨List.mem_of_getElem? (i := 472) (by decide +kernel), by decide +kernel⟩
theorem wd_458 : Cond.methodLink RX8 51 yX8_fail ∈ TT := List.mem_filter.mpr ⟨List.mem_of_getElem? (i := 458) (by decide +kernel), by decide +kernel⟩
theorem wd_460 : Cond.instanceMethod yX8_fail ∈ TT := List.mem_filter.mpr ⟨List.mem_of_getElem? (i := 460) (by decide +kernel), by decide +kernel⟩
theorem wd_3 : Cond.selects RX8 yX8_fail yX8_fail ∈ TT := List.mem_filter.mpr ⟨List.mem_of_getElem? (i := 3) (by decide +kernel), by decide +kernel⟩
theorem wd_461 : Cond.code yX8_fail cX8_fail 3 none ∈ TT := List.mem_filter.mpr ⟨List.mem_of_getElem? (i := 461) (by decide +kernel), by decide +kernel⟩
theorem wd_466 : Cond.methodLink RX8 74 yX8_readNumber ∈ TT := List.mem_filter.mpr ⟨List.mem_of_getElem? (i := 466) (by decide +kernel), by decide +kernel⟩
theorem wd_468 : Cond.instanceMethod yX8_readNumber ∈ TT := List.mem_filter.mpr ⟨List.mem_of_getElem? (i := 468) (by decide +kernel), by decide +kernel⟩
theorem wd_5 : Cond.selects RX8 yX8_readNumber yX8_readNumber ∈ TT := List.mem_filter.mpr ⟨List.mem_of_getElem? (i := 5) (by decide +kernel), by decide +kernel⟩
theorem wd_469 : Cond.code yX8_readNumber cX8_readNumber 5 (some .int) ∈ TT := List.mem_filter.mpr ⟨List.mem_of_getElem? (i := 469) (by decide +kernel), by decide +kernel⟩
theorem wd_141 : Cond.fieldLink RX8 78 RX4 "patience" "I" ∈ TT := List.mem_filter.mpr ⟨List.mem_of_getElem? (i := 141) (by decide +kernel), by decide +kernel⟩
theorem wd_145 : Cond.fieldLink RX8 81 RX4 "step" "I" ∈ TT := List.mem_filter.mpr ⟨List.mem_of_getElem? (i := 145) (by decide +kernel), by decide +kernel⟩
theorem wd_473 : Cond.methodLink RX8 84 yX8_readEnd ∈ TT := List.mem_filter.mpr ⟨List.mem_of_getElem? (i := 473) (by decide +kernel), by decide +kernel⟩
theorem wd_475 : Cond.instanceMethod yX8_readEnd ∈ TT := List.mem_filter.mpr ⟨List.mem_of_getElem? (i := 475) (by decide +kernel), by decide +kernel⟩
theorem wd_6 : Cond.selects RX8 yX8_readEnd yX8_readEnd ∈ TT := List.mem_filter.mpr ⟨List.mem_of_getElem? (i := 6) (by decide +kernel), by decide +kernel⟩
theorem wd_476 : Cond.code yX8_readEnd cX8_readEnd 1 none ∈ TT := List.mem_filter.mpr ⟨List.mem_of_getElem? (i := 476) (by decide +kernel), by decide +kernel⟩
theorem wd_481 : Cond.methodLink RX8 87 yX4_addVillage ∈ TT := List.mem_filter.mpr ⟨List.mem_of_getElem? (i := 481) (by decide +kernel), by decide +kernel⟩
theorem wd_482 : Cond.instanceMethod yX4_addVillage ∈ TT := List.mem_filter.mpr ⟨List.mem_of_getElem? (i := 482) (by decide +kernel), by decide +kernel⟩
theorem wd_483 : Cond.selects RX4 yX4_addVillage yX4_addVillage ∈ TT := List.mem_filter.mpr ⟨List.mem_of_getElem? (i := 483) (by decide +kernel), by decide +kernel⟩
theorem wd_484 : Cond.code yX4_addVillage cX4_addVillage 2 none ∈ TT := List.mem_filter.mpr ⟨List.mem_of_getElem? (i := 484) (by decide +kernel), by decide +kernel⟩
theorem wd_489 : Cond.methodLink RX8 94 yX4_addPerson ∈ TT := List.mem_filter.mpr ⟨List.mem_of_getElem? (i := 489) (by decide +kernel), by decide +kernel⟩
theorem wd_490 : Cond.instanceMethod yX4_addPerson ∈ TT := List.mem_filter.mpr ⟨List.mem_of_getElem? (i := 490) (by decide +kernel), by decide +kernel⟩
theorem wd_491 : Cond.selects RX4 yX4_addPerson yX4_addPerson ∈ TT := List.mem_filter.mpr ⟨List.mem_of_getElem? (i := 491) (by decide +kernel), by decide +kernel⟩
theorem wd_492 : Cond.code yX4_addPerson cX4_addPerson 5 none ∈ TT := List.mem_filter.mpr ⟨List.mem_of_getElem? (i := 492) (by decide +kernel), by decide +kernel⟩
theorem wd_455 : Cond.methodLink RX8 47 yX8_faultOfWord ∈ TT := List.mem_filter.mpr ⟨List.mem_of_getElem? (i := 455) (by decide +kernel), by decide +kernel⟩
theorem wd_456 : Cond.static yX8_faultOfWord ∈ TT := List.mem_filter.mpr ⟨List.mem_of_getElem? (i := 456) (by decide +kernel), by decide +kernel⟩
theorem wd_457 : Cond.code yX8_faultOfWord cX8_faultOfWord 2 (some .int) ∈ TT := List.mem_filter.mpr ⟨List.mem_of_getElem? (i := 457) (by decide +kernel), by decide +kernel⟩
theorem wd_485 : Cond.methodLink RX8 61 yX8_readPerson ∈ TT := List.mem_filter.mpr ⟨List.mem_of_getElem? (i := 485) (by decide +kernel), by decide +kernel⟩
theorem wd_487 : Cond.instanceMethod yX8_readPerson ∈ TT := List.mem_filter.mpr ⟨List.mem_of_getElem? (i := 487) (by decide +kernel), by decide +kernel⟩
theorem wd_8 : Cond.selects RX8 yX8_readPerson yX8_readPerson ∈ TT := List.mem_filter.mpr ⟨List.mem_of_getElem? (i := 8) (by decide +kernel), by decide +kernel⟩
theorem wd_488 : Cond.code yX8_readPerson cX8_readPerson 6 none ∈ TT := List.mem_filter.mpr ⟨List.mem_of_getElem? (i := 488) (by decide +kernel), by decide +kernel⟩
theorem wd_477 : Cond.methodLink RX8 58 yX8_readVillage ∈ TT := List.mem_filter.mpr ⟨List.mem_of_getElem? (i := 477) (by decide +kernel), by decide +kernel⟩
theorem wd_479 : Cond.instanceMethod yX8_readVillage ∈ TT := List.mem_filter.mpr ⟨List.mem_of_getElem? (i := 479) (by decide +kernel), by decide +kernel⟩
theorem wd_7 : Cond.selects RX8 yX8_readVillage yX8_readVillage ∈ TT := List.mem_filter.mpr ⟨List.mem_of_getElem? (i := 7) (by decide +kernel), by decide +kernel⟩
theorem wd_480 : Cond.code yX8_readVillage cX8_readVillage 3 none ∈ TT := List.mem_filter.mpr ⟨List.mem_of_getElem? (i := 480) (by decide +kernel), by decide +kernel⟩
theorem wd_462 : Cond.methodLink RX8 55 yX8_readOracle ∈ TT := List.mem_filter.mpr ⟨List.mem_of_getElem? (i := 462) (by decide +kernel), by decide +kernel⟩
theorem wd_464 : Cond.instanceMethod yX8_readOracle ∈ TT := List.mem_filter.mpr ⟨List.mem_of_getElem? (i := 464) (by decide +kernel), by decide +kernel⟩
theorem wd_4 : Cond.selects RX8 yX8_readOracle yX8_readOracle ∈ TT := List.mem_filter.mpr ⟨List.mem_of_getElem? (i := 4) (by decide +kernel), by decide +kernel⟩
theorem wd_465 : Cond.code yX8_readOracle cX8_readOracle 2 none ∈ TT := List.mem_filter.mpr ⟨List.mem_of_getElem? (i := 465) (by decide +kernel), by decide +kernel⟩
theorem wd_436 : Cond.methodLink RX8 22 yX4_clear ∈ TT := List.mem_filter.mpr ⟨List.mem_of_getElem? (i := 436) (by decide +kernel), by decide +kernel⟩
theorem wd_437 : Cond.instanceMethod yX4_clear ∈ TT := List.mem_filter.mpr ⟨List.mem_of_getElem? (i := 437) (by decide +kernel), by decide +kernel⟩
theorem wd_438 : Cond.selects RX4 yX4_clear yX4_clear ∈ TT := List.mem_filter.mpr ⟨List.mem_of_getElem? (i := 438) (by decide +kernel), by decide +kernel⟩
theorem wd_439 : Cond.code yX4_clear cX4_clear 1 none ∈ TT := List.mem_filter.mpr ⟨List.mem_of_getElem? (i := 439) (by decide +kernel), by decide +kernel⟩
theorem wd_451 : Cond.methodLink RX8 36 yX8_readClause ∈ TT := List.mem_filter.mpr ⟨List.mem_of_getElem? (i := 451) (by decide +kernel), by decide +kernel⟩
theorem wd_453 : Cond.instanceMethod yX8_readClause ∈ TT := List.mem_filter.mpr ⟨List.mem_of_getElem? (i := 453) (by decide +kernel), by decide +kernel⟩
theorem wd_2 : Cond.selects RX8 yX8_readClause yX8_readClause ∈ TT := List.mem_filter.mpr ⟨List.mem_of_getElem? (i := 2) (by decide +kernel), by decide +kernel⟩
theorem wd_454 : Cond.code yX8_readClause cX8_readClause 4 none ∈ TT := List.mem_filter.mpr ⟨List.mem_of_getElem? (i := 454) (by decide +kernel), by decide +kernel⟩
theorem wd_493 : Cond.methodLink RX8 40 yX4_settleFrom ∈ TT := List.mem_filter.mpr ⟨List.mem_of_getElem? (i := 493) (by decide +kernel), by decide +kernel⟩
theorem wd_494 : Cond.instanceMethod yX4_settleFrom ∈ TT := List.mem_filter.mpr ⟨List.mem_of_getElem? (i := 494) (by decide +kernel), by decide +kernel⟩
theorem wd_495 : Cond.selects RX4 yX4_settleFrom yX4_settleFrom ∈ TT := List.mem_filter.mpr ⟨List.mem_of_getElem? (i := 495) (by decide +kernel), by decide +kernel⟩
theorem wd_496 : Cond.code yX4_settleFrom cX4_settleFrom 2 none ∈ TT := List.mem_filter.mpr ⟨List.mem_of_getElem? (i := 496) (by decide +kernel), by decide +kernel⟩
theorem wd_337 : Cond.fieldLink RX9 18 RX9 "size" "I" ∈ TT := List.mem_filter.mpr ⟨List.mem_of_getElem? (i := 337) (by decide +kernel), by decide +kernel⟩
theorem wd_339 : Cond.fieldLink RX9 9 RX9 "amount" "[I" ∈ TT := List.mem_filter.mpr ⟨List.mem_of_getElem? (i := 339) (by decide +kernel), by decide +kernel⟩
theorem wd_340 : Cond.fieldLink RX9 15 RX9 "bear" "[I" ∈ TT := List.mem_filter.mpr ⟨List.mem_of_getElem? (i := 340) (by decide +kernel), by decide +kernel⟩
theorem wd_829 : Cond.methodLink RX9 22 arraycopyName ∈ TT := List.mem_filter.mpr ⟨List.mem_of_getElem? (i := 829) (by decide +kernel), by decide +kernel⟩
theorem wd_136 : Cond.fieldLink RX9 28 RX4 "there" "Z" ∈ TT := List.mem_filter.mpr ⟨List.mem_of_getElem? (i := 136) (by decide +kernel), by decide +kernel⟩
theorem wd_148 : Cond.fieldLink RX9 34 RX4 "villages" "I" ∈ TT := List.mem_filter.mpr ⟨List.mem_of_getElem? (i := 148) (by decide +kernel), by decide +kernel⟩
theorem wd_569 : Cond.methodLink RX9 37 yX9_takenBy ∈ TT := List.mem_filter.mpr ⟨List.mem_of_getElem? (i := 569) (by decide +kernel), by decide +kernel⟩
theorem wd_571 : Cond.instanceMethod yX9_takenBy ∈ TT := List.mem_filter.mpr ⟨List.mem_of_getElem? (i := 571) (by decide +kernel), by decide +kernel⟩
theorem wd_13 : Cond.selects RX9 yX9_takenBy yX9_takenBy ∈ TT := List.mem_filter.mpr ⟨List.mem_of_getElem? (i := 13) (by decide +kernel), by decide +kernel⟩
theorem wd_78 : Cond.initialized RX9 ∈ TT := List.mem_filter.mpr ⟨List.mem_of_getElem? (i := 78) (by decide +kernel), by decide +kernel⟩
theorem wd_572 : Cond.code yX9_takenBy cX9_takenBy 5 (some .int) ∈ TT := List.mem_filter.mpr ⟨List.mem_of_getElem? (i := 572) (by decide +kernel), by decide +kernel⟩
theorem wd_562 : Cond.methodLink RX9 45 yX9_setsOf ∈ TT := List.mem_filter.mpr ⟨List.mem_of_getElem? (i := 562) (by decide +kernel), by decide +kernel⟩
theorem wd_563 : Cond.static yX9_setsOf ∈ TT := List.mem_filter.mpr ⟨List.mem_of_getElem? (i := 563) (by decide +kernel), by decide +kernel⟩
theorem wd_564 : Cond.code yX9_setsOf cX9_setsOf 1 (some .int) ∈ TT := List.mem_filter.mpr ⟨List.mem_of_getElem? (i := 564) (by decide +kernel), by decide +kernel⟩
theorem wd_565 : Cond.methodLink RX9 49 yX9_fits ∈ TT := List.mem_filter.mpr ⟨List.mem_of_getElem? (i := 565) (by decide +kernel), by decide +kernel⟩
theorem wd_567 : Cond.instanceMethod yX9_fits ∈ TT := List.mem_filter.mpr ⟨List.mem_of_getElem? (i := 567) (by decide +kernel), by decide +kernel⟩
theorem wd_12 : Cond.selects RX9 yX9_fits yX9_fits ∈ TT := List.mem_filter.mpr ⟨List.mem_of_getElem? (i := 12) (by decide +kernel), by decide +kernel⟩
theorem wd_568 : Cond.code yX9_fits cX9_fits 3 (some .boolean) ∈ TT := List.mem_filter.mpr ⟨List.mem_of_getElem? (i := 568) (by decide +kernel), by decide +kernel⟩
theorem wd_558 : Cond.methodLink RX9 41 yX9_countWith ∈ TT := List.mem_filter.mpr ⟨List.mem_of_getElem? (i := 558) (by decide +kernel), by decide +kernel⟩
theorem wd_560 : Cond.instanceMethod yX9_countWith ∈ TT := List.mem_filter.mpr ⟨List.mem_of_getElem? (i := 560) (by decide +kernel), by decide +kernel⟩
theorem wd_11 : Cond.selects RX9 yX9_countWith yX9_countWith ∈ TT := List.mem_filter.mpr ⟨List.mem_of_getElem? (i := 11) (by decide +kernel), by decide +kernel⟩
theorem wd_561 : Cond.code yX9_countWith cX9_countWith 5 (some .int) ∈ TT := List.mem_filter.mpr ⟨List.mem_of_getElem? (i := 561) (by decide +kernel), by decide +kernel⟩
theorem wd_581 : Cond.methodLink RX9 53 yX9_countSets ∈ TT := List.mem_filter.mpr ⟨List.mem_of_getElem? (i := 581) (by decide +kernel), by decide +kernel⟩
theorem wd_555 : Cond.instanceMethod yX9_countSets ∈ TT := List.mem_filter.mpr ⟨List.mem_of_getElem? (i := 555) (by decide +kernel), by decide +kernel⟩
theorem wd_556 : Cond.selects RX9 yX9_countSets yX9_countSets ∈ TT := List.mem_filter.mpr ⟨List.mem_of_getElem? (i := 556) (by decide +kernel), by decide +kernel⟩
theorem wd_557 : Cond.code yX9_countSets cX9_countSets 2 (some .int) ∈ TT := List.mem_filter.mpr ⟨List.mem_of_getElem? (i := 557) (by decide +kernel), by decide +kernel⟩
theorem wd_582 : Cond.methodLink RX9 56 Lib.Math.max.name ∈ TT := List.mem_filter.mpr ⟨List.mem_of_getElem? (i := 582) (by decide +kernel), by decide +kernel⟩
theorem wd_139 : Cond.fieldLink RX10 24 RX4 "patience" "I" ∈ TT := List.mem_filter.mpr ⟨List.mem_of_getElem? (i := 139) (by decide +kernel), by decide +kernel⟩
theorem wd_501 : Cond.methodLink RX10 43 yJ7_fill_53178 ∈ TT := List.mem_filter.mpr ⟨List.mem_of_getElem? (i := 501) (by decide +kernel), by decide +kernel⟩
theorem wd_164 : Cond.fieldLink RX10 49 RX4 "wit" "[I" ∈ TT := List.mem_filter.mpr ⟨List.mem_of_getElem? (i := 164) (by decide +kernel), by decide +kernel⟩
theorem wd_168 : Cond.fieldLink RX10 56 RX4 "bear" "[I" ∈ TT := List.mem_filter.mpr ⟨List.mem_of_getElem? (i := 168) (by decide +kernel), by decide +kernel⟩
theorem wd_422 : Cond.constant RX11 72 (-1000000002) ∈ TT := List.mem_filter.mpr ⟨List.mem_of_getElem? (i := 422) (by decide +kernel), by decide +kernel⟩
theorem wd_390 : Cond.fieldLink RX11 10 RX11 "reader" "LAnsweredFates$Reader;" ∈ TT := List.mem_filter.mpr ⟨List.mem_of_getElem? (i := 390) (by decide +kernel), by decide +kernel⟩
theorem wd_102 : Cond.fieldLink RX11 73 RX8 "length" "I" ∈ TT := List.mem_filter.mpr ⟨List.mem_of_getElem? (i := 102) (by decide +kernel), by decide +kernel⟩
theorem wd_424 : Cond.methodLink RX11 78 yX8_append ∈ TT := List.mem_filter.mpr ⟨List.mem_of_getElem? (i := 424) (by decide +kernel), by decide +kernel⟩
theorem wd_425 : Cond.instanceMethod yX8_append ∈ TT := List.mem_filter.mpr ⟨List.mem_of_getElem? (i := 425) (by decide +kernel), by decide +kernel⟩
theorem wd_426 : Cond.selects RX8 yX8_append yX8_append ∈ TT := List.mem_filter.mpr ⟨List.mem_of_getElem? (i := 426) (by decide +kernel), by decide +kernel⟩
theorem wd_427 : Cond.code yX8_append cX8_append 2 none ∈ TT := List.mem_filter.mpr ⟨List.mem_of_getElem? (i := 427) (by decide +kernel), by decide +kernel⟩
theorem wd_423 : Cond.constant RX11 77 (-1000000004) ∈ TT := List.mem_filter.mpr ⟨List.mem_of_getElem? (i := 423) (by decide +kernel), by decide +kernel⟩
theorem wd_398 : Cond.fieldLink RX11 68 RX11 "draft" "LAnsweredFates$Hills;" ∈ TT := List.mem_filter.mpr ⟨List.mem_of_getElem? (i := 398) (by decide +kernel), by decide +kernel⟩
theorem wd_432 : Cond.methodLink RX11 82 yX8_read ∈ TT := List.mem_filter.mpr ⟨List.mem_of_getElem? (i := 432) (by decide +kernel), by decide +kernel⟩
theorem wd_433 : Cond.instanceMethod yX8_read ∈ TT := List.mem_filter.mpr ⟨List.mem_of_getElem? (i := 433) (by decide +kernel), by decide +kernel⟩
theorem wd_434 : Cond.selects RX8 yX8_read yX8_read ∈ TT := List.mem_filter.mpr ⟨List.mem_of_getElem? (i := 434) (by decide +kernel), by decide +kernel⟩
theorem wd_435 : Cond.code yX8_read cX8_read 3 none ∈ TT := List.mem_filter.mpr ⟨List.mem_of_getElem? (i := 435) (by decide +kernel), by decide +kernel⟩
theorem wd_104 : Cond.fieldLink RX11 86 RX8 "fault" "I" ∈ TT := List.mem_filter.mpr ⟨List.mem_of_getElem? (i := 104) (by decide +kernel), by decide +kernel⟩
theorem wd_391 : Cond.fieldLink RX11 19 RX11 "course" "LAnsweredFates$Course;" ∈ TT := List.mem_filter.mpr ⟨List.mem_of_getElem? (i := 391) (by decide +kernel), by decide +kernel⟩
theorem wd_265 : Cond.fieldLink RX11 89 RX2 "hills" "LAnsweredFates$Hills;" ∈ TT := List.mem_filter.mpr ⟨List.mem_of_getElem? (i := 265) (by decide +kernel), by decide +kernel⟩
theorem wd_267 : Cond.fieldLink RX11 92 RX2 "now" "LAnsweredFates$State;" ∈ TT := List.mem_filter.mpr ⟨List.mem_of_getElem? (i := 267) (by decide +kernel), by decide +kernel⟩
theorem wd_497 : Cond.methodLink RX11 96 yX10_begin ∈ TT := List.mem_filter.mpr ⟨List.mem_of_getElem? (i := 497) (by decide +kernel), by decide +kernel⟩
theorem wd_498 : Cond.instanceMethod yX10_begin ∈ TT := List.mem_filter.mpr ⟨List.mem_of_getElem? (i := 498) (by decide +kernel), by decide +kernel⟩
theorem wd_499 : Cond.selects RX10 yX10_begin yX10_begin ∈ TT := List.mem_filter.mpr ⟨List.mem_of_getElem? (i := 499) (by decide +kernel), by decide +kernel⟩
theorem wd_500 : Cond.code yX10_begin cX10_begin 2 none ∈ TT := List.mem_filter.mpr ⟨List.mem_of_getElem? (i := 500) (by decide +kernel), by decide +kernel⟩
theorem wd_392 : Cond.fieldLink RX11 26 RX11 "past" "LAnsweredFates$Past;" ∈ TT := List.mem_filter.mpr ⟨List.mem_of_getElem? (i := 392) (by decide +kernel), by decide +kernel⟩
theorem wd_505 : Cond.methodLink RX11 101 yX7_forget ∈ TT := List.mem_filter.mpr ⟨List.mem_of_getElem? (i := 505) (by decide +kernel), by decide +kernel⟩
theorem wd_506 : Cond.instanceMethod yX7_forget ∈ TT := List.mem_filter.mpr ⟨List.mem_of_getElem? (i := 506) (by decide +kernel), by decide +kernel⟩
theorem wd_507 : Cond.selects RX7 yX7_forget yX7_forget ∈ TT := List.mem_filter.mpr ⟨List.mem_of_getElem? (i := 507) (by decide +kernel), by decide +kernel⟩
theorem wd_75 : Cond.initialized RX7 ∈ TT := List.mem_filter.mpr ⟨List.mem_of_getElem? (i := 75) (by decide +kernel), by decide +kernel⟩
theorem wd_508 : Cond.code yX7_forget cX7_forget 1 none ∈ TT := List.mem_filter.mpr ⟨List.mem_of_getElem? (i := 508) (by decide +kernel), by decide +kernel⟩
theorem wd_393 : Cond.fieldLink RX11 33 RX11 "images" "LAnsweredFates$Images;" ∈ TT := List.mem_filter.mpr ⟨List.mem_of_getElem? (i := 393) (by decide +kernel), by decide +kernel⟩
theorem wd_509 : Cond.methodLink RX11 104 yX5_forget ∈ TT := List.mem_filter.mpr ⟨List.mem_of_getElem? (i := 509) (by decide +kernel), by decide +kernel⟩
theorem wd_510 : Cond.instanceMethod yX5_forget ∈ TT := List.mem_filter.mpr ⟨List.mem_of_getElem? (i := 510) (by decide +kernel), by decide +kernel⟩
theorem wd_511 : Cond.selects RX5 yX5_forget yX5_forget ∈ TT := List.mem_filter.mpr ⟨List.mem_of_getElem? (i := 511) (by decide +kernel), by decide +kernel⟩
theorem wd_76 : Cond.initialized RX5 ∈ TT := List.mem_filter.mpr ⟨List.mem_of_getElem? (i := 76) (by decide +kernel), by decide +kernel⟩
theorem wd_512 : Cond.code yX5_forget cX5_forget 2 none ∈ TT := List.mem_filter.mpr ⟨List.mem_of_getElem? (i := 512) (by decide +kernel), by decide +kernel⟩
theorem wd_395 : Cond.fieldLink RX11 47 RX11 "returns" "LAnsweredFates$Returns;" ∈ TT := List.mem_filter.mpr ⟨List.mem_of_getElem? (i := 395) (by decide +kernel), by decide +kernel⟩
theorem wd_338 : Cond.fieldLink RX11 105 RX9 "size" "I" ∈ TT := List.mem_filter.mpr ⟨List.mem_of_getElem? (i := 338) (by decide +kernel), by decide +kernel⟩
theorem wd_396 : Cond.fieldLink RX11 54 RX11 "book" "LAnsweredFates$Book;" ∈ TT := List.mem_filter.mpr ⟨List.mem_of_getElem? (i := 396) (by decide +kernel), by decide +kernel⟩
theorem wd_355 : Cond.fieldLink RX11 108 RX1 "size" "I" ∈ TT := List.mem_filter.mpr ⟨List.mem_of_getElem? (i := 355) (by decide +kernel), by decide +kernel⟩
theorem wd_155 : Cond.fieldLink RX11 109 RX4 "persons" "I" ∈ TT := List.mem_filter.mpr ⟨List.mem_of_getElem? (i := 155) (by decide +kernel), by decide +kernel⟩
theorem wd_106 : Cond.fieldLink RX11 112 RX8 "faultAt" "I" ∈ TT := List.mem_filter.mpr ⟨List.mem_of_getElem? (i := 106) (by decide +kernel), by decide +kernel⟩
theorem wd_202 : Cond.fieldLink RX11 115 RX10 "patience" "I" ∈ TT := List.mem_filter.mpr ⟨List.mem_of_getElem? (i := 202) (by decide +kernel), by decide +kernel⟩
theorem wd_144 : Cond.fieldLink RX11 118 RX4 "step" "I" ∈ TT := List.mem_filter.mpr ⟨List.mem_of_getElem? (i := 144) (by decide +kernel), by decide +kernel⟩
theorem wd_151 : Cond.fieldLink RX11 121 RX4 "villages" "I" ∈ TT := List.mem_filter.mpr ⟨List.mem_of_getElem? (i := 151) (by decide +kernel), by decide +kernel⟩
theorem wd_208 : Cond.fieldLink RX11 124 RX10 "years" "I" ∈ TT := List.mem_filter.mpr ⟨List.mem_of_getElem? (i := 208) (by decide +kernel), by decide +kernel⟩
theorem wd_205 : Cond.fieldLink RX11 127 RX10 "owed" "I" ∈ TT := List.mem_filter.mpr ⟨List.mem_of_getElem? (i := 205) (by decide +kernel), by decide +kernel⟩
theorem wd_521 : Cond.methodLink RX11 130 yX2_fateful ∈ TT := List.mem_filter.mpr ⟨List.mem_of_getElem? (i := 521) (by decide +kernel), by decide +kernel⟩
theorem wd_522 : Cond.instanceMethod yX2_fateful ∈ TT := List.mem_filter.mpr ⟨List.mem_of_getElem? (i := 522) (by decide +kernel), by decide +kernel⟩
theorem wd_523 : Cond.selects RX2 yX2_fateful yX2_fateful ∈ TT := List.mem_filter.mpr ⟨List.mem_of_getElem? (i := 523) (by decide +kernel), by decide +kernel⟩
theorem wd_524 : Cond.code yX2_fateful cX2_fateful 3 (some .int) ∈ TT := List.mem_filter.mpr ⟨List.mem_of_getElem? (i := 524) (by decide +kernel), by decide +kernel⟩
theorem wd_525 : Cond.methodLink RX11 134 yX2_untold ∈ TT := List.mem_filter.mpr ⟨List.mem_of_getElem? (i := 525) (by decide +kernel), by decide +kernel⟩
theorem wd_213 : Cond.fieldLink RX11 137 RX10 "wentUp" "I" ∈ TT := List.mem_filter.mpr ⟨List.mem_of_getElem? (i := 213) (by decide +kernel), by decide +kernel⟩
theorem wd_533 : Cond.methodLink RX11 140 yX2_isBorne ∈ TT := List.mem_filter.mpr ⟨List.mem_of_getElem? (i := 533) (by decide +kernel), by decide +kernel⟩
theorem wd_534 : Cond.instanceMethod yX2_isBorne ∈ TT := List.mem_filter.mpr ⟨List.mem_of_getElem? (i := 534) (by decide +kernel), by decide +kernel⟩
theorem wd_535 : Cond.selects RX2 yX2_isBorne yX2_isBorne ∈ TT := List.mem_filter.mpr ⟨List.mem_of_getElem? (i := 535) (by decide +kernel), by decide +kernel⟩
theorem wd_536 : Cond.code yX2_isBorne cX2_isBorne 1 (some .boolean) ∈ TT := List.mem_filter.mpr ⟨List.mem_of_getElem? (i := 536) (by decide +kernel), by decide +kernel⟩
theorem wd_546 : Cond.methodLink RX11 144 yX2_madeUp ∈ TT := List.mem_filter.mpr ⟨List.mem_of_getElem? (i := 546) (by decide +kernel), by decide +kernel⟩
theorem wd_547 : Cond.instanceMethod yX2_madeUp ∈ TT := List.mem_filter.mpr ⟨List.mem_of_getElem? (i := 547) (by decide +kernel), by decide +kernel⟩
theorem wd_548 : Cond.selects RX2 yX2_madeUp yX2_madeUp ∈ TT := List.mem_filter.mpr ⟨List.mem_of_getElem? (i := 548) (by decide +kernel), by decide +kernel⟩
theorem wd_549 : Cond.code yX2_madeUp cX2_madeUp 4 (some .int) ∈ TT := List.mem_filter.mpr ⟨List.mem_of_getElem? (i := 549) (by decide +kernel), by decide +kernel⟩
theorem wd_550 : Cond.methodLink RX11 147 yX2_worst ∈ TT := List.mem_filter.mpr ⟨List.mem_of_getElem? (i := 550) (by decide +kernel), by decide +kernel⟩
theorem wd_551 : Cond.instanceMethod yX2_worst ∈ TT := List.mem_filter.mpr ⟨List.mem_of_getElem? (i := 551) (by decide +kernel), by decide +kernel⟩
theorem wd_552 : Cond.selects RX2 yX2_worst yX2_worst ∈ TT := List.mem_filter.mpr ⟨List.mem_of_getElem? (i := 552) (by decide +kernel), by decide +kernel⟩
theorem wd_553 : Cond.code yX2_worst cX2_worst 4 (some .int) ∈ TT := List.mem_filter.mpr ⟨List.mem_of_getElem? (i := 553) (by decide +kernel), by decide +kernel⟩
theorem wd_554 : Cond.methodLink RX11 150 yX9_countSets ∈ TT := List.mem_filter.mpr ⟨List.mem_of_getElem? (i := 554) (by decide +kernel), by decide +kernel⟩
theorem wd_573 : Cond.methodLink RX11 154 yX9_inEach ∈ TT := List.mem_filter.mpr ⟨List.mem_of_getElem? (i := 573) (by decide +kernel), by decide +kernel⟩
theorem wd_574 : Cond.instanceMethod yX9_inEach ∈ TT := List.mem_filter.mpr ⟨List.mem_of_getElem? (i := 574) (by decide +kernel), by decide +kernel⟩
theorem wd_575 : Cond.selects RX9 yX9_inEach yX9_inEach ∈ TT := List.mem_filter.mpr ⟨List.mem_of_getElem? (i := 575) (by decide +kernel), by decide +kernel⟩
theorem wd_576 : Cond.code yX9_inEach cX9_inEach 4 (some .int) ∈ TT := List.mem_filter.mpr ⟨List.mem_of_getElem? (i := 576) (by decide +kernel), by decide +kernel⟩
theorem wd_577 : Cond.methodLink RX11 157 yX9_ask ∈ TT := List.mem_filter.mpr ⟨List.mem_of_getElem? (i := 577) (by decide +kernel), by decide +kernel⟩
theorem wd_578 : Cond.instanceMethod yX9_ask ∈ TT := List.mem_filter.mpr ⟨List.mem_of_getElem? (i := 578) (by decide +kernel), by decide +kernel⟩
theorem wd_579 : Cond.selects RX9 yX9_ask yX9_ask ∈ TT := List.mem_filter.mpr ⟨List.mem_of_getElem? (i := 579) (by decide +kernel), by decide +kernel⟩
theorem wd_580 : Cond.code yX9_ask cX9_ask 8 (some .int) ∈ TT := List.mem_filter.mpr ⟨List.mem_of_getElem? (i := 580) (by decide +kernel), by decide +kernel⟩
theorem wd_288 : Cond.fieldLink RX11 160 RX7 "size" "I" ∈ TT := List.mem_filter.mpr ⟨List.mem_of_getElem? (i := 288) (by decide +kernel), by decide +kernel⟩
theorem wd_589 : Cond.methodLink RX11 161 yX2_isPerson ∈ TT := List.mem_filter.mpr ⟨List.mem_of_getElem? (i := 589) (by decide +kernel), by decide +kernel⟩
theorem wd_158 : Cond.fieldLink RX11 166 RX4 "kind" "[I" ∈ TT := List.mem_filter.mpr ⟨List.mem_of_getElem? (i := 158) (by decide +kernel), by decide +kernel⟩
theorem wd_161 : Cond.fieldLink RX11 170 RX4 "home" "[I" ∈ TT := List.mem_filter.mpr ⟨List.mem_of_getElem? (i := 161) (by decide +kernel), by decide +kernel⟩
theorem wd_223 : Cond.fieldLink RX11 173 RX10 "wit" "[I" ∈ TT := List.mem_filter.mpr ⟨List.mem_of_getElem? (i := 223) (by decide +kernel), by decide +kernel⟩
theorem wd_166 : Cond.fieldLink RX11 176 RX4 "from" "[I" ∈ TT := List.mem_filter.mpr ⟨List.mem_of_getElem? (i := 166) (by decide +kernel), by decide +kernel⟩
theorem wd_218 : Cond.fieldLink RX11 179 RX10 "fate" "[I" ∈ TT := List.mem_filter.mpr ⟨List.mem_of_getElem? (i := 218) (by decide +kernel), by decide +kernel⟩
theorem wd_220 : Cond.fieldLink RX11 182 RX10 "harm" "[I" ∈ TT := List.mem_filter.mpr ⟨List.mem_of_getElem? (i := 220) (by decide +kernel), by decide +kernel⟩
theorem wd_594 : Cond.methodLink RX11 185 yX2_rid ∈ TT := List.mem_filter.mpr ⟨List.mem_of_getElem? (i := 594) (by decide +kernel), by decide +kernel⟩
theorem wd_595 : Cond.instanceMethod yX2_rid ∈ TT := List.mem_filter.mpr ⟨List.mem_of_getElem? (i := 595) (by decide +kernel), by decide +kernel⟩
theorem wd_596 : Cond.selects RX2 yX2_rid yX2_rid ∈ TT := List.mem_filter.mpr ⟨List.mem_of_getElem? (i := 596) (by decide +kernel), by decide +kernel⟩
theorem wd_597 : Cond.code yX2_rid cX2_rid 5 (some .int) ∈ TT := List.mem_filter.mpr ⟨List.mem_of_getElem? (i := 597) (by decide +kernel), by decide +kernel⟩
theorem wd_617 : Cond.methodLink RX11 189 yX4_ringOf ∈ TT := List.mem_filter.mpr ⟨List.mem_of_getElem? (i := 617) (by decide +kernel), by decide +kernel⟩
theorem wd_618 : Cond.instanceMethod yX4_ringOf ∈ TT := List.mem_filter.mpr ⟨List.mem_of_getElem? (i := 618) (by decide +kernel), by decide +kernel⟩
theorem wd_619 : Cond.selects RX4 yX4_ringOf yX4_ringOf ∈ TT := List.mem_filter.mpr ⟨List.mem_of_getElem? (i := 619) (by decide +kernel), by decide +kernel⟩
theorem wd_620 : Cond.code yX4_ringOf cX4_ringOf 5 (some .int) ∈ TT := List.mem_filter.mpr ⟨List.mem_of_getElem? (i := 620) (by decide +kernel), by decide +kernel⟩
theorem wd_621 : Cond.methodLink RX11 192 yX4_firstOf ∈ TT := List.mem_filter.mpr ⟨List.mem_of_getElem? (i := 621) (by decide +kernel), by decide +kernel⟩
theorem wd_622 : Cond.instanceMethod yX4_firstOf ∈ TT := List.mem_filter.mpr ⟨List.mem_of_getElem? (i := 622) (by decide +kernel), by decide +kernel⟩
theorem wd_623 : Cond.selects RX4 yX4_firstOf yX4_firstOf ∈ TT := List.mem_filter.mpr ⟨List.mem_of_getElem? (i := 623) (by decide +kernel), by decide +kernel⟩
theorem wd_624 : Cond.code yX4_firstOf cX4_firstOf 4 (some .int) ∈ TT := List.mem_filter.mpr ⟨List.mem_of_getElem? (i := 624) (by decide +kernel), by decide +kernel⟩
theorem wd_593 : Cond.constant RX11 165 (-1000000001) ∈ TT := List.mem_filter.mpr ⟨List.mem_of_getElem? (i := 593) (by decide +kernel), by decide +kernel⟩
theorem wd_629 : Cond.methodLink RX11 195 yX2_isVillage ∈ TT := List.mem_filter.mpr ⟨List.mem_of_getElem? (i := 629) (by decide +kernel), by decide +kernel⟩
theorem wd_630 : Cond.instanceMethod yX2_isVillage ∈ TT := List.mem_filter.mpr ⟨List.mem_of_getElem? (i := 630) (by decide +kernel), by decide +kernel⟩
theorem wd_631 : Cond.selects RX2 yX2_isVillage yX2_isVillage ∈ TT := List.mem_filter.mpr ⟨List.mem_of_getElem? (i := 631) (by decide +kernel), by decide +kernel⟩
theorem wd_632 : Cond.code yX2_isVillage cX2_isVillage 2 (some .boolean) ∈ TT := List.mem_filter.mpr ⟨List.mem_of_getElem? (i := 632) (by decide +kernel), by decide +kernel⟩
theorem wd_226 : Cond.fieldLink RX11 198 RX10 "bear" "[I" ∈ TT := List.mem_filter.mpr ⟨List.mem_of_getElem? (i := 226) (by decide +kernel), by decide +kernel⟩
theorem wd_170 : Cond.fieldLink RX11 201 RX4 "people" "[I" ∈ TT := List.mem_filter.mpr ⟨List.mem_of_getElem? (i := 170) (by decide +kernel), by decide +kernel⟩
theorem wd_633 : Cond.methodLink RX11 204 yX2_had ∈ TT := List.mem_filter.mpr ⟨List.mem_of_getElem? (i := 633) (by decide +kernel), by decide +kernel⟩
theorem wd_634 : Cond.instanceMethod yX2_had ∈ TT := List.mem_filter.mpr ⟨List.mem_of_getElem? (i := 634) (by decide +kernel), by decide +kernel⟩
theorem wd_635 : Cond.selects RX2 yX2_had yX2_had ∈ TT := List.mem_filter.mpr ⟨List.mem_of_getElem? (i := 635) (by decide +kernel), by decide +kernel⟩
theorem wd_636 : Cond.code yX2_had cX2_had 4 (some .int) ∈ TT := List.mem_filter.mpr ⟨List.mem_of_getElem? (i := 636) (by decide +kernel), by decide +kernel⟩
theorem wd_642 : Cond.methodLink RX11 207 yX2_harmIn ∈ TT := List.mem_filter.mpr ⟨List.mem_of_getElem? (i := 642) (by decide +kernel), by decide +kernel⟩
theorem wd_643 : Cond.instanceMethod yX2_harmIn ∈ TT := List.mem_filter.mpr ⟨List.mem_of_getElem? (i := 643) (by decide +kernel), by decide +kernel⟩
theorem wd_644 : Cond.selects RX2 yX2_harmIn yX2_harmIn ∈ TT := List.mem_filter.mpr ⟨List.mem_of_getElem? (i := 644) (by decide +kernel), by decide +kernel⟩
theorem wd_645 : Cond.code yX2_harmIn cX2_harmIn 4 (some .int) ∈ TT := List.mem_filter.mpr ⟨List.mem_of_getElem? (i := 645) (by decide +kernel), by decide +kernel⟩
theorem wd_650 : Cond.methodLink RX11 210 yX7_remember ∈ TT := List.mem_filter.mpr ⟨List.mem_of_getElem? (i := 650) (by decide +kernel), by decide +kernel⟩
theorem wd_651 : Cond.instanceMethod yX7_remember ∈ TT := List.mem_filter.mpr ⟨List.mem_of_getElem? (i := 651) (by decide +kernel), by decide +kernel⟩
theorem wd_652 : Cond.selects RX7 yX7_remember yX7_remember ∈ TT := List.mem_filter.mpr ⟨List.mem_of_getElem? (i := 652) (by decide +kernel), by decide +kernel⟩
theorem wd_653 : Cond.code yX7_remember cX7_remember 2 none ∈ TT := List.mem_filter.mpr ⟨List.mem_of_getElem? (i := 653) (by decide +kernel), by decide +kernel⟩
theorem wd_658 : Cond.methodLink RX11 214 yX2_foretell ∈ TT := List.mem_filter.mpr ⟨List.mem_of_getElem? (i := 658) (by decide +kernel), by decide +kernel⟩
theorem wd_666 : Cond.methodLink RX11 218 yX2_canAnswer ∈ TT := List.mem_filter.mpr ⟨List.mem_of_getElem? (i := 666) (by decide +kernel), by decide +kernel⟩
theorem wd_675 : Cond.methodLink RX11 223 yX2_answerBack ∈ TT := List.mem_filter.mpr ⟨List.mem_of_getElem? (i := 675) (by decide +kernel), by decide +kernel⟩
theorem wd_674 : Cond.constant RX11 222 (-1000000003) ∈ TT := List.mem_filter.mpr ⟨List.mem_of_getElem? (i := 674) (by decide +kernel), by decide +kernel⟩
theorem wd_138 : Cond.fieldLink RX11 275 RX4 "there" "Z" ∈ TT := List.mem_filter.mpr ⟨List.mem_of_getElem? (i := 138) (by decide +kernel), by decide +kernel⟩
theorem wd_684 : Cond.methodLink RX11 226 yX11_refuseYears ∈ TT := List.mem_filter.mpr ⟨List.mem_of_getElem? (i := 684) (by decide +kernel), by decide +kernel⟩
theorem wd_686 : Cond.instanceMethod yX11_refuseYears ∈ TT := List.mem_filter.mpr ⟨List.mem_of_getElem? (i := 686) (by decide +kernel), by decide +kernel⟩
theorem wd_15 : Cond.selects RX11 yX11_refuseYears yX11_refuseYears ∈ TT := List.mem_filter.mpr ⟨List.mem_of_getElem? (i := 15) (by decide +kernel), by decide +kernel⟩
theorem wd_69 : Cond.initialized RX11 ∈ TT := List.mem_filter.mpr ⟨List.mem_of_getElem? (i := 69) (by decide +kernel), by decide +kernel⟩
theorem wd_687 : Cond.code yX11_refuseYears cX11_refuseYears 2 (some .int) ∈ TT := List.mem_filter.mpr ⟨List.mem_of_getElem? (i := 687) (by decide +kernel), by decide +kernel⟩
theorem wd_688 : Cond.methodLink RX11 229 yX2_passYear ∈ TT := List.mem_filter.mpr ⟨List.mem_of_getElem? (i := 688) (by decide +kernel), by decide +kernel⟩
theorem wd_689 : Cond.instanceMethod yX2_passYear ∈ TT := List.mem_filter.mpr ⟨List.mem_of_getElem? (i := 689) (by decide +kernel), by decide +kernel⟩
theorem wd_690 : Cond.selects RX2 yX2_passYear yX2_passYear ∈ TT := List.mem_filter.mpr ⟨List.mem_of_getElem? (i := 690) (by decide +kernel), by decide +kernel⟩
theorem wd_691 : Cond.code yX2_passYear cX2_passYear 3 none ∈ TT := List.mem_filter.mpr ⟨List.mem_of_getElem? (i := 691) (by decide +kernel), by decide +kernel⟩
theorem wd_394 : Cond.fieldLink RX11 40 RX11 "draws" "LAnsweredFates$Draws;" ∈ TT := List.mem_filter.mpr ⟨List.mem_of_getElem? (i := 394) (by decide +kernel), by decide +kernel⟩
theorem wd_719 : Cond.methodLink RX11 232 yX2_actByDraws ∈ TT := List.mem_filter.mpr ⟨List.mem_of_getElem? (i := 719) (by decide +kernel), by decide +kernel⟩
theorem wd_720 : Cond.instanceMethod yX2_actByDraws ∈ TT := List.mem_filter.mpr ⟨List.mem_of_getElem? (i := 720) (by decide +kernel), by decide +kernel⟩
theorem wd_721 : Cond.selects RX2 yX2_actByDraws yX2_actByDraws ∈ TT := List.mem_filter.mpr ⟨List.mem_of_getElem? (i := 721) (by decide +kernel), by decide +kernel⟩
theorem wd_722 : Cond.code yX2_actByDraws cX2_actByDraws 5 none ∈ TT := List.mem_filter.mpr ⟨List.mem_of_getElem? (i := 722) (by decide +kernel), by decide +kernel⟩
theorem wd_739 : Cond.methodLink RX11 236 yX7_restore ∈ TT := List.mem_filter.mpr ⟨List.mem_of_getElem? (i := 739) (by decide +kernel), by decide +kernel⟩
theorem wd_740 : Cond.instanceMethod yX7_restore ∈ TT := List.mem_filter.mpr ⟨List.mem_of_getElem? (i := 740) (by decide +kernel), by decide +kernel⟩
theorem wd_741 : Cond.selects RX7 yX7_restore yX7_restore ∈ TT := List.mem_filter.mpr ⟨List.mem_of_getElem? (i := 741) (by decide +kernel), by decide +kernel⟩
theorem wd_742 : Cond.code yX7_restore cX7_restore 2 none ∈ TT := List.mem_filter.mpr ⟨List.mem_of_getElem? (i := 742) (by decide +kernel), by decide +kernel⟩
theorem wd_747 : Cond.methodLink RX11 239 yX2_bargainBy ∈ TT := List.mem_filter.mpr ⟨List.mem_of_getElem? (i := 747) (by decide +kernel), by decide +kernel⟩
theorem wd_270 : Cond.fieldLink RX11 242 RX2 "bargain" "LAnsweredFates$Bargain;" ∈ TT := List.mem_filter.mpr ⟨List.mem_of_getElem? (i := 270) (by decide +kernel), by decide +kernel⟩
theorem wd_257 : Cond.fieldLink RX11 251 RX0 "turns" "I" ∈ TT := List.mem_filter.mpr ⟨List.mem_of_getElem? (i := 257) (by decide +kernel), by decide +kernel⟩
theorem wd_255 : Cond.fieldLink RX11 246 RX0 "left" "I" ∈ TT := List.mem_filter.mpr ⟨List.mem_of_getElem? (i := 255) (by decide +kernel), by decide +kernel⟩
theorem wd_752 : Cond.methodLink RX11 254 yX2_bestFor ∈ TT := List.mem_filter.mpr ⟨List.mem_of_getElem? (i := 752) (by decide +kernel), by decide +kernel⟩
theorem wd_753 : Cond.instanceMethod yX2_bestFor ∈ TT := List.mem_filter.mpr ⟨List.mem_of_getElem? (i := 753) (by decide +kernel), by decide +kernel⟩
theorem wd_754 : Cond.selects RX2 yX2_bestFor yX2_bestFor ∈ TT := List.mem_filter.mpr ⟨List.mem_of_getElem? (i := 754) (by decide +kernel), by decide +kernel⟩
theorem wd_755 : Cond.code yX2_bestFor cX2_bestFor 6 (some .int) ∈ TT := List.mem_filter.mpr ⟨List.mem_of_getElem? (i := 755) (by decide +kernel), by decide +kernel⟩
theorem wd_397 : Cond.fieldLink RX11 61 RX11 "matching" "LAnsweredFates$Matching;" ∈ TT := List.mem_filter.mpr ⟨List.mem_of_getElem? (i := 397) (by decide +kernel), by decide +kernel⟩
theorem wd_760 : Cond.methodLink RX11 257 yX6_work ∈ TT := List.mem_filter.mpr ⟨List.mem_of_getElem? (i := 760) (by decide +kernel), by decide +kernel⟩
theorem wd_761 : Cond.instanceMethod yX6_work ∈ TT := List.mem_filter.mpr ⟨List.mem_of_getElem? (i := 761) (by decide +kernel), by decide +kernel⟩
theorem wd_762 : Cond.selects RX6 yX6_work yX6_work ∈ TT := List.mem_filter.mpr ⟨List.mem_of_getElem? (i := 762) (by decide +kernel), by decide +kernel⟩
theorem wd_763 : Cond.code yX6_work cX6_work 4 none ∈ TT := List.mem_filter.mpr ⟨List.mem_of_getElem? (i := 763) (by decide +kernel), by decide +kernel⟩
theorem wd_372 : Cond.fieldLink RX11 264 RX6 "goer" "[I" ∈ TT := List.mem_filter.mpr ⟨List.mem_of_getElem? (i := 372) (by decide +kernel), by decide +kernel⟩
theorem wd_791 : Cond.methodLink RX11 261 yX6_total ∈ TT := List.mem_filter.mpr ⟨List.mem_of_getElem? (i := 791) (by decide +kernel), by decide +kernel⟩
theorem wd_792 : Cond.instanceMethod yX6_total ∈ TT := List.mem_filter.mpr ⟨List.mem_of_getElem? (i := 792) (by decide +kernel), by decide +kernel⟩
theorem wd_793 : Cond.selects RX6 yX6_total yX6_total ∈ TT := List.mem_filter.mpr ⟨List.mem_of_getElem? (i := 793) (by decide +kernel), by decide +kernel⟩
theorem wd_794 : Cond.code yX6_total cX6_total 1 (some .int) ∈ TT := List.mem_filter.mpr ⟨List.mem_of_getElem? (i := 794) (by decide +kernel), by decide +kernel⟩
theorem wd_799 : Cond.methodLink RX11 267 yX2_shareOf ∈ TT := List.mem_filter.mpr ⟨List.mem_of_getElem? (i := 799) (by decide +kernel), by decide +kernel⟩
theorem wd_800 : Cond.instanceMethod yX2_shareOf ∈ TT := List.mem_filter.mpr ⟨List.mem_of_getElem? (i := 800) (by decide +kernel), by decide +kernel⟩
theorem wd_801 : Cond.selects RX2 yX2_shareOf yX2_shareOf ∈ TT := List.mem_filter.mpr ⟨List.mem_of_getElem? (i := 801) (by decide +kernel), by decide +kernel⟩
theorem wd_802 : Cond.code yX2_shareOf cX2_shareOf 6 (some .int) ∈ TT := List.mem_filter.mpr ⟨List.mem_of_getElem? (i := 802) (by decide +kernel), by decide +kernel⟩
theorem wd_819 : Cond.constantLong RX11 271 (1000000000) ∈ TT := List.mem_filter.mpr ⟨List.mem_of_getElem? (i := 819) (by decide +kernel), by decide +kernel⟩
theorem wd_820 : Cond.constantLong RX11 273 (100) ∈ TT := List.mem_filter.mpr ⟨List.mem_of_getElem? (i := 820) (by decide +kernel), by decide +kernel⟩
theorem wd_825 : Cond.methodLink RX11 279 yX9_add ∈ TT := List.mem_filter.mpr ⟨List.mem_of_getElem? (i := 825) (by decide +kernel), by decide +kernel⟩
theorem wd_826 : Cond.instanceMethod yX9_add ∈ TT := List.mem_filter.mpr ⟨List.mem_of_getElem? (i := 826) (by decide +kernel), by decide +kernel⟩
theorem wd_827 : Cond.selects RX9 yX9_add yX9_add ∈ TT := List.mem_filter.mpr ⟨List.mem_of_getElem? (i := 827) (by decide +kernel), by decide +kernel⟩
theorem wd_828 : Cond.code yX9_add cX9_add 3 none ∈ TT := List.mem_filter.mpr ⟨List.mem_of_getElem? (i := 828) (by decide +kernel), by decide +kernel⟩
theorem wd_834 : Cond.methodLink RX11 283 yX1_add ∈ TT := List.mem_filter.mpr ⟨List.mem_of_getElem? (i := 834) (by decide +kernel), by decide +kernel⟩
theorem wd_835 : Cond.instanceMethod yX1_add ∈ TT := List.mem_filter.mpr ⟨List.mem_of_getElem? (i := 835) (by decide +kernel), by decide +kernel⟩
theorem wd_836 : Cond.selects RX1 yX1_add yX1_add ∈ TT := List.mem_filter.mpr ⟨List.mem_of_getElem? (i := 836) (by decide +kernel), by decide +kernel⟩
theorem wd_79 : Cond.initialized RX1 ∈ TT := List.mem_filter.mpr ⟨List.mem_of_getElem? (i := 79) (by decide +kernel), by decide +kernel⟩
theorem wd_837 : Cond.code yX1_add cX1_add 3 none ∈ TT := List.mem_filter.mpr ⟨List.mem_of_getElem? (i := 837) (by decide +kernel), by decide +kernel⟩
theorem wd_846 : Cond.methodLink RX11 285 yX1_firstFalse ∈ TT := List.mem_filter.mpr ⟨List.mem_of_getElem? (i := 846) (by decide +kernel), by decide +kernel⟩
theorem wd_847 : Cond.instanceMethod yX1_firstFalse ∈ TT := List.mem_filter.mpr ⟨List.mem_of_getElem? (i := 847) (by decide +kernel), by decide +kernel⟩
theorem wd_848 : Cond.selects RX1 yX1_firstFalse yX1_firstFalse ∈ TT := List.mem_filter.mpr ⟨List.mem_of_getElem? (i := 848) (by decide +kernel), by decide +kernel⟩
theorem wd_849 : Cond.code yX1_firstFalse cX1_firstFalse 3 (some .int) ∈ TT := List.mem_filter.mpr ⟨List.mem_of_getElem? (i := 849) (by decide +kernel), by decide +kernel⟩
theorem wd_327 : Cond.fieldLink RX11 289 RX3 "seed" "I" ∈ TT := List.mem_filter.mpr ⟨List.mem_of_getElem? (i := 327) (by decide +kernel), by decide +kernel⟩
theorem wd_858 : Cond.methodLink RX11 292 yX5_take ∈ TT := List.mem_filter.mpr ⟨List.mem_of_getElem? (i := 858) (by decide +kernel), by decide +kernel⟩
theorem wd_859 : Cond.instanceMethod yX5_take ∈ TT := List.mem_filter.mpr ⟨List.mem_of_getElem? (i := 859) (by decide +kernel), by decide +kernel⟩
theorem wd_860 : Cond.selects RX5 yX5_take yX5_take ∈ TT := List.mem_filter.mpr ⟨List.mem_of_getElem? (i := 860) (by decide +kernel), by decide +kernel⟩
theorem wd_861 : Cond.code yX5_take cX5_take 4 none ∈ TT := List.mem_filter.mpr ⟨List.mem_of_getElem? (i := 861) (by decide +kernel), by decide +kernel⟩
theorem wd_307 : Cond.fieldLink RX11 296 RX5 "kept" "[Z" ∈ TT := List.mem_filter.mpr ⟨List.mem_of_getElem? (i := 307) (by decide +kernel), by decide +kernel⟩
theorem wd_309 : Cond.fieldLink RX11 300 RX5 "states" "[LAnsweredFates$State;" ∈ TT := List.mem_filter.mpr ⟨List.mem_of_getElem? (i := 309) (by decide +kernel), by decide +kernel⟩
theorem wd_867 : Cond.methodLink RX11 304 yX10_copyFrom ∈ TT := List.mem_filter.mpr ⟨List.mem_of_getElem? (i := 867) (by decide +kernel), by decide +kernel⟩
theorem wd_311 : Cond.fieldLink RX11 307 RX5 "seeds" "[I" ∈ TT := List.mem_filter.mpr ⟨List.mem_of_getElem? (i := 311) (by decide +kernel), by decide +kernel⟩
theorem wd_874 : Cond.fieldLink RX12 69 RX12 "patience" "I" ∈ TT := List.mem_filter.mpr ⟨List.mem_of_getElem? (i := 874) (by decide +kernel), by decide +kernel⟩
theorem wd_877 : Cond.fieldLink RX12 72 RX12 "persons" "I" ∈ TT := List.mem_filter.mpr ⟨List.mem_of_getElem? (i := 877) (by decide +kernel), by decide +kernel⟩
theorem wd_988 : Cond.methodLink RX12 75 yX12_in ∈ TT := List.mem_filter.mpr ⟨List.mem_of_getElem? (i := 988) (by decide +kernel), by decide +kernel⟩
theorem wd_989 : Cond.static yX12_in ∈ TT := List.mem_filter.mpr ⟨List.mem_of_getElem? (i := 989) (by decide +kernel), by decide +kernel⟩
theorem wd_81 : Cond.initialized RX12 ∈ TT := List.mem_filter.mpr ⟨List.mem_of_getElem? (i := 81) (by decide +kernel), by decide +kernel⟩
theorem wd_990 : Cond.code yX12_in cX12_in 6 (some .boolean) ∈ TT := List.mem_filter.mpr ⟨List.mem_of_getElem? (i := 990) (by decide +kernel), by decide +kernel⟩
theorem wd_876 : Cond.fieldLink RX12 79 RX12 "villages" "I" ∈ TT := List.mem_filter.mpr ⟨List.mem_of_getElem? (i := 876) (by decide +kernel), by decide +kernel⟩
theorem wd_987 : Cond.constantLong RX12 82 (255) ∈ TT := List.mem_filter.mpr ⟨List.mem_of_getElem? (i := 987) (by decide +kernel), by decide +kernel⟩
theorem wd_884 : Cond.fieldLink RX12 85 RX12 "texted" "I" ∈ TT := List.mem_filter.mpr ⟨List.mem_of_getElem? (i := 884) (by decide +kernel), by decide +kernel⟩
theorem wd_883 : Cond.fieldLink RX12 22 RX12 "text" "[I" ∈ TT := List.mem_filter.mpr ⟨List.mem_of_getElem? (i := 883) (by decide +kernel), by decide +kernel⟩
theorem wd_992 : Cond.constant RX12 88 (-1000000004) ∈ TT := List.mem_filter.mpr ⟨List.mem_of_getElem? (i := 992) (by decide +kernel), by decide +kernel⟩
theorem wd_991 : Cond.constant RX12 84 (-1000000002) ∈ TT := List.mem_filter.mpr ⟨List.mem_of_getElem? (i := 991) (by decide +kernel), by decide +kernel⟩
theorem wd_886 : Cond.fieldLink RX12 89 RX12 "at" "I" ∈ TT := List.mem_filter.mpr ⟨List.mem_of_getElem? (i := 886) (by decide +kernel), by decide +kernel⟩
theorem wd_885 : Cond.fieldLink RX12 25 RX12 "faultPlace" "I" ∈ TT := List.mem_filter.mpr ⟨List.mem_of_getElem? (i := 885) (by decide +kernel), by decide +kernel⟩
theorem wd_997 : Cond.methodLink RX12 92 yX12_here ∈ TT := List.mem_filter.mpr ⟨List.mem_of_getElem? (i := 997) (by decide +kernel), by decide +kernel⟩
theorem wd_999 : Cond.instanceMethod yX12_here ∈ TT := List.mem_filter.mpr ⟨List.mem_of_getElem? (i := 999) (by decide +kernel), by decide +kernel⟩
theorem wd_26 : Cond.selects RX12 yX12_here yX12_here ∈ TT := List.mem_filter.mpr ⟨List.mem_of_getElem? (i := 26) (by decide +kernel), by decide +kernel⟩
theorem wd_1000 : Cond.code yX12_here cX12_here 1 (some .int) ∈ TT := List.mem_filter.mpr ⟨List.mem_of_getElem? (i := 1000) (by decide +kernel), by decide +kernel⟩
theorem wd_1017 : Cond.constantLong RX12 96 (48) ∈ TT := List.mem_filter.mpr ⟨List.mem_of_getElem? (i := 1017) (by decide +kernel), by decide +kernel⟩
theorem wd_1018 : Cond.constantLong RX12 98 (57) ∈ TT := List.mem_filter.mpr ⟨List.mem_of_getElem? (i := 1018) (by decide +kernel), by decide +kernel⟩
theorem wd_887 : Cond.fieldLink RX12 104 RX12 "number" "I" ∈ TT := List.mem_filter.mpr ⟨List.mem_of_getElem? (i := 887) (by decide +kernel), by decide +kernel⟩
theorem wd_1005 : Cond.methodLink RX12 100 yX12_fails ∈ TT := List.mem_filter.mpr ⟨List.mem_of_getElem? (i := 1005) (by decide +kernel), by decide +kernel⟩
theorem wd_1007 : Cond.instanceMethod yX12_fails ∈ TT := List.mem_filter.mpr ⟨List.mem_of_getElem? (i := 1007) (by decide +kernel), by decide +kernel⟩
theorem wd_28 : Cond.selects RX12 yX12_fails yX12_fails ∈ TT := List.mem_filter.mpr ⟨List.mem_of_getElem? (i := 28) (by decide +kernel), by decide +kernel⟩
theorem wd_1008 : Cond.code yX12_fails cX12_fails 3 (some .int) ∈ TT := List.mem_filter.mpr ⟨List.mem_of_getElem? (i := 1008) (by decide +kernel), by decide +kernel⟩
theorem wd_1013 : Cond.methodLink RX12 107 yX12_takeNumber ∈ TT := List.mem_filter.mpr ⟨List.mem_of_getElem? (i := 1013) (by decide +kernel), by decide +kernel⟩
theorem wd_1015 : Cond.instanceMethod yX12_takeNumber ∈ TT := List.mem_filter.mpr ⟨List.mem_of_getElem? (i := 1015) (by decide +kernel), by decide +kernel⟩
theorem wd_30 : Cond.selects RX12 yX12_takeNumber yX12_takeNumber ∈ TT := List.mem_filter.mpr ⟨List.mem_of_getElem? (i := 30) (by decide +kernel), by decide +kernel⟩
theorem wd_1016 : Cond.code yX12_takeNumber cX12_takeNumber 4 (some .int) ∈ TT := List.mem_filter.mpr ⟨List.mem_of_getElem? (i := 1016) (by decide +kernel), by decide +kernel⟩
theorem wd_888 : Cond.fieldLink RX12 110 RX12 "readPatience" "I" ∈ TT := List.mem_filter.mpr ⟨List.mem_of_getElem? (i := 888) (by decide +kernel), by decide +kernel⟩
theorem wd_889 : Cond.fieldLink RX12 113 RX12 "readStep" "I" ∈ TT := List.mem_filter.mpr ⟨List.mem_of_getElem? (i := 889) (by decide +kernel), by decide +kernel⟩
theorem wd_892 : Cond.fieldLink RX12 29 RX12 "readBear" "[I" ∈ TT := List.mem_filter.mpr ⟨List.mem_of_getElem? (i := 892) (by decide +kernel), by decide +kernel⟩
theorem wd_890 : Cond.fieldLink RX12 116 RX12 "readVillages" "I" ∈ TT := List.mem_filter.mpr ⟨List.mem_of_getElem? (i := 890) (by decide +kernel), by decide +kernel⟩
theorem wd_891 : Cond.fieldLink RX12 119 RX12 "readPersons" "I" ∈ TT := List.mem_filter.mpr ⟨List.mem_of_getElem? (i := 891) (by decide +kernel), by decide +kernel⟩
theorem wd_893 : Cond.fieldLink RX12 32 RX12 "readKind" "[I" ∈ TT := List.mem_filter.mpr ⟨List.mem_of_getElem? (i := 893) (by decide +kernel), by decide +kernel⟩
theorem wd_894 : Cond.fieldLink RX12 35 RX12 "readVillage" "[I" ∈ TT := List.mem_filter.mpr ⟨List.mem_of_getElem? (i := 894) (by decide +kernel), by decide +kernel⟩
theorem wd_895 : Cond.fieldLink RX12 38 RX12 "readWit" "[I" ∈ TT := List.mem_filter.mpr ⟨List.mem_of_getElem? (i := 895) (by decide +kernel), by decide +kernel⟩
theorem wd_896 : Cond.fieldLink RX12 41 RX12 "readFrom" "[I" ∈ TT := List.mem_filter.mpr ⟨List.mem_of_getElem? (i := 896) (by decide +kernel), by decide +kernel⟩
theorem wd_1027 : Cond.constantLong RX12 122 (7) ∈ TT := List.mem_filter.mpr ⟨List.mem_of_getElem? (i := 1027) (by decide +kernel), by decide +kernel⟩
theorem wd_1028 : Cond.constantLong RX12 124 (8) ∈ TT := List.mem_filter.mpr ⟨List.mem_of_getElem? (i := 1028) (by decide +kernel), by decide +kernel⟩
theorem wd_1023 : Cond.methodLink RX12 132 yX12_takePerson ∈ TT := List.mem_filter.mpr ⟨List.mem_of_getElem? (i := 1023) (by decide +kernel), by decide +kernel⟩
theorem wd_1025 : Cond.instanceMethod yX12_takePerson ∈ TT := List.mem_filter.mpr ⟨List.mem_of_getElem? (i := 1025) (by decide +kernel), by decide +kernel⟩
theorem wd_32 : Cond.selects RX12 yX12_takePerson yX12_takePerson ∈ TT := List.mem_filter.mpr ⟨List.mem_of_getElem? (i := 32) (by decide +kernel), by decide +kernel⟩
theorem wd_1026 : Cond.code yX12_takePerson cX12_takePerson 5 (some .int) ∈ TT := List.mem_filter.mpr ⟨List.mem_of_getElem? (i := 1026) (by decide +kernel), by decide +kernel⟩
theorem wd_1019 : Cond.methodLink RX12 129 yX12_takeVillage ∈ TT := List.mem_filter.mpr ⟨List.mem_of_getElem? (i := 1019) (by decide +kernel), by decide +kernel⟩
theorem wd_1021 : Cond.instanceMethod yX12_takeVillage ∈ TT := List.mem_filter.mpr ⟨List.mem_of_getElem? (i := 1021) (by decide +kernel), by decide +kernel⟩
theorem wd_31 : Cond.selects RX12 yX12_takeVillage yX12_takeVillage ∈ TT := List.mem_filter.mpr ⟨List.mem_of_getElem? (i := 31) (by decide +kernel), by decide +kernel⟩
theorem wd_1022 : Cond.code yX12_takeVillage cX12_takeVillage 2 (some .int) ∈ TT := List.mem_filter.mpr ⟨List.mem_of_getElem? (i := 1022) (by decide +kernel), by decide +kernel⟩
theorem wd_1009 : Cond.methodLink RX12 126 yX12_takeOracle ∈ TT := List.mem_filter.mpr ⟨List.mem_of_getElem? (i := 1009) (by decide +kernel), by decide +kernel⟩
theorem wd_1011 : Cond.instanceMethod yX12_takeOracle ∈ TT := List.mem_filter.mpr ⟨List.mem_of_getElem? (i := 1011) (by decide +kernel), by decide +kernel⟩
theorem wd_29 : Cond.selects RX12 yX12_takeOracle yX12_takeOracle ∈ TT := List.mem_filter.mpr ⟨List.mem_of_getElem? (i := 29) (by decide +kernel), by decide +kernel⟩
theorem wd_1012 : Cond.code yX12_takeOracle cX12_takeOracle 2 (some .int) ∈ TT := List.mem_filter.mpr ⟨List.mem_of_getElem? (i := 1012) (by decide +kernel), by decide +kernel⟩
theorem wd_875 : Cond.fieldLink RX12 135 RX12 "step" "I" ∈ TT := List.mem_filter.mpr ⟨List.mem_of_getElem? (i := 875) (by decide +kernel), by decide +kernel⟩
theorem wd_881 : Cond.fieldLink RX12 19 RX12 "w" "[I" ∈ TT := List.mem_filter.mpr ⟨List.mem_of_getElem? (i := 881) (by decide +kernel), by decide +kernel⟩
theorem wd_878 : Cond.fieldLink RX12 7 RX12 "kind" "[I" ∈ TT := List.mem_filter.mpr ⟨List.mem_of_getElem? (i := 878) (by decide +kernel), by decide +kernel⟩
theorem wd_879 : Cond.fieldLink RX12 13 RX12 "village" "[I" ∈ TT := List.mem_filter.mpr ⟨List.mem_of_getElem? (i := 879) (by decide +kernel), by decide +kernel⟩
theorem wd_880 : Cond.fieldLink RX12 16 RX12 "from" "[I" ∈ TT := List.mem_filter.mpr ⟨List.mem_of_getElem? (i := 880) (by decide +kernel), by decide +kernel⟩
theorem wd_1001 : Cond.methodLink RX12 138 yX12_takeClause ∈ TT := List.mem_filter.mpr ⟨List.mem_of_getElem? (i := 1001) (by decide +kernel), by decide +kernel⟩
theorem wd_1003 : Cond.instanceMethod yX12_takeClause ∈ TT := List.mem_filter.mpr ⟨List.mem_of_getElem? (i := 1003) (by decide +kernel), by decide +kernel⟩
theorem wd_27 : Cond.selects RX12 yX12_takeClause yX12_takeClause ∈ TT := List.mem_filter.mpr ⟨List.mem_of_getElem? (i := 27) (by decide +kernel), by decide +kernel⟩
theorem wd_1004 : Cond.code yX12_takeClause cX12_takeClause 4 (some .int) ∈ TT := List.mem_filter.mpr ⟨List.mem_of_getElem? (i := 1004) (by decide +kernel), by decide +kernel⟩
theorem wd_1029 : Cond.methodLink RX12 141 yX12_takeRead ∈ TT := List.mem_filter.mpr ⟨List.mem_of_getElem? (i := 1029) (by decide +kernel), by decide +kernel⟩
theorem wd_1031 : Cond.instanceMethod yX12_takeRead ∈ TT := List.mem_filter.mpr ⟨List.mem_of_getElem? (i := 1031) (by decide +kernel), by decide +kernel⟩
theorem wd_33 : Cond.selects RX12 yX12_takeRead yX12_takeRead ∈ TT := List.mem_filter.mpr ⟨List.mem_of_getElem? (i := 33) (by decide +kernel), by decide +kernel⟩
theorem wd_1032 : Cond.code yX12_takeRead cX12_takeRead 2 none ∈ TT := List.mem_filter.mpr ⟨List.mem_of_getElem? (i := 1032) (by decide +kernel), by decide +kernel⟩
theorem wd_902 : Cond.fieldLink RX12 144 RX12 "returns" "I" ∈ TT := List.mem_filter.mpr ⟨List.mem_of_getElem? (i := 902) (by decide +kernel), by decide +kernel⟩
theorem wd_905 : Cond.fieldLink RX12 147 RX12 "booked" "I" ∈ TT := List.mem_filter.mpr ⟨List.mem_of_getElem? (i := 905) (by decide +kernel), by decide +kernel⟩
theorem wd_899 : Cond.fieldLink RX12 150 RX12 "undos" "I" ∈ TT := List.mem_filter.mpr ⟨List.mem_of_getElem? (i := 899) (by decide +kernel), by decide +kernel⟩
theorem wd_909 : Cond.fieldLink RX12 65 RX12 "isKept" "[Z" ∈ TT := List.mem_filter.mpr ⟨List.mem_of_getElem? (i := 909) (by decide +kernel), by decide +kernel⟩
theorem wd_897 : Cond.fieldLink RX12 153 RX12 "turns" "I" ∈ TT := List.mem_filter.mpr ⟨List.mem_of_getElem? (i := 897) (by decide +kernel), by decide +kernel⟩
theorem wd_1120 : Cond.methodLink RX12 156 yX12_off ∈ TT := List.mem_filter.mpr ⟨List.mem_of_getElem? (i := 1120) (by decide +kernel), by decide +kernel⟩
theorem wd_1122 : Cond.instanceMethod yX12_off ∈ TT := List.mem_filter.mpr ⟨List.mem_of_getElem? (i := 1122) (by decide +kernel), by decide +kernel⟩
theorem wd_51 : Cond.selects RX12 yX12_off yX12_off ∈ TT := List.mem_filter.mpr ⟨List.mem_of_getElem? (i := 51) (by decide +kernel), by decide +kernel⟩
theorem wd_1123 : Cond.code yX12_off cX12_off 4 (some .int) ∈ TT := List.mem_filter.mpr ⟨List.mem_of_getElem? (i := 1123) (by decide +kernel), by decide +kernel⟩
theorem wd_1116 : Cond.methodLink RX12 159 yX12_bargain ∈ TT := List.mem_filter.mpr ⟨List.mem_of_getElem? (i := 1116) (by decide +kernel), by decide +kernel⟩
theorem wd_1118 : Cond.instanceMethod yX12_bargain ∈ TT := List.mem_filter.mpr ⟨List.mem_of_getElem? (i := 1118) (by decide +kernel), by decide +kernel⟩
theorem wd_50 : Cond.selects RX12 yX12_bargain yX12_bargain ∈ TT := List.mem_filter.mpr ⟨List.mem_of_getElem? (i := 50) (by decide +kernel), by decide +kernel⟩
theorem wd_1119 : Cond.code yX12_bargain cX12_bargain 6 (some .int) ∈ TT := List.mem_filter.mpr ⟨List.mem_of_getElem? (i := 1119) (by decide +kernel), by decide +kernel⟩
theorem wd_1061 : Cond.methodLink RX12 162 yX12_ofVillage ∈ TT := List.mem_filter.mpr ⟨List.mem_of_getElem? (i := 1061) (by decide +kernel), by decide +kernel⟩
theorem wd_1063 : Cond.instanceMethod yX12_ofVillage ∈ TT := List.mem_filter.mpr ⟨List.mem_of_getElem? (i := 1063) (by decide +kernel), by decide +kernel⟩
theorem wd_39 : Cond.selects RX12 yX12_ofVillage yX12_ofVillage ∈ TT := List.mem_filter.mpr ⟨List.mem_of_getElem? (i := 39) (by decide +kernel), by decide +kernel⟩
theorem wd_1064 : Cond.code yX12_ofVillage cX12_ofVillage 4 (some .int) ∈ TT := List.mem_filter.mpr ⟨List.mem_of_getElem? (i := 1064) (by decide +kernel), by decide +kernel⟩
theorem wd_1057 : Cond.methodLink RX12 166 yX12_harms ∈ TT := List.mem_filter.mpr ⟨List.mem_of_getElem? (i := 1057) (by decide +kernel), by decide +kernel⟩
theorem wd_1059 : Cond.instanceMethod yX12_harms ∈ TT := List.mem_filter.mpr ⟨List.mem_of_getElem? (i := 1059) (by decide +kernel), by decide +kernel⟩
theorem wd_38 : Cond.selects RX12 yX12_harms yX12_harms ∈ TT := List.mem_filter.mpr ⟨List.mem_of_getElem? (i := 38) (by decide +kernel), by decide +kernel⟩
theorem wd_1060 : Cond.code yX12_harms cX12_harms 5 none ∈ TT := List.mem_filter.mpr ⟨List.mem_of_getElem? (i := 1060) (by decide +kernel), by decide +kernel⟩
theorem wd_1065 : Cond.methodLink RX12 170 yX12_takes ∈ TT := List.mem_filter.mpr ⟨List.mem_of_getElem? (i := 1065) (by decide +kernel), by decide +kernel⟩
theorem wd_1067 : Cond.instanceMethod yX12_takes ∈ TT := List.mem_filter.mpr ⟨List.mem_of_getElem? (i := 1067) (by decide +kernel), by decide +kernel⟩
theorem wd_40 : Cond.selects RX12 yX12_takes yX12_takes ∈ TT := List.mem_filter.mpr ⟨List.mem_of_getElem? (i := 40) (by decide +kernel), by decide +kernel⟩
theorem wd_1068 : Cond.code yX12_takes cX12_takes 6 (some .int) ∈ TT := List.mem_filter.mpr ⟨List.mem_of_getElem? (i := 1068) (by decide +kernel), by decide +kernel⟩
theorem wd_1069 : Cond.methodLink RX12 174 yX12_has ∈ TT := List.mem_filter.mpr ⟨List.mem_of_getElem? (i := 1069) (by decide +kernel), by decide +kernel⟩
theorem wd_1070 : Cond.static yX12_has ∈ TT := List.mem_filter.mpr ⟨List.mem_of_getElem? (i := 1070) (by decide +kernel), by decide +kernel⟩
theorem wd_1071 : Cond.code yX12_has cX12_has 2 (some .boolean) ∈ TT := List.mem_filter.mpr ⟨List.mem_of_getElem? (i := 1071) (by decide +kernel), by decide +kernel⟩
theorem wd_1072 : Cond.methodLink RX12 178 yX12_ones ∈ TT := List.mem_filter.mpr ⟨List.mem_of_getElem? (i := 1072) (by decide +kernel), by decide +kernel⟩
theorem wd_1073 : Cond.static yX12_ones ∈ TT := List.mem_filter.mpr ⟨List.mem_of_getElem? (i := 1073) (by decide +kernel), by decide +kernel⟩
theorem wd_1074 : Cond.code yX12_ones cX12_ones 3 (some .int) ∈ TT := List.mem_filter.mpr ⟨List.mem_of_getElem? (i := 1074) (by decide +kernel), by decide +kernel⟩
theorem wd_1049 : Cond.methodLink RX12 181 yX12_tries ∈ TT := List.mem_filter.mpr ⟨List.mem_of_getElem? (i := 1049) (by decide +kernel), by decide +kernel⟩
theorem wd_1051 : Cond.instanceMethod yX12_tries ∈ TT := List.mem_filter.mpr ⟨List.mem_of_getElem? (i := 1051) (by decide +kernel), by decide +kernel⟩
theorem wd_36 : Cond.selects RX12 yX12_tries yX12_tries ∈ TT := List.mem_filter.mpr ⟨List.mem_of_getElem? (i := 36) (by decide +kernel), by decide +kernel⟩
theorem wd_1052 : Cond.code yX12_tries cX12_tries 2 none ∈ TT := List.mem_filter.mpr ⟨List.mem_of_getElem? (i := 1052) (by decide +kernel), by decide +kernel⟩
theorem wd_1053 : Cond.methodLink RX12 184 yX12_yearOf ∈ TT := List.mem_filter.mpr ⟨List.mem_of_getElem? (i := 1053) (by decide +kernel), by decide +kernel⟩
theorem wd_1055 : Cond.instanceMethod yX12_yearOf ∈ TT := List.mem_filter.mpr ⟨List.mem_of_getElem? (i := 1055) (by decide +kernel), by decide +kernel⟩
theorem wd_37 : Cond.selects RX12 yX12_yearOf yX12_yearOf ∈ TT := List.mem_filter.mpr ⟨List.mem_of_getElem? (i := 37) (by decide +kernel), by decide +kernel⟩
theorem wd_1056 : Cond.code yX12_yearOf cX12_yearOf 6 none ∈ TT := List.mem_filter.mpr ⟨List.mem_of_getElem? (i := 1056) (by decide +kernel), by decide +kernel⟩
theorem wd_1091 : Cond.methodLink RX12 253 yX12_isHills ∈ TT := List.mem_filter.mpr ⟨List.mem_of_getElem? (i := 1091) (by decide +kernel), by decide +kernel⟩
theorem wd_1093 : Cond.instanceMethod yX12_isHills ∈ TT := List.mem_filter.mpr ⟨List.mem_of_getElem? (i := 1093) (by decide +kernel), by decide +kernel⟩
theorem wd_45 : Cond.selects RX12 yX12_isHills yX12_isHills ∈ TT := List.mem_filter.mpr ⟨List.mem_of_getElem? (i := 45) (by decide +kernel), by decide +kernel⟩
theorem wd_1094 : Cond.code yX12_isHills cX12_isHills 1 (some .boolean) ∈ TT := List.mem_filter.mpr ⟨List.mem_of_getElem? (i := 1094) (by decide +kernel), by decide +kernel⟩
theorem wd_904 : Cond.fieldLink RX12 53 RX12 "returnBear" "[I" ∈ TT := List.mem_filter.mpr ⟨List.mem_of_getElem? (i := 904) (by decide +kernel), by decide +kernel⟩
theorem wd_903 : Cond.fieldLink RX12 50 RX12 "returnOf" "[I" ∈ TT := List.mem_filter.mpr ⟨List.mem_of_getElem? (i := 903) (by decide +kernel), by decide +kernel⟩
theorem wd_1087 : Cond.methodLink RX12 297 yX12_mayBe ∈ TT := List.mem_filter.mpr ⟨List.mem_of_getElem? (i := 1087) (by decide +kernel), by decide +kernel⟩
theorem wd_1089 : Cond.instanceMethod yX12_mayBe ∈ TT := List.mem_filter.mpr ⟨List.mem_of_getElem? (i := 1089) (by decide +kernel), by decide +kernel⟩
theorem wd_44 : Cond.selects RX12 yX12_mayBe yX12_mayBe ∈ TT := List.mem_filter.mpr ⟨List.mem_of_getElem? (i := 44) (by decide +kernel), by decide +kernel⟩
theorem wd_1090 : Cond.code yX12_mayBe cX12_mayBe 6 (some .boolean) ∈ TT := List.mem_filter.mpr ⟨List.mem_of_getElem? (i := 1090) (by decide +kernel), by decide +kernel⟩
theorem wd_1083 : Cond.methodLink RX12 200 yX12_manyWent ∈ TT := List.mem_filter.mpr ⟨List.mem_of_getElem? (i := 1083) (by decide +kernel), by decide +kernel⟩
theorem wd_1085 : Cond.instanceMethod yX12_manyWent ∈ TT := List.mem_filter.mpr ⟨List.mem_of_getElem? (i := 1085) (by decide +kernel), by decide +kernel⟩
theorem wd_43 : Cond.selects RX12 yX12_manyWent yX12_manyWent ∈ TT := List.mem_filter.mpr ⟨List.mem_of_getElem? (i := 43) (by decide +kernel), by decide +kernel⟩
theorem wd_1086 : Cond.code yX12_manyWent cX12_manyWent 3 (some .int) ∈ TT := List.mem_filter.mpr ⟨List.mem_of_getElem? (i := 1086) (by decide +kernel), by decide +kernel⟩
theorem wd_1041 : Cond.methodLink RX12 188 yX12_toldFate ∈ TT := List.mem_filter.mpr ⟨List.mem_of_getElem? (i := 1041) (by decide +kernel), by decide +kernel⟩
theorem wd_1043 : Cond.instanceMethod yX12_toldFate ∈ TT := List.mem_filter.mpr ⟨List.mem_of_getElem? (i := 1043) (by decide +kernel), by decide +kernel⟩
theorem wd_34 : Cond.selects RX12 yX12_toldFate yX12_toldFate ∈ TT := List.mem_filter.mpr ⟨List.mem_of_getElem? (i := 34) (by decide +kernel), by decide +kernel⟩
theorem wd_1044 : Cond.code yX12_toldFate cX12_toldFate 3 (some .int) ∈ TT := List.mem_filter.mpr ⟨List.mem_of_getElem? (i := 1044) (by decide +kernel), by decide +kernel⟩
theorem wd_1045 : Cond.methodLink RX12 191 yX12_borne ∈ TT := List.mem_filter.mpr ⟨List.mem_of_getElem? (i := 1045) (by decide +kernel), by decide +kernel⟩
theorem wd_1047 : Cond.instanceMethod yX12_borne ∈ TT := List.mem_filter.mpr ⟨List.mem_of_getElem? (i := 1047) (by decide +kernel), by decide +kernel⟩
theorem wd_35 : Cond.selects RX12 yX12_borne yX12_borne ∈ TT := List.mem_filter.mpr ⟨List.mem_of_getElem? (i := 35) (by decide +kernel), by decide +kernel⟩
theorem wd_1048 : Cond.code yX12_borne cX12_borne 1 (some .int) ∈ TT := List.mem_filter.mpr ⟨List.mem_of_getElem? (i := 1048) (by decide +kernel), by decide +kernel⟩
theorem wd_1075 : Cond.methodLink RX12 194 yX12_madeUp ∈ TT := List.mem_filter.mpr ⟨List.mem_of_getElem? (i := 1075) (by decide +kernel), by decide +kernel⟩
theorem wd_1077 : Cond.instanceMethod yX12_madeUp ∈ TT := List.mem_filter.mpr ⟨List.mem_of_getElem? (i := 1077) (by decide +kernel), by decide +kernel⟩
theorem wd_41 : Cond.selects RX12 yX12_madeUp yX12_madeUp ∈ TT := List.mem_filter.mpr ⟨List.mem_of_getElem? (i := 41) (by decide +kernel), by decide +kernel⟩
theorem wd_1078 : Cond.code yX12_madeUp cX12_madeUp 2 (some .int) ∈ TT := List.mem_filter.mpr ⟨List.mem_of_getElem? (i := 1078) (by decide +kernel), by decide +kernel⟩
theorem wd_1079 : Cond.methodLink RX12 197 yX12_worst ∈ TT := List.mem_filter.mpr ⟨List.mem_of_getElem? (i := 1079) (by decide +kernel), by decide +kernel⟩
theorem wd_1081 : Cond.instanceMethod yX12_worst ∈ TT := List.mem_filter.mpr ⟨List.mem_of_getElem? (i := 1081) (by decide +kernel), by decide +kernel⟩
theorem wd_42 : Cond.selects RX12 yX12_worst yX12_worst ∈ TT := List.mem_filter.mpr ⟨List.mem_of_getElem? (i := 42) (by decide +kernel), by decide +kernel⟩
theorem wd_1082 : Cond.code yX12_worst cX12_worst 4 (some .int) ∈ TT := List.mem_filter.mpr ⟨List.mem_of_getElem? (i := 1082) (by decide +kernel), by decide +kernel⟩
theorem wd_1095 : Cond.methodLink RX12 203 yX12_inEach ∈ TT := List.mem_filter.mpr ⟨List.mem_of_getElem? (i := 1095) (by decide +kernel), by decide +kernel⟩
theorem wd_1097 : Cond.instanceMethod yX12_inEach ∈ TT := List.mem_filter.mpr ⟨List.mem_of_getElem? (i := 1097) (by decide +kernel), by decide +kernel⟩
theorem wd_46 : Cond.selects RX12 yX12_inEach yX12_inEach ∈ TT := List.mem_filter.mpr ⟨List.mem_of_getElem? (i := 46) (by decide +kernel), by decide +kernel⟩
theorem wd_1098 : Cond.code yX12_inEach cX12_inEach 3 (some .int) ∈ TT := List.mem_filter.mpr ⟨List.mem_of_getElem? (i := 1098) (by decide +kernel), by decide +kernel⟩
theorem wd_1099 : Cond.methodLink RX12 206 yX12_askNext ∈ TT := List.mem_filter.mpr ⟨List.mem_of_getElem? (i := 1099) (by decide +kernel), by decide +kernel⟩
theorem wd_1101 : Cond.instanceMethod yX12_askNext ∈ TT := List.mem_filter.mpr ⟨List.mem_of_getElem? (i := 1101) (by decide +kernel), by decide +kernel⟩
theorem wd_47 : Cond.selects RX12 yX12_askNext yX12_askNext ∈ TT := List.mem_filter.mpr ⟨List.mem_of_getElem? (i := 47) (by decide +kernel), by decide +kernel⟩
theorem wd_1102 : Cond.code yX12_askNext cX12_askNext 7 (some .int) ∈ TT := List.mem_filter.mpr ⟨List.mem_of_getElem? (i := 1102) (by decide +kernel), by decide +kernel⟩
theorem wd_898 : Cond.fieldLink RX12 209 RX12 "end" "I" ∈ TT := List.mem_filter.mpr ⟨List.mem_of_getElem? (i := 898) (by decide +kernel), by decide +kernel⟩
theorem wd_1124 : Cond.methodLink RX12 212 yX12_ringOf ∈ TT := List.mem_filter.mpr ⟨List.mem_of_getElem? (i := 1124) (by decide +kernel), by decide +kernel⟩
theorem wd_1126 : Cond.instanceMethod yX12_ringOf ∈ TT := List.mem_filter.mpr ⟨List.mem_of_getElem? (i := 1126) (by decide +kernel), by decide +kernel⟩
theorem wd_52 : Cond.selects RX12 yX12_ringOf yX12_ringOf ∈ TT := List.mem_filter.mpr ⟨List.mem_of_getElem? (i := 52) (by decide +kernel), by decide +kernel⟩
theorem wd_1127 : Cond.code yX12_ringOf cX12_ringOf 5 (some .int) ∈ TT := List.mem_filter.mpr ⟨List.mem_of_getElem? (i := 1127) (by decide +kernel), by decide +kernel⟩
theorem wd_1107 : Cond.methodLink RX12 215 yX12_isPerson ∈ TT := List.mem_filter.mpr ⟨List.mem_of_getElem? (i := 1107) (by decide +kernel), by decide +kernel⟩
theorem wd_1109 : Cond.instanceMethod yX12_isPerson ∈ TT := List.mem_filter.mpr ⟨List.mem_of_getElem? (i := 1109) (by decide +kernel), by decide +kernel⟩
theorem wd_48 : Cond.selects RX12 yX12_isPerson yX12_isPerson ∈ TT := List.mem_filter.mpr ⟨List.mem_of_getElem? (i := 48) (by decide +kernel), by decide +kernel⟩
theorem wd_1110 : Cond.code yX12_isPerson cX12_isPerson 2 (some .boolean) ∈ TT := List.mem_filter.mpr ⟨List.mem_of_getElem? (i := 1110) (by decide +kernel), by decide +kernel⟩
theorem wd_1112 : Cond.methodLink RX12 220 yX12_ridOf ∈ TT := List.mem_filter.mpr ⟨List.mem_of_getElem? (i := 1112) (by decide +kernel), by decide +kernel⟩
theorem wd_1114 : Cond.instanceMethod yX12_ridOf ∈ TT := List.mem_filter.mpr ⟨List.mem_of_getElem? (i := 1114) (by decide +kernel), by decide +kernel⟩
theorem wd_49 : Cond.selects RX12 yX12_ridOf yX12_ridOf ∈ TT := List.mem_filter.mpr ⟨List.mem_of_getElem? (i := 49) (by decide +kernel), by decide +kernel⟩
theorem wd_1115 : Cond.code yX12_ridOf cX12_ridOf 4 (some .int) ∈ TT := List.mem_filter.mpr ⟨List.mem_of_getElem? (i := 1115) (by decide +kernel), by decide +kernel⟩
theorem wd_1128 : Cond.methodLink RX12 223 yX12_firstOf ∈ TT := List.mem_filter.mpr ⟨List.mem_of_getElem? (i := 1128) (by decide +kernel), by decide +kernel⟩
theorem wd_1130 : Cond.instanceMethod yX12_firstOf ∈ TT := List.mem_filter.mpr ⟨List.mem_of_getElem? (i := 1130) (by decide +kernel), by decide +kernel⟩
theorem wd_53 : Cond.selects RX12 yX12_firstOf yX12_firstOf ∈ TT := List.mem_filter.mpr ⟨List.mem_of_getElem? (i := 53) (by decide +kernel), by decide +kernel⟩
theorem wd_1131 : Cond.code yX12_firstOf cX12_firstOf 2 (some .int) ∈ TT := List.mem_filter.mpr ⟨List.mem_of_getElem? (i := 1131) (by decide +kernel), by decide +kernel⟩
theorem wd_1111 : Cond.constant RX12 219 (-1000000001) ∈ TT := List.mem_filter.mpr ⟨List.mem_of_getElem? (i := 1111) (by decide +kernel), by decide +kernel⟩
theorem wd_1136 : Cond.methodLink RX12 226 yX12_isVillage ∈ TT := List.mem_filter.mpr ⟨List.mem_of_getElem? (i := 1136) (by decide +kernel), by decide +kernel⟩
theorem wd_1138 : Cond.instanceMethod yX12_isVillage ∈ TT := List.mem_filter.mpr ⟨List.mem_of_getElem? (i := 1138) (by decide +kernel), by decide +kernel⟩
theorem wd_54 : Cond.selects RX12 yX12_isVillage yX12_isVillage ∈ TT := List.mem_filter.mpr ⟨List.mem_of_getElem? (i := 54) (by decide +kernel), by decide +kernel⟩
theorem wd_1139 : Cond.code yX12_isVillage cX12_isVillage 2 (some .boolean) ∈ TT := List.mem_filter.mpr ⟨List.mem_of_getElem? (i := 1139) (by decide +kernel), by decide +kernel⟩
theorem wd_1140 : Cond.methodLink RX12 229 yX12_had ∈ TT := List.mem_filter.mpr ⟨List.mem_of_getElem? (i := 1140) (by decide +kernel), by decide +kernel⟩
theorem wd_1142 : Cond.instanceMethod yX12_had ∈ TT := List.mem_filter.mpr ⟨List.mem_of_getElem? (i := 1142) (by decide +kernel), by decide +kernel⟩
theorem wd_55 : Cond.selects RX12 yX12_had yX12_had ∈ TT := List.mem_filter.mpr ⟨List.mem_of_getElem? (i := 55) (by decide +kernel), by decide +kernel⟩
theorem wd_1143 : Cond.code yX12_had cX12_had 5 (some .int) ∈ TT := List.mem_filter.mpr ⟨List.mem_of_getElem? (i := 1143) (by decide +kernel), by decide +kernel⟩
theorem wd_1144 : Cond.methodLink RX12 232 yX12_harmOf ∈ TT := List.mem_filter.mpr ⟨List.mem_of_getElem? (i := 1144) (by decide +kernel), by decide +kernel⟩
theorem wd_1146 : Cond.instanceMethod yX12_harmOf ∈ TT := List.mem_filter.mpr ⟨List.mem_of_getElem? (i := 1146) (by decide +kernel), by decide +kernel⟩
theorem wd_56 : Cond.selects RX12 yX12_harmOf yX12_harmOf ∈ TT := List.mem_filter.mpr ⟨List.mem_of_getElem? (i := 56) (by decide +kernel), by decide +kernel⟩
theorem wd_1147 : Cond.code yX12_harmOf cX12_harmOf 4 (some .int) ∈ TT := List.mem_filter.mpr ⟨List.mem_of_getElem? (i := 1147) (by decide +kernel), by decide +kernel⟩
theorem wd_900 : Cond.fieldLink RX12 44 RX12 "past" "[I" ∈ TT := List.mem_filter.mpr ⟨List.mem_of_getElem? (i := 900) (by decide +kernel), by decide +kernel⟩
theorem wd_1152 : Cond.constantLong RX12 235 (99) ∈ TT := List.mem_filter.mpr ⟨List.mem_of_getElem? (i := 1152) (by decide +kernel), by decide +kernel⟩
theorem wd_1153 : Cond.methodLink RX12 237 yX12_remember ∈ TT := List.mem_filter.mpr ⟨List.mem_of_getElem? (i := 1153) (by decide +kernel), by decide +kernel⟩
theorem wd_1155 : Cond.instanceMethod yX12_remember ∈ TT := List.mem_filter.mpr ⟨List.mem_of_getElem? (i := 1155) (by decide +kernel), by decide +kernel⟩
theorem wd_57 : Cond.selects RX12 yX12_remember yX12_remember ∈ TT := List.mem_filter.mpr ⟨List.mem_of_getElem? (i := 57) (by decide +kernel), by decide +kernel⟩
theorem wd_1156 : Cond.code yX12_remember cX12_remember 2 none ∈ TT := List.mem_filter.mpr ⟨List.mem_of_getElem? (i := 1156) (by decide +kernel), by decide +kernel⟩
theorem wd_1157 : Cond.methodLink RX12 240 yX12_tells ∈ TT := List.mem_filter.mpr ⟨List.mem_of_getElem? (i := 1157) (by decide +kernel), by decide +kernel⟩
theorem wd_1159 : Cond.instanceMethod yX12_tells ∈ TT := List.mem_filter.mpr ⟨List.mem_of_getElem? (i := 1159) (by decide +kernel), by decide +kernel⟩
theorem wd_58 : Cond.selects RX12 yX12_tells yX12_tells ∈ TT := List.mem_filter.mpr ⟨List.mem_of_getElem? (i := 58) (by decide +kernel), by decide +kernel⟩
theorem wd_1160 : Cond.code yX12_tells cX12_tells 4 (some .int) ∈ TT := List.mem_filter.mpr ⟨List.mem_of_getElem? (i := 1160) (by decide +kernel), by decide +kernel⟩
theorem wd_1165 : Cond.methodLink RX12 243 yX12_mayGo ∈ TT := List.mem_filter.mpr ⟨List.mem_of_getElem? (i := 1165) (by decide +kernel), by decide +kernel⟩
theorem wd_1167 : Cond.instanceMethod yX12_mayGo ∈ TT := List.mem_filter.mpr ⟨List.mem_of_getElem? (i := 1167) (by decide +kernel), by decide +kernel⟩
theorem wd_59 : Cond.selects RX12 yX12_mayGo yX12_mayGo ∈ TT := List.mem_filter.mpr ⟨List.mem_of_getElem? (i := 59) (by decide +kernel), by decide +kernel⟩
theorem wd_1168 : Cond.code yX12_mayGo cX12_mayGo 3 (some .boolean) ∈ TT := List.mem_filter.mpr ⟨List.mem_of_getElem? (i := 1168) (by decide +kernel), by decide +kernel⟩
theorem wd_1170 : Cond.methodLink RX12 247 yX12_answers ∈ TT := List.mem_filter.mpr ⟨List.mem_of_getElem? (i := 1170) (by decide +kernel), by decide +kernel⟩
theorem wd_1172 : Cond.instanceMethod yX12_answers ∈ TT := List.mem_filter.mpr ⟨List.mem_of_getElem? (i := 1172) (by decide +kernel), by decide +kernel⟩
theorem wd_60 : Cond.selects RX12 yX12_answers yX12_answers ∈ TT := List.mem_filter.mpr ⟨List.mem_of_getElem? (i := 60) (by decide +kernel), by decide +kernel⟩
theorem wd_1173 : Cond.code yX12_answers cX12_answers 6 none ∈ TT := List.mem_filter.mpr ⟨List.mem_of_getElem? (i := 1173) (by decide +kernel), by decide +kernel⟩
theorem wd_1169 : Cond.constant RX12 246 (-1000000003) ∈ TT := List.mem_filter.mpr ⟨List.mem_of_getElem? (i := 1169) (by decide +kernel), by decide +kernel⟩
theorem wd_1178 : Cond.constantLong RX12 251 (60) ∈ TT := List.mem_filter.mpr ⟨List.mem_of_getElem? (i := 1178) (by decide +kernel), by decide +kernel⟩
theorem wd_1183 : Cond.constantLong RX12 257 (9) ∈ TT := List.mem_filter.mpr ⟨List.mem_of_getElem? (i := 1183) (by decide +kernel), by decide +kernel⟩
theorem wd_882 : Cond.fieldLink RX12 259 RX12 "seed" "I" ∈ TT := List.mem_filter.mpr ⟨List.mem_of_getElem? (i := 882) (by decide +kernel), by decide +kernel⟩
theorem wd_1200 : Cond.constantLong RX12 262 (1103515245) ∈ TT := List.mem_filter.mpr ⟨List.mem_of_getElem? (i := 1200) (by decide +kernel), by decide +kernel⟩
theorem wd_1201 : Cond.constantLong RX12 264 (12345) ∈ TT := List.mem_filter.mpr ⟨List.mem_of_getElem? (i := 1201) (by decide +kernel), by decide +kernel⟩
theorem wd_1202 : Cond.constantLong RX12 266 (2147483648) ∈ TT := List.mem_filter.mpr ⟨List.mem_of_getElem? (i := 1202) (by decide +kernel), by decide +kernel⟩
theorem wd_1203 : Cond.constant RX12 268 (65536) ∈ TT := List.mem_filter.mpr ⟨List.mem_of_getElem? (i := 1203) (by decide +kernel), by decide +kernel⟩
theorem wd_1196 : Cond.methodLink RX12 269 yX12_draw ∈ TT := List.mem_filter.mpr ⟨List.mem_of_getElem? (i := 1196) (by decide +kernel), by decide +kernel⟩
theorem wd_1198 : Cond.instanceMethod yX12_draw ∈ TT := List.mem_filter.mpr ⟨List.mem_of_getElem? (i := 1198) (by decide +kernel), by decide +kernel⟩
theorem wd_62 : Cond.selects RX12 yX12_draw yX12_draw ∈ TT := List.mem_filter.mpr ⟨List.mem_of_getElem? (i := 62) (by decide +kernel), by decide +kernel⟩
theorem wd_1199 : Cond.code yX12_draw cX12_draw 2 (some .int) ∈ TT := List.mem_filter.mpr ⟨List.mem_of_getElem? (i := 1199) (by decide +kernel), by decide +kernel⟩
theorem wd_1192 : Cond.methodLink RX12 272 yX12_chance ∈ TT := List.mem_filter.mpr ⟨List.mem_of_getElem? (i := 1192) (by decide +kernel), by decide +kernel⟩
theorem wd_1194 : Cond.instanceMethod yX12_chance ∈ TT := List.mem_filter.mpr ⟨List.mem_of_getElem? (i := 1194) (by decide +kernel), by decide +kernel⟩
theorem wd_61 : Cond.selects RX12 yX12_chance yX12_chance ∈ TT := List.mem_filter.mpr ⟨List.mem_of_getElem? (i := 61) (by decide +kernel), by decide +kernel⟩
theorem wd_1195 : Cond.code yX12_chance cX12_chance 5 none ∈ TT := List.mem_filter.mpr ⟨List.mem_of_getElem? (i := 1195) (by decide +kernel), by decide +kernel⟩
theorem wd_1216 : Cond.constant RX12 275 (100000000) ∈ TT := List.mem_filter.mpr ⟨List.mem_of_getElem? (i := 1216) (by decide +kernel), by decide +kernel⟩
theorem wd_901 : Cond.fieldLink RX12 47 RX12 "least" "[I" ∈ TT := List.mem_filter.mpr ⟨List.mem_of_getElem? (i := 901) (by decide +kernel), by decide +kernel⟩
theorem wd_1225 : Cond.methodLink RX12 276 yX12_leftBy ∈ TT := List.mem_filter.mpr ⟨List.mem_of_getElem? (i := 1225) (by decide +kernel), by decide +kernel⟩
theorem wd_1227 : Cond.instanceMethod yX12_leftBy ∈ TT := List.mem_filter.mpr ⟨List.mem_of_getElem? (i := 1227) (by decide +kernel), by decide +kernel⟩
theorem wd_64 : Cond.selects RX12 yX12_leftBy yX12_leftBy ∈ TT := List.mem_filter.mpr ⟨List.mem_of_getElem? (i := 64) (by decide +kernel), by decide +kernel⟩
theorem wd_1228 : Cond.code yX12_leftBy cX12_leftBy 3 (some .int) ∈ TT := List.mem_filter.mpr ⟨List.mem_of_getElem? (i := 1228) (by decide +kernel), by decide +kernel⟩
theorem wd_1221 : Cond.methodLink RX12 279 yX12_layLeast ∈ TT := List.mem_filter.mpr ⟨List.mem_of_getElem? (i := 1221) (by decide +kernel), by decide +kernel⟩
theorem wd_1223 : Cond.instanceMethod yX12_layLeast ∈ TT := List.mem_filter.mpr ⟨List.mem_of_getElem? (i := 1223) (by decide +kernel), by decide +kernel⟩
theorem wd_63 : Cond.selects RX12 yX12_layLeast yX12_layLeast ∈ TT := List.mem_filter.mpr ⟨List.mem_of_getElem? (i := 63) (by decide +kernel), by decide +kernel⟩
theorem wd_1224 : Cond.code yX12_layLeast cX12_layLeast 7 none ∈ TT := List.mem_filter.mpr ⟨List.mem_of_getElem? (i := 1224) (by decide +kernel), by decide +kernel⟩
theorem wd_1229 : Cond.methodLink RX12 282 yX12_goerFor ∈ TT := List.mem_filter.mpr ⟨List.mem_of_getElem? (i := 1229) (by decide +kernel), by decide +kernel⟩
theorem wd_1231 : Cond.instanceMethod yX12_goerFor ∈ TT := List.mem_filter.mpr ⟨List.mem_of_getElem? (i := 1231) (by decide +kernel), by decide +kernel⟩
theorem wd_65 : Cond.selects RX12 yX12_goerFor yX12_goerFor ∈ TT := List.mem_filter.mpr ⟨List.mem_of_getElem? (i := 65) (by decide +kernel), by decide +kernel⟩
theorem wd_1232 : Cond.code yX12_goerFor cX12_goerFor 7 (some .int) ∈ TT := List.mem_filter.mpr ⟨List.mem_of_getElem? (i := 1232) (by decide +kernel), by decide +kernel⟩
theorem wd_1242 : Cond.methodLink RX12 285 yX12_sumAt ∈ TT := List.mem_filter.mpr ⟨List.mem_of_getElem? (i := 1242) (by decide +kernel), by decide +kernel⟩
theorem wd_1244 : Cond.instanceMethod yX12_sumAt ∈ TT := List.mem_filter.mpr ⟨List.mem_of_getElem? (i := 1244) (by decide +kernel), by decide +kernel⟩
theorem wd_67 : Cond.selects RX12 yX12_sumAt yX12_sumAt ∈ TT := List.mem_filter.mpr ⟨List.mem_of_getElem? (i := 67) (by decide +kernel), by decide +kernel⟩
theorem wd_1245 : Cond.code yX12_sumAt cX12_sumAt 5 (some .int) ∈ TT := List.mem_filter.mpr ⟨List.mem_of_getElem? (i := 1245) (by decide +kernel), by decide +kernel⟩
theorem wd_1237 : Cond.constantLong RX12 288 (999) ∈ TT := List.mem_filter.mpr ⟨List.mem_of_getElem? (i := 1237) (by decide +kernel), by decide +kernel⟩
theorem wd_1238 : Cond.methodLink RX12 290 yX12_levelOf ∈ TT := List.mem_filter.mpr ⟨List.mem_of_getElem? (i := 1238) (by decide +kernel), by decide +kernel⟩
theorem wd_1240 : Cond.instanceMethod yX12_levelOf ∈ TT := List.mem_filter.mpr ⟨List.mem_of_getElem? (i := 1240) (by decide +kernel), by decide +kernel⟩
theorem wd_66 : Cond.selects RX12 yX12_levelOf yX12_levelOf ∈ TT := List.mem_filter.mpr ⟨List.mem_of_getElem? (i := 66) (by decide +kernel), by decide +kernel⟩
theorem wd_1241 : Cond.code yX12_levelOf cX12_levelOf 4 (some .int) ∈ TT := List.mem_filter.mpr ⟨List.mem_of_getElem? (i := 1241) (by decide +kernel), by decide +kernel⟩
theorem wd_1250 : Cond.constantLong RX12 293 (100) ∈ TT := List.mem_filter.mpr ⟨List.mem_of_getElem? (i := 1250) (by decide +kernel), by decide +kernel⟩
theorem wd_1251 : Cond.constantLong RX12 295 (1000000000) ∈ TT := List.mem_filter.mpr ⟨List.mem_of_getElem? (i := 1251) (by decide +kernel), by decide +kernel⟩
theorem wd_1260 : Cond.constantLong RX12 300 (9999) ∈ TT := List.mem_filter.mpr ⟨List.mem_of_getElem? (i := 1260) (by decide +kernel), by decide +kernel⟩
theorem wd_906 : Cond.fieldLink RX12 56 RX12 "bookOf" "[I" ∈ TT := List.mem_filter.mpr ⟨List.mem_of_getElem? (i := 906) (by decide +kernel), by decide +kernel⟩
theorem wd_907 : Cond.fieldLink RX12 59 RX12 "bookHarm" "[I" ∈ TT := List.mem_filter.mpr ⟨List.mem_of_getElem? (i := 907) (by decide +kernel), by decide +kernel⟩
theorem wd_908 : Cond.fieldLink RX12 62 RX12 "images" "[I" ∈ TT := List.mem_filter.mpr ⟨List.mem_of_getElem? (i := 908) (by decide +kernel), by decide +kernel⟩
theorem wd_504 : Cond.native arraycopyName ∈ TT := List.mem_filter.mpr ⟨List.mem_of_getElem? (i := 504) (by decide +kernel), by decide +kernel⟩
theorem wd_503 : Cond.static arraycopyName ∈ TT := List.mem_filter.mpr ⟨List.mem_of_getElem? (i := 503) (by decide +kernel), by decide +kernel⟩
theorem wd_83 : Cond.initialized "java/lang/System" ∈ TT := List.mem_filter.mpr ⟨List.mem_of_getElem? (i := 83) (by decide +kernel), by decide +kernel⟩
theorem wd_583 : Cond.static Lib.Math.max.name ∈ TT := List.mem_filter.mpr ⟨List.mem_of_getElem? (i := 583) (by decide +kernel), by decide +kernel⟩
theorem wd_584 : Cond.code Lib.Math.max.name Lib.Math.max.code 2 (some .int) ∈ TT := List.mem_filter.mpr ⟨List.mem_of_getElem? (i := 584) (by decide +kernel), by decide +kernel⟩
theorem wd_615 : Cond.static Lib.Math.min.name ∈ TT := List.mem_filter.mpr ⟨List.mem_of_getElem? (i := 615) (by decide +kernel), by decide +kernel⟩
theorem wd_616 : Cond.code Lib.Math.min.name Lib.Math.min.code 2 (some .int) ∈ TT := List.mem_filter.mpr ⟨List.mem_of_getElem? (i := 616) (by decide +kernel), by decide +kernel⟩
theorem wd_84 : Cond.initialized "java/lang/Math" ∈ TT := List.mem_filter.mpr ⟨List.mem_of_getElem? (i := 84) (by decide +kernel), by decide +kernel⟩
theorem wd_acn : Cond.native arraycopyName ∈ TT := wd_504
theorem wd_acs : Cond.static arraycopyName ∈ TT := wd_503
theorem wd_aci : Cond.initialized "java/lang/System" ∈ TT := wd_83
theorem wd_maxs : Cond.static Lib.Math.max.name ∈ TT := wd_583
theorem wd_maxc : Cond.code Lib.Math.max.name Lib.Math.max.code 2 (some .int) ∈ TT := wd_584
theorem wd_mins : Cond.static Lib.Math.min.name ∈ TT := wd_615
theorem wd_minc : Cond.code Lib.Math.min.name Lib.Math.min.code 2 (some .int) ∈ TT := wd_616
theorem wd_mi : Cond.initialized "java/lang/Math" ∈ TT := wd_84
set_option maxRecDepth 20000 in
theorem inl_X11 : ∀ w ∈ wsX110, w ∈ TT := fun w h => by
  have hp : wsX110 = [399, 401, 403, 405, 407, 409, 411, 413, 415].filterMap (fun i => lw_tbl[i]?) := by decide +kernel
  have hg : wsX110.all goodWord = true := by decide +kernel
  refine List.mem_filter.mpr ⟨?_, List.all_eq_true.mp hg w h⟩
  rw [hp] at h
  obtain ⟨i, -, hi⟩ := List.mem_filterMap.mp h
  exact List.mem_of_getElem? hi
set_option maxRecDepth 20000 in
theorem inl_X8 : ∀ w ∈ wsX80, w ∈ TT := fun w h => by
  have hp : wsX80 = [109, 111, 113, 115, 117, 119].filterMap (fun i => lw_tbl[i]?) := by decide +kernel
  have hg : wsX80.all goodWord = true := by decide +kernel
  refine List.mem_filter.mpr ⟨?_, List.all_eq_true.mp hg w h⟩
  rw [hp] at h
  obtain ⟨i, -, hi⟩ := List.mem_filterMap.mp h
  exact List.mem_of_getElem? hi
set_option maxRecDepth 20000 in
theorem inl_X2 : ∀ w ∈ wsX20, w ∈ TT := fun w h => by
  have hp : wsX20 = [271, 273, 275].filterMap (fun i => lw_tbl[i]?) := by decide +kernel
  have hg : wsX20.all goodWord = true := by decide +kernel
  refine List.mem_filter.mpr ⟨?_, List.all_eq_true.mp hg w h⟩
  rw [hp] at h
  obtain ⟨i, -, hi⟩ := List.mem_filterMap.mp h
  exact List.mem_of_getElem? hi
set_option maxRecDepth 20000 in
theorem inl_X0 : ∀ w ∈ wsX00, w ∈ TT := fun w h => by
  have hp : wsX00 = [258, 260].filterMap (fun i => lw_tbl[i]?) := by decide +kernel
  have hg : wsX00.all goodWord = true := by decide +kernel
  refine List.mem_filter.mpr ⟨?_, List.all_eq_true.mp hg w h⟩
  rw [hp] at h
  obtain ⟨i, -, hi⟩ := List.mem_filterMap.mp h
  exact List.mem_of_getElem? hi
set_option maxRecDepth 20000 in
theorem inl_X7 : ∀ w ∈ wsX70, w ∈ TT := fun w h => by
  have hp : wsX70 = [291, 293, 295].filterMap (fun i => lw_tbl[i]?) := by decide +kernel
  have hg : wsX70.all goodWord = true := by decide +kernel
  refine List.mem_filter.mpr ⟨?_, List.all_eq_true.mp hg w h⟩
  rw [hp] at h
  obtain ⟨i, -, hi⟩ := List.mem_filterMap.mp h
  exact List.mem_of_getElem? hi
set_option maxRecDepth 20000 in
theorem inl_X5 : ∀ w ∈ wsX50, w ∈ TT := fun w h => by
  have hp : wsX50 = [312, 314, 316].filterMap (fun i => lw_tbl[i]?) := by decide +kernel
  have hg : wsX50.all goodWord = true := by decide +kernel
  refine List.mem_filter.mpr ⟨?_, List.all_eq_true.mp hg w h⟩
  rw [hp] at h
  obtain ⟨i, -, hi⟩ := List.mem_filterMap.mp h
  exact List.mem_of_getElem? hi
set_option maxRecDepth 20000 in
theorem inl_X3 : ∀ w ∈ wsX30, w ∈ TT := fun w h => by
  have hp : wsX30 = [328].filterMap (fun i => lw_tbl[i]?) := by decide +kernel
  have hg : wsX30.all goodWord = true := by decide +kernel
  refine List.mem_filter.mpr ⟨?_, List.all_eq_true.mp hg w h⟩
  rw [hp] at h
  obtain ⟨i, -, hi⟩ := List.mem_filterMap.mp h
  exact List.mem_of_getElem? hi
set_option maxRecDepth 20000 in
theorem inl_X9 : ∀ w ∈ wsX90, w ∈ TT := fun w h => by
  have hp : wsX90 = [341, 343, 345].filterMap (fun i => lw_tbl[i]?) := by decide +kernel
  have hg : wsX90.all goodWord = true := by decide +kernel
  refine List.mem_filter.mpr ⟨?_, List.all_eq_true.mp hg w h⟩
  rw [hp] at h
  obtain ⟨i, -, hi⟩ := List.mem_filterMap.mp h
  exact List.mem_of_getElem? hi
set_option maxRecDepth 20000 in
theorem inl_X1 : ∀ w ∈ wsX10, w ∈ TT := fun w h => by
  have hp : wsX10 = [358, 360, 362].filterMap (fun i => lw_tbl[i]?) := by decide +kernel
  have hg : wsX10.all goodWord = true := by decide +kernel
  refine List.mem_filter.mpr ⟨?_, List.all_eq_true.mp hg w h⟩
  rw [hp] at h
  obtain ⟨i, -, hi⟩ := List.mem_filterMap.mp h
  exact List.mem_of_getElem? hi
set_option maxRecDepth 20000 in
theorem inl_X6 : ∀ w ∈ wsX60, w ∈ TT := fun w h => by
  have hp : wsX60 = [377, 379, 381, 383, 385].filterMap (fun i => lw_tbl[i]?) := by decide +kernel
  have hg : wsX60.all goodWord = true := by decide +kernel
  refine List.mem_filter.mpr ⟨?_, List.all_eq_true.mp hg w h⟩
  rw [hp] at h
  obtain ⟨i, -, hi⟩ := List.mem_filterMap.mp h
  exact List.mem_of_getElem? hi
set_option maxRecDepth 20000 in
theorem inl_X12 : ∀ w ∈ wsX120, w ∈ TT := fun w h => by
  have hp : wsX120 = [910, 912, 914, 916, 918, 920, 922, 924, 926, 928, 930, 932, 934, 936, 938, 940, 942, 944, 946, 948, 950, 952, 954, 956, 958, 960, 962, 964, 966, 968, 970, 972, 974, 976, 978, 980].filterMap (fun i => lw_tbl[i]?) := by decide +kernel
  have hg : wsX120.all goodWord = true := by decide +kernel
  refine List.mem_filter.mpr ⟨?_, List.all_eq_true.mp hg w h⟩
  rw [hp] at h
  obtain ⟨i, -, hi⟩ := List.mem_filterMap.mp h
  exact List.mem_of_getElem? hi
set_option maxRecDepth 20000 in
theorem inl_X4 : ∀ w ∈ wsX40, w ∈ TT := fun w h => by
  have hp : wsX40 = [172, 174, 176, 178, 180, 182, 184, 186, 188, 190, 192].filterMap (fun i => lw_tbl[i]?) := by decide +kernel
  have hg : wsX40.all goodWord = true := by decide +kernel
  refine List.mem_filter.mpr ⟨?_, List.all_eq_true.mp hg w h⟩
  rw [hp] at h
  obtain ⟨i, -, hi⟩ := List.mem_filterMap.mp h
  exact List.mem_of_getElem? hi
set_option maxRecDepth 20000 in
theorem inl_X10 : ∀ w ∈ wsX100, w ∈ TT := fun w h => by
  have hp : wsX100 = [228, 230, 232, 234, 236, 238, 240, 242, 244].filterMap (fun i => lw_tbl[i]?) := by decide +kernel
  have hg : wsX100.all goodWord = true := by decide +kernel
  refine List.mem_filter.mpr ⟨?_, List.all_eq_true.mp hg w h⟩
  rw [hp] at h
  obtain ⟨i, -, hi⟩ := List.mem_filterMap.mp h
  exact List.mem_of_getElem? hi
