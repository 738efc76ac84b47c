theorem mw_559 : Cond.static yL_leak ∈ LW := LWm (tb3 (List.mem_of_getElem? (i := 79) (by decide +kernel))) rfl
theorem mw_560 : Cond.codeWith yL_leak cL_leak 4 (some .int) [(0, 6, 7, 22), (0, 6, 10, 14), (0, 6, 14, 16)] ∈ LW := LWm (tb3 (List.mem_of_getElem? (i := 80) rfl)) rfl
theorem mw_561 : Cond.methodLink RL 24 yX9_leak ∈ LW := LWm (tb3 (List.mem_of_getElem? (i := 81) (by decide +kernel))) rfl
theorem mw_562 : Cond.instanceMethod yX9_leak ∈ LW := LWm (tb3 (List.mem_of_getElem? (i := 82) (by decide +kernel))) rfl
theorem mw_563 : Cond.selects RX9 yX9_leak yX9_leak ∈ LW := LWm (tb3 (List.mem_of_getElem? (i := 83) (by decide +kernel))) rfl
theorem mw_564 : Cond.code yX9_leak cX9_leak 3 (some .int) ∈ LW := LWm (tb3 (List.mem_of_getElem? (i := 84) (by decide +kernel))) rfl
theorem mw_565 : Cond.fieldLink RX9 90 "TinRoofScore$Order" "LEAK" "LTinRoofScore$Order;" ∈ LW := LWm (tb3 (List.mem_of_getElem? (i := 85) (by decide +kernel))) rfl
theorem mw_566 : Cond.methodLink RL 139 yL_rest ∈ LW := LWm (tb3 (List.mem_of_getElem? (i := 86) (by decide +kernel))) rfl
theorem mw_567 : Cond.static yL_rest ∈ LW := LWm (tb3 (List.mem_of_getElem? (i := 87) (by decide +kernel))) rfl
theorem mw_568 : Cond.codeWith yL_rest cL_rest 3 (some .int) [(0, 5, 6, 22), (0, 5, 9, 16)] ∈ LW := LWm (tb3 (List.mem_of_getElem? (i := 88) rfl)) rfl
theorem mw_569 : Cond.methodLink RL 31 yX9_rest ∈ LW := LWm (tb3 (List.mem_of_getElem? (i := 89) (by decide +kernel))) rfl
theorem mw_570 : Cond.instanceMethod yX9_rest ∈ LW := LWm (tb3 (List.mem_of_getElem? (i := 90) (by decide +kernel))) rfl
theorem mw_571 : Cond.selects RX9 yX9_rest yX9_rest ∈ LW := LWm (tb3 (List.mem_of_getElem? (i := 91) (by decide +kernel))) rfl
theorem mw_572 : Cond.code yX9_rest cX9_rest 2 (some .int) ∈ LW := LWm (tb3 (List.mem_of_getElem? (i := 92) (by decide +kernel))) rfl
theorem mw_573 : Cond.fieldLink RX9 96 "TinRoofScore$Order" "REST" "LTinRoofScore$Order;" ∈ LW := LWm (tb3 (List.mem_of_getElem? (i := 93) (by decide +kernel))) rfl
theorem mw_574 : Cond.methodLink RL 141 yL_drop ∈ LW := LWm (tb3 (List.mem_of_getElem? (i := 94) (by decide +kernel))) rfl
theorem mw_575 : Cond.static yL_drop ∈ LW := LWm (tb3 (List.mem_of_getElem? (i := 95) (by decide +kernel))) rfl
theorem mw_576 : Cond.codeWith yL_drop cL_drop 5 (some .int) [(0, 7, 8, 22), (0, 7, 12, 14), (0, 7, 17, 16)] ∈ LW := LWm (tb3 (List.mem_of_getElem? (i := 96) rfl)) rfl
theorem mw_577 : Cond.methodLink RL 27 yX9_drop ∈ LW := LWm (tb3 (List.mem_of_getElem? (i := 97) (by decide +kernel))) rfl
theorem mw_578 : Cond.instanceMethod yX9_drop ∈ LW := LWm (tb3 (List.mem_of_getElem? (i := 98) (by decide +kernel))) rfl
theorem mw_579 : Cond.selects RX9 yX9_drop yX9_drop ∈ LW := LWm (tb3 (List.mem_of_getElem? (i := 99) (by decide +kernel))) rfl
theorem mw_580 : Cond.code yX9_drop cX9_drop 4 (some .int) ∈ LW := LWm (tb3 (List.mem_of_getElem? (i := 100) (by decide +kernel))) rfl
theorem mw_581 : Cond.fieldLink RX9 93 "TinRoofScore$Order" "DROP" "LTinRoofScore$Order;" ∈ LW := LWm (tb3 (List.mem_of_getElem? (i := 101) (by decide +kernel))) rfl
theorem mw_582 : Cond.methodLink RL 144 yL_refusal ∈ LW := LWm (tb3 (List.mem_of_getElem? (i := 102) (by decide +kernel))) rfl
theorem mw_583 : Cond.static yL_refusal ∈ LW := LWm (tb3 (List.mem_of_getElem? (i := 103) (by decide +kernel))) rfl
theorem mw_584 : Cond.codeWith yL_refusal cL_refusal 3 (some .int) [(0, 5, 6, 59)] ∈ LW := LWm (tb3 (List.mem_of_getElem? (i := 104) rfl)) rfl
theorem mw_585 : Cond.classLink RL 59 "java/util/NoSuchElementException" ∈ LW := LWm (tb3 (List.mem_of_getElem? (i := 105) (by decide +kernel))) rfl
theorem mw_586 : Cond.methodLink RL 102 yX9_refusal ∈ LW := LWm (tb3 (List.mem_of_getElem? (i := 106) (by decide +kernel))) rfl
theorem mw_587 : Cond.instanceMethod yX9_refusal ∈ LW := LWm (tb3 (List.mem_of_getElem? (i := 107) (by decide +kernel))) rfl
theorem mw_588 : Cond.selects RX9 yX9_refusal yX9_refusal ∈ LW := LWm (tb3 (List.mem_of_getElem? (i := 108) (by decide +kernel))) rfl
theorem mw_589 : Cond.code yX9_refusal cX9_refusal 2 (some .int) ∈ LW := LWm (tb3 (List.mem_of_getElem? (i := 109) (by decide +kernel))) rfl
theorem mw_590 : Cond.methodLinkNest RX9 285 yX1_hasRefused RX9 ∈ NW := NWm (tb3 (List.mem_of_getElem? (i := 110) (by decide +kernel))) rfl
theorem mw_592 : Cond.instanceMethod yX1_hasRefused ∈ LW := LWm (tb3 (List.mem_of_getElem? (i := 112) (by decide +kernel))) rfl
theorem mw_593 : Cond.code yX1_hasRefused cX1_hasRefused 1 (some .boolean) ∈ LW := LWm (tb3 (List.mem_of_getElem? (i := 113) (by decide +kernel))) rfl
theorem mw_594 : Cond.methodLink RX9 212 yX9_needElement ∈ LW := LWm (tb3 (List.mem_of_getElem? (i := 114) (by decide +kernel))) rfl
theorem mw_595 : Cond.static yX9_needElement ∈ LW := LWm (tb3 (List.mem_of_getElem? (i := 115) (by decide +kernel))) rfl
theorem mw_596 : Cond.code yX9_needElement cX9_needElement 1 none ∈ LW := LWm (tb3 (List.mem_of_getElem? (i := 116) (by decide +kernel))) rfl
theorem mw_597 : Cond.classLink RX9 385 "java/util/NoSuchElementException" ∈ LW := LWm (tb3 (List.mem_of_getElem? (i := 117) (by decide +kernel))) rfl
theorem mw_598 : Cond.instantiable "java/util/NoSuchElementException" 6 ∈ LW := LWm (tb3 (List.mem_of_getElem? (i := 118) (by decide +kernel))) rfl
theorem mw_599 : Cond.castable "java/util/NoSuchElementException" "java/util/NoSuchElementException" ∈ NW := NWm (tb3 (List.mem_of_getElem? (i := 119) (by decide +kernel))) rfl
theorem mw_600 : Cond.selects "java/util/NoSuchElementException" ⟨"java/lang/Throwable", "fillInStackTrace", "(I)Ljava/lang/Throwable;"⟩ ⟨"java/lang/Throwable", "fillInStackTrace", "(I)Ljava/lang/Throwable;"⟩ ∈ LW := LWm (tb3 (List.mem_of_getElem? (i := 120) (by decide +kernel))) rfl
theorem mw_607 : Cond.methodLink RX9 389 ⟨"java/util/NoSuchElementException", "<init>", "(Ljava/lang/String;)V"⟩ ∈ LW := LWm (tb3 (List.mem_of_getElem? (i := 127) (by decide +kernel))) rfl
theorem mw_608 : Cond.instanceMethod ⟨"java/util/NoSuchElementException", "<init>", "(Ljava/lang/String;)V"⟩ ∈ LW := LWm (tb3 (List.mem_of_getElem? (i := 128) (by decide +kernel))) rfl
theorem mw_609 : Cond.code ⟨"java/util/NoSuchElementException", "<init>", "(Ljava/lang/String;)V"⟩ prog_40_method_4_code 2 none ∈ LW := LWm (tb3 (List.mem_of_getElem? (i := 129) (by decide +kernel))) rfl
theorem mw_610 : Cond.methodLink "java/util/NoSuchElementException" 13 ⟨"java/lang/RuntimeException", "<init>", "(Ljava/lang/String;)V"⟩ ∈ LW := LWm (tb3 (List.mem_of_getElem? (i := 130) (by decide +kernel))) rfl
theorem mw_613 : Cond.methodLinkNest RX9 288 yX1_latestDetail RX9 ∈ NW := NWm (tb3 (List.mem_of_getElem? (i := 133) (by decide +kernel))) rfl
theorem mw_615 : Cond.instanceMethod yX1_latestDetail ∈ LW := LWm (tb3 (List.mem_of_getElem? (i := 135) (by decide +kernel))) rfl
theorem mw_616 : Cond.code yX1_latestDetail cX1_latestDetail 1 (some .int) ∈ LW := LWm (tb3 (List.mem_of_getElem? (i := 136) (by decide +kernel))) rfl
theorem mw_617 : Cond.methodLinkNest RX9 291 yX1_latestReason RX9 ∈ NW := NWm (tb3 (List.mem_of_getElem? (i := 137) (by decide +kernel))) rfl
theorem mw_619 : Cond.instanceMethod yX1_latestReason ∈ LW := LWm (tb3 (List.mem_of_getElem? (i := 139) (by decide +kernel))) rfl
theorem mw_620 : Cond.code yX1_latestReason cX1_latestReason 1 (some .int) ∈ LW := LWm (tb3 (List.mem_of_getElem? (i := 140) (by decide +kernel))) rfl
theorem mw_621 : Cond.methodLink RL 147 yX9_account ∈ LW := LWm (tb3 (List.mem_of_getElem? (i := 141) (by decide +kernel))) rfl
theorem mw_622 : Cond.instanceMethod yX9_account ∈ LW := LWm (tb3 (List.mem_of_getElem? (i := 142) (by decide +kernel))) rfl
theorem mw_623 : Cond.selects RX9 yX9_account yX9_account ∈ LW := LWm (tb3 (List.mem_of_getElem? (i := 143) (by decide +kernel))) rfl
theorem mw_624 : Cond.code yX9_account cX9_account 2 (some .int) ∈ LW := LWm (tb3 (List.mem_of_getElem? (i := 144) (by decide +kernel))) rfl
theorem mw_625 : Cond.methodLinkNest RX9 294 yX5_countOfBars RX9 ∈ NW := NWm (tb3 (List.mem_of_getElem? (i := 145) (by decide +kernel))) rfl
theorem mw_626 : Cond.methodLinkNest RX9 297 yX5_allBeats RX9 ∈ NW := NWm (tb3 (List.mem_of_getElem? (i := 146) (by decide +kernel))) rfl
theorem mw_628 : Cond.instanceMethod yX5_allBeats ∈ LW := LWm (tb3 (List.mem_of_getElem? (i := 148) (by decide +kernel))) rfl
theorem mw_629 : Cond.code yX5_allBeats cX5_allBeats 1 (some .int) ∈ LW := LWm (tb3 (List.mem_of_getElem? (i := 149) (by decide +kernel))) rfl
theorem mw_630 : Cond.methodLinkNest RX9 300 yX5_filledBeats RX9 ∈ NW := NWm (tb3 (List.mem_of_getElem? (i := 150) (by decide +kernel))) rfl
theorem mw_632 : Cond.instanceMethod yX5_filledBeats ∈ LW := LWm (tb3 (List.mem_of_getElem? (i := 152) (by decide +kernel))) rfl
theorem mw_633 : Cond.code yX5_filledBeats cX5_filledBeats 1 (some .int) ∈ LW := LWm (tb3 (List.mem_of_getElem? (i := 153) (by decide +kernel))) rfl
theorem mw_634 : Cond.methodLinkNest RX9 303 yX5_countOfSounds RX9 ∈ NW := NWm (tb3 (List.mem_of_getElem? (i := 154) (by decide +kernel))) rfl
theorem mw_635 : Cond.methodLinkNest RX9 306 yX5_countOfRests RX9 ∈ NW := NWm (tb3 (List.mem_of_getElem? (i := 155) (by decide +kernel))) rfl
theorem mw_637 : Cond.instanceMethod yX5_countOfRests ∈ LW := LWm (tb3 (List.mem_of_getElem? (i := 157) (by decide +kernel))) rfl
theorem mw_638 : Cond.code yX5_countOfRests cX5_countOfRests 3 (some .int) ∈ LW := LWm (tb3 (List.mem_of_getElem? (i := 158) (by decide +kernel))) rfl
theorem mw_639 : Cond.methodLink RX5 62 yX5_isRest ∈ LW := LWm (tb3 (List.mem_of_getElem? (i := 159) (by decide +kernel))) rfl
theorem mw_640 : Cond.methodLinkNest RX9 309 yX5_allParts RX9 ∈ NW := NWm (tb3 (List.mem_of_getElem? (i := 160) (by decide +kernel))) rfl
theorem mw_642 : Cond.instanceMethod yX5_allParts ∈ LW := LWm (tb3 (List.mem_of_getElem? (i := 162) (by decide +kernel))) rfl
theorem mw_643 : Cond.code yX5_allParts cX5_allParts 3 (some .int) ∈ LW := LWm (tb3 (List.mem_of_getElem? (i := 163) (by decide +kernel))) rfl
theorem mw_644 : Cond.methodLink RX5 88 yX5_partsOfBar ∈ LW := LWm (tb3 (List.mem_of_getElem? (i := 164) (by decide +kernel))) rfl
theorem mw_646 : Cond.instanceMethod yX5_partsOfBar ∈ LW := LWm (tb3 (List.mem_of_getElem? (i := 166) (by decide +kernel))) rfl
theorem mw_647 : Cond.code yX5_partsOfBar cX5_partsOfBar 4 (some .int) ∈ LW := LWm (tb3 (List.mem_of_getElem? (i := 167) (by decide +kernel))) rfl
theorem mw_648 : Cond.methodLink RX5 85 yX5_overlap ∈ LW := LWm (tb3 (List.mem_of_getElem? (i := 168) (by decide +kernel))) rfl
theorem mw_650 : Cond.instanceMethod yX5_overlap ∈ LW := LWm (tb3 (List.mem_of_getElem? (i := 170) (by decide +kernel))) rfl
theorem mw_651 : Cond.code yX5_overlap cX5_overlap 7 (some .int) ∈ LW := LWm (tb3 (List.mem_of_getElem? (i := 171) (by decide +kernel))) rfl
theorem mw_652 : Cond.methodLink RX5 73 yJ9_min_7cf53 ∈ LW := LWm (tb3 (List.mem_of_getElem? (i := 172) (by decide +kernel))) rfl
theorem mw_653 : Cond.methodLink RX5 79 yJ9_max_7cf53 ∈ LW := LWm (tb3 (List.mem_of_getElem? (i := 173) (by decide +kernel))) rfl
theorem mw_654 : Cond.static yJ9_max_7cf53 ∈ LW := LWm (tb3 (List.mem_of_getElem? (i := 174) (by decide +kernel))) rfl
theorem mw_655 : Cond.code yJ9_max_7cf53 cJ9_max_7cf53 2 (some .int) ∈ LW := LWm (tb3 (List.mem_of_getElem? (i := 175) (by decide +kernel))) rfl
theorem mw_656 : Cond.methodLinkNest RX9 312 yX5_limitNow RX9 ∈ NW := NWm (tb3 (List.mem_of_getElem? (i := 176) (by decide +kernel))) rfl
theorem mw_657 : Cond.methodLinkNest RX9 315 yX5_setSoFar RX9 ∈ NW := NWm (tb3 (List.mem_of_getElem? (i := 177) (by decide +kernel))) rfl
theorem mw_659 : Cond.instanceMethod yX5_setSoFar ∈ LW := LWm (tb3 (List.mem_of_getElem? (i := 179) (by decide +kernel))) rfl
theorem mw_660 : Cond.code yX5_setSoFar cX5_setSoFar 1 (some .int) ∈ LW := LWm (tb3 (List.mem_of_getElem? (i := 180) (by decide +kernel))) rfl
theorem mw_661 : Cond.methodLinkNest RX9 318 yX5_takenSoFar RX9 ∈ NW := NWm (tb3 (List.mem_of_getElem? (i := 181) (by decide +kernel))) rfl
theorem mw_663 : Cond.instanceMethod yX5_takenSoFar ∈ LW := LWm (tb3 (List.mem_of_getElem? (i := 183) (by decide +kernel))) rfl
theorem mw_664 : Cond.code yX5_takenSoFar cX5_takenSoFar 1 (some .int) ∈ LW := LWm (tb3 (List.mem_of_getElem? (i := 184) (by decide +kernel))) rfl
theorem mw_665 : Cond.methodLinkNest RX9 321 yX8_countOfSigns RX9 ∈ NW := NWm (tb3 (List.mem_of_getElem? (i := 185) (by decide +kernel))) rfl
theorem mw_667 : Cond.instanceMethod yX8_countOfSigns ∈ LW := LWm (tb3 (List.mem_of_getElem? (i := 187) (by decide +kernel))) rfl
theorem mw_668 : Cond.code yX8_countOfSigns cX8_countOfSigns 1 (some .int) ∈ LW := LWm (tb3 (List.mem_of_getElem? (i := 188) (by decide +kernel))) rfl
theorem mw_669 : Cond.methodLinkNest RX9 324 yX0_countOfChanges RX9 ∈ NW := NWm (tb3 (List.mem_of_getElem? (i := 189) (by decide +kernel))) rfl
theorem mw_671 : Cond.instanceMethod yX0_countOfChanges ∈ LW := LWm (tb3 (List.mem_of_getElem? (i := 191) (by decide +kernel))) rfl
theorem mw_672 : Cond.code yX0_countOfChanges cX0_countOfChanges 1 (some .int) ∈ LW := LWm (tb3 (List.mem_of_getElem? (i := 192) (by decide +kernel))) rfl
theorem mw_673 : Cond.methodLink RL 150 yL_limit ∈ LW := LWm (tb3 (List.mem_of_getElem? (i := 193) (by decide +kernel))) rfl
theorem mw_674 : Cond.static yL_limit ∈ LW := LWm (tb3 (List.mem_of_getElem? (i := 194) (by decide +kernel))) rfl
theorem mw_675 : Cond.codeWith yL_limit cL_limit 3 (some .int) [(0, 5, 6, 14), (0, 5, 10, 16)] ∈ LW := LWm (tb3 (List.mem_of_getElem? (i := 195) rfl)) rfl
theorem mw_676 : Cond.methodLink RL 38 yX9_limit ∈ LW := LWm (tb3 (List.mem_of_getElem? (i := 196) (by decide +kernel))) rfl
theorem mw_677 : Cond.instanceMethod yX9_limit ∈ LW := LWm (tb3 (List.mem_of_getElem? (i := 197) (by decide +kernel))) rfl
theorem mw_678 : Cond.selects RX9 yX9_limit yX9_limit ∈ LW := LWm (tb3 (List.mem_of_getElem? (i := 198) (by decide +kernel))) rfl
theorem mw_679 : Cond.code yX9_limit cX9_limit 2 (some .int) ∈ LW := LWm (tb3 (List.mem_of_getElem? (i := 199) (by decide +kernel))) rfl
theorem mw_680 : Cond.fieldLink RX9 102 "TinRoofScore$Order" "LIMIT" "LTinRoofScore$Order;" ∈ LW := LWm (tb3 (List.mem_of_getElem? (i := 200) (by decide +kernel))) rfl
theorem mw_681 : Cond.methodLink RL 182 yL_parts ∈ LW := LWm (tb3 (List.mem_of_getElem? (i := 201) (by decide +kernel))) rfl
theorem mw_682 : Cond.static yL_parts ∈ LW := LWm (tb3 (List.mem_of_getElem? (i := 202) (by decide +kernel))) rfl
theorem mw_683 : Cond.code yL_parts cL_parts 14 (some .boolean) ∈ LW := LWm (tb3 (List.mem_of_getElem? (i := 203) rfl)) rfl
theorem mw_684 : Cond.methodLink RL 202 yL_sounds ∈ LW := LWm (tb3 (List.mem_of_getElem? (i := 204) (by decide +kernel))) rfl
theorem mw_685 : Cond.static yL_sounds ∈ LW := LWm (tb3 (List.mem_of_getElem? (i := 205) (by decide +kernel))) rfl
theorem mw_686 : Cond.code yL_sounds cL_sounds 13 (some (.array (.array .int))) ∈ LW := LWm (tb3 (List.mem_of_getElem? (i := 206) rfl)) rfl
theorem mw_687 : Cond.classLink RL 152 "[[I" ∈ LW := LWm (tb3 (List.mem_of_getElem? (i := 207) (by decide +kernel))) rfl
theorem mw_689 : Cond.methodLink RL 154 yL_of ∈ LW := LWm (tb3 (List.mem_of_getElem? (i := 209) (by decide +kernel))) rfl
theorem mw_690 : Cond.static yL_of ∈ LW := LWm (tb3 (List.mem_of_getElem? (i := 210) (by decide +kernel))) rfl
theorem mw_691 : Cond.codeWith yL_of cL_of 4 (some .int) [(0, 6, 7, 22), (0, 6, 11, 14)] ∈ LW := LWm (tb3 (List.mem_of_getElem? (i := 211) rfl)) rfl
theorem mw_692 : Cond.methodLink RL 47 yX9_soundOf ∈ LW := LWm (tb3 (List.mem_of_getElem? (i := 212) (by decide +kernel))) rfl
theorem mw_693 : Cond.instanceMethod yX9_soundOf ∈ LW := LWm (tb3 (List.mem_of_getElem? (i := 213) (by decide +kernel))) rfl
theorem mw_694 : Cond.selects RX9 yX9_soundOf yX9_soundOf ∈ LW := LWm (tb3 (List.mem_of_getElem? (i := 214) (by decide +kernel))) rfl
theorem mw_695 : Cond.code yX9_soundOf cX9_soundOf 3 (some .int) ∈ LW := LWm (tb3 (List.mem_of_getElem? (i := 215) (by decide +kernel))) rfl
theorem mw_696 : Cond.methodLinkNest RX9 137 yX5_hasSound RX9 ∈ NW := NWm (tb3 (List.mem_of_getElem? (i := 216) (by decide +kernel))) rfl
theorem mw_697 : Cond.methodLinkNest RX9 140 yX5_tinOfSound RX9 ∈ NW := NWm (tb3 (List.mem_of_getElem? (i := 217) (by decide +kernel))) rfl
theorem mw_699 : Cond.instanceMethod yX5_tinOfSound ∈ LW := LWm (tb3 (List.mem_of_getElem? (i := 219) (by decide +kernel))) rfl
theorem mw_700 : Cond.code yX5_tinOfSound cX5_tinOfSound 2 (some .int) ∈ LW := LWm (tb3 (List.mem_of_getElem? (i := 220) (by decide +kernel))) rfl
theorem mw_701 : Cond.methodLinkNest RX9 143 yX5_heightOf RX9 ∈ NW := NWm (tb3 (List.mem_of_getElem? (i := 221) (by decide +kernel))) rfl
theorem mw_702 : Cond.methodLinkNest RX9 146 yX5_beatsOf RX9 ∈ NW := NWm (tb3 (List.mem_of_getElem? (i := 222) (by decide +kernel))) rfl
theorem mw_703 : Cond.methodLinkNest RX9 149 yX5_pitchOf RX9 ∈ NW := NWm (tb3 (List.mem_of_getElem? (i := 223) (by decide +kernel))) rfl
theorem mw_705 : Cond.instanceMethod yX5_pitchOf ∈ LW := LWm (tb3 (List.mem_of_getElem? (i := 225) (by decide +kernel))) rfl
theorem mw_706 : Cond.code yX5_pitchOf cX5_pitchOf 4 (some .int) ∈ LW := LWm (tb3 (List.mem_of_getElem? (i := 226) (by decide +kernel))) rfl
theorem mw_707 : Cond.methodLinkNest RX9 152 yX5_partsOfSound RX9 ∈ NW := NWm (tb3 (List.mem_of_getElem? (i := 227) (by decide +kernel))) rfl
theorem mw_709 : Cond.instanceMethod yX5_partsOfSound ∈ LW := LWm (tb3 (List.mem_of_getElem? (i := 229) (by decide +kernel))) rfl
theorem mw_710 : Cond.code yX5_partsOfSound cX5_partsOfSound 3 (some .int) ∈ LW := LWm (tb3 (List.mem_of_getElem? (i := 230) (by decide +kernel))) rfl
theorem mw_711 : Cond.methodLink RX5 82 yX5_barAt ∈ LW := LWm (tb3 (List.mem_of_getElem? (i := 231) (by decide +kernel))) rfl
theorem mw_713 : Cond.instanceMethod yX5_barAt ∈ LW := LWm (tb3 (List.mem_of_getElem? (i := 233) (by decide +kernel))) rfl
theorem mw_714 : Cond.code yX5_barAt cX5_barAt 4 (some .int) ∈ LW := LWm (tb3 (List.mem_of_getElem? (i := 234) (by decide +kernel))) rfl
theorem mw_715 : Cond.methodLinkNest RX9 155 yX5_startOfSound RX9 ∈ NW := NWm (tb3 (List.mem_of_getElem? (i := 235) (by decide +kernel))) rfl
theorem mw_716 : Cond.methodLinkNest RX9 158 yX5_barAt RX9 ∈ NW := NWm (tb3 (List.mem_of_getElem? (i := 236) (by decide +kernel))) rfl
theorem mw_717 : Cond.methodLink RL 157 yL_tinOf ∈ LW := LWm (tb3 (List.mem_of_getElem? (i := 237) (by decide +kernel))) rfl
theorem mw_718 : Cond.static yL_tinOf ∈ LW := LWm (tb3 (List.mem_of_getElem? (i := 238) (by decide +kernel))) rfl
theorem mw_719 : Cond.codeWith yL_tinOf cL_tinOf 4 (some .int) [(0, 6, 7, 22), (0, 6, 11, 14)] ∈ LW := LWm (tb3 (List.mem_of_getElem? (i := 239) rfl)) rfl
theorem mw_720 : Cond.methodLink RL 44 yX9_tinOf ∈ LW := LWm (tb4 (List.mem_of_getElem? (i := 0) (by decide +kernel))) rfl
theorem mw_721 : Cond.instanceMethod yX9_tinOf ∈ LW := LWm (tb4 (List.mem_of_getElem? (i := 1) (by decide +kernel))) rfl
theorem mw_722 : Cond.selects RX9 yX9_tinOf yX9_tinOf ∈ LW := LWm (tb4 (List.mem_of_getElem? (i := 2) (by decide +kernel))) rfl
theorem mw_723 : Cond.code yX9_tinOf cX9_tinOf 3 (some .int) ∈ LW := LWm (tb4 (List.mem_of_getElem? (i := 3) (by decide +kernel))) rfl
theorem mw_724 : Cond.methodLink RX9 108 yX9_isTin ∈ LW := LWm (tb4 (List.mem_of_getElem? (i := 4) (by decide +kernel))) rfl
theorem mw_725 : Cond.methodLinkNest RX9 123 yX5_keyOf RX9 ∈ NW := NWm (tb4 (List.mem_of_getElem? (i := 5) (by decide +kernel))) rfl
theorem mw_726 : Cond.methodLinkNest RX9 127 yX5_leakOf RX9 ∈ NW := NWm (tb4 (List.mem_of_getElem? (i := 6) (by decide +kernel))) rfl
theorem mw_727 : Cond.methodLinkNest RX9 130 yX5_countOfTin RX9 ∈ NW := NWm (tb4 (List.mem_of_getElem? (i := 7) (by decide +kernel))) rfl
theorem mw_729 : Cond.instanceMethod yX5_countOfTin ∈ LW := LWm (tb4 (List.mem_of_getElem? (i := 9) (by decide +kernel))) rfl
theorem mw_730 : Cond.code yX5_countOfTin cX5_countOfTin 5 (some .int) ∈ LW := LWm (tb4 (List.mem_of_getElem? (i := 10) (by decide +kernel))) rfl
theorem mw_731 : Cond.methodLinkNest RX9 134 yX5_beatsOfTin RX9 ∈ NW := NWm (tb4 (List.mem_of_getElem? (i := 11) (by decide +kernel))) rfl
theorem mw_733 : Cond.instanceMethod yX5_beatsOfTin ∈ LW := LWm (tb4 (List.mem_of_getElem? (i := 13) (by decide +kernel))) rfl
theorem mw_734 : Cond.code yX5_beatsOfTin cX5_beatsOfTin 4 (some .int) ∈ LW := LWm (tb4 (List.mem_of_getElem? (i := 14) (by decide +kernel))) rfl
theorem mw_735 : Cond.methodLink RL 159 yL_barOf ∈ LW := LWm (tb4 (List.mem_of_getElem? (i := 15) (by decide +kernel))) rfl
theorem mw_736 : Cond.static yL_barOf ∈ LW := LWm (tb4 (List.mem_of_getElem? (i := 16) (by decide +kernel))) rfl
theorem mw_737 : Cond.codeWith yL_barOf cL_barOf 4 (some .int) [(0, 6, 7, 22), (0, 6, 11, 14)] ∈ LW := LWm (tb4 (List.mem_of_getElem? (i := 17) rfl)) rfl
theorem mw_738 : Cond.methodLink RL 50 yX9_barOf ∈ LW := LWm (tb4 (List.mem_of_getElem? (i := 18) (by decide +kernel))) rfl
theorem mw_739 : Cond.instanceMethod yX9_barOf ∈ LW := LWm (tb4 (List.mem_of_getElem? (i := 19) (by decide +kernel))) rfl
theorem mw_740 : Cond.selects RX9 yX9_barOf yX9_barOf ∈ LW := LWm (tb4 (List.mem_of_getElem? (i := 20) (by decide +kernel))) rfl
theorem mw_741 : Cond.code yX9_barOf cX9_barOf 3 (some .int) ∈ LW := LWm (tb4 (List.mem_of_getElem? (i := 21) (by decide +kernel))) rfl
theorem mw_742 : Cond.methodLinkNest RX9 161 yX5_hasBar RX9 ∈ NW := NWm (tb4 (List.mem_of_getElem? (i := 22) (by decide +kernel))) rfl
theorem mw_744 : Cond.instanceMethod yX5_hasBar ∈ LW := LWm (tb4 (List.mem_of_getElem? (i := 24) (by decide +kernel))) rfl
theorem mw_745 : Cond.code yX5_hasBar cX5_hasBar 2 (some .boolean) ∈ LW := LWm (tb4 (List.mem_of_getElem? (i := 25) (by decide +kernel))) rfl
theorem mw_746 : Cond.methodLinkNest RX9 164 yX5_sizeOf RX9 ∈ NW := NWm (tb4 (List.mem_of_getElem? (i := 26) (by decide +kernel))) rfl
theorem mw_748 : Cond.instanceMethod yX5_sizeOf ∈ LW := LWm (tb4 (List.mem_of_getElem? (i := 28) (by decide +kernel))) rfl
theorem mw_749 : Cond.code yX5_sizeOf cX5_sizeOf 2 (some .int) ∈ LW := LWm (tb4 (List.mem_of_getElem? (i := 29) (by decide +kernel))) rfl
theorem mw_750 : Cond.methodLinkNest RX9 167 yX5_filledOfBar RX9 ∈ NW := NWm (tb4 (List.mem_of_getElem? (i := 30) (by decide +kernel))) rfl
theorem mw_752 : Cond.instanceMethod yX5_filledOfBar ∈ LW := LWm (tb4 (List.mem_of_getElem? (i := 32) (by decide +kernel))) rfl
theorem mw_753 : Cond.code yX5_filledOfBar cX5_filledOfBar 3 (some .int) ∈ LW := LWm (tb4 (List.mem_of_getElem? (i := 33) (by decide +kernel))) rfl
theorem mw_754 : Cond.methodLink RX5 91 yX5_filledBeats ∈ LW := LWm (tb4 (List.mem_of_getElem? (i := 34) (by decide +kernel))) rfl
theorem mw_755 : Cond.methodLinkNest RX9 170 yX5_partsOfBar RX9 ∈ NW := NWm (tb4 (List.mem_of_getElem? (i := 35) (by decide +kernel))) rfl
theorem mw_756 : Cond.methodLinkNest RX9 173 yX5_beginningsIn RX9 ∈ NW := NWm (tb4 (List.mem_of_getElem? (i := 36) (by decide +kernel))) rfl
theorem mw_758 : Cond.instanceMethod yX5_beginningsIn ∈ LW := LWm (tb4 (List.mem_of_getElem? (i := 38) (by decide +kernel))) rfl
theorem mw_759 : Cond.code yX5_beginningsIn cX5_beginningsIn 4 (some .int) ∈ LW := LWm (tb4 (List.mem_of_getElem? (i := 39) (by decide +kernel))) rfl
theorem mw_760 : Cond.methodLinkNest RX9 176 yX5_startOfBar RX9 ∈ NW := NWm (tb4 (List.mem_of_getElem? (i := 40) (by decide +kernel))) rfl
theorem mw_761 : Cond.methodLink RL 206 yJ9_max_7cf53 ∈ LW := LWm (tb4 (List.mem_of_getElem? (i := 41) (by decide +kernel))) rfl
theorem mw_762 : Cond.methodLink RL 209 yJ9_min_7cf53 ∈ LW := LWm (tb4 (List.mem_of_getElem? (i := 42) (by decide +kernel))) rfl
theorem mw_763 : Cond.methodLink RL 212 yL_part ∈ LW := LWm (tb4 (List.mem_of_getElem? (i := 43) (by decide +kernel))) rfl
theorem mw_764 : Cond.static yL_part ∈ LW := LWm (tb4 (List.mem_of_getElem? (i := 44) (by decide +kernel))) rfl
theorem mw_765 : Cond.codeWith yL_part cL_part 5 (some .int) [(0, 7, 8, 22), (0, 7, 13, 14)] ∈ LW := LWm (tb4 (List.mem_of_getElem? (i := 45) rfl)) rfl
theorem mw_766 : Cond.methodLink RL 53 yX9_partOf ∈ LW := LWm (tb4 (List.mem_of_getElem? (i := 46) (by decide +kernel))) rfl
theorem mw_767 : Cond.instanceMethod yX9_partOf ∈ LW := LWm (tb4 (List.mem_of_getElem? (i := 47) (by decide +kernel))) rfl
theorem mw_768 : Cond.selects RX9 yX9_partOf yX9_partOf ∈ LW := LWm (tb4 (List.mem_of_getElem? (i := 48) (by decide +kernel))) rfl
theorem mw_769 : Cond.code yX9_partOf cX9_partOf 5 (some .int) ∈ LW := LWm (tb4 (List.mem_of_getElem? (i := 49) (by decide +kernel))) rfl
theorem mw_770 : Cond.methodLinkNest RX9 179 yX5_soundOfPart RX9 ∈ NW := NWm (tb4 (List.mem_of_getElem? (i := 50) (by decide +kernel))) rfl
theorem mw_772 : Cond.instanceMethod yX5_soundOfPart ∈ LW := LWm (tb4 (List.mem_of_getElem? (i := 52) (by decide +kernel))) rfl
theorem mw_773 : Cond.code yX5_soundOfPart cX5_soundOfPart 5 (some .int) ∈ LW := LWm (tb4 (List.mem_of_getElem? (i := 53) (by decide +kernel))) rfl
theorem mw_774 : Cond.methodLinkNest RX9 183 yX5_overlap RX9 ∈ NW := NWm (tb4 (List.mem_of_getElem? (i := 54) (by decide +kernel))) rfl
theorem mw_775 : Cond.methodLinkNest RX9 186 yX5_isTied RX9 ∈ NW := NWm (tb4 (List.mem_of_getElem? (i := 55) (by decide +kernel))) rfl
theorem mw_777 : Cond.instanceMethod yX5_isTied ∈ LW := LWm (tb4 (List.mem_of_getElem? (i := 57) (by decide +kernel))) rfl
theorem mw_778 : Cond.code yX5_isTied cX5_isTied 3 (some .boolean) ∈ LW := LWm (tb4 (List.mem_of_getElem? (i := 58) (by decide +kernel))) rfl
theorem mw_779 : Cond.methodLink RL 215 yL_at ∈ LW := LWm (tb4 (List.mem_of_getElem? (i := 59) (by decide +kernel))) rfl
theorem mw_780 : Cond.static yL_at ∈ LW := LWm (tb4 (List.mem_of_getElem? (i := 60) (by decide +kernel))) rfl
theorem mw_781 : Cond.codeWith yL_at cL_at 3 (some .int) [(0, 5, 6, 59)] ∈ LW := LWm (tb4 (List.mem_of_getElem? (i := 61) rfl)) rfl
theorem mw_782 : Cond.methodLink RL 56 yX9_at ∈ LW := LWm (tb4 (List.mem_of_getElem? (i := 62) (by decide +kernel))) rfl
theorem mw_783 : Cond.instanceMethod yX9_at ∈ LW := LWm (tb4 (List.mem_of_getElem? (i := 63) (by decide +kernel))) rfl
theorem mw_784 : Cond.selects RX9 yX9_at yX9_at ∈ LW := LWm (tb4 (List.mem_of_getElem? (i := 64) (by decide +kernel))) rfl
theorem mw_785 : Cond.code yX9_at cX9_at 2 (some .int) ∈ LW := LWm (tb4 (List.mem_of_getElem? (i := 65) (by decide +kernel))) rfl
theorem mw_786 : Cond.methodLinkNest RX9 190 yX5_soundAt RX9 ∈ NW := NWm (tb4 (List.mem_of_getElem? (i := 66) (by decide +kernel))) rfl
theorem mw_788 : Cond.instanceMethod yX5_soundAt ∈ LW := LWm (tb4 (List.mem_of_getElem? (i := 68) (by decide +kernel))) rfl
theorem mw_789 : Cond.code yX5_soundAt cX5_soundAt 4 (some .int) ∈ LW := LWm (tb4 (List.mem_of_getElem? (i := 69) (by decide +kernel))) rfl
theorem mw_790 : Cond.methodLink RX9 193 yX9_found ∈ LW := LWm (tb4 (List.mem_of_getElem? (i := 70) (by decide +kernel))) rfl
theorem mw_791 : Cond.static yX9_found ∈ LW := LWm (tb4 (List.mem_of_getElem? (i := 71) (by decide +kernel))) rfl
theorem mw_792 : Cond.code yX9_found cX9_found 1 (some .int) ∈ LW := LWm (tb4 (List.mem_of_getElem? (i := 72) (by decide +kernel))) rfl
theorem mw_793 : Cond.methodLink RL 186 yL_faulty ∈ LW := LWm (tb4 (List.mem_of_getElem? (i := 73) (by decide +kernel))) rfl
theorem mw_794 : Cond.static yL_faulty ∈ LW := LWm (tb4 (List.mem_of_getElem? (i := 74) (by decide +kernel))) rfl
theorem mw_795 : Cond.code yL_faulty cL_faulty 8 (some .boolean) ∈ LW := LWm (tb4 (List.mem_of_getElem? (i := 75) rfl)) rfl
theorem mw_796 : Cond.methodLink RL 174 yL_faultsOf ∈ LW := LWm (tb4 (List.mem_of_getElem? (i := 76) (by decide +kernel))) rfl
theorem mw_797 : Cond.static yL_faultsOf ∈ LW := LWm (tb4 (List.mem_of_getElem? (i := 77) (by decide +kernel))) rfl
theorem mw_798 : Cond.code yL_faultsOf cL_faultsOf 5 (some .int) ∈ LW := LWm (tb4 (List.mem_of_getElem? (i := 78) rfl)) rfl
theorem mw_799 : Cond.methodLink RL 170 yL_isFault ∈ LW := LWm (tb4 (List.mem_of_getElem? (i := 79) (by decide +kernel))) rfl
theorem mw_800 : Cond.static yL_isFault ∈ LW := LWm (tb4 (List.mem_of_getElem? (i := 80) (by decide +kernel))) rfl
theorem mw_801 : Cond.code yL_isFault cL_isFault 10 (some .boolean) ∈ LW := LWm (tb4 (List.mem_of_getElem? (i := 81) rfl)) rfl
theorem mw_802 : Cond.methodLink RL 161 yL_ahead ∈ LW := LWm (tb4 (List.mem_of_getElem? (i := 82) (by decide +kernel))) rfl
theorem mw_803 : Cond.static yL_ahead ∈ LW := LWm (tb4 (List.mem_of_getElem? (i := 83) (by decide +kernel))) rfl
theorem mw_804 : Cond.code yL_ahead cL_ahead 5 (some (.array .int)) ∈ LW := LWm (tb4 (List.mem_of_getElem? (i := 84) rfl)) rfl
theorem mw_805 : Cond.methodLink RL 165 yJ9_abs_0f7a4 ∈ LW := LWm (tb4 (List.mem_of_getElem? (i := 85) (by decide +kernel))) rfl
theorem mw_806 : Cond.static yJ9_abs_0f7a4 ∈ LW := LWm (tb4 (List.mem_of_getElem? (i := 86) (by decide +kernel))) rfl
theorem mw_807 : Cond.code yJ9_abs_0f7a4 cJ9_abs_0f7a4 1 (some .int) ∈ LW := LWm (tb4 (List.mem_of_getElem? (i := 87) (by decide +kernel))) rfl
theorem mw_808 : Cond.methodLink RL 217 yL_faults ∈ LW := LWm (tb4 (List.mem_of_getElem? (i := 88) (by decide +kernel))) rfl
theorem mw_809 : Cond.static yL_faults ∈ LW := LWm (tb4 (List.mem_of_getElem? (i := 89) (by decide +kernel))) rfl
theorem mw_810 : Cond.codeWith yL_faults cL_faults 4 (some .int) [(0, 6, 7, 14)] ∈ LW := LWm (tb4 (List.mem_of_getElem? (i := 90) rfl)) rfl
theorem mw_811 : Cond.methodLink RL 61 yX9_faults ∈ LW := LWm (tb4 (List.mem_of_getElem? (i := 91) (by decide +kernel))) rfl
theorem mw_812 : Cond.instanceMethod yX9_faults ∈ LW := LWm (tb4 (List.mem_of_getElem? (i := 92) (by decide +kernel))) rfl
theorem mw_813 : Cond.selects RX9 yX9_faults yX9_faults ∈ LW := LWm (tb4 (List.mem_of_getElem? (i := 93) (by decide +kernel))) rfl
theorem mw_814 : Cond.code yX9_faults cX9_faults 3 (some .int) ∈ LW := LWm (tb4 (List.mem_of_getElem? (i := 94) (by decide +kernel))) rfl
theorem mw_815 : Cond.methodLinkNest RX9 196 yX6_countByBeats RX9 ∈ NW := NWm (tb4 (List.mem_of_getElem? (i := 95) (by decide +kernel))) rfl
theorem mw_817 : Cond.instanceMethod yX6_countByBeats ∈ LW := LWm (tb4 (List.mem_of_getElem? (i := 97) (by decide +kernel))) rfl
theorem mw_818 : Cond.code yX6_countByBeats cX6_countByBeats 2 (some .int) ∈ LW := LWm (tb4 (List.mem_of_getElem? (i := 98) (by decide +kernel))) rfl
theorem mw_819 : Cond.methodLink RX6 72 yX6_restsAtBars ∈ LW := LWm (tb4 (List.mem_of_getElem? (i := 99) (by decide +kernel))) rfl
theorem mw_821 : Cond.instanceMethod yX6_restsAtBars ∈ LW := LWm (tb4 (List.mem_of_getElem? (i := 101) (by decide +kernel))) rfl
theorem mw_822 : Cond.code yX6_restsAtBars cX6_restsAtBars 5 (some .int) ∈ LW := LWm (tb4 (List.mem_of_getElem? (i := 102) (by decide +kernel))) rfl
theorem mw_823 : Cond.methodLinkNest RX6 81 yX5_filledBeats RX9 ∈ NW := NWm (tb4 (List.mem_of_getElem? (i := 103) (by decide +kernel))) rfl
theorem mw_824 : Cond.methodLinkNest RX6 84 yX5_barAt RX9 ∈ NW := NWm (tb4 (List.mem_of_getElem? (i := 104) (by decide +kernel))) rfl
theorem mw_825 : Cond.methodLinkNest RX6 21 yX5_soundAt RX9 ∈ NW := NWm (tb4 (List.mem_of_getElem? (i := 105) (by decide +kernel))) rfl
theorem mw_826 : Cond.methodLinkNest RX6 24 yX5_isRest RX9 ∈ NW := NWm (tb4 (List.mem_of_getElem? (i := 106) (by decide +kernel))) rfl
theorem mw_827 : Cond.methodLink RX6 75 yX6_pitchesByBeats ∈ LW := LWm (tb4 (List.mem_of_getElem? (i := 107) (by decide +kernel))) rfl
theorem mw_829 : Cond.instanceMethod yX6_pitchesByBeats ∈ LW := LWm (tb4 (List.mem_of_getElem? (i := 109) (by decide +kernel))) rfl
theorem mw_830 : Cond.code yX6_pitchesByBeats cX6_pitchesByBeats 11 (some .int) ∈ LW := LWm (tb4 (List.mem_of_getElem? (i := 110) (by decide +kernel))) rfl
theorem mw_831 : Cond.methodLinkNest RX6 44 yX5_pitchOf RX9 ∈ NW := NWm (tb4 (List.mem_of_getElem? (i := 111) (by decide +kernel))) rfl
theorem mw_832 : Cond.methodLink RX6 47 yJ9_abs_0f7a4 ∈ LW := LWm (tb4 (List.mem_of_getElem? (i := 112) (by decide +kernel))) rfl
theorem mw_833 : Cond.methodLinkNest RX6 52 yX5_limitNow RX9 ∈ NW := NWm (tb4 (List.mem_of_getElem? (i := 113) (by decide +kernel))) rfl
theorem mw_834 : Cond.methodLink RX6 78 yX6_tiesByBeats ∈ LW := LWm (tb4 (List.mem_of_getElem? (i := 114) (by decide +kernel))) rfl
theorem mw_836 : Cond.instanceMethod yX6_tiesByBeats ∈ LW := LWm (tb4 (List.mem_of_getElem? (i := 116) (by decide +kernel))) rfl
theorem mw_837 : Cond.code yX6_tiesByBeats cX6_tiesByBeats 7 (some .int) ∈ LW := LWm (tb4 (List.mem_of_getElem? (i := 117) (by decide +kernel))) rfl
theorem mw_838 : Cond.methodLink RX6 40 yX6_mostParts ∈ LW := LWm (tb4 (List.mem_of_getElem? (i := 118) (by decide +kernel))) rfl
theorem mw_839 : Cond.static yX6_mostParts ∈ LW := LWm (tb4 (List.mem_of_getElem? (i := 119) (by decide +kernel))) rfl
theorem mw_840 : Cond.code yX6_mostParts cX6_mostParts 1 (some .int) ∈ LW := LWm (tb4 (List.mem_of_getElem? (i := 120) (by decide +kernel))) rfl
theorem mw_841 : Cond.methodLinkNest RX9 199 yX6_count RX9 ∈ NW := NWm (tb4 (List.mem_of_getElem? (i := 121) (by decide +kernel))) rfl
theorem mw_843 : Cond.instanceMethod yX6_count ∈ LW := LWm (tb4 (List.mem_of_getElem? (i := 123) (by decide +kernel))) rfl
theorem mw_844 : Cond.code yX6_count cX6_count 5 (some .int) ∈ LW := LWm (tb4 (List.mem_of_getElem? (i := 124) (by decide +kernel))) rfl
theorem mw_845 : Cond.methodLink RX6 62 yX6_places ∈ LW := LWm (tb4 (List.mem_of_getElem? (i := 125) (by decide +kernel))) rfl
theorem mw_847 : Cond.instanceMethod yX6_places ∈ LW := LWm (tb4 (List.mem_of_getElem? (i := 127) (by decide +kernel))) rfl
theorem mw_848 : Cond.code yX6_places cX6_places 2 (some .int) ∈ LW := LWm (tb4 (List.mem_of_getElem? (i := 128) (by decide +kernel))) rfl
theorem mw_849 : Cond.methodLinkNest RX6 56 yX5_countOfBars RX9 ∈ NW := NWm (tb4 (List.mem_of_getElem? (i := 129) (by decide +kernel))) rfl
theorem mw_850 : Cond.methodLinkNest RX6 59 yX5_countOfSounds RX9 ∈ NW := NWm (tb4 (List.mem_of_getElem? (i := 130) (by decide +kernel))) rfl
theorem mw_851 : Cond.methodLink RX6 65 yX6_isFault ∈ LW := LWm (tb4 (List.mem_of_getElem? (i := 131) (by decide +kernel))) rfl
theorem mw_853 : Cond.instanceMethod yX6_isFault ∈ LW := LWm (tb4 (List.mem_of_getElem? (i := 133) (by decide +kernel))) rfl
theorem mw_854 : Cond.code yX6_isFault cX6_isFault 4 (some .boolean) ∈ LW := LWm (tb4 (List.mem_of_getElem? (i := 134) (by decide +kernel))) rfl
theorem mw_855 : Cond.methodLinkNest RX6 15 yX5_startOfBar RX9 ∈ NW := NWm (tb4 (List.mem_of_getElem? (i := 135) (by decide +kernel))) rfl
theorem mw_856 : Cond.methodLink RX6 28 yX6_isFar ∈ LW := LWm (tb4 (List.mem_of_getElem? (i := 136) (by decide +kernel))) rfl
theorem mw_858 : Cond.instanceMethod yX6_isFar ∈ LW := LWm (tb4 (List.mem_of_getElem? (i := 138) (by decide +kernel))) rfl
theorem mw_859 : Cond.code yX6_isFar cX6_isFar 3 (some .boolean) ∈ LW := LWm (tb4 (List.mem_of_getElem? (i := 139) (by decide +kernel))) rfl
theorem mw_860 : Cond.methodLinkNest RX6 34 yX5_dropAhead RX9 ∈ NW := NWm (tb4 (List.mem_of_getElem? (i := 140) (by decide +kernel))) rfl
theorem mw_862 : Cond.instanceMethod yX5_dropAhead ∈ LW := LWm (tb4 (List.mem_of_getElem? (i := 142) (by decide +kernel))) rfl
theorem mw_863 : Cond.code yX5_dropAhead cX5_dropAhead 3 (some .int) ∈ LW := LWm (tb4 (List.mem_of_getElem? (i := 143) (by decide +kernel))) rfl
theorem mw_864 : Cond.methodLink RX6 31 yX6_isSame ∈ LW := LWm (tb4 (List.mem_of_getElem? (i := 144) (by decide +kernel))) rfl
theorem mw_866 : Cond.instanceMethod yX6_isSame ∈ LW := LWm (tb4 (List.mem_of_getElem? (i := 146) (by decide +kernel))) rfl
theorem mw_867 : Cond.code yX6_isSame cX6_isSame 3 (some .boolean) ∈ LW := LWm (tb4 (List.mem_of_getElem? (i := 147) (by decide +kernel))) rfl
theorem mw_868 : Cond.methodLinkNest RX6 37 yX5_partsOfSound RX9 ∈ NW := NWm (tb4 (List.mem_of_getElem? (i := 148) (by decide +kernel))) rfl
theorem mw_869 : Cond.methodLink RL 220 yL_firstFault ∈ LW := LWm (tb4 (List.mem_of_getElem? (i := 149) (by decide +kernel))) rfl
theorem mw_870 : Cond.static yL_firstFault ∈ LW := LWm (tb4 (List.mem_of_getElem? (i := 150) (by decide +kernel))) rfl
theorem mw_871 : Cond.codeWith yL_firstFault cL_firstFault 3 (some .int) [(0, 5, 6, 14), (0, 5, 10, 59)] ∈ LW := LWm (tb4 (List.mem_of_getElem? (i := 151) rfl)) rfl
theorem mw_872 : Cond.methodLink RL 65 yX9_firstFault ∈ LW := LWm (tb4 (List.mem_of_getElem? (i := 152) (by decide +kernel))) rfl
theorem mw_873 : Cond.instanceMethod yX9_firstFault ∈ LW := LWm (tb4 (List.mem_of_getElem? (i := 153) (by decide +kernel))) rfl
theorem mw_874 : Cond.selects RX9 yX9_firstFault yX9_firstFault ∈ LW := LWm (tb4 (List.mem_of_getElem? (i := 154) (by decide +kernel))) rfl
theorem mw_875 : Cond.code yX9_firstFault cX9_firstFault 2 (some .int) ∈ LW := LWm (tb4 (List.mem_of_getElem? (i := 155) (by decide +kernel))) rfl
theorem mw_876 : Cond.methodLinkNest RX9 202 yX6_first RX9 ∈ NW := NWm (tb4 (List.mem_of_getElem? (i := 156) (by decide +kernel))) rfl
theorem mw_878 : Cond.instanceMethod yX6_first ∈ LW := LWm (tb4 (List.mem_of_getElem? (i := 158) (by decide +kernel))) rfl
theorem mw_879 : Cond.code yX6_first cX6_first 4 (some .int) ∈ LW := LWm (tb4 (List.mem_of_getElem? (i := 159) (by decide +kernel))) rfl
theorem mw_880 : Cond.methodLink RL 222 yL_allFaults ∈ LW := LWm (tb4 (List.mem_of_getElem? (i := 160) (by decide +kernel))) rfl
theorem mw_881 : Cond.static yL_allFaults ∈ LW := LWm (tb4 (List.mem_of_getElem? (i := 161) (by decide +kernel))) rfl
theorem mw_882 : Cond.code yL_allFaults cL_allFaults 2 (some .int) ∈ LW := LWm (tb4 (List.mem_of_getElem? (i := 162) rfl)) rfl
theorem mw_883 : Cond.methodLink RL 226 yL_wouldFault ∈ LW := LWm (tb4 (List.mem_of_getElem? (i := 163) (by decide +kernel))) rfl
theorem mw_884 : Cond.static yL_wouldFault ∈ LW := LWm (tb4 (List.mem_of_getElem? (i := 164) (by decide +kernel))) rfl
theorem mw_885 : Cond.codeWith yL_wouldFault cL_wouldFault 4 (some .int) [(0, 6, 7, 22), (0, 6, 11, 14), (0, 6, 15, 59)] ∈ LW := LWm (tb4 (List.mem_of_getElem? (i := 165) rfl)) rfl
theorem mw_886 : Cond.methodLink RL 68 yX9_wouldFault ∈ LW := LWm (tb4 (List.mem_of_getElem? (i := 166) (by decide +kernel))) rfl
theorem mw_887 : Cond.instanceMethod yX9_wouldFault ∈ LW := LWm (tb4 (List.mem_of_getElem? (i := 167) (by decide +kernel))) rfl
theorem mw_888 : Cond.selects RX9 yX9_wouldFault yX9_wouldFault ∈ LW := LWm (tb4 (List.mem_of_getElem? (i := 168) (by decide +kernel))) rfl
theorem mw_889 : Cond.code yX9_wouldFault cX9_wouldFault 3 (some .int) ∈ LW := LWm (tb4 (List.mem_of_getElem? (i := 169) (by decide +kernel))) rfl
theorem mw_890 : Cond.methodLinkNest RX9 209 yX5_isRest RX9 ∈ NW := NWm (tb4 (List.mem_of_getElem? (i := 170) (by decide +kernel))) rfl
theorem mw_891 : Cond.methodLinkNest RX9 215 yX6_countWith RX9 ∈ NW := NWm (tb4 (List.mem_of_getElem? (i := 171) (by decide +kernel))) rfl
theorem mw_893 : Cond.instanceMethod yX6_countWith ∈ LW := LWm (tb4 (List.mem_of_getElem? (i := 173) (by decide +kernel))) rfl
theorem mw_894 : Cond.code yX6_countWith cX6_countWith 5 (some .int) ∈ LW := LWm (tb4 (List.mem_of_getElem? (i := 174) (by decide +kernel))) rfl
theorem mw_895 : Cond.methodLinkNest RX6 87 yX5_setHeight RX9 ∈ NW := NWm (tb4 (List.mem_of_getElem? (i := 175) (by decide +kernel))) rfl
theorem mw_896 : Cond.methodLink RX6 91 yX6_countAll ∈ LW := LWm (tb4 (List.mem_of_getElem? (i := 176) (by decide +kernel))) rfl
theorem mw_898 : Cond.instanceMethod yX6_countAll ∈ LW := LWm (tb4 (List.mem_of_getElem? (i := 178) (by decide +kernel))) rfl
theorem mw_899 : Cond.code yX6_countAll cX6_countAll 3 (some .int) ∈ LW := LWm (tb4 (List.mem_of_getElem? (i := 179) (by decide +kernel))) rfl
theorem mw_900 : Cond.methodLink RX6 69 yX6_count ∈ LW := LWm (tb4 (List.mem_of_getElem? (i := 180) (by decide +kernel))) rfl
theorem mw_901 : Cond.methodLink RL 228 yL_bestHeight ∈ LW := LWm (tb4 (List.mem_of_getElem? (i := 181) (by decide +kernel))) rfl
theorem mw_902 : Cond.static yL_bestHeight ∈ LW := LWm (tb4 (List.mem_of_getElem? (i := 182) (by decide +kernel))) rfl
theorem mw_903 : Cond.codeWith yL_bestHeight cL_bestHeight 3 (some .int) [(0, 5, 6, 22), (0, 5, 10, 59)] ∈ LW := LWm (tb4 (List.mem_of_getElem? (i := 183) rfl)) rfl
theorem mw_904 : Cond.methodLink RL 71 yX9_bestHeight ∈ LW := LWm (tb4 (List.mem_of_getElem? (i := 184) (by decide +kernel))) rfl
theorem mw_905 : Cond.instanceMethod yX9_bestHeight ∈ LW := LWm (tb4 (List.mem_of_getElem? (i := 185) (by decide +kernel))) rfl
theorem mw_906 : Cond.selects RX9 yX9_bestHeight yX9_bestHeight ∈ LW := LWm (tb4 (List.mem_of_getElem? (i := 186) (by decide +kernel))) rfl
theorem mw_907 : Cond.code yX9_bestHeight cX9_bestHeight 6 (some .int) ∈ LW := LWm (tb4 (List.mem_of_getElem? (i := 187) (by decide +kernel))) rfl
theorem mw_908 : Cond.methodLink RL 230 yX9_isClean ∈ LW := LWm (tb4 (List.mem_of_getElem? (i := 188) (by decide +kernel))) rfl
theorem mw_909 : Cond.instanceMethod yX9_isClean ∈ LW := LWm (tb4 (List.mem_of_getElem? (i := 189) (by decide +kernel))) rfl
theorem mw_910 : Cond.selects RX9 yX9_isClean yX9_isClean ∈ LW := LWm (tb4 (List.mem_of_getElem? (i := 190) (by decide +kernel))) rfl
theorem mw_911 : Cond.code yX9_isClean cX9_isClean 1 (some .boolean) ∈ LW := LWm (tb4 (List.mem_of_getElem? (i := 191) (by decide +kernel))) rfl
theorem mw_912 : Cond.methodLinkNest RX9 205 yX6_countAll RX9 ∈ NW := NWm (tb4 (List.mem_of_getElem? (i := 192) (by decide +kernel))) rfl
theorem mw_913 : Cond.methodLink RL 234 yX9_isWell ∈ LW := LWm (tb4 (List.mem_of_getElem? (i := 193) (by decide +kernel))) rfl
theorem mw_914 : Cond.instanceMethod yX9_isWell ∈ LW := LWm (tb4 (List.mem_of_getElem? (i := 194) (by decide +kernel))) rfl
theorem mw_915 : Cond.selects RX9 yX9_isWell yX9_isWell ∈ LW := LWm (tb4 (List.mem_of_getElem? (i := 195) (by decide +kernel))) rfl
theorem mw_916 : Cond.code yX9_isWell cX9_isWell 1 (some .boolean) ∈ LW := LWm (tb4 (List.mem_of_getElem? (i := 196) (by decide +kernel))) rfl
theorem mw_917 : Cond.methodLinkNest RX9 327 yX6_isToldAlike RX9 ∈ NW := NWm (tb4 (List.mem_of_getElem? (i := 197) (by decide +kernel))) rfl
theorem mw_919 : Cond.instanceMethod yX6_isToldAlike ∈ LW := LWm (tb4 (List.mem_of_getElem? (i := 199) (by decide +kernel))) rfl
theorem mw_920 : Cond.code yX6_isToldAlike cX6_isToldAlike 2 (some .boolean) ∈ LW := LWm (tb4 (List.mem_of_getElem? (i := 200) (by decide +kernel))) rfl
theorem mw_921 : Cond.methodLink RX6 94 yX6_countByBeats ∈ LW := LWm (tb4 (List.mem_of_getElem? (i := 201) (by decide +kernel))) rfl
theorem mw_922 : Cond.methodLinkNest RX9 221 yX3_way RX9 ∈ NW := NWm (tb4 (List.mem_of_getElem? (i := 202) (by decide +kernel))) rfl
theorem mw_924 : Cond.instanceMethod yX3_way ∈ LW := LWm (tb4 (List.mem_of_getElem? (i := 204) (by decide +kernel))) rfl
theorem mw_925 : Cond.code yX3_way cX3_way 3 (some .int) ∈ LW := LWm (tb4 (List.mem_of_getElem? (i := 205) (by decide +kernel))) rfl
theorem mw_926 : Cond.methodLinkNest RX3 15 yX5_countOfSounds RX9 ∈ NW := NWm (tb4 (List.mem_of_getElem? (i := 206) (by decide +kernel))) rfl
theorem mw_927 : Cond.methodLink RX3 21 yX3_riseTo ∈ LW := LWm (tb4 (List.mem_of_getElem? (i := 207) (by decide +kernel))) rfl
theorem mw_929 : Cond.instanceMethod yX3_riseTo ∈ LW := LWm (tb4 (List.mem_of_getElem? (i := 209) (by decide +kernel))) rfl
theorem mw_930 : Cond.code yX3_riseTo cX3_riseTo 3 (some .int) ∈ LW := LWm (tb4 (List.mem_of_getElem? (i := 210) (by decide +kernel))) rfl
theorem mw_931 : Cond.methodLinkNest RX3 36 yX5_dropAhead RX9 ∈ NW := NWm (tb4 (List.mem_of_getElem? (i := 211) (by decide +kernel))) rfl
theorem mw_932 : Cond.methodLinkNest RX3 39 yX5_isRest RX9 ∈ NW := NWm (tb4 (List.mem_of_getElem? (i := 212) (by decide +kernel))) rfl
theorem mw_933 : Cond.methodLinkNest RX3 33 yX5_pitchOf RX9 ∈ NW := NWm (tb4 (List.mem_of_getElem? (i := 213) (by decide +kernel))) rfl
theorem mw_934 : Cond.methodLink RX3 25 yJ9_abs_0f7a4 ∈ LW := LWm (tb4 (List.mem_of_getElem? (i := 214) (by decide +kernel))) rfl
theorem mw_935 : Cond.methodLinkNest RX9 218 yX3_wayBySteps RX9 ∈ NW := NWm (tb4 (List.mem_of_getElem? (i := 215) (by decide +kernel))) rfl
theorem mw_937 : Cond.instanceMethod yX3_wayBySteps ∈ LW := LWm (tb4 (List.mem_of_getElem? (i := 217) (by decide +kernel))) rfl
theorem mw_938 : Cond.code yX3_wayBySteps cX3_wayBySteps 3 (some .int) ∈ LW := LWm (tb4 (List.mem_of_getElem? (i := 218) (by decide +kernel))) rfl
theorem mw_939 : Cond.methodLink RX3 30 yX3_timesOver ∈ LW := LWm (tb4 (List.mem_of_getElem? (i := 219) (by decide +kernel))) rfl
theorem mw_941 : Cond.instanceMethod yX3_timesOver ∈ LW := LWm (tb4 (List.mem_of_getElem? (i := 221) (by decide +kernel))) rfl
theorem mw_942 : Cond.code yX3_timesOver cX3_timesOver 6 (some .int) ∈ LW := LWm (tb4 (List.mem_of_getElem? (i := 222) (by decide +kernel))) rfl
theorem mw_943 : Cond.methodLinkNest RX9 330 yX5_arePartsWhole RX9 ∈ NW := NWm (tb4 (List.mem_of_getElem? (i := 223) (by decide +kernel))) rfl
theorem mw_945 : Cond.instanceMethod yX5_arePartsWhole ∈ LW := LWm (tb4 (List.mem_of_getElem? (i := 225) (by decide +kernel))) rfl
theorem mw_946 : Cond.code yX5_arePartsWhole cX5_arePartsWhole 4 (some .boolean) ∈ LW := LWm (tb4 (List.mem_of_getElem? (i := 226) (by decide +kernel))) rfl
theorem mw_947 : Cond.methodLinkNest RX9 333 yX5_areBarsInBounds RX9 ∈ NW := NWm (tb4 (List.mem_of_getElem? (i := 227) (by decide +kernel))) rfl
theorem mw_949 : Cond.instanceMethod yX5_areBarsInBounds ∈ LW := LWm (tb4 (List.mem_of_getElem? (i := 229) (by decide +kernel))) rfl
theorem mw_950 : Cond.code yX5_areBarsInBounds cX5_areBarsInBounds 4 (some .boolean) ∈ LW := LWm (tb4 (List.mem_of_getElem? (i := 230) (by decide +kernel))) rfl
theorem mw_951 : Cond.methodLink RL 189 yL_tunes ∈ LW := LWm (tb4 (List.mem_of_getElem? (i := 231) (by decide +kernel))) rfl
theorem mw_952 : Cond.static yL_tunes ∈ LW := LWm (tb4 (List.mem_of_getElem? (i := 232) (by decide +kernel))) rfl
theorem mw_953 : Cond.code yL_tunes cL_tunes 15 (some .boolean) ∈ LW := LWm (tb4 (List.mem_of_getElem? (i := 233) rfl)) rfl
theorem mw_954 : Cond.methodLink RL 237 yX9_walk ∈ LW := LWm (tb4 (List.mem_of_getElem? (i := 234) (by decide +kernel))) rfl
theorem mw_955 : Cond.instanceMethod yX9_walk ∈ LW := LWm (tb4 (List.mem_of_getElem? (i := 235) (by decide +kernel))) rfl
theorem mw_956 : Cond.selects RX9 yX9_walk yX9_walk ∈ LW := LWm (tb4 (List.mem_of_getElem? (i := 236) (by decide +kernel))) rfl
theorem mw_957 : Cond.code yX9_walk cX9_walk 2 (some .int) ∈ LW := LWm (tb4 (List.mem_of_getElem? (i := 237) (by decide +kernel))) rfl
theorem mw_958 : Cond.methodLink RL 240 yX9_goes ∈ LW := LWm (tb4 (List.mem_of_getElem? (i := 238) (by decide +kernel))) rfl
theorem mw_959 : Cond.instanceMethod yX9_goes ∈ LW := LWm (tb4 (List.mem_of_getElem? (i := 239) (by decide +kernel))) rfl
theorem mw_960 : Cond.selects RX9 yX9_goes yX9_goes ∈ LW := LWm (tb5 (List.mem_of_getElem? (i := 0) (by decide +kernel))) rfl
theorem mw_961 : Cond.code yX9_goes cX9_goes 2 (some .int) ∈ LW := LWm (tb5 (List.mem_of_getElem? (i := 1) (by decide +kernel))) rfl
theorem mw_962 : Cond.methodLinkNest RX9 224 yX3_moves RX9 ∈ NW := NWm (tb5 (List.mem_of_getElem? (i := 2) (by decide +kernel))) rfl
theorem mw_964 : Cond.instanceMethod yX3_moves ∈ LW := LWm (tb5 (List.mem_of_getElem? (i := 4) (by decide +kernel))) rfl
theorem mw_965 : Cond.code yX3_moves cX3_moves 5 (some .int) ∈ LW := LWm (tb5 (List.mem_of_getElem? (i := 5) (by decide +kernel))) rfl
theorem mw_966 : Cond.methodLink RL 243 yX9_span ∈ LW := LWm (tb5 (List.mem_of_getElem? (i := 6) (by decide +kernel))) rfl
theorem mw_967 : Cond.instanceMethod yX9_span ∈ LW := LWm (tb5 (List.mem_of_getElem? (i := 7) (by decide +kernel))) rfl
theorem mw_968 : Cond.selects RX9 yX9_span yX9_span ∈ LW := LWm (tb5 (List.mem_of_getElem? (i := 8) (by decide +kernel))) rfl
theorem mw_969 : Cond.code yX9_span cX9_span 1 (some .int) ∈ LW := LWm (tb5 (List.mem_of_getElem? (i := 9) (by decide +kernel))) rfl
theorem mw_970 : Cond.methodLinkNest RX9 228 yX3_width RX9 ∈ NW := NWm (tb5 (List.mem_of_getElem? (i := 10) (by decide +kernel))) rfl
theorem mw_972 : Cond.instanceMethod yX3_width ∈ LW := LWm (tb5 (List.mem_of_getElem? (i := 12) (by decide +kernel))) rfl
theorem mw_973 : Cond.code yX3_width cX3_width 5 (some .int) ∈ LW := LWm (tb5 (List.mem_of_getElem? (i := 13) (by decide +kernel))) rfl
theorem mw_974 : Cond.methodLink RX3 43 yJ9_min_7cf53 ∈ LW := LWm (tb5 (List.mem_of_getElem? (i := 14) (by decide +kernel))) rfl
theorem mw_975 : Cond.methodLink RX3 47 yJ9_max_7cf53 ∈ LW := LWm (tb5 (List.mem_of_getElem? (i := 15) (by decide +kernel))) rfl
theorem mw_976 : Cond.methodLink RL 246 yX9_meanPitch ∈ LW := LWm (tb5 (List.mem_of_getElem? (i := 16) (by decide +kernel))) rfl
theorem mw_977 : Cond.instanceMethod yX9_meanPitch ∈ LW := LWm (tb5 (List.mem_of_getElem? (i := 17) (by decide +kernel))) rfl
theorem mw_978 : Cond.selects RX9 yX9_meanPitch yX9_meanPitch ∈ LW := LWm (tb5 (List.mem_of_getElem? (i := 18) (by decide +kernel))) rfl
theorem mw_979 : Cond.code yX9_meanPitch cX9_meanPitch 2 (some .double) ∈ LW := LWm (tb5 (List.mem_of_getElem? (i := 19) (by decide +kernel))) rfl
theorem mw_980 : Cond.methodLinkNest RX9 336 yX3_countOfDrops RX9 ∈ NW := NWm (tb5 (List.mem_of_getElem? (i := 20) (by decide +kernel))) rfl
theorem mw_982 : Cond.instanceMethod yX3_countOfDrops ∈ LW := LWm (tb5 (List.mem_of_getElem? (i := 22) (by decide +kernel))) rfl
theorem mw_983 : Cond.code yX3_countOfDrops cX3_countOfDrops 1 (some .int) ∈ LW := LWm (tb5 (List.mem_of_getElem? (i := 23) (by decide +kernel))) rfl
theorem mw_984 : Cond.methodLinkNest RX3 50 yX5_countOfRests RX9 ∈ NW := NWm (tb5 (List.mem_of_getElem? (i := 24) (by decide +kernel))) rfl
theorem mw_985 : Cond.classLink RX9 339 "java/lang/ArithmeticException" ∈ LW := LWm (tb5 (List.mem_of_getElem? (i := 25) (by decide +kernel))) rfl
theorem mw_986 : Cond.instantiable "java/lang/ArithmeticException" 6 ∈ LW := LWm (tb5 (List.mem_of_getElem? (i := 26) (by decide +kernel))) rfl
