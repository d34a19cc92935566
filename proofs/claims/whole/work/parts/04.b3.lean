theorem al_540 : Cond.instanceMethod yX8_next ∈ kAL := al_in (List.mem_of_getElem? (i := 910) (by decide +kernel)) rfl
theorem al_541 : Cond.selects RX8 yX8_next yX8_next ∈ kAL := al_in (List.mem_of_getElem? (i := 911) (by decide +kernel)) rfl
theorem al_542 : Cond.code yX8_next cX8_next 1 (some .int) ∈ kAL := al_in (List.mem_of_getElem? (i := 912) (by decide +kernel)) rfl
theorem al_543 : Cond.methodLink RL 71 yX7_then ∈ kAL := al_in (List.mem_of_getElem? (i := 532) (by decide +kernel)) rfl
theorem al_544 : Cond.instanceMethod yX7_then ∈ kAL := al_in (List.mem_of_getElem? (i := 533) (by decide +kernel)) rfl
theorem al_545 : Cond.selects RX7 yX7_then yX7_then ∈ kAL := al_in (List.mem_of_getElem? (i := 534) (by decide +kernel)) rfl
theorem al_546 : Cond.code yX7_then cX7_then 3 (some .int) ∈ kAL := al_in (List.mem_of_getElem? (i := 535) (by decide +kernel)) rfl
theorem al_547 : Cond.fieldLink RX7 127 "CaneQuotas$Mill" "growers" "LCaneQuotas$Growers;" ∈ kAL := al_in (List.mem_of_getElem? (i := 183) (by decide +kernel)) rfl
theorem al_548 : Cond.fieldLink RX7 136 "CaneQuotas$Mill" "sugar" "I" ∈ kAL := al_in (List.mem_of_getElem? (i := 193) (by decide +kernel)) rfl
theorem al_549 : Cond.methodLink RX7 123 yX7_tryDays ∈ kAL := al_in (List.mem_of_getElem? (i := 536) (by decide +kernel)) rfl
theorem al_550 : Cond.instanceMethod yX7_tryDays ∈ kAL := al_in (List.mem_of_getElem? (i := 538) (by decide +kernel)) rfl
theorem al_551 : Cond.selects RX7 yX7_tryDays yX7_tryDays ∈ kAL := al_in (List.mem_of_getElem? (i := 8) (by decide +kernel)) rfl
theorem al_552 : Cond.code yX7_tryDays cX7_tryDays 4 none ∈ kAL := al_in (List.mem_of_getElem? (i := 539) (by decide +kernel)) rfl
theorem al_553 : Cond.methodLink RX7 147 yX3_copyFrom ∈ kAL := al_in (List.mem_of_getElem? (i := 540) (by decide +kernel)) rfl
theorem al_554 : Cond.methodLink RX7 150 yX3_passDay ∈ kAL := al_in (List.mem_of_getElem? (i := 541) (by decide +kernel)) rfl
theorem al_555 : Cond.methodLink RX7 131 yX1_totalLost ∈ kAL := al_in (List.mem_of_getElem? (i := 542) (by decide +kernel)) rfl
theorem al_556 : Cond.methodLink RX7 139 yX1_totalPaid ∈ kAL := al_in (List.mem_of_getElem? (i := 543) (by decide +kernel)) rfl
theorem al_557 : Cond.methodLink RL 74 yX8_then ∈ kAL := al_in (List.mem_of_getElem? (i := 913) (by decide +kernel)) rfl
theorem al_558 : Cond.instanceMethod yX8_then ∈ kAL := al_in (List.mem_of_getElem? (i := 914) (by decide +kernel)) rfl
theorem al_559 : Cond.selects RX8 yX8_then yX8_then ∈ kAL := al_in (List.mem_of_getElem? (i := 915) (by decide +kernel)) rfl
theorem al_560 : Cond.code yX8_then cX8_then 4 (some .int) ∈ kAL := al_in (List.mem_of_getElem? (i := 916) (by decide +kernel)) rfl
theorem al_561 : Cond.methodLink RX8 148 yX8_tries ∈ kAL := al_in (List.mem_of_getElem? (i := 917) (by decide +kernel)) rfl
theorem al_562 : Cond.instanceMethod yX8_tries ∈ kAL := al_in (List.mem_of_getElem? (i := 919) (by decide +kernel)) rfl
theorem al_563 : Cond.selects RX8 yX8_tries yX8_tries ∈ kAL := al_in (List.mem_of_getElem? (i := 26) (by decide +kernel)) rfl
theorem al_564 : Cond.code yX8_tries cX8_tries 3 none ∈ kAL := al_in (List.mem_of_getElem? (i := 920) (by decide +kernel)) rfl
theorem al_565 : Cond.methodLink RL 75 yX7_leastTrucks ∈ kAL := al_in (List.mem_of_getElem? (i := 544) (by decide +kernel)) rfl
theorem al_566 : Cond.instanceMethod yX7_leastTrucks ∈ kAL := al_in (List.mem_of_getElem? (i := 545) (by decide +kernel)) rfl
theorem al_567 : Cond.selects RX7 yX7_leastTrucks yX7_leastTrucks ∈ kAL := al_in (List.mem_of_getElem? (i := 546) (by decide +kernel)) rfl
theorem al_568 : Cond.code yX7_leastTrucks cX7_leastTrucks 3 (some .int) ∈ kAL := al_in (List.mem_of_getElem? (i := 547) (by decide +kernel)) rfl
theorem al_569 : Cond.methodLink RX7 142 yX7_losesNothing ∈ kAL := al_in (List.mem_of_getElem? (i := 548) (by decide +kernel)) rfl
theorem al_570 : Cond.instanceMethod yX7_losesNothing ∈ kAL := al_in (List.mem_of_getElem? (i := 550) (by decide +kernel)) rfl
theorem al_571 : Cond.selects RX7 yX7_losesNothing yX7_losesNothing ∈ kAL := al_in (List.mem_of_getElem? (i := 9) (by decide +kernel)) rfl
theorem al_572 : Cond.code yX7_losesNothing cX7_losesNothing 5 (some .boolean) ∈ kAL := al_in (List.mem_of_getElem? (i := 551) (by decide +kernel)) rfl
theorem al_573 : Cond.fieldLink RX7 154 "CaneQuotas$Mill" "settings" "[I" ∈ kAL := al_in (List.mem_of_getElem? (i := 181) (by decide +kernel)) rfl
theorem al_574 : Cond.methodLink RL 78 yX8_leastTrucks ∈ kAL := al_in (List.mem_of_getElem? (i := 921) (by decide +kernel)) rfl
theorem al_575 : Cond.instanceMethod yX8_leastTrucks ∈ kAL := al_in (List.mem_of_getElem? (i := 922) (by decide +kernel)) rfl
theorem al_576 : Cond.selects RX8 yX8_leastTrucks yX8_leastTrucks ∈ kAL := al_in (List.mem_of_getElem? (i := 923) (by decide +kernel)) rfl
theorem al_577 : Cond.code yX8_leastTrucks cX8_leastTrucks 3 (some .int) ∈ kAL := al_in (List.mem_of_getElem? (i := 924) (by decide +kernel)) rfl
theorem al_578 : Cond.methodLink RL 79 yX7_stopCosts ∈ kAL := al_in (List.mem_of_getElem? (i := 552) (by decide +kernel)) rfl
theorem al_579 : Cond.instanceMethod yX7_stopCosts ∈ kAL := al_in (List.mem_of_getElem? (i := 553) (by decide +kernel)) rfl
theorem al_580 : Cond.selects RX7 yX7_stopCosts yX7_stopCosts ∈ kAL := al_in (List.mem_of_getElem? (i := 554) (by decide +kernel)) rfl
theorem al_581 : Cond.code yX7_stopCosts cX7_stopCosts 4 (some .int) ∈ kAL := al_in (List.mem_of_getElem? (i := 555) (by decide +kernel)) rfl
theorem al_582 : Cond.constant RX7 146 (100000) ∈ kAL := al_in (List.mem_of_getElem? (i := 556) (by decide +kernel)) rfl
theorem al_583 : Cond.methodLink RL 82 yX8_stopCosts ∈ kAL := al_in (List.mem_of_getElem? (i := 925) (by decide +kernel)) rfl
theorem al_584 : Cond.instanceMethod yX8_stopCosts ∈ kAL := al_in (List.mem_of_getElem? (i := 926) (by decide +kernel)) rfl
theorem al_585 : Cond.selects RX8 yX8_stopCosts yX8_stopCosts ∈ kAL := al_in (List.mem_of_getElem? (i := 927) (by decide +kernel)) rfl
theorem al_586 : Cond.code yX8_stopCosts cX8_stopCosts 4 (some .int) ∈ kAL := al_in (List.mem_of_getElem? (i := 928) (by decide +kernel)) rfl
theorem al_587 : Cond.constant RX8 152 (100000) ∈ kAL := al_in (List.mem_of_getElem? (i := 929) (by decide +kernel)) rfl
theorem al_588 : Cond.methodLink RL 85 yX7_put ∈ kAL := al_in (List.mem_of_getElem? (i := 557) (by decide +kernel)) rfl
theorem al_589 : Cond.instanceMethod yX7_put ∈ kAL := al_in (List.mem_of_getElem? (i := 558) (by decide +kernel)) rfl
theorem al_590 : Cond.selects RX7 yX7_put yX7_put ∈ kAL := al_in (List.mem_of_getElem? (i := 559) (by decide +kernel)) rfl
theorem al_591 : Cond.code yX7_put cX7_put 3 (some .int) ∈ kAL := al_in (List.mem_of_getElem? (i := 560) (by decide +kernel)) rfl
theorem al_592 : Cond.methodLink RX7 158 yX4_append ∈ kAL := al_in (List.mem_of_getElem? (i := 561) (by decide +kernel)) rfl
theorem al_593 : Cond.instanceMethod yX4_append ∈ kAL := al_in (List.mem_of_getElem? (i := 562) (by decide +kernel)) rfl
theorem al_594 : Cond.selects RX4 yX4_append yX4_append ∈ kAL := al_in (List.mem_of_getElem? (i := 563) (by decide +kernel)) rfl
theorem al_595 : Cond.code yX4_append cX4_append 5 (some .int) ∈ kAL := al_in (List.mem_of_getElem? (i := 564) (by decide +kernel)) rfl
theorem al_596 : Cond.fieldLink RX4 23 "CaneQuotas$Pad" "length" "I" ∈ kAL := al_in (List.mem_of_getElem? (i := 241) (by decide +kernel)) rfl
theorem al_597 : Cond.constantLong RX4 27 (255) ∈ kAL := al_in (List.mem_of_getElem? (i := 568) (by decide +kernel)) rfl
theorem al_598 : Cond.methodLink RX4 19 yX4_countSigns ∈ kAL := al_in (List.mem_of_getElem? (i := 565) (by decide +kernel)) rfl
theorem al_599 : Cond.static yX4_countSigns ∈ kAL := al_in (List.mem_of_getElem? (i := 566) (by decide +kernel)) rfl
theorem al_600 : Cond.code yX4_countSigns cX4_countSigns 5 (some .int) ∈ kAL := al_in (List.mem_of_getElem? (i := 567) (by decide +kernel)) rfl
theorem al_601 : Cond.methodLink RL 89 yX8_put ∈ kAL := al_in (List.mem_of_getElem? (i := 930) (by decide +kernel)) rfl
theorem al_602 : Cond.instanceMethod yX8_put ∈ kAL := al_in (List.mem_of_getElem? (i := 931) (by decide +kernel)) rfl
theorem al_603 : Cond.selects RX8 yX8_put yX8_put ∈ kAL := al_in (List.mem_of_getElem? (i := 932) (by decide +kernel)) rfl
theorem al_604 : Cond.code yX8_put cX8_put 5 (some .int) ∈ kAL := al_in (List.mem_of_getElem? (i := 933) (by decide +kernel)) rfl
theorem al_605 : Cond.methodLink RX8 159 yX8_toldBy ∈ kAL := al_in (List.mem_of_getElem? (i := 934) (by decide +kernel)) rfl
theorem al_606 : Cond.static yX8_toldBy ∈ kAL := al_in (List.mem_of_getElem? (i := 935) (by decide +kernel)) rfl
theorem al_607 : Cond.code yX8_toldBy cX8_toldBy 4 (some .int) ∈ kAL := al_in (List.mem_of_getElem? (i := 936) (by decide +kernel)) rfl
theorem al_608 : Cond.methodLink RX8 155 yX8_byteOf ∈ kAL := al_in (List.mem_of_getElem? (i := 937) (by decide +kernel)) rfl
theorem al_609 : Cond.static yX8_byteOf ∈ kAL := al_in (List.mem_of_getElem? (i := 938) (by decide +kernel)) rfl
theorem al_610 : Cond.code yX8_byteOf cX8_byteOf 3 (some .int) ∈ kAL := al_in (List.mem_of_getElem? (i := 939) (by decide +kernel)) rfl
theorem al_611 : Cond.constantLong RX8 153 (255) ∈ kAL := al_in (List.mem_of_getElem? (i := 940) (by decide +kernel)) rfl
theorem al_612 : Cond.methodLink RL 90 yX7_wipe ∈ kAL := al_in (List.mem_of_getElem? (i := 570) (by decide +kernel)) rfl
theorem al_613 : Cond.instanceMethod yX7_wipe ∈ kAL := al_in (List.mem_of_getElem? (i := 571) (by decide +kernel)) rfl
theorem al_614 : Cond.selects RX7 yX7_wipe yX7_wipe ∈ kAL := al_in (List.mem_of_getElem? (i := 572) (by decide +kernel)) rfl
theorem al_615 : Cond.code yX7_wipe cX7_wipe 1 (some .int) ∈ kAL := al_in (List.mem_of_getElem? (i := 573) (by decide +kernel)) rfl
theorem al_616 : Cond.methodLink RX7 162 yX4_empty ∈ kAL := al_in (List.mem_of_getElem? (i := 574) (by decide +kernel)) rfl
theorem al_617 : Cond.instanceMethod yX4_empty ∈ kAL := al_in (List.mem_of_getElem? (i := 575) (by decide +kernel)) rfl
theorem al_618 : Cond.selects RX4 yX4_empty yX4_empty ∈ kAL := al_in (List.mem_of_getElem? (i := 576) (by decide +kernel)) rfl
theorem al_619 : Cond.code yX4_empty cX4_empty 2 (some .int) ∈ kAL := al_in (List.mem_of_getElem? (i := 577) (by decide +kernel)) rfl
theorem al_620 : Cond.methodLink RL 93 yX8_wipe ∈ kAL := al_in (List.mem_of_getElem? (i := 941) (by decide +kernel)) rfl
theorem al_621 : Cond.instanceMethod yX8_wipe ∈ kAL := al_in (List.mem_of_getElem? (i := 942) (by decide +kernel)) rfl
theorem al_622 : Cond.selects RX8 yX8_wipe yX8_wipe ∈ kAL := al_in (List.mem_of_getElem? (i := 943) (by decide +kernel)) rfl
theorem al_623 : Cond.code yX8_wipe cX8_wipe 2 (some .int) ∈ kAL := al_in (List.mem_of_getElem? (i := 944) (by decide +kernel)) rfl
theorem al_624 : Cond.methodLink RL 94 yX7_fault ∈ kAL := al_in (List.mem_of_getElem? (i := 578) (by decide +kernel)) rfl
theorem al_625 : Cond.instanceMethod yX7_fault ∈ kAL := al_in (List.mem_of_getElem? (i := 579) (by decide +kernel)) rfl
theorem al_626 : Cond.selects RX7 yX7_fault yX7_fault ∈ kAL := al_in (List.mem_of_getElem? (i := 580) (by decide +kernel)) rfl
theorem al_627 : Cond.code yX7_fault cX7_fault 1 (some .int) ∈ kAL := al_in (List.mem_of_getElem? (i := 581) (by decide +kernel)) rfl
theorem al_628 : Cond.methodLink RX7 165 yX4_findFault ∈ kAL := al_in (List.mem_of_getElem? (i := 582) (by decide +kernel)) rfl
theorem al_629 : Cond.instanceMethod yX4_findFault ∈ kAL := al_in (List.mem_of_getElem? (i := 583) (by decide +kernel)) rfl
theorem al_630 : Cond.selects RX4 yX4_findFault yX4_findFault ∈ kAL := al_in (List.mem_of_getElem? (i := 584) (by decide +kernel)) rfl
theorem al_631 : Cond.code yX4_findFault cX4_findFault 2 (some .int) ∈ kAL := al_in (List.mem_of_getElem? (i := 585) (by decide +kernel)) rfl
theorem al_632 : Cond.fieldLink RX4 40 "CaneQuotas$Pad" "at" "I" ∈ kAL := al_in (List.mem_of_getElem? (i := 243) (by decide +kernel)) rfl
theorem al_633 : Cond.methodLink RX4 33 yX4_startReading ∈ kAL := al_in (List.mem_of_getElem? (i := 586) (by decide +kernel)) rfl
theorem al_634 : Cond.instanceMethod yX4_startReading ∈ kAL := al_in (List.mem_of_getElem? (i := 587) (by decide +kernel)) rfl
theorem al_635 : Cond.selects RX4 yX4_startReading yX4_startReading ∈ kAL := al_in (List.mem_of_getElem? (i := 588) (by decide +kernel)) rfl
theorem al_636 : Cond.code yX4_startReading cX4_startReading 1 none ∈ kAL := al_in (List.mem_of_getElem? (i := 589) (by decide +kernel)) rfl
theorem al_637 : Cond.methodLink RX4 36 yX4_readOrder ∈ kAL := al_in (List.mem_of_getElem? (i := 590) (by decide +kernel)) rfl
theorem al_638 : Cond.instanceMethod yX4_readOrder ∈ kAL := al_in (List.mem_of_getElem? (i := 591) (by decide +kernel)) rfl
theorem al_639 : Cond.selects RX4 yX4_readOrder yX4_readOrder ∈ kAL := al_in (List.mem_of_getElem? (i := 592) (by decide +kernel)) rfl
theorem al_640 : Cond.code yX4_readOrder cX4_readOrder 3 (some .boolean) ∈ kAL := al_in (List.mem_of_getElem? (i := 593) (by decide +kernel)) rfl
theorem al_641 : Cond.fieldLink RX4 47 "CaneQuotas$Pad" "kind" "C" ∈ kAL := al_in (List.mem_of_getElem? (i := 244) (by decide +kernel)) rfl
theorem al_642 : Cond.fieldLink RX4 51 "CaneQuotas$Pad" "valueCount" "I" ∈ kAL := al_in (List.mem_of_getElem? (i := 248) (by decide +kernel)) rfl
theorem al_643 : Cond.methodLink RX4 54 yX4_formOf ∈ kAL := al_in (List.mem_of_getElem? (i := 594) (by decide +kernel)) rfl
theorem al_644 : Cond.static yX4_formOf ∈ kAL := al_in (List.mem_of_getElem? (i := 595) (by decide +kernel)) rfl
theorem al_645 : Cond.code yX4_formOf cX4_formOf 1 (some (.object "java/lang/String")) ∈ kAL := al_in (List.mem_of_getElem? (i := 596) (by decide +kernel)) rfl
theorem al_646 : Cond.methodLink RX4 58 yJ0_isEmpty_aae02 ∈ kAL := al_in (List.mem_of_getElem? (i := 603) (by decide +kernel)) rfl
theorem al_647 : Cond.instanceMethod yJ0_isEmpty_aae02 ∈ kAL := al_in (List.mem_of_getElem? (i := 604) (by decide +kernel)) rfl
theorem al_648 : Cond.selects RJ0 yJ0_isEmpty_aae02 yJ0_isEmpty_aae02 ∈ kAL := al_in (List.mem_of_getElem? (i := 605) (by decide +kernel)) rfl
theorem al_649 : Cond.initialized RJ0 ∈ kAL := al_in (List.mem_of_getElem? (i := 47) (by decide +kernel)) rfl
theorem al_650 : Cond.code yJ0_isEmpty_aae02 cJ0_isEmpty_aae02 1 (some .boolean) ∈ kAL := al_in (List.mem_of_getElem? (i := 606) (by decide +kernel)) rfl
theorem al_651 : Cond.fieldLink RJ0 9 "java/lang/String" "value" "[B" ∈ kAL := al_in (List.mem_of_getElem? (i := 986) (by decide +kernel)) rfl
theorem al_652 : Cond.methodLink RX4 63 yJ0_length_8abf5 ∈ kAL := al_in (List.mem_of_getElem? (i := 607) (by decide +kernel)) rfl
theorem al_653 : Cond.instanceMethod yJ0_length_8abf5 ∈ kAL := al_in (List.mem_of_getElem? (i := 608) (by decide +kernel)) rfl
theorem al_654 : Cond.selects RJ0 yJ0_length_8abf5 yJ0_length_8abf5 ∈ kAL := al_in (List.mem_of_getElem? (i := 609) (by decide +kernel)) rfl
theorem al_655 : Cond.code yJ0_length_8abf5 cJ0_length_8abf5 1 (some .int) ∈ kAL := al_in (List.mem_of_getElem? (i := 610) (by decide +kernel)) rfl
theorem al_656 : Cond.methodLink RJ0 335 yJ0_coder_7d493 ∈ kAL := al_in (List.mem_of_getElem? (i := 611) (by decide +kernel)) rfl
theorem al_657 : Cond.instanceMethod yJ0_coder_7d493 ∈ kAL := al_in (List.mem_of_getElem? (i := 612) (by decide +kernel)) rfl
theorem al_658 : Cond.selects RJ0 yJ0_coder_7d493 yJ0_coder_7d493 ∈ kAL := al_in (List.mem_of_getElem? (i := 613) (by decide +kernel)) rfl
theorem al_659 : Cond.code yJ0_coder_7d493 cJ0_coder_7d493 1 (some .byte) ∈ kAL := al_in (List.mem_of_getElem? (i := 614) (by decide +kernel)) rfl
theorem al_660 : Cond.fieldLink RJ0 38 "java/lang/String" "COMPACT_STRINGS" "Z" ∈ kAL := al_in (List.mem_of_getElem? (i := 615) (by decide +kernel)) rfl
theorem al_661 : Cond.fieldLink RJ0 15 "java/lang/String" "coder" "B" ∈ kAL := al_in (List.mem_of_getElem? (i := 987) (by decide +kernel)) rfl
theorem al_662 : Cond.methodLink RX4 66 yJ0_charAt_5068e ∈ kAL := al_in (List.mem_of_getElem? (i := 617) (by decide +kernel)) rfl
theorem al_663 : Cond.instanceMethod yJ0_charAt_5068e ∈ kAL := al_in (List.mem_of_getElem? (i := 618) (by decide +kernel)) rfl
theorem al_664 : Cond.selects RJ0 yJ0_charAt_5068e yJ0_charAt_5068e ∈ kAL := al_in (List.mem_of_getElem? (i := 619) (by decide +kernel)) rfl
theorem al_665 : Cond.code yJ0_charAt_5068e cJ0_charAt_5068e 2 (some .char) ∈ kAL := al_in (List.mem_of_getElem? (i := 620) (by decide +kernel)) rfl
theorem al_666 : Cond.methodLink RJ0 492 yJ0_isLatin1_aae02 ∈ kAL := al_in (List.mem_of_getElem? (i := 621) (by decide +kernel)) rfl
theorem al_667 : Cond.instanceMethod yJ0_isLatin1_aae02 ∈ kAL := al_in (List.mem_of_getElem? (i := 622) (by decide +kernel)) rfl
theorem al_668 : Cond.selects RJ0 yJ0_isLatin1_aae02 yJ0_isLatin1_aae02 ∈ kAL := al_in (List.mem_of_getElem? (i := 623) (by decide +kernel)) rfl
theorem al_669 : Cond.code yJ0_isLatin1_aae02 cJ0_isLatin1_aae02 1 (some .boolean) ∈ kAL := al_in (List.mem_of_getElem? (i := 624) (by decide +kernel)) rfl
theorem al_670 : Cond.methodLink RJ0 495 yJ1_charAt_3b067 ∈ kAL := al_in (List.mem_of_getElem? (i := 625) (by decide +kernel)) rfl
theorem al_671 : Cond.static yJ1_charAt_3b067 ∈ kAL := al_in (List.mem_of_getElem? (i := 626) (by decide +kernel)) rfl
theorem al_672 : Cond.initialized RJ1 ∈ kAL := al_in (List.mem_of_getElem? (i := 48) (by decide +kernel)) rfl
theorem al_673 : Cond.code yJ1_charAt_3b067 cJ1_charAt_3b067 2 (some .char) ∈ kAL := al_in (List.mem_of_getElem? (i := 627) (by decide +kernel)) rfl
theorem al_674 : Cond.methodLink RJ1 9 yJ0_checkIndex_df160 ∈ kAL := al_in (List.mem_of_getElem? (i := 628) (by decide +kernel)) rfl
theorem al_675 : Cond.static yJ0_checkIndex_df160 ∈ kAL := al_in (List.mem_of_getElem? (i := 629) (by decide +kernel)) rfl
theorem al_676 : Cond.code yJ0_checkIndex_df160 cJ0_checkIndex_df160 2 none ∈ kAL := al_in (List.mem_of_getElem? (i := 630) (by decide +kernel)) rfl
theorem al_677 : Cond.fieldLink RJ0 1053 "jdk/internal/util/Preconditions" "SIOOBE_FORMATTER" "Ljava/util/function/BiFunction;" ∈ kAL := al_in (List.mem_of_getElem? (i := 631) (by decide +kernel)) rfl
theorem al_678 : Cond.methodLink RJ0 1059 yJ3_checkIndex_8e157 ∈ kAL := al_in (List.mem_of_getElem? (i := 633) (by decide +kernel)) rfl
theorem al_679 : Cond.static yJ3_checkIndex_8e157 ∈ kAL := al_in (List.mem_of_getElem? (i := 634) (by decide +kernel)) rfl
theorem al_680 : Cond.initialized RJ3 ∈ kAL := al_in (List.mem_of_getElem? (i := 49) (by decide +kernel)) rfl
theorem al_681 : Cond.code yJ3_checkIndex_8e157 cJ3_checkIndex_8e157 3 (some .int) ∈ kAL := al_in (List.mem_of_getElem? (i := 635) (by decide +kernel)) rfl
theorem al_682 : Cond.methodLink RJ0 498 yJ2_charAt_3b067 ∈ kAL := al_in (List.mem_of_getElem? (i := 636) (by decide +kernel)) rfl
theorem al_683 : Cond.static yJ2_charAt_3b067 ∈ kAL := al_in (List.mem_of_getElem? (i := 637) (by decide +kernel)) rfl
theorem al_684 : Cond.initialized RJ2 ∈ kAL := al_in (List.mem_of_getElem? (i := 50) (by decide +kernel)) rfl
theorem al_685 : Cond.code yJ2_charAt_3b067 cJ2_charAt_3b067 2 (some .char) ∈ kAL := al_in (List.mem_of_getElem? (i := 638) (by decide +kernel)) rfl
theorem al_686 : Cond.methodLink RJ2 67 yJ2_checkIndex_2214a ∈ kAL := al_in (List.mem_of_getElem? (i := 639) (by decide +kernel)) rfl
theorem al_687 : Cond.static yJ2_checkIndex_2214a ∈ kAL := al_in (List.mem_of_getElem? (i := 640) (by decide +kernel)) rfl
theorem al_688 : Cond.code yJ2_checkIndex_2214a cJ2_checkIndex_2214a 2 none ∈ kAL := al_in (List.mem_of_getElem? (i := 641) (by decide +kernel)) rfl
theorem al_689 : Cond.methodLink RJ2 48 yJ2_length_9d52b ∈ kAL := al_in (List.mem_of_getElem? (i := 642) (by decide +kernel)) rfl
theorem al_690 : Cond.static yJ2_length_9d52b ∈ kAL := al_in (List.mem_of_getElem? (i := 643) (by decide +kernel)) rfl
theorem al_691 : Cond.code yJ2_length_9d52b cJ2_length_9d52b 1 (some .int) ∈ kAL := al_in (List.mem_of_getElem? (i := 644) (by decide +kernel)) rfl
theorem al_692 : Cond.methodLink RJ2 414 yJ0_checkIndex_df160 ∈ kAL := al_in (List.mem_of_getElem? (i := 645) (by decide +kernel)) rfl
theorem al_693 : Cond.methodLink RJ2 71 yJ2_getChar_3b067 ∈ kAL := al_in (List.mem_of_getElem? (i := 646) (by decide +kernel)) rfl
theorem al_694 : Cond.static yJ2_getChar_3b067 ∈ kAL := al_in (List.mem_of_getElem? (i := 647) (by decide +kernel)) rfl
theorem al_695 : Cond.code yJ2_getChar_3b067 cJ2_getChar_3b067 2 (some .char) ∈ kAL := al_in (List.mem_of_getElem? (i := 648) (by decide +kernel)) rfl
theorem al_696 : Cond.fieldLink RJ2 44 "java/lang/StringUTF16" "$assertionsDisabled" "Z" ∈ kAL := al_in (List.mem_of_getElem? (i := 649) (by decide +kernel)) rfl
theorem al_697 : Cond.fieldLink RJ2 59 "java/lang/StringUTF16" "HI_BYTE_SHIFT" "I" ∈ kAL := al_in (List.mem_of_getElem? (i := 651) (by decide +kernel)) rfl
theorem al_698 : Cond.fieldLink RJ2 63 "java/lang/StringUTF16" "LO_BYTE_SHIFT" "I" ∈ kAL := al_in (List.mem_of_getElem? (i := 653) (by decide +kernel)) rfl
theorem al_699 : Cond.methodLink RX4 70 yX4_readPart ∈ kAL := al_in (List.mem_of_getElem? (i := 655) (by decide +kernel)) rfl
theorem al_700 : Cond.instanceMethod yX4_readPart ∈ kAL := al_in (List.mem_of_getElem? (i := 657) (by decide +kernel)) rfl
theorem al_701 : Cond.selects RX4 yX4_readPart yX4_readPart ∈ kAL := al_in (List.mem_of_getElem? (i := 10) (by decide +kernel)) rfl
theorem al_702 : Cond.code yX4_readPart cX4_readPart 2 (some .boolean) ∈ kAL := al_in (List.mem_of_getElem? (i := 658) (by decide +kernel)) rfl
theorem al_703 : Cond.methodLink RX4 85 yX4_readDigit ∈ kAL := al_in (List.mem_of_getElem? (i := 659) (by decide +kernel)) rfl
theorem al_704 : Cond.instanceMethod yX4_readDigit ∈ kAL := al_in (List.mem_of_getElem? (i := 661) (by decide +kernel)) rfl
theorem al_705 : Cond.selects RX4 yX4_readDigit yX4_readDigit ∈ kAL := al_in (List.mem_of_getElem? (i := 11) (by decide +kernel)) rfl
theorem al_706 : Cond.code yX4_readDigit cX4_readDigit 1 (some .boolean) ∈ kAL := al_in (List.mem_of_getElem? (i := 662) (by decide +kernel)) rfl
theorem al_707 : Cond.methodLink RX4 91 yX4_digitFollows ∈ kAL := al_in (List.mem_of_getElem? (i := 663) (by decide +kernel)) rfl
theorem al_708 : Cond.instanceMethod yX4_digitFollows ∈ kAL := al_in (List.mem_of_getElem? (i := 665) (by decide +kernel)) rfl
theorem al_709 : Cond.selects RX4 yX4_digitFollows yX4_digitFollows ∈ kAL := al_in (List.mem_of_getElem? (i := 12) (by decide +kernel)) rfl
theorem al_710 : Cond.code yX4_digitFollows cX4_digitFollows 1 (some .boolean) ∈ kAL := al_in (List.mem_of_getElem? (i := 666) (by decide +kernel)) rfl
theorem al_711 : Cond.methodLink RX4 94 yX4_keepValue ∈ kAL := al_in (List.mem_of_getElem? (i := 667) (by decide +kernel)) rfl
theorem al_712 : Cond.instanceMethod yX4_keepValue ∈ kAL := al_in (List.mem_of_getElem? (i := 669) (by decide +kernel)) rfl
theorem al_713 : Cond.selects RX4 yX4_keepValue yX4_keepValue ∈ kAL := al_in (List.mem_of_getElem? (i := 13) (by decide +kernel)) rfl
theorem al_714 : Cond.code yX4_keepValue cX4_keepValue 2 none ∈ kAL := al_in (List.mem_of_getElem? (i := 670) (by decide +kernel)) rfl
theorem al_715 : Cond.methodLink RX4 88 yX4_readNumber ∈ kAL := al_in (List.mem_of_getElem? (i := 671) (by decide +kernel)) rfl
theorem al_716 : Cond.instanceMethod yX4_readNumber ∈ kAL := al_in (List.mem_of_getElem? (i := 673) (by decide +kernel)) rfl
theorem al_717 : Cond.selects RX4 yX4_readNumber yX4_readNumber ∈ kAL := al_in (List.mem_of_getElem? (i := 14) (by decide +kernel)) rfl
theorem al_718 : Cond.code yX4_readNumber cX4_readNumber 3 (some .boolean) ∈ kAL := al_in (List.mem_of_getElem? (i := 674) (by decide +kernel)) rfl
theorem al_719 : Cond.methodLink RX4 43 yX4_readSign ∈ kAL := al_in (List.mem_of_getElem? (i := 675) (by decide +kernel)) rfl
theorem al_720 : Cond.instanceMethod yX4_readSign ∈ kAL := al_in (List.mem_of_getElem? (i := 676) (by decide +kernel)) rfl
theorem al_721 : Cond.selects RX4 yX4_readSign yX4_readSign ∈ kAL := al_in (List.mem_of_getElem? (i := 677) (by decide +kernel)) rfl
theorem al_722 : Cond.code yX4_readSign cX4_readSign 2 (some .boolean) ∈ kAL := al_in (List.mem_of_getElem? (i := 678) (by decide +kernel)) rfl
theorem al_723 : Cond.methodLink RL 97 yX8_fault ∈ kAL := al_in (List.mem_of_getElem? (i := 945) (by decide +kernel)) rfl
theorem al_724 : Cond.instanceMethod yX8_fault ∈ kAL := al_in (List.mem_of_getElem? (i := 946) (by decide +kernel)) rfl
theorem al_725 : Cond.selects RX8 yX8_fault yX8_fault ∈ kAL := al_in (List.mem_of_getElem? (i := 947) (by decide +kernel)) rfl
theorem al_726 : Cond.code yX8_fault cX8_fault 1 (some .int) ∈ kAL := al_in (List.mem_of_getElem? (i := 948) (by decide +kernel)) rfl
theorem al_727 : Cond.fieldLink RX8 163 "CaneQuotasModel" "at" "I" ∈ kAL := al_in (List.mem_of_getElem? (i := 721) (by decide +kernel)) rfl
theorem al_728 : Cond.methodLink RX8 185 yX8_isText ∈ kAL := al_in (List.mem_of_getElem? (i := 949) (by decide +kernel)) rfl
theorem al_729 : Cond.instanceMethod yX8_isText ∈ kAL := al_in (List.mem_of_getElem? (i := 951) (by decide +kernel)) rfl
theorem al_730 : Cond.selects RX8 yX8_isText yX8_isText ∈ kAL := al_in (List.mem_of_getElem? (i := 27) (by decide +kernel)) rfl
theorem al_731 : Cond.code yX8_isText cX8_isText 2 (some .boolean) ∈ kAL := al_in (List.mem_of_getElem? (i := 952) (by decide +kernel)) rfl
theorem al_732 : Cond.fieldLink RX8 169 "CaneQuotasModel" "ordered" "I" ∈ kAL := al_in (List.mem_of_getElem? (i := 723) (by decide +kernel)) rfl
theorem al_733 : Cond.methodLink RX8 181 yX8_isOrder ∈ kAL := al_in (List.mem_of_getElem? (i := 953) (by decide +kernel)) rfl
theorem al_734 : Cond.instanceMethod yX8_isOrder ∈ kAL := al_in (List.mem_of_getElem? (i := 955) (by decide +kernel)) rfl
theorem al_735 : Cond.selects RX8 yX8_isOrder yX8_isOrder ∈ kAL := al_in (List.mem_of_getElem? (i := 28) (by decide +kernel)) rfl
theorem al_736 : Cond.code yX8_isOrder cX8_isOrder 2 (some .boolean) ∈ kAL := al_in (List.mem_of_getElem? (i := 956) (by decide +kernel)) rfl
theorem al_737 : Cond.methodLink RX8 172 yX8_isDigit ∈ kAL := al_in (List.mem_of_getElem? (i := 957) (by decide +kernel)) rfl
theorem al_738 : Cond.instanceMethod yX8_isDigit ∈ kAL := al_in (List.mem_of_getElem? (i := 959) (by decide +kernel)) rfl
theorem al_739 : Cond.selects RX8 yX8_isDigit yX8_isDigit ∈ kAL := al_in (List.mem_of_getElem? (i := 29) (by decide +kernel)) rfl
theorem al_740 : Cond.code yX8_isDigit cX8_isDigit 2 (some .boolean) ∈ kAL := al_in (List.mem_of_getElem? (i := 960) (by decide +kernel)) rfl
theorem al_741 : Cond.methodLink RX8 166 yX8_isAt ∈ kAL := al_in (List.mem_of_getElem? (i := 961) (by decide +kernel)) rfl
theorem al_742 : Cond.instanceMethod yX8_isAt ∈ kAL := al_in (List.mem_of_getElem? (i := 963) (by decide +kernel)) rfl
theorem al_743 : Cond.selects RX8 yX8_isAt yX8_isAt ∈ kAL := al_in (List.mem_of_getElem? (i := 30) (by decide +kernel)) rfl
theorem al_744 : Cond.code yX8_isAt cX8_isAt 3 (some .boolean) ∈ kAL := al_in (List.mem_of_getElem? (i := 964) (by decide +kernel)) rfl
theorem al_745 : Cond.methodLink RX8 175 yX8_isSign ∈ kAL := al_in (List.mem_of_getElem? (i := 965) (by decide +kernel)) rfl
theorem al_746 : Cond.instanceMethod yX8_isSign ∈ kAL := al_in (List.mem_of_getElem? (i := 967) (by decide +kernel)) rfl
theorem al_747 : Cond.selects RX8 yX8_isSign yX8_isSign ∈ kAL := al_in (List.mem_of_getElem? (i := 31) (by decide +kernel)) rfl
theorem al_748 : Cond.code yX8_isSign cX8_isSign 3 (some .boolean) ∈ kAL := al_in (List.mem_of_getElem? (i := 968) (by decide +kernel)) rfl
theorem al_749 : Cond.methodLink RX8 178 yX8_isNumber ∈ kAL := al_in (List.mem_of_getElem? (i := 969) (by decide +kernel)) rfl
theorem al_750 : Cond.instanceMethod yX8_isNumber ∈ kAL := al_in (List.mem_of_getElem? (i := 971) (by decide +kernel)) rfl
theorem al_751 : Cond.selects RX8 yX8_isNumber yX8_isNumber ∈ kAL := al_in (List.mem_of_getElem? (i := 32) (by decide +kernel)) rfl
theorem al_752 : Cond.code yX8_isNumber cX8_isNumber 3 (some .boolean) ∈ kAL := al_in (List.mem_of_getElem? (i := 972) (by decide +kernel)) rfl
theorem al_753 : Cond.methodLink RL 98 yX7_carryOut ∈ kAL := al_in (List.mem_of_getElem? (i := 680) (by decide +kernel)) rfl
theorem al_754 : Cond.instanceMethod yX7_carryOut ∈ kAL := al_in (List.mem_of_getElem? (i := 681) (by decide +kernel)) rfl
theorem al_755 : Cond.selects RX7 yX7_carryOut yX7_carryOut ∈ kAL := al_in (List.mem_of_getElem? (i := 682) (by decide +kernel)) rfl
theorem al_756 : Cond.code yX7_carryOut cX7_carryOut 3 (some .int) ∈ kAL := al_in (List.mem_of_getElem? (i := 683) (by decide +kernel)) rfl
theorem al_757 : Cond.methodLink RX7 168 yX4_startReading ∈ kAL := al_in (List.mem_of_getElem? (i := 684) (by decide +kernel)) rfl
theorem al_758 : Cond.methodLink RX7 171 yX4_readOrder ∈ kAL := al_in (List.mem_of_getElem? (i := 685) (by decide +kernel)) rfl
theorem al_759 : Cond.methodLink RX7 175 yX7_carryOutOrder ∈ kAL := al_in (List.mem_of_getElem? (i := 686) (by decide +kernel)) rfl
theorem al_760 : Cond.instanceMethod yX7_carryOutOrder ∈ kAL := al_in (List.mem_of_getElem? (i := 688) (by decide +kernel)) rfl
theorem al_761 : Cond.selects RX7 yX7_carryOutOrder yX7_carryOutOrder ∈ kAL := al_in (List.mem_of_getElem? (i := 15) (by decide +kernel)) rfl
theorem al_762 : Cond.code yX7_carryOutOrder cX7_carryOutOrder 2 (some .int) ∈ kAL := al_in (List.mem_of_getElem? (i := 689) (by decide +kernel)) rfl
theorem al_763 : Cond.fieldLink RX7 182 "CaneQuotas$Pad" "values" "[I" ∈ kAL := al_in (List.mem_of_getElem? (i := 247) (by decide +kernel)) rfl
theorem al_764 : Cond.fieldLink RX7 185 "CaneQuotas$Pad" "kind" "C" ∈ kAL := al_in (List.mem_of_getElem? (i := 245) (by decide +kernel)) rfl
theorem al_765 : Cond.methodLink RX7 178 yX4_readSign ∈ kAL := al_in (List.mem_of_getElem? (i := 690) (by decide +kernel)) rfl
theorem al_766 : Cond.methodLink RL 101 yX8_carryOut ∈ kAL := al_in (List.mem_of_getElem? (i := 973) (by decide +kernel)) rfl
theorem al_767 : Cond.instanceMethod yX8_carryOut ∈ kAL := al_in (List.mem_of_getElem? (i := 974) (by decide +kernel)) rfl
theorem al_768 : Cond.selects RX8 yX8_carryOut yX8_carryOut ∈ kAL := al_in (List.mem_of_getElem? (i := 975) (by decide +kernel)) rfl
theorem al_769 : Cond.code yX8_carryOut cX8_carryOut 2 (some .int) ∈ kAL := al_in (List.mem_of_getElem? (i := 976) (by decide +kernel)) rfl
theorem al_770 : Cond.methodLink RX8 192 yX8_does ∈ kAL := al_in (List.mem_of_getElem? (i := 977) (by decide +kernel)) rfl
theorem al_771 : Cond.instanceMethod yX8_does ∈ kAL := al_in (List.mem_of_getElem? (i := 979) (by decide +kernel)) rfl
theorem al_772 : Cond.selects RX8 yX8_does yX8_does ∈ kAL := al_in (List.mem_of_getElem? (i := 33) (by decide +kernel)) rfl
theorem al_773 : Cond.code yX8_does cX8_does 7 (some .boolean) ∈ kAL := al_in (List.mem_of_getElem? (i := 980) (by decide +kernel)) rfl
theorem al_774 : Cond.methodLink RX8 188 yX8_mayDo ∈ kAL := al_in (List.mem_of_getElem? (i := 981) (by decide +kernel)) rfl
theorem al_775 : Cond.instanceMethod yX8_mayDo ∈ kAL := al_in (List.mem_of_getElem? (i := 983) (by decide +kernel)) rfl
theorem al_776 : Cond.selects RX8 yX8_mayDo yX8_mayDo ∈ kAL := al_in (List.mem_of_getElem? (i := 34) (by decide +kernel)) rfl
theorem al_777 : Cond.code yX8_mayDo cX8_mayDo 6 (some .int) ∈ kAL := al_in (List.mem_of_getElem? (i := 984) (by decide +kernel)) rfl
theorem al_778 : Cond.methodLink RL 102 yX7_undo ∈ kAL := al_in (List.mem_of_getElem? (i := 691) (by decide +kernel)) rfl
theorem al_779 : Cond.instanceMethod yX7_undo ∈ kAL := al_in (List.mem_of_getElem? (i := 692) (by decide +kernel)) rfl
theorem al_780 : Cond.selects RX7 yX7_undo yX7_undo ∈ kAL := al_in (List.mem_of_getElem? (i := 693) (by decide +kernel)) rfl
theorem al_781 : Cond.code yX7_undo cX7_undo 1 (some .int) ∈ kAL := al_in (List.mem_of_getElem? (i := 694) (by decide +kernel)) rfl
theorem al_782 : Cond.methodLink RX7 189 yX2_bringBackLatest ∈ kAL := al_in (List.mem_of_getElem? (i := 695) (by decide +kernel)) rfl
theorem al_783 : Cond.instanceMethod yX2_bringBackLatest ∈ kAL := al_in (List.mem_of_getElem? (i := 696) (by decide +kernel)) rfl
theorem al_784 : Cond.selects RX2 yX2_bringBackLatest yX2_bringBackLatest ∈ kAL := al_in (List.mem_of_getElem? (i := 697) (by decide +kernel)) rfl
theorem al_785 : Cond.code yX2_bringBackLatest cX2_bringBackLatest 3 none ∈ kAL := al_in (List.mem_of_getElem? (i := 698) (by decide +kernel)) rfl
theorem al_786 : Cond.methodLink RL 105 yX8_undo ∈ kAL := al_in (List.mem_of_getElem? (i := 748) (by decide +kernel)) rfl
theorem al_787 : Cond.instanceMethod yX8_undo ∈ kAL := al_in (List.mem_of_getElem? (i := 749) (by decide +kernel)) rfl
theorem al_788 : Cond.selects RX8 yX8_undo yX8_undo ∈ kAL := al_in (List.mem_of_getElem? (i := 750) (by decide +kernel)) rfl
theorem al_789 : Cond.code yX8_undo cX8_undo 1 (some .int) ∈ kAL := al_in (List.mem_of_getElem? (i := 751) (by decide +kernel)) rfl
theorem al_790 : Cond.methodLink RL 106 yX7_save ∈ kAL := al_in (List.mem_of_getElem? (i := 699) (by decide +kernel)) rfl
theorem al_791 : Cond.instanceMethod yX7_save ∈ kAL := al_in (List.mem_of_getElem? (i := 700) (by decide +kernel)) rfl
theorem al_792 : Cond.selects RX7 yX7_save yX7_save ∈ kAL := al_in (List.mem_of_getElem? (i := 701) (by decide +kernel)) rfl
theorem al_793 : Cond.code yX7_save cX7_save 3 (some .int) ∈ kAL := al_in (List.mem_of_getElem? (i := 702) (by decide +kernel)) rfl
theorem al_794 : Cond.fieldLink RX7 192 "CaneQuotas$Fields" "count" "I" ∈ kAL := al_in (List.mem_of_getElem? (i := 117) (by decide +kernel)) rfl
theorem al_795 : Cond.methodLink RL 109 yX8_save ∈ kAL := al_in (List.mem_of_getElem? (i := 755) (by decide +kernel)) rfl
theorem al_796 : Cond.instanceMethod yX8_save ∈ kAL := al_in (List.mem_of_getElem? (i := 756) (by decide +kernel)) rfl
theorem al_797 : Cond.selects RX8 yX8_save yX8_save ∈ kAL := al_in (List.mem_of_getElem? (i := 757) (by decide +kernel)) rfl
theorem al_798 : Cond.code yX8_save cX8_save 2 (some .int) ∈ kAL := al_in (List.mem_of_getElem? (i := 758) (by decide +kernel)) rfl
theorem al_799 : Cond.methodLink RL 110 yX7_restore ∈ kAL := al_in (List.mem_of_getElem? (i := 703) (by decide +kernel)) rfl
theorem al_800 : Cond.instanceMethod yX7_restore ∈ kAL := al_in (List.mem_of_getElem? (i := 704) (by decide +kernel)) rfl
theorem al_801 : Cond.selects RX7 yX7_restore yX7_restore ∈ kAL := al_in (List.mem_of_getElem? (i := 705) (by decide +kernel)) rfl
theorem al_802 : Cond.code yX7_restore cX7_restore 3 (some .int) ∈ kAL := al_in (List.mem_of_getElem? (i := 706) (by decide +kernel)) rfl
theorem al_803 : Cond.methodLink RL 113 yX8_restore ∈ kAL := al_in (List.mem_of_getElem? (i := 762) (by decide +kernel)) rfl
theorem al_804 : Cond.instanceMethod yX8_restore ∈ kAL := al_in (List.mem_of_getElem? (i := 763) (by decide +kernel)) rfl
theorem al_805 : Cond.selects RX8 yX8_restore yX8_restore ∈ kAL := al_in (List.mem_of_getElem? (i := 764) (by decide +kernel)) rfl
theorem al_806 : Cond.code yX8_restore cX8_restore 2 (some .int) ∈ kAL := al_in (List.mem_of_getElem? (i := 765) (by decide +kernel)) rfl
