theorem al_380 : Cond.code Lib.Math.max.name Lib.Math.max.code 2 (some .int) ∈ kAL := al_in (List.mem_of_getElem? (i := 287) (by decide +kernel)) rfl
theorem al_381 : Cond.methodLink RX3 181 yX6_takeFrom ∈ kAL := al_in (List.mem_of_getElem? (i := 426) (by decide +kernel)) rfl
theorem al_382 : Cond.instanceMethod yX6_takeFrom ∈ kAL := al_in (List.mem_of_getElem? (i := 427) (by decide +kernel)) rfl
theorem al_383 : Cond.selects RX6 yX6_takeFrom yX6_takeFrom ∈ kAL := al_in (List.mem_of_getElem? (i := 428) (by decide +kernel)) rfl
theorem al_384 : Cond.code yX6_takeFrom cX6_takeFrom 3 (some .int) ∈ kAL := al_in (List.mem_of_getElem? (i := 429) (by decide +kernel)) rfl
theorem al_385 : Cond.methodLink RX3 184 yX6_dropFirst ∈ kAL := al_in (List.mem_of_getElem? (i := 430) (by decide +kernel)) rfl
theorem al_386 : Cond.instanceMethod yX6_dropFirst ∈ kAL := al_in (List.mem_of_getElem? (i := 431) (by decide +kernel)) rfl
theorem al_387 : Cond.selects RX6 yX6_dropFirst yX6_dropFirst ∈ kAL := al_in (List.mem_of_getElem? (i := 432) (by decide +kernel)) rfl
theorem al_388 : Cond.code yX6_dropFirst cX6_dropFirst 3 none ∈ kAL := al_in (List.mem_of_getElem? (i := 433) (by decide +kernel)) rfl
theorem al_440 : Cond.instanceMethod yX7_ofField ∈ kAL := al_in (List.mem_of_getElem? (i := 270) (by decide +kernel)) rfl
theorem al_441 : Cond.selects RX7 yX7_ofField yX7_ofField ∈ kAL := al_in (List.mem_of_getElem? (i := 271) (by decide +kernel)) rfl
theorem al_442 : Cond.code yX7_ofField cX7_ofField 3 (some .int) ∈ kAL := al_in (List.mem_of_getElem? (i := 272) (by decide +kernel)) rfl
theorem al_443 : Cond.methodLink RX7 75 yX3_numberOfField ∈ kAL := al_in (List.mem_of_getElem? (i := 273) (by decide +kernel)) rfl
theorem al_444 : Cond.instanceMethod yX3_numberOfField ∈ kAL := al_in (List.mem_of_getElem? (i := 274) (by decide +kernel)) rfl
theorem al_445 : Cond.selects RX3 yX3_numberOfField yX3_numberOfField ∈ kAL := al_in (List.mem_of_getElem? (i := 275) (by decide +kernel)) rfl
theorem al_446 : Cond.code yX3_numberOfField cX3_numberOfField 3 (some .int) ∈ kAL := al_in (List.mem_of_getElem? (i := 276) (by decide +kernel)) rfl
theorem al_447 : Cond.fieldLink RX3 198 "CaneQuotas$Fields" "tonnes" "[I" ∈ kAL := al_in (List.mem_of_getElem? (i := 71) (by decide +kernel)) rfl
theorem al_448 : Cond.fieldLink RX3 199 "CaneQuotas$Fields" "purity" "[I" ∈ kAL := al_in (List.mem_of_getElem? (i := 73) (by decide +kernel)) rfl
theorem al_449 : Cond.fieldLink RX3 202 "CaneQuotas$Fields" "lost" "[I" ∈ kAL := al_in (List.mem_of_getElem? (i := 83) (by decide +kernel)) rfl
theorem al_455 : Cond.instanceMethod yX7_ofGrower ∈ kAL := al_in (List.mem_of_getElem? (i := 298) (by decide +kernel)) rfl
theorem al_456 : Cond.selects RX7 yX7_ofGrower yX7_ofGrower ∈ kAL := al_in (List.mem_of_getElem? (i := 299) (by decide +kernel)) rfl
theorem al_457 : Cond.code yX7_ofGrower cX7_ofGrower 3 (some .int) ∈ kAL := al_in (List.mem_of_getElem? (i := 300) (by decide +kernel)) rfl
theorem al_458 : Cond.methodLink RX7 78 yX3_numberOfGrower ∈ kAL := al_in (List.mem_of_getElem? (i := 301) (by decide +kernel)) rfl
theorem al_459 : Cond.instanceMethod yX3_numberOfGrower ∈ kAL := al_in (List.mem_of_getElem? (i := 302) (by decide +kernel)) rfl
theorem al_460 : Cond.selects RX3 yX3_numberOfGrower yX3_numberOfGrower ∈ kAL := al_in (List.mem_of_getElem? (i := 303) (by decide +kernel)) rfl
theorem al_461 : Cond.code yX3_numberOfGrower cX3_numberOfGrower 3 (some .int) ∈ kAL := al_in (List.mem_of_getElem? (i := 304) (by decide +kernel)) rfl
theorem al_462 : Cond.methodLink RX3 203 yX0_burntCaneOf ∈ kAL := al_in (List.mem_of_getElem? (i := 309) (by decide +kernel)) rfl
theorem al_463 : Cond.instanceMethod yX0_burntCaneOf ∈ kAL := al_in (List.mem_of_getElem? (i := 310) (by decide +kernel)) rfl
theorem al_464 : Cond.selects RX0 yX0_burntCaneOf yX0_burntCaneOf ∈ kAL := al_in (List.mem_of_getElem? (i := 311) (by decide +kernel)) rfl
theorem al_465 : Cond.code yX0_burntCaneOf cX0_burntCaneOf 5 (some .int) ∈ kAL := al_in (List.mem_of_getElem? (i := 312) (by decide +kernel)) rfl
theorem al_466 : Cond.methodLink RX0 50 yX0_howItIs ∈ kAL := al_in (List.mem_of_getElem? (i := 313) (by decide +kernel)) rfl
theorem al_476 : Cond.instanceMethod yX7_load ∈ kAL := al_in (List.mem_of_getElem? (i := 289) (by decide +kernel)) rfl
theorem al_477 : Cond.selects RX7 yX7_load yX7_load ∈ kAL := al_in (List.mem_of_getElem? (i := 290) (by decide +kernel)) rfl
theorem al_478 : Cond.code yX7_load cX7_load 3 (some .int) ∈ kAL := al_in (List.mem_of_getElem? (i := 291) (by decide +kernel)) rfl
theorem al_479 : Cond.fieldLink RX7 81 "CaneQuotas$Mill" "yard" "LCaneQuotas$Yard;" ∈ kAL := al_in (List.mem_of_getElem? (i := 156) (by decide +kernel)) rfl
theorem al_480 : Cond.methodLink RX7 85 yX6_numberOfLoad ∈ kAL := al_in (List.mem_of_getElem? (i := 292) (by decide +kernel)) rfl
theorem al_481 : Cond.instanceMethod yX6_numberOfLoad ∈ kAL := al_in (List.mem_of_getElem? (i := 293) (by decide +kernel)) rfl
theorem al_482 : Cond.selects RX6 yX6_numberOfLoad yX6_numberOfLoad ∈ kAL := al_in (List.mem_of_getElem? (i := 294) (by decide +kernel)) rfl
theorem al_483 : Cond.code yX6_numberOfLoad cX6_numberOfLoad 3 (some .int) ∈ kAL := al_in (List.mem_of_getElem? (i := 295) (by decide +kernel)) rfl
theorem al_489 : Cond.instanceMethod yX7_count ∈ kAL := al_in (List.mem_of_getElem? (i := 241) (by decide +kernel)) rfl
theorem al_490 : Cond.selects RX7 yX7_count yX7_count ∈ kAL := al_in (List.mem_of_getElem? (i := 242) (by decide +kernel)) rfl
theorem al_491 : Cond.code yX7_count cX7_count 2 (some .int) ∈ kAL := al_in (List.mem_of_getElem? (i := 243) (by decide +kernel)) rfl
theorem al_492 : Cond.fieldLink RX7 90 "CaneQuotas$Pad" "length" "I" ∈ kAL := al_in (List.mem_of_getElem? (i := 208) (by decide +kernel)) rfl
theorem al_493 : Cond.fieldLink RX7 94 "CaneQuotas$History" "size" "I" ∈ kAL := al_in (List.mem_of_getElem? (i := 193) (by decide +kernel)) rfl
theorem al_494 : Cond.methodLink RX7 97 yX3_numberOfAll ∈ kAL := al_in (List.mem_of_getElem? (i := 244) (by decide +kernel)) rfl
theorem al_495 : Cond.instanceMethod yX3_numberOfAll ∈ kAL := al_in (List.mem_of_getElem? (i := 245) (by decide +kernel)) rfl
theorem al_496 : Cond.selects RX3 yX3_numberOfAll yX3_numberOfAll ∈ kAL := al_in (List.mem_of_getElem? (i := 246) (by decide +kernel)) rfl
theorem al_497 : Cond.code yX3_numberOfAll cX3_numberOfAll 2 (some .int) ∈ kAL := al_in (List.mem_of_getElem? (i := 247) (by decide +kernel)) rfl
theorem al_498 : Cond.fieldLink RX3 206 "CaneQuotas$Stops" "count" "I" ∈ kAL := al_in (List.mem_of_getElem? (i := 114) (by decide +kernel)) rfl
theorem al_499 : Cond.methodLink RX3 207 yX1_totalCrushed ∈ kAL := al_in (List.mem_of_getElem? (i := 251) (by decide +kernel)) rfl
theorem al_500 : Cond.instanceMethod yX1_totalCrushed ∈ kAL := al_in (List.mem_of_getElem? (i := 252) (by decide +kernel)) rfl
theorem al_501 : Cond.selects RX1 yX1_totalCrushed yX1_totalCrushed ∈ kAL := al_in (List.mem_of_getElem? (i := 253) (by decide +kernel)) rfl
theorem al_502 : Cond.code yX1_totalCrushed cX1_totalCrushed 1 (some .int) ∈ kAL := al_in (List.mem_of_getElem? (i := 254) (by decide +kernel)) rfl
theorem al_503 : Cond.static yX7_sumOf ∈ kAL := al_in (List.mem_of_getElem? (i := 256) (by decide +kernel)) rfl
theorem al_504 : Cond.code yX7_sumOf cX7_sumOf 6 (some .int) ∈ kAL := al_in (List.mem_of_getElem? (i := 257) (by decide +kernel)) rfl
theorem al_505 : Cond.methodLink RX3 210 yX1_totalLost ∈ kAL := al_in (List.mem_of_getElem? (i := 258) (by decide +kernel)) rfl
theorem al_506 : Cond.instanceMethod yX1_totalLost ∈ kAL := al_in (List.mem_of_getElem? (i := 259) (by decide +kernel)) rfl
theorem al_507 : Cond.selects RX1 yX1_totalLost yX1_totalLost ∈ kAL := al_in (List.mem_of_getElem? (i := 260) (by decide +kernel)) rfl
theorem al_508 : Cond.code yX1_totalLost cX1_totalLost 1 (some .int) ∈ kAL := al_in (List.mem_of_getElem? (i := 261) (by decide +kernel)) rfl
theorem al_509 : Cond.methodLink RX3 213 yX1_totalPaid ∈ kAL := al_in (List.mem_of_getElem? (i := 262) (by decide +kernel)) rfl
theorem al_510 : Cond.instanceMethod yX1_totalPaid ∈ kAL := al_in (List.mem_of_getElem? (i := 263) (by decide +kernel)) rfl
theorem al_511 : Cond.selects RX1 yX1_totalPaid yX1_totalPaid ∈ kAL := al_in (List.mem_of_getElem? (i := 264) (by decide +kernel)) rfl
theorem al_512 : Cond.code yX1_totalPaid cX1_totalPaid 1 (some .int) ∈ kAL := al_in (List.mem_of_getElem? (i := 265) (by decide +kernel)) rfl
theorem al_519 : Cond.instanceMethod yX7_fields ∈ kAL := al_in (List.mem_of_getElem? (i := 318) (by decide +kernel)) rfl
theorem al_520 : Cond.selects RX7 yX7_fields yX7_fields ∈ kAL := al_in (List.mem_of_getElem? (i := 319) (by decide +kernel)) rfl
theorem al_521 : Cond.code yX7_fields cX7_fields 2 (some .long) ∈ kAL := al_in (List.mem_of_getElem? (i := 320) (by decide +kernel)) rfl
theorem al_522 : Cond.constantLong RX7 104 (-2) ∈ kAL := al_in (List.mem_of_getElem? (i := 321) (by decide +kernel)) rfl
theorem al_523 : Cond.fieldLink RX7 106 "CaneQuotas$Mill" "fields" "LCaneQuotas$Fields;" ∈ kAL := al_in (List.mem_of_getElem? (i := 152) (by decide +kernel)) rfl
theorem al_524 : Cond.fieldLink RX7 110 "CaneQuotas$Mill" "now" "I" ∈ kAL := al_in (List.mem_of_getElem? (i := 158) (by decide +kernel)) rfl
theorem al_525 : Cond.methodLink RX7 113 yX0_setOf ∈ kAL := al_in (List.mem_of_getElem? (i := 322) (by decide +kernel)) rfl
theorem al_526 : Cond.instanceMethod yX0_setOf ∈ kAL := al_in (List.mem_of_getElem? (i := 323) (by decide +kernel)) rfl
theorem al_527 : Cond.selects RX0 yX0_setOf yX0_setOf ∈ kAL := al_in (List.mem_of_getElem? (i := 324) (by decide +kernel)) rfl
theorem al_528 : Cond.code yX0_setOf cX0_setOf 6 (some .long) ∈ kAL := al_in (List.mem_of_getElem? (i := 325) (by decide +kernel)) rfl
theorem al_535 : Cond.instanceMethod yX7_next ∈ kAL := al_in (List.mem_of_getElem? (i := 327) (by decide +kernel)) rfl
theorem al_536 : Cond.selects RX7 yX7_next yX7_next ∈ kAL := al_in (List.mem_of_getElem? (i := 328) (by decide +kernel)) rfl
theorem al_537 : Cond.code yX7_next cX7_next 1 (some .int) ∈ kAL := al_in (List.mem_of_getElem? (i := 329) (by decide +kernel)) rfl
theorem al_538 : Cond.methodLink RX7 119 yX3_nextField ∈ kAL := al_in (List.mem_of_getElem? (i := 330) (by decide +kernel)) rfl
theorem al_544 : Cond.instanceMethod yX7_then ∈ kAL := al_in (List.mem_of_getElem? (i := 347) (by decide +kernel)) rfl
theorem al_545 : Cond.selects RX7 yX7_then yX7_then ∈ kAL := al_in (List.mem_of_getElem? (i := 348) (by decide +kernel)) rfl
theorem al_546 : Cond.code yX7_then cX7_then 3 (some .int) ∈ kAL := al_in (List.mem_of_getElem? (i := 349) (by decide +kernel)) rfl
theorem al_547 : Cond.fieldLink RX7 127 "CaneQuotas$Mill" "growers" "LCaneQuotas$Growers;" ∈ kAL := al_in (List.mem_of_getElem? (i := 150) (by decide +kernel)) rfl
theorem al_548 : Cond.fieldLink RX7 136 "CaneQuotas$Mill" "sugar" "I" ∈ kAL := al_in (List.mem_of_getElem? (i := 160) (by decide +kernel)) rfl
theorem al_549 : Cond.methodLink RX7 123 yX7_tryDays ∈ kAL := al_in (List.mem_of_getElem? (i := 350) (by decide +kernel)) rfl
theorem al_550 : Cond.instanceMethod yX7_tryDays ∈ kAL := al_in (List.mem_of_getElem? (i := 352) (by decide +kernel)) rfl
theorem al_551 : Cond.selects RX7 yX7_tryDays yX7_tryDays ∈ kAL := al_in (List.mem_of_getElem? (i := 3) (by decide +kernel)) rfl
theorem al_552 : Cond.code yX7_tryDays cX7_tryDays 4 none ∈ kAL := al_in (List.mem_of_getElem? (i := 353) (by decide +kernel)) rfl
theorem al_553 : Cond.methodLink RX7 147 yX3_copyFrom ∈ kAL := al_in (List.mem_of_getElem? (i := 354) (by decide +kernel)) rfl
theorem al_554 : Cond.methodLink RX7 150 yX3_passDay ∈ kAL := al_in (List.mem_of_getElem? (i := 387) (by decide +kernel)) rfl
theorem al_555 : Cond.methodLink RX7 131 yX1_totalLost ∈ kAL := al_in (List.mem_of_getElem? (i := 434) (by decide +kernel)) rfl
theorem al_556 : Cond.methodLink RX7 139 yX1_totalPaid ∈ kAL := al_in (List.mem_of_getElem? (i := 435) (by decide +kernel)) rfl
theorem al_579 : Cond.instanceMethod yX7_stopCosts ∈ kAL := al_in (List.mem_of_getElem? (i := 437) (by decide +kernel)) rfl
theorem al_580 : Cond.selects RX7 yX7_stopCosts yX7_stopCosts ∈ kAL := al_in (List.mem_of_getElem? (i := 438) (by decide +kernel)) rfl
theorem al_581 : Cond.code yX7_stopCosts cX7_stopCosts 4 (some .int) ∈ kAL := al_in (List.mem_of_getElem? (i := 439) (by decide +kernel)) rfl
theorem al_582 : Cond.constant RX7 146 (100000) ∈ kAL := al_in (List.mem_of_getElem? (i := 440) (by decide +kernel)) rfl
theorem al_779 : Cond.instanceMethod yX7_undo ∈ kAL := al_in (List.mem_of_getElem? (i := 520) (by decide +kernel)) rfl
theorem al_780 : Cond.selects RX7 yX7_undo yX7_undo ∈ kAL := al_in (List.mem_of_getElem? (i := 521) (by decide +kernel)) rfl
theorem al_781 : Cond.code yX7_undo cX7_undo 1 (some .int) ∈ kAL := al_in (List.mem_of_getElem? (i := 522) (by decide +kernel)) rfl
theorem al_782 : Cond.methodLink RX7 189 yX2_bringBackLatest ∈ kAL := al_in (List.mem_of_getElem? (i := 523) (by decide +kernel)) rfl
theorem al_783 : Cond.instanceMethod yX2_bringBackLatest ∈ kAL := al_in (List.mem_of_getElem? (i := 524) (by decide +kernel)) rfl
theorem al_784 : Cond.selects RX2 yX2_bringBackLatest yX2_bringBackLatest ∈ kAL := al_in (List.mem_of_getElem? (i := 525) (by decide +kernel)) rfl
theorem al_785 : Cond.code yX2_bringBackLatest cX2_bringBackLatest 3 none ∈ kAL := al_in (List.mem_of_getElem? (i := 526) (by decide +kernel)) rfl
theorem al_5000 : Cond.constant RL 7 (2147483647) ∈ kAL := al_in (List.mem_of_getElem? (i := 452) (by decide +kernel)) rfl
theorem al_5001 : Cond.code yL_low cL_low 2 (some .int) ∈ kAL := al_in (List.mem_of_getElem? (i := 451) (by decide +kernel)) rfl
theorem al_5002 : Cond.constant RL 8 (40503) ∈ kAL := al_in (List.mem_of_getElem? (i := 448) (by decide +kernel)) rfl
theorem al_5003 : Cond.code yL_cell cL_cell 2 (some .int) ∈ kAL := al_in (List.mem_of_getElem? (i := 447) (by decide +kernel)) rfl
theorem al_5004 : Cond.methodLink RL 9 yX7_count ∈ kAL := al_in (List.mem_of_getElem? (i := 240) (by decide +kernel)) rfl
theorem al_5005 : Cond.methodLink RL 15 yX7_ofField ∈ kAL := al_in (List.mem_of_getElem? (i := 269) (by decide +kernel)) rfl
theorem al_5006 : Cond.methodLink RL 19 yX7_load ∈ kAL := al_in (List.mem_of_getElem? (i := 288) (by decide +kernel)) rfl
theorem al_5007 : Cond.methodLink RL 22 yX7_ofGrower ∈ kAL := al_in (List.mem_of_getElem? (i := 297) (by decide +kernel)) rfl
theorem al_5009 : Cond.constant RL 39 (100000) ∈ kAL := al_in (List.mem_of_getElem? (i := 441) (by decide +kernel)) rfl
theorem al_5010 : Cond.methodLink RL 25 yX7_fields ∈ kAL := al_in (List.mem_of_getElem? (i := 317) (by decide +kernel)) rfl
theorem al_5011 : Cond.methodLink RL 29 yX7_next ∈ kAL := al_in (List.mem_of_getElem? (i := 326) (by decide +kernel)) rfl
theorem al_5012 : Cond.methodLink RL 33 yX7_then ∈ kAL := al_in (List.mem_of_getElem? (i := 346) (by decide +kernel)) rfl
theorem al_5013 : Cond.methodLink RL 36 yX7_stopCosts ∈ kAL := al_in (List.mem_of_getElem? (i := 436) (by decide +kernel)) rfl
theorem al_5015 : Cond.methodLink RL 40 yL_cell ∈ kAL := al_in (List.mem_of_getElem? (i := 445) (by decide +kernel)) rfl
theorem al_5016 : Cond.static yL_cell ∈ kAL := al_in (List.mem_of_getElem? (i := 446) (by decide +kernel)) rfl
theorem al_5017 : Cond.initialized RL ∈ kAL := al_in (List.mem_of_getElem? (i := 9) (by decide +kernel)) rfl
theorem al_5018 : Cond.methodLink RL 46 yL_low ∈ kAL := al_in (List.mem_of_getElem? (i := 449) (by decide +kernel)) rfl
theorem al_5019 : Cond.static yL_low ∈ kAL := al_in (List.mem_of_getElem? (i := 450) (by decide +kernel)) rfl
theorem al_5020 : Cond.methodLink RL 49 yX7_field ∈ kAL := al_in (List.mem_of_getElem? (i := 453) (by decide +kernel)) rfl
theorem al_5021 : Cond.methodLink RL 53 yX7_quota ∈ kAL := al_in (List.mem_of_getElem? (i := 475) (by decide +kernel)) rfl
theorem al_5022 : Cond.methodLink RL 56 yX7_lend ∈ kAL := al_in (List.mem_of_getElem? (i := 483) (by decide +kernel)) rfl
theorem al_5023 : Cond.methodLink RL 60 yX7_stop ∈ kAL := al_in (List.mem_of_getElem? (i := 491) (by decide +kernel)) rfl
theorem al_5024 : Cond.methodLink RL 63 yX7_dropStop ∈ kAL := al_in (List.mem_of_getElem? (i := 499) (by decide +kernel)) rfl
theorem al_5025 : Cond.methodLink RL 66 yX7_set ∈ kAL := al_in (List.mem_of_getElem? (i := 507) (by decide +kernel)) rfl
theorem al_5026 : Cond.methodLink RL 69 yX7_undo ∈ kAL := al_in (List.mem_of_getElem? (i := 519) (by decide +kernel)) rfl
theorem al_5027 : Cond.methodLink RL 72 yX7_pass ∈ kAL := al_in (List.mem_of_getElem? (i := 527) (by decide +kernel)) rfl
theorem al_5029 : Cond.classLink RL 10 RX7 ∈ kAL := al_in (List.mem_of_getElem? (i := 20) (by decide +kernel)) rfl
theorem al_5030 : Cond.methodLink RL 75 yX7_init ∈ kAL := al_in (List.mem_of_getElem? (i := 22) (by decide +kernel)) rfl
theorem al_5031 : Cond.methodLink RL 76 yL_act ∈ kAL := al_in (List.mem_of_getElem? (i := 442) (by decide +kernel)) rfl
theorem al_5032 : Cond.static yL_act ∈ kAL := al_in (List.mem_of_getElem? (i := 443) (by decide +kernel)) rfl
theorem al_5033 : Cond.methodLink RL 80 yL_tonnes ∈ kAL := al_in (List.mem_of_getElem? (i := 266) (by decide +kernel)) rfl
theorem al_5034 : Cond.static yL_tonnes ∈ kAL := al_in (List.mem_of_getElem? (i := 267) (by decide +kernel)) rfl
theorem al_5035 : Cond.methodLink RL 84 yL_looks ∈ kAL := al_in (List.mem_of_getElem? (i := 314) (by decide +kernel)) rfl
theorem al_5036 : Cond.static yL_looks ∈ kAL := al_in (List.mem_of_getElem? (i := 315) (by decide +kernel)) rfl
