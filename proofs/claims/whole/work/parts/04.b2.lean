theorem al_275 : Cond.code yX8_mayStop cX8_mayStop 3 (some .int) ∈ kAL := al_in (List.mem_of_getElem? (i := 822) (by decide +kernel)) rfl
theorem al_276 : Cond.methodLink RX8 124 yX8_isDay ∈ kAL := al_in (List.mem_of_getElem? (i := 823) (by decide +kernel)) rfl
theorem al_277 : Cond.static yX8_isDay ∈ kAL := al_in (List.mem_of_getElem? (i := 824) (by decide +kernel)) rfl
theorem al_278 : Cond.code yX8_isDay cX8_isDay 1 (some .boolean) ∈ kAL := al_in (List.mem_of_getElem? (i := 825) (by decide +kernel)) rfl
theorem al_279 : Cond.methodLink RX8 130 yX8_stops ∈ kAL := al_in (List.mem_of_getElem? (i := 826) (by decide +kernel)) rfl
theorem al_280 : Cond.instanceMethod yX8_stops ∈ kAL := al_in (List.mem_of_getElem? (i := 828) (by decide +kernel)) rfl
theorem al_281 : Cond.selects RX8 yX8_stops yX8_stops ∈ kAL := al_in (List.mem_of_getElem? (i := 23) (by decide +kernel)) rfl
theorem al_282 : Cond.code yX8_stops cX8_stops 3 (some .int) ∈ kAL := al_in (List.mem_of_getElem? (i := 829) (by decide +kernel)) rfl
theorem al_283 : Cond.methodLink RL 36 yX7_dropStop ∈ kAL := al_in (List.mem_of_getElem? (i := 377) (by decide +kernel)) rfl
theorem al_284 : Cond.instanceMethod yX7_dropStop ∈ kAL := al_in (List.mem_of_getElem? (i := 378) (by decide +kernel)) rfl
theorem al_285 : Cond.selects RX7 yX7_dropStop yX7_dropStop ∈ kAL := al_in (List.mem_of_getElem? (i := 379) (by decide +kernel)) rfl
theorem al_286 : Cond.code yX7_dropStop cX7_dropStop 2 (some .int) ∈ kAL := al_in (List.mem_of_getElem? (i := 380) (by decide +kernel)) rfl
theorem al_287 : Cond.methodLink RX7 69 yX5_removeStop ∈ kAL := al_in (List.mem_of_getElem? (i := 381) (by decide +kernel)) rfl
theorem al_288 : Cond.instanceMethod yX5_removeStop ∈ kAL := al_in (List.mem_of_getElem? (i := 382) (by decide +kernel)) rfl
theorem al_289 : Cond.selects RX5 yX5_removeStop yX5_removeStop ∈ kAL := al_in (List.mem_of_getElem? (i := 383) (by decide +kernel)) rfl
theorem al_290 : Cond.code yX5_removeStop cX5_removeStop 3 (some .int) ∈ kAL := al_in (List.mem_of_getElem? (i := 384) (by decide +kernel)) rfl
theorem al_291 : Cond.methodLink RL 40 yX8_dropStop ∈ kAL := al_in (List.mem_of_getElem? (i := 830) (by decide +kernel)) rfl
theorem al_292 : Cond.instanceMethod yX8_dropStop ∈ kAL := al_in (List.mem_of_getElem? (i := 831) (by decide +kernel)) rfl
theorem al_293 : Cond.selects RX8 yX8_dropStop yX8_dropStop ∈ kAL := al_in (List.mem_of_getElem? (i := 832) (by decide +kernel)) rfl
theorem al_294 : Cond.code yX8_dropStop cX8_dropStop 3 (some .int) ∈ kAL := al_in (List.mem_of_getElem? (i := 833) (by decide +kernel)) rfl
theorem al_295 : Cond.methodLink RL 41 yX7_pass ∈ kAL := al_in (List.mem_of_getElem? (i := 385) (by decide +kernel)) rfl
theorem al_296 : Cond.instanceMethod yX7_pass ∈ kAL := al_in (List.mem_of_getElem? (i := 386) (by decide +kernel)) rfl
theorem al_297 : Cond.selects RX7 yX7_pass yX7_pass ∈ kAL := al_in (List.mem_of_getElem? (i := 387) (by decide +kernel)) rfl
theorem al_298 : Cond.code yX7_pass cX7_pass 2 (some .int) ∈ kAL := al_in (List.mem_of_getElem? (i := 388) (by decide +kernel)) rfl
theorem al_299 : Cond.methodLink RX7 72 yX3_passDays ∈ kAL := al_in (List.mem_of_getElem? (i := 389) (by decide +kernel)) rfl
theorem al_300 : Cond.instanceMethod yX3_passDays ∈ kAL := al_in (List.mem_of_getElem? (i := 390) (by decide +kernel)) rfl
theorem al_301 : Cond.selects RX3 yX3_passDays yX3_passDays ∈ kAL := al_in (List.mem_of_getElem? (i := 391) (by decide +kernel)) rfl
theorem al_302 : Cond.code yX3_passDays cX3_passDays 3 (some .int) ∈ kAL := al_in (List.mem_of_getElem? (i := 392) (by decide +kernel)) rfl
theorem al_303 : Cond.methodLink RX3 94 yX3_passDay ∈ kAL := al_in (List.mem_of_getElem? (i := 393) (by decide +kernel)) rfl
theorem al_304 : Cond.instanceMethod yX3_passDay ∈ kAL := al_in (List.mem_of_getElem? (i := 394) (by decide +kernel)) rfl
theorem al_305 : Cond.selects RX3 yX3_passDay yX3_passDay ∈ kAL := al_in (List.mem_of_getElem? (i := 395) (by decide +kernel)) rfl
theorem al_306 : Cond.code yX3_passDay cX3_passDay 2 none ∈ kAL := al_in (List.mem_of_getElem? (i := 396) (by decide +kernel)) rfl
theorem al_307 : Cond.methodLink RX3 98 yX3_loseOldCane ∈ kAL := al_in (List.mem_of_getElem? (i := 397) (by decide +kernel)) rfl
theorem al_308 : Cond.instanceMethod yX3_loseOldCane ∈ kAL := al_in (List.mem_of_getElem? (i := 399) (by decide +kernel)) rfl
theorem al_309 : Cond.selects RX3 yX3_loseOldCane yX3_loseOldCane ∈ kAL := al_in (List.mem_of_getElem? (i := 0) (by decide +kernel)) rfl
theorem al_310 : Cond.code yX3_loseOldCane cX3_loseOldCane 2 none ∈ kAL := al_in (List.mem_of_getElem? (i := 400) (by decide +kernel)) rfl
theorem al_311 : Cond.fieldLink RX3 110 "CaneQuotas$Fields" "count" "I" ∈ kAL := al_in (List.mem_of_getElem? (i := 116) (by decide +kernel)) rfl
theorem al_312 : Cond.fieldLink RX3 113 "CaneQuotas$Fields" "burnt" "[I" ∈ kAL := al_in (List.mem_of_getElem? (i := 106) (by decide +kernel)) rfl
theorem al_313 : Cond.fieldLink RX3 116 "CaneQuotas$Growers" "lost" "[I" ∈ kAL := al_in (List.mem_of_getElem? (i := 78) (by decide +kernel)) rfl
theorem al_314 : Cond.fieldLink RX3 119 "CaneQuotas$Fields" "grower" "[I" ∈ kAL := al_in (List.mem_of_getElem? (i := 100) (by decide +kernel)) rfl
theorem al_315 : Cond.methodLink RX3 122 yX0_loseCane ∈ kAL := al_in (List.mem_of_getElem? (i := 401) (by decide +kernel)) rfl
theorem al_316 : Cond.instanceMethod yX0_loseCane ∈ kAL := al_in (List.mem_of_getElem? (i := 402) (by decide +kernel)) rfl
theorem al_317 : Cond.selects RX0 yX0_loseCane yX0_loseCane ∈ kAL := al_in (List.mem_of_getElem? (i := 403) (by decide +kernel)) rfl
theorem al_318 : Cond.code yX0_loseCane cX0_loseCane 3 (some .int) ∈ kAL := al_in (List.mem_of_getElem? (i := 404) (by decide +kernel)) rfl
theorem al_319 : Cond.methodLink RX3 101 yX3_bringLoads ∈ kAL := al_in (List.mem_of_getElem? (i := 405) (by decide +kernel)) rfl
theorem al_320 : Cond.instanceMethod yX3_bringLoads ∈ kAL := al_in (List.mem_of_getElem? (i := 407) (by decide +kernel)) rfl
theorem al_321 : Cond.selects RX3 yX3_bringLoads yX3_bringLoads ∈ kAL := al_in (List.mem_of_getElem? (i := 1) (by decide +kernel)) rfl
theorem al_322 : Cond.code yX3_bringLoads cX3_bringLoads 3 none ∈ kAL := al_in (List.mem_of_getElem? (i := 408) (by decide +kernel)) rfl
theorem al_323 : Cond.methodLink RX3 126 yX3_nextField ∈ kAL := al_in (List.mem_of_getElem? (i := 409) (by decide +kernel)) rfl
theorem al_324 : Cond.instanceMethod yX3_nextField ∈ kAL := al_in (List.mem_of_getElem? (i := 410) (by decide +kernel)) rfl
theorem al_325 : Cond.selects RX3 yX3_nextField yX3_nextField ∈ kAL := al_in (List.mem_of_getElem? (i := 411) (by decide +kernel)) rfl
theorem al_326 : Cond.code yX3_nextField cX3_nextField 3 (some .int) ∈ kAL := al_in (List.mem_of_getElem? (i := 412) (by decide +kernel)) rfl
theorem al_327 : Cond.methodLink RX3 134 yX3_room ∈ kAL := al_in (List.mem_of_getElem? (i := 413) (by decide +kernel)) rfl
theorem al_328 : Cond.instanceMethod yX3_room ∈ kAL := al_in (List.mem_of_getElem? (i := 415) (by decide +kernel)) rfl
theorem al_329 : Cond.selects RX3 yX3_room yX3_room ∈ kAL := al_in (List.mem_of_getElem? (i := 2) (by decide +kernel)) rfl
theorem al_330 : Cond.code yX3_room cX3_room 1 (some .int) ∈ kAL := al_in (List.mem_of_getElem? (i := 416) (by decide +kernel)) rfl
theorem al_331 : Cond.fieldLink RX3 148 "CaneQuotas$Yard" "loads" "I" ∈ kAL := al_in (List.mem_of_getElem? (i := 166) (by decide +kernel)) rfl
theorem al_332 : Cond.fieldLink RX3 151 "CaneQuotas$Yard" "total" "I" ∈ kAL := al_in (List.mem_of_getElem? (i := 168) (by decide +kernel)) rfl
theorem al_333 : Cond.methodLink RX3 137 yX0_howItIs ∈ kAL := al_in (List.mem_of_getElem? (i := 417) (by decide +kernel)) rfl
theorem al_334 : Cond.instanceMethod yX0_howItIs ∈ kAL := al_in (List.mem_of_getElem? (i := 418) (by decide +kernel)) rfl
theorem al_335 : Cond.selects RX0 yX0_howItIs yX0_howItIs ∈ kAL := al_in (List.mem_of_getElem? (i := 419) (by decide +kernel)) rfl
theorem al_336 : Cond.code yX0_howItIs cX0_howItIs 3 (some .int) ∈ kAL := al_in (List.mem_of_getElem? (i := 420) (by decide +kernel)) rfl
theorem al_337 : Cond.methodLink RX3 141 yX3_quotaOf ∈ kAL := al_in (List.mem_of_getElem? (i := 421) (by decide +kernel)) rfl
theorem al_338 : Cond.instanceMethod yX3_quotaOf ∈ kAL := al_in (List.mem_of_getElem? (i := 423) (by decide +kernel)) rfl
theorem al_339 : Cond.selects RX3 yX3_quotaOf yX3_quotaOf ∈ kAL := al_in (List.mem_of_getElem? (i := 3) (by decide +kernel)) rfl
theorem al_340 : Cond.code yX3_quotaOf cX3_quotaOf 2 (some .int) ∈ kAL := al_in (List.mem_of_getElem? (i := 424) (by decide +kernel)) rfl
theorem al_341 : Cond.methodLink RX3 144 yX3_goesAhead ∈ kAL := al_in (List.mem_of_getElem? (i := 425) (by decide +kernel)) rfl
theorem al_342 : Cond.instanceMethod yX3_goesAhead ∈ kAL := al_in (List.mem_of_getElem? (i := 427) (by decide +kernel)) rfl
theorem al_343 : Cond.selects RX3 yX3_goesAhead yX3_goesAhead ∈ kAL := al_in (List.mem_of_getElem? (i := 4) (by decide +kernel)) rfl
theorem al_344 : Cond.code yX3_goesAhead cX3_goesAhead 5 (some .boolean) ∈ kAL := al_in (List.mem_of_getElem? (i := 428) (by decide +kernel)) rfl
theorem al_345 : Cond.methodLink RX3 130 yX3_bringLoad ∈ kAL := al_in (List.mem_of_getElem? (i := 429) (by decide +kernel)) rfl
theorem al_346 : Cond.instanceMethod yX3_bringLoad ∈ kAL := al_in (List.mem_of_getElem? (i := 431) (by decide +kernel)) rfl
theorem al_347 : Cond.selects RX3 yX3_bringLoad yX3_bringLoad ∈ kAL := al_in (List.mem_of_getElem? (i := 5) (by decide +kernel)) rfl
theorem al_348 : Cond.code yX3_bringLoad cX3_bringLoad 5 none ∈ kAL := al_in (List.mem_of_getElem? (i := 432) (by decide +kernel)) rfl
theorem al_349 : Cond.fieldLink RX3 154 "CaneQuotas$Fields" "left" "[I" ∈ kAL := al_in (List.mem_of_getElem? (i := 108) (by decide +kernel)) rfl
theorem al_350 : Cond.methodLink RX3 157 Lib.Math.min.name ∈ kAL := al_in (List.mem_of_getElem? (i := 433) (by decide +kernel)) rfl
theorem al_351 : Cond.fieldLink RX3 162 "CaneQuotas$Growers" "brought" "[I" ∈ kAL := al_in (List.mem_of_getElem? (i := 74) (by decide +kernel)) rfl
theorem al_352 : Cond.fieldLink RX3 165 "CaneQuotas$Fields" "inYard" "[I" ∈ kAL := al_in (List.mem_of_getElem? (i := 110) (by decide +kernel)) rfl
theorem al_353 : Cond.methodLink RX3 168 yX6_append ∈ kAL := al_in (List.mem_of_getElem? (i := 434) (by decide +kernel)) rfl
theorem al_354 : Cond.instanceMethod yX6_append ∈ kAL := al_in (List.mem_of_getElem? (i := 435) (by decide +kernel)) rfl
theorem al_355 : Cond.selects RX6 yX6_append yX6_append ∈ kAL := al_in (List.mem_of_getElem? (i := 436) (by decide +kernel)) rfl
theorem al_356 : Cond.code yX6_append cX6_append 4 none ∈ kAL := al_in (List.mem_of_getElem? (i := 437) (by decide +kernel)) rfl
theorem al_357 : Cond.methodLink RX3 104 yX5_isStopped ∈ kAL := al_in (List.mem_of_getElem? (i := 438) (by decide +kernel)) rfl
theorem al_358 : Cond.instanceMethod yX5_isStopped ∈ kAL := al_in (List.mem_of_getElem? (i := 439) (by decide +kernel)) rfl
theorem al_359 : Cond.selects RX5 yX5_isStopped yX5_isStopped ∈ kAL := al_in (List.mem_of_getElem? (i := 440) (by decide +kernel)) rfl
theorem al_360 : Cond.code yX5_isStopped cX5_isStopped 3 (some .boolean) ∈ kAL := al_in (List.mem_of_getElem? (i := 441) (by decide +kernel)) rfl
theorem al_361 : Cond.methodLink RX3 107 yX3_crush ∈ kAL := al_in (List.mem_of_getElem? (i := 442) (by decide +kernel)) rfl
theorem al_362 : Cond.instanceMethod yX3_crush ∈ kAL := al_in (List.mem_of_getElem? (i := 444) (by decide +kernel)) rfl
theorem al_363 : Cond.selects RX3 yX3_crush yX3_crush ∈ kAL := al_in (List.mem_of_getElem? (i := 6) (by decide +kernel)) rfl
theorem al_364 : Cond.code yX3_crush cX3_crush 5 none ∈ kAL := al_in (List.mem_of_getElem? (i := 445) (by decide +kernel)) rfl
theorem al_365 : Cond.fieldLink RX3 171 "CaneQuotas$Yard" "tonnes" "[I" ∈ kAL := al_in (List.mem_of_getElem? (i := 163) (by decide +kernel)) rfl
theorem al_366 : Cond.fieldLink RX3 174 "CaneQuotas$Yard" "field" "[I" ∈ kAL := al_in (List.mem_of_getElem? (i := 161) (by decide +kernel)) rfl
theorem al_367 : Cond.methodLink RX3 177 yX3_crushPart ∈ kAL := al_in (List.mem_of_getElem? (i := 446) (by decide +kernel)) rfl
theorem al_368 : Cond.instanceMethod yX3_crushPart ∈ kAL := al_in (List.mem_of_getElem? (i := 448) (by decide +kernel)) rfl
theorem al_369 : Cond.selects RX3 yX3_crushPart yX3_crushPart ∈ kAL := al_in (List.mem_of_getElem? (i := 7) (by decide +kernel)) rfl
theorem al_370 : Cond.code yX3_crushPart cX3_crushPart 5 none ∈ kAL := al_in (List.mem_of_getElem? (i := 449) (by decide +kernel)) rfl
theorem al_371 : Cond.fieldLink RX3 191 "CaneQuotas$Growers" "paid" "[I" ∈ kAL := al_in (List.mem_of_getElem? (i := 80) (by decide +kernel)) rfl
theorem al_372 : Cond.fieldLink RX3 194 "CaneQuotas$Growers" "crushed" "[I" ∈ kAL := al_in (List.mem_of_getElem? (i := 76) (by decide +kernel)) rfl
theorem al_373 : Cond.fieldLink RX3 197 "CaneQuotas$Fields" "crushed" "[I" ∈ kAL := al_in (List.mem_of_getElem? (i := 112) (by decide +kernel)) rfl
theorem al_374 : Cond.methodLink RX3 187 yX0_purityOn ∈ kAL := al_in (List.mem_of_getElem? (i := 450) (by decide +kernel)) rfl
theorem al_375 : Cond.instanceMethod yX0_purityOn ∈ kAL := al_in (List.mem_of_getElem? (i := 451) (by decide +kernel)) rfl
theorem al_376 : Cond.selects RX0 yX0_purityOn yX0_purityOn ∈ kAL := al_in (List.mem_of_getElem? (i := 452) (by decide +kernel)) rfl
theorem al_377 : Cond.code yX0_purityOn cX0_purityOn 5 (some .int) ∈ kAL := al_in (List.mem_of_getElem? (i := 453) (by decide +kernel)) rfl
theorem al_378 : Cond.methodLink RX0 44 Lib.Math.max.name ∈ kAL := al_in (List.mem_of_getElem? (i := 454) (by decide +kernel)) rfl
theorem al_379 : Cond.static Lib.Math.max.name ∈ kAL := al_in (List.mem_of_getElem? (i := 455) (by decide +kernel)) rfl
theorem al_380 : Cond.code Lib.Math.max.name Lib.Math.max.code 2 (some .int) ∈ kAL := al_in (List.mem_of_getElem? (i := 456) (by decide +kernel)) rfl
theorem al_381 : Cond.methodLink RX3 181 yX6_takeFrom ∈ kAL := al_in (List.mem_of_getElem? (i := 457) (by decide +kernel)) rfl
theorem al_382 : Cond.instanceMethod yX6_takeFrom ∈ kAL := al_in (List.mem_of_getElem? (i := 458) (by decide +kernel)) rfl
theorem al_383 : Cond.selects RX6 yX6_takeFrom yX6_takeFrom ∈ kAL := al_in (List.mem_of_getElem? (i := 459) (by decide +kernel)) rfl
theorem al_384 : Cond.code yX6_takeFrom cX6_takeFrom 3 (some .int) ∈ kAL := al_in (List.mem_of_getElem? (i := 460) (by decide +kernel)) rfl
theorem al_385 : Cond.methodLink RX3 184 yX6_dropFirst ∈ kAL := al_in (List.mem_of_getElem? (i := 462) (by decide +kernel)) rfl
theorem al_386 : Cond.instanceMethod yX6_dropFirst ∈ kAL := al_in (List.mem_of_getElem? (i := 463) (by decide +kernel)) rfl
theorem al_387 : Cond.selects RX6 yX6_dropFirst yX6_dropFirst ∈ kAL := al_in (List.mem_of_getElem? (i := 464) (by decide +kernel)) rfl
theorem al_388 : Cond.code yX6_dropFirst cX6_dropFirst 3 none ∈ kAL := al_in (List.mem_of_getElem? (i := 465) (by decide +kernel)) rfl
theorem al_389 : Cond.methodLink RL 44 yX8_pass ∈ kAL := al_in (List.mem_of_getElem? (i := 834) (by decide +kernel)) rfl
theorem al_390 : Cond.instanceMethod yX8_pass ∈ kAL := al_in (List.mem_of_getElem? (i := 835) (by decide +kernel)) rfl
theorem al_391 : Cond.selects RX8 yX8_pass yX8_pass ∈ kAL := al_in (List.mem_of_getElem? (i := 836) (by decide +kernel)) rfl
theorem al_392 : Cond.code yX8_pass cX8_pass 3 (some .int) ∈ kAL := al_in (List.mem_of_getElem? (i := 837) (by decide +kernel)) rfl
theorem al_393 : Cond.methodLink RX8 133 yX8_mayPass ∈ kAL := al_in (List.mem_of_getElem? (i := 838) (by decide +kernel)) rfl
theorem al_394 : Cond.instanceMethod yX8_mayPass ∈ kAL := al_in (List.mem_of_getElem? (i := 840) (by decide +kernel)) rfl
theorem al_395 : Cond.selects RX8 yX8_mayPass yX8_mayPass ∈ kAL := al_in (List.mem_of_getElem? (i := 24) (by decide +kernel)) rfl
theorem al_396 : Cond.code yX8_mayPass cX8_mayPass 2 (some .int) ∈ kAL := al_in (List.mem_of_getElem? (i := 841) (by decide +kernel)) rfl
theorem al_397 : Cond.methodLink RX8 137 yX8_days ∈ kAL := al_in (List.mem_of_getElem? (i := 842) (by decide +kernel)) rfl
theorem al_398 : Cond.static yX8_days ∈ kAL := al_in (List.mem_of_getElem? (i := 843) (by decide +kernel)) rfl
theorem al_399 : Cond.code yX8_days cX8_days 4 none ∈ kAL := al_in (List.mem_of_getElem? (i := 844) (by decide +kernel)) rfl
theorem al_400 : Cond.methodLink RX8 92 yX8_day ∈ kAL := al_in (List.mem_of_getElem? (i := 845) (by decide +kernel)) rfl
theorem al_401 : Cond.static yX8_day ∈ kAL := al_in (List.mem_of_getElem? (i := 846) (by decide +kernel)) rfl
theorem al_402 : Cond.code yX8_day cX8_day 4 none ∈ kAL := al_in (List.mem_of_getElem? (i := 847) (by decide +kernel)) rfl
theorem al_403 : Cond.methodLink RX8 74 yX8_loses ∈ kAL := al_in (List.mem_of_getElem? (i := 848) (by decide +kernel)) rfl
theorem al_404 : Cond.static yX8_loses ∈ kAL := al_in (List.mem_of_getElem? (i := 849) (by decide +kernel)) rfl
theorem al_405 : Cond.code yX8_loses cX8_loses 3 none ∈ kAL := al_in (List.mem_of_getElem? (i := 850) (by decide +kernel)) rfl
theorem al_406 : Cond.methodLink RX8 51 yX8_how ∈ kAL := al_in (List.mem_of_getElem? (i := 851) (by decide +kernel)) rfl
theorem al_407 : Cond.static yX8_how ∈ kAL := al_in (List.mem_of_getElem? (i := 852) (by decide +kernel)) rfl
theorem al_408 : Cond.code yX8_how cX8_how 2 (some .int) ∈ kAL := al_in (List.mem_of_getElem? (i := 853) (by decide +kernel)) rfl
theorem al_409 : Cond.methodLink RX8 47 yX8_of ∈ kAL := al_in (List.mem_of_getElem? (i := 854) (by decide +kernel)) rfl
theorem al_410 : Cond.static yX8_of ∈ kAL := al_in (List.mem_of_getElem? (i := 855) (by decide +kernel)) rfl
theorem al_411 : Cond.code yX8_of cX8_of 3 (some .int) ∈ kAL := al_in (List.mem_of_getElem? (i := 856) (by decide +kernel)) rfl
theorem al_412 : Cond.methodLink RX8 78 yX8_nextField ∈ kAL := al_in (List.mem_of_getElem? (i := 857) (by decide +kernel)) rfl
theorem al_413 : Cond.static yX8_nextField ∈ kAL := al_in (List.mem_of_getElem? (i := 858) (by decide +kernel)) rfl
theorem al_414 : Cond.code yX8_nextField cX8_nextField 4 (some .int) ∈ kAL := al_in (List.mem_of_getElem? (i := 859) (by decide +kernel)) rfl
theorem al_415 : Cond.methodLink RX8 55 yX8_isAhead ∈ kAL := al_in (List.mem_of_getElem? (i := 860) (by decide +kernel)) rfl
theorem al_416 : Cond.static yX8_isAhead ∈ kAL := al_in (List.mem_of_getElem? (i := 861) (by decide +kernel)) rfl
theorem al_417 : Cond.code yX8_isAhead cX8_isAhead 4 (some .boolean) ∈ kAL := al_in (List.mem_of_getElem? (i := 862) (by decide +kernel)) rfl
theorem al_418 : Cond.methodLink RX8 59 yX8_inYard ∈ kAL := al_in (List.mem_of_getElem? (i := 863) (by decide +kernel)) rfl
theorem al_419 : Cond.static yX8_inYard ∈ kAL := al_in (List.mem_of_getElem? (i := 864) (by decide +kernel)) rfl
theorem al_420 : Cond.code yX8_inYard cX8_inYard 3 (some .int) ∈ kAL := al_in (List.mem_of_getElem? (i := 865) (by decide +kernel)) rfl
theorem al_421 : Cond.methodLink RX8 81 yX8_brings ∈ kAL := al_in (List.mem_of_getElem? (i := 866) (by decide +kernel)) rfl
theorem al_422 : Cond.static yX8_brings ∈ kAL := al_in (List.mem_of_getElem? (i := 867) (by decide +kernel)) rfl
theorem al_423 : Cond.code yX8_brings cX8_brings 5 none ∈ kAL := al_in (List.mem_of_getElem? (i := 868) (by decide +kernel)) rfl
theorem al_424 : Cond.methodLink RX8 63 yX8_least ∈ kAL := al_in (List.mem_of_getElem? (i := 869) (by decide +kernel)) rfl
theorem al_425 : Cond.static yX8_least ∈ kAL := al_in (List.mem_of_getElem? (i := 870) (by decide +kernel)) rfl
theorem al_426 : Cond.code yX8_least cX8_least 2 (some .int) ∈ kAL := al_in (List.mem_of_getElem? (i := 871) (by decide +kernel)) rfl
theorem al_427 : Cond.methodLink RX8 85 yX8_isStopped ∈ kAL := al_in (List.mem_of_getElem? (i := 872) (by decide +kernel)) rfl
theorem al_428 : Cond.static yX8_isStopped ∈ kAL := al_in (List.mem_of_getElem? (i := 873) (by decide +kernel)) rfl
theorem al_429 : Cond.code yX8_isStopped cX8_isStopped 3 (some .boolean) ∈ kAL := al_in (List.mem_of_getElem? (i := 874) (by decide +kernel)) rfl
theorem al_430 : Cond.methodLink RX8 89 yX8_mills ∈ kAL := al_in (List.mem_of_getElem? (i := 875) (by decide +kernel)) rfl
theorem al_431 : Cond.static yX8_mills ∈ kAL := al_in (List.mem_of_getElem? (i := 876) (by decide +kernel)) rfl
theorem al_432 : Cond.code yX8_mills cX8_mills 4 none ∈ kAL := al_in (List.mem_of_getElem? (i := 877) (by decide +kernel)) rfl
theorem al_433 : Cond.methodLink RX8 70 yX8_crushes ∈ kAL := al_in (List.mem_of_getElem? (i := 878) (by decide +kernel)) rfl
theorem al_434 : Cond.static yX8_crushes ∈ kAL := al_in (List.mem_of_getElem? (i := 879) (by decide +kernel)) rfl
theorem al_435 : Cond.code yX8_crushes cX8_crushes 6 none ∈ kAL := al_in (List.mem_of_getElem? (i := 880) (by decide +kernel)) rfl
theorem al_436 : Cond.methodLink RX8 67 yX8_purity ∈ kAL := al_in (List.mem_of_getElem? (i := 881) (by decide +kernel)) rfl
theorem al_437 : Cond.static yX8_purity ∈ kAL := al_in (List.mem_of_getElem? (i := 882) (by decide +kernel)) rfl
theorem al_438 : Cond.code yX8_purity cX8_purity 4 (some .int) ∈ kAL := al_in (List.mem_of_getElem? (i := 883) (by decide +kernel)) rfl
theorem al_439 : Cond.methodLink RL 45 yX7_ofField ∈ kAL := al_in (List.mem_of_getElem? (i := 466) (by decide +kernel)) rfl
theorem al_440 : Cond.instanceMethod yX7_ofField ∈ kAL := al_in (List.mem_of_getElem? (i := 467) (by decide +kernel)) rfl
theorem al_441 : Cond.selects RX7 yX7_ofField yX7_ofField ∈ kAL := al_in (List.mem_of_getElem? (i := 468) (by decide +kernel)) rfl
theorem al_442 : Cond.code yX7_ofField cX7_ofField 3 (some .int) ∈ kAL := al_in (List.mem_of_getElem? (i := 469) (by decide +kernel)) rfl
theorem al_443 : Cond.methodLink RX7 75 yX3_numberOfField ∈ kAL := al_in (List.mem_of_getElem? (i := 470) (by decide +kernel)) rfl
theorem al_444 : Cond.instanceMethod yX3_numberOfField ∈ kAL := al_in (List.mem_of_getElem? (i := 471) (by decide +kernel)) rfl
theorem al_445 : Cond.selects RX3 yX3_numberOfField yX3_numberOfField ∈ kAL := al_in (List.mem_of_getElem? (i := 472) (by decide +kernel)) rfl
theorem al_446 : Cond.code yX3_numberOfField cX3_numberOfField 3 (some .int) ∈ kAL := al_in (List.mem_of_getElem? (i := 473) (by decide +kernel)) rfl
theorem al_447 : Cond.fieldLink RX3 198 "CaneQuotas$Fields" "tonnes" "[I" ∈ kAL := al_in (List.mem_of_getElem? (i := 102) (by decide +kernel)) rfl
theorem al_448 : Cond.fieldLink RX3 199 "CaneQuotas$Fields" "purity" "[I" ∈ kAL := al_in (List.mem_of_getElem? (i := 104) (by decide +kernel)) rfl
theorem al_449 : Cond.fieldLink RX3 202 "CaneQuotas$Fields" "lost" "[I" ∈ kAL := al_in (List.mem_of_getElem? (i := 114) (by decide +kernel)) rfl
theorem al_450 : Cond.methodLink RL 48 yX8_ofField ∈ kAL := al_in (List.mem_of_getElem? (i := 884) (by decide +kernel)) rfl
theorem al_451 : Cond.instanceMethod yX8_ofField ∈ kAL := al_in (List.mem_of_getElem? (i := 885) (by decide +kernel)) rfl
theorem al_452 : Cond.selects RX8 yX8_ofField yX8_ofField ∈ kAL := al_in (List.mem_of_getElem? (i := 886) (by decide +kernel)) rfl
theorem al_453 : Cond.code yX8_ofField cX8_ofField 3 (some .int) ∈ kAL := al_in (List.mem_of_getElem? (i := 887) (by decide +kernel)) rfl
theorem al_454 : Cond.methodLink RL 49 yX7_ofGrower ∈ kAL := al_in (List.mem_of_getElem? (i := 474) (by decide +kernel)) rfl
theorem al_455 : Cond.instanceMethod yX7_ofGrower ∈ kAL := al_in (List.mem_of_getElem? (i := 475) (by decide +kernel)) rfl
theorem al_456 : Cond.selects RX7 yX7_ofGrower yX7_ofGrower ∈ kAL := al_in (List.mem_of_getElem? (i := 476) (by decide +kernel)) rfl
theorem al_457 : Cond.code yX7_ofGrower cX7_ofGrower 3 (some .int) ∈ kAL := al_in (List.mem_of_getElem? (i := 477) (by decide +kernel)) rfl
theorem al_458 : Cond.methodLink RX7 78 yX3_numberOfGrower ∈ kAL := al_in (List.mem_of_getElem? (i := 478) (by decide +kernel)) rfl
theorem al_459 : Cond.instanceMethod yX3_numberOfGrower ∈ kAL := al_in (List.mem_of_getElem? (i := 479) (by decide +kernel)) rfl
theorem al_460 : Cond.selects RX3 yX3_numberOfGrower yX3_numberOfGrower ∈ kAL := al_in (List.mem_of_getElem? (i := 480) (by decide +kernel)) rfl
theorem al_461 : Cond.code yX3_numberOfGrower cX3_numberOfGrower 3 (some .int) ∈ kAL := al_in (List.mem_of_getElem? (i := 481) (by decide +kernel)) rfl
theorem al_462 : Cond.methodLink RX3 203 yX0_burntCaneOf ∈ kAL := al_in (List.mem_of_getElem? (i := 482) (by decide +kernel)) rfl
theorem al_463 : Cond.instanceMethod yX0_burntCaneOf ∈ kAL := al_in (List.mem_of_getElem? (i := 483) (by decide +kernel)) rfl
theorem al_464 : Cond.selects RX0 yX0_burntCaneOf yX0_burntCaneOf ∈ kAL := al_in (List.mem_of_getElem? (i := 484) (by decide +kernel)) rfl
theorem al_465 : Cond.code yX0_burntCaneOf cX0_burntCaneOf 5 (some .int) ∈ kAL := al_in (List.mem_of_getElem? (i := 485) (by decide +kernel)) rfl
theorem al_466 : Cond.methodLink RX0 50 yX0_howItIs ∈ kAL := al_in (List.mem_of_getElem? (i := 486) (by decide +kernel)) rfl
theorem al_467 : Cond.methodLink RL 52 yX8_ofGrower ∈ kAL := al_in (List.mem_of_getElem? (i := 888) (by decide +kernel)) rfl
theorem al_468 : Cond.instanceMethod yX8_ofGrower ∈ kAL := al_in (List.mem_of_getElem? (i := 889) (by decide +kernel)) rfl
theorem al_469 : Cond.selects RX8 yX8_ofGrower yX8_ofGrower ∈ kAL := al_in (List.mem_of_getElem? (i := 890) (by decide +kernel)) rfl
theorem al_470 : Cond.code yX8_ofGrower cX8_ofGrower 3 (some .int) ∈ kAL := al_in (List.mem_of_getElem? (i := 891) (by decide +kernel)) rfl
theorem al_471 : Cond.methodLink RX8 140 yX8_burnt ∈ kAL := al_in (List.mem_of_getElem? (i := 892) (by decide +kernel)) rfl
theorem al_472 : Cond.instanceMethod yX8_burnt ∈ kAL := al_in (List.mem_of_getElem? (i := 894) (by decide +kernel)) rfl
theorem al_473 : Cond.selects RX8 yX8_burnt yX8_burnt ∈ kAL := al_in (List.mem_of_getElem? (i := 25) (by decide +kernel)) rfl
theorem al_474 : Cond.code yX8_burnt cX8_burnt 4 (some .int) ∈ kAL := al_in (List.mem_of_getElem? (i := 895) (by decide +kernel)) rfl
theorem al_475 : Cond.methodLink RL 53 yX7_load ∈ kAL := al_in (List.mem_of_getElem? (i := 487) (by decide +kernel)) rfl
theorem al_476 : Cond.instanceMethod yX7_load ∈ kAL := al_in (List.mem_of_getElem? (i := 488) (by decide +kernel)) rfl
theorem al_477 : Cond.selects RX7 yX7_load yX7_load ∈ kAL := al_in (List.mem_of_getElem? (i := 489) (by decide +kernel)) rfl
theorem al_478 : Cond.code yX7_load cX7_load 3 (some .int) ∈ kAL := al_in (List.mem_of_getElem? (i := 490) (by decide +kernel)) rfl
theorem al_479 : Cond.fieldLink RX7 81 "CaneQuotas$Mill" "yard" "LCaneQuotas$Yard;" ∈ kAL := al_in (List.mem_of_getElem? (i := 189) (by decide +kernel)) rfl
theorem al_480 : Cond.methodLink RX7 85 yX6_numberOfLoad ∈ kAL := al_in (List.mem_of_getElem? (i := 491) (by decide +kernel)) rfl
theorem al_481 : Cond.instanceMethod yX6_numberOfLoad ∈ kAL := al_in (List.mem_of_getElem? (i := 492) (by decide +kernel)) rfl
theorem al_482 : Cond.selects RX6 yX6_numberOfLoad yX6_numberOfLoad ∈ kAL := al_in (List.mem_of_getElem? (i := 493) (by decide +kernel)) rfl
theorem al_483 : Cond.code yX6_numberOfLoad cX6_numberOfLoad 3 (some .int) ∈ kAL := al_in (List.mem_of_getElem? (i := 494) (by decide +kernel)) rfl
theorem al_484 : Cond.methodLink RL 56 yX8_load ∈ kAL := al_in (List.mem_of_getElem? (i := 896) (by decide +kernel)) rfl
theorem al_485 : Cond.instanceMethod yX8_load ∈ kAL := al_in (List.mem_of_getElem? (i := 897) (by decide +kernel)) rfl
theorem al_486 : Cond.selects RX8 yX8_load yX8_load ∈ kAL := al_in (List.mem_of_getElem? (i := 898) (by decide +kernel)) rfl
theorem al_487 : Cond.code yX8_load cX8_load 3 (some .int) ∈ kAL := al_in (List.mem_of_getElem? (i := 899) (by decide +kernel)) rfl
theorem al_488 : Cond.methodLink RL 57 yX7_count ∈ kAL := al_in (List.mem_of_getElem? (i := 495) (by decide +kernel)) rfl
theorem al_489 : Cond.instanceMethod yX7_count ∈ kAL := al_in (List.mem_of_getElem? (i := 496) (by decide +kernel)) rfl
theorem al_490 : Cond.selects RX7 yX7_count yX7_count ∈ kAL := al_in (List.mem_of_getElem? (i := 497) (by decide +kernel)) rfl
theorem al_491 : Cond.code yX7_count cX7_count 2 (some .int) ∈ kAL := al_in (List.mem_of_getElem? (i := 498) (by decide +kernel)) rfl
theorem al_492 : Cond.fieldLink RX7 90 "CaneQuotas$Pad" "length" "I" ∈ kAL := al_in (List.mem_of_getElem? (i := 242) (by decide +kernel)) rfl
theorem al_493 : Cond.fieldLink RX7 94 "CaneQuotas$History" "size" "I" ∈ kAL := al_in (List.mem_of_getElem? (i := 226) (by decide +kernel)) rfl
theorem al_494 : Cond.methodLink RX7 97 yX3_numberOfAll ∈ kAL := al_in (List.mem_of_getElem? (i := 499) (by decide +kernel)) rfl
theorem al_495 : Cond.instanceMethod yX3_numberOfAll ∈ kAL := al_in (List.mem_of_getElem? (i := 500) (by decide +kernel)) rfl
theorem al_496 : Cond.selects RX3 yX3_numberOfAll yX3_numberOfAll ∈ kAL := al_in (List.mem_of_getElem? (i := 501) (by decide +kernel)) rfl
theorem al_497 : Cond.code yX3_numberOfAll cX3_numberOfAll 2 (some .int) ∈ kAL := al_in (List.mem_of_getElem? (i := 502) (by decide +kernel)) rfl
theorem al_498 : Cond.fieldLink RX3 206 "CaneQuotas$Stops" "count" "I" ∈ kAL := al_in (List.mem_of_getElem? (i := 146) (by decide +kernel)) rfl
theorem al_499 : Cond.methodLink RX3 207 yX1_totalCrushed ∈ kAL := al_in (List.mem_of_getElem? (i := 503) (by decide +kernel)) rfl
theorem al_500 : Cond.instanceMethod yX1_totalCrushed ∈ kAL := al_in (List.mem_of_getElem? (i := 504) (by decide +kernel)) rfl
theorem al_501 : Cond.selects RX1 yX1_totalCrushed yX1_totalCrushed ∈ kAL := al_in (List.mem_of_getElem? (i := 505) (by decide +kernel)) rfl
theorem al_502 : Cond.code yX1_totalCrushed cX1_totalCrushed 1 (some .int) ∈ kAL := al_in (List.mem_of_getElem? (i := 506) (by decide +kernel)) rfl
theorem al_503 : Cond.static yX7_sumOf ∈ kAL := al_in (List.mem_of_getElem? (i := 508) (by decide +kernel)) rfl
theorem al_504 : Cond.code yX7_sumOf cX7_sumOf 6 (some .int) ∈ kAL := al_in (List.mem_of_getElem? (i := 509) (by decide +kernel)) rfl
theorem al_505 : Cond.methodLink RX3 210 yX1_totalLost ∈ kAL := al_in (List.mem_of_getElem? (i := 510) (by decide +kernel)) rfl
theorem al_506 : Cond.instanceMethod yX1_totalLost ∈ kAL := al_in (List.mem_of_getElem? (i := 511) (by decide +kernel)) rfl
theorem al_507 : Cond.selects RX1 yX1_totalLost yX1_totalLost ∈ kAL := al_in (List.mem_of_getElem? (i := 512) (by decide +kernel)) rfl
theorem al_508 : Cond.code yX1_totalLost cX1_totalLost 1 (some .int) ∈ kAL := al_in (List.mem_of_getElem? (i := 513) (by decide +kernel)) rfl
theorem al_509 : Cond.methodLink RX3 213 yX1_totalPaid ∈ kAL := al_in (List.mem_of_getElem? (i := 514) (by decide +kernel)) rfl
theorem al_510 : Cond.instanceMethod yX1_totalPaid ∈ kAL := al_in (List.mem_of_getElem? (i := 515) (by decide +kernel)) rfl
theorem al_511 : Cond.selects RX1 yX1_totalPaid yX1_totalPaid ∈ kAL := al_in (List.mem_of_getElem? (i := 516) (by decide +kernel)) rfl
theorem al_512 : Cond.code yX1_totalPaid cX1_totalPaid 1 (some .int) ∈ kAL := al_in (List.mem_of_getElem? (i := 517) (by decide +kernel)) rfl
theorem al_513 : Cond.methodLink RL 60 yX8_count ∈ kAL := al_in (List.mem_of_getElem? (i := 900) (by decide +kernel)) rfl
theorem al_514 : Cond.instanceMethod yX8_count ∈ kAL := al_in (List.mem_of_getElem? (i := 901) (by decide +kernel)) rfl
theorem al_515 : Cond.selects RX8 yX8_count yX8_count ∈ kAL := al_in (List.mem_of_getElem? (i := 902) (by decide +kernel)) rfl
theorem al_516 : Cond.code yX8_count cX8_count 2 (some .int) ∈ kAL := al_in (List.mem_of_getElem? (i := 903) (by decide +kernel)) rfl
theorem al_517 : Cond.fieldLink RX8 143 "CaneQuotasModel" "padded" "I" ∈ kAL := al_in (List.mem_of_getElem? (i := 720) (by decide +kernel)) rfl
theorem al_518 : Cond.methodLink RL 61 yX7_fields ∈ kAL := al_in (List.mem_of_getElem? (i := 518) (by decide +kernel)) rfl
theorem al_519 : Cond.instanceMethod yX7_fields ∈ kAL := al_in (List.mem_of_getElem? (i := 519) (by decide +kernel)) rfl
theorem al_520 : Cond.selects RX7 yX7_fields yX7_fields ∈ kAL := al_in (List.mem_of_getElem? (i := 520) (by decide +kernel)) rfl
theorem al_521 : Cond.code yX7_fields cX7_fields 2 (some .long) ∈ kAL := al_in (List.mem_of_getElem? (i := 521) (by decide +kernel)) rfl
theorem al_522 : Cond.constantLong RX7 104 (-2) ∈ kAL := al_in (List.mem_of_getElem? (i := 522) (by decide +kernel)) rfl
theorem al_523 : Cond.fieldLink RX7 106 "CaneQuotas$Mill" "fields" "LCaneQuotas$Fields;" ∈ kAL := al_in (List.mem_of_getElem? (i := 185) (by decide +kernel)) rfl
theorem al_524 : Cond.fieldLink RX7 110 "CaneQuotas$Mill" "now" "I" ∈ kAL := al_in (List.mem_of_getElem? (i := 191) (by decide +kernel)) rfl
theorem al_525 : Cond.methodLink RX7 113 yX0_setOf ∈ kAL := al_in (List.mem_of_getElem? (i := 523) (by decide +kernel)) rfl
theorem al_526 : Cond.instanceMethod yX0_setOf ∈ kAL := al_in (List.mem_of_getElem? (i := 524) (by decide +kernel)) rfl
theorem al_527 : Cond.selects RX0 yX0_setOf yX0_setOf ∈ kAL := al_in (List.mem_of_getElem? (i := 525) (by decide +kernel)) rfl
theorem al_528 : Cond.code yX0_setOf cX0_setOf 6 (some .long) ∈ kAL := al_in (List.mem_of_getElem? (i := 526) (by decide +kernel)) rfl
theorem al_529 : Cond.methodLink RL 65 yX8_fields ∈ kAL := al_in (List.mem_of_getElem? (i := 904) (by decide +kernel)) rfl
theorem al_530 : Cond.instanceMethod yX8_fields ∈ kAL := al_in (List.mem_of_getElem? (i := 905) (by decide +kernel)) rfl
theorem al_531 : Cond.selects RX8 yX8_fields yX8_fields ∈ kAL := al_in (List.mem_of_getElem? (i := 906) (by decide +kernel)) rfl
theorem al_532 : Cond.code yX8_fields cX8_fields 5 (some .long) ∈ kAL := al_in (List.mem_of_getElem? (i := 907) (by decide +kernel)) rfl
theorem al_533 : Cond.constantLong RX8 146 (-2) ∈ kAL := al_in (List.mem_of_getElem? (i := 908) (by decide +kernel)) rfl
theorem al_534 : Cond.methodLink RL 66 yX7_next ∈ kAL := al_in (List.mem_of_getElem? (i := 527) (by decide +kernel)) rfl
theorem al_535 : Cond.instanceMethod yX7_next ∈ kAL := al_in (List.mem_of_getElem? (i := 528) (by decide +kernel)) rfl
theorem al_536 : Cond.selects RX7 yX7_next yX7_next ∈ kAL := al_in (List.mem_of_getElem? (i := 529) (by decide +kernel)) rfl
theorem al_537 : Cond.code yX7_next cX7_next 1 (some .int) ∈ kAL := al_in (List.mem_of_getElem? (i := 530) (by decide +kernel)) rfl
theorem al_538 : Cond.methodLink RX7 119 yX3_nextField ∈ kAL := al_in (List.mem_of_getElem? (i := 531) (by decide +kernel)) rfl
theorem al_539 : Cond.methodLink RL 70 yX8_next ∈ kAL := al_in (List.mem_of_getElem? (i := 909) (by decide +kernel)) rfl
