theorem al_164 : Cond.fieldLink RX3 80 "CaneQuotas$Mill" "MOST" "[I" ∈ kAL := al_in (List.mem_of_getElem? (i := 517) (by decide +kernel)) rfl
theorem al_165 : Cond.static yX7_isWithin ∈ kAL := al_in (List.mem_of_getElem? (i := 249) (by decide +kernel)) rfl
theorem al_166 : Cond.code yX7_isWithin cX7_isWithin 3 (some .boolean) ∈ kAL := al_in (List.mem_of_getElem? (i := 250) (by decide +kernel)) rfl
theorem al_167 : Cond.methodLink RX7 45 yX2_recordUnlessError ∈ kAL := al_in (List.mem_of_getElem? (i := 471) (by decide +kernel)) rfl
theorem al_168 : Cond.instanceMethod yX2_recordUnlessError ∈ kAL := al_in (List.mem_of_getElem? (i := 472) (by decide +kernel)) rfl
theorem al_169 : Cond.selects RX2 yX2_recordUnlessError yX2_recordUnlessError ∈ kAL := al_in (List.mem_of_getElem? (i := 473) (by decide +kernel)) rfl
theorem al_170 : Cond.code yX2_recordUnlessError cX2_recordUnlessError 2 (some .int) ∈ kAL := al_in (List.mem_of_getElem? (i := 474) (by decide +kernel)) rfl
theorem al_194 : Cond.instanceMethod yX7_quota ∈ kAL := al_in (List.mem_of_getElem? (i := 476) (by decide +kernel)) rfl
theorem al_195 : Cond.selects RX7 yX7_quota yX7_quota ∈ kAL := al_in (List.mem_of_getElem? (i := 477) (by decide +kernel)) rfl
theorem al_196 : Cond.code yX7_quota cX7_quota 3 (some .int) ∈ kAL := al_in (List.mem_of_getElem? (i := 478) (by decide +kernel)) rfl
theorem al_197 : Cond.methodLink RX7 49 yX3_changeQuota ∈ kAL := al_in (List.mem_of_getElem? (i := 479) (by decide +kernel)) rfl
theorem al_198 : Cond.instanceMethod yX3_changeQuota ∈ kAL := al_in (List.mem_of_getElem? (i := 480) (by decide +kernel)) rfl
theorem al_199 : Cond.selects RX3 yX3_changeQuota yX3_changeQuota ∈ kAL := al_in (List.mem_of_getElem? (i := 481) (by decide +kernel)) rfl
theorem al_200 : Cond.code yX3_changeQuota cX3_changeQuota 4 (some .int) ∈ kAL := al_in (List.mem_of_getElem? (i := 482) (by decide +kernel)) rfl
theorem al_201 : Cond.fieldLink RX3 87 "CaneQuotas$Growers" "quota" "[I" ∈ kAL := al_in (List.mem_of_getElem? (i := 41) (by decide +kernel)) rfl
theorem al_202 : Cond.static yX7_isGrower ∈ kAL := al_in (List.mem_of_getElem? (i := 306) (by decide +kernel)) rfl
theorem al_203 : Cond.code yX7_isGrower cX7_isGrower 1 (some .boolean) ∈ kAL := al_in (List.mem_of_getElem? (i := 307) (by decide +kernel)) rfl
theorem al_204 : Cond.methodLink RX7 100 yX7_isWithin ∈ kAL := al_in (List.mem_of_getElem? (i := 308) (by decide +kernel)) rfl
theorem al_216 : Cond.instanceMethod yX7_lend ∈ kAL := al_in (List.mem_of_getElem? (i := 484) (by decide +kernel)) rfl
theorem al_217 : Cond.selects RX7 yX7_lend yX7_lend ∈ kAL := al_in (List.mem_of_getElem? (i := 485) (by decide +kernel)) rfl
theorem al_218 : Cond.code yX7_lend cX7_lend 4 (some .int) ∈ kAL := al_in (List.mem_of_getElem? (i := 486) (by decide +kernel)) rfl
theorem al_219 : Cond.methodLink RX7 52 yX3_lendQuota ∈ kAL := al_in (List.mem_of_getElem? (i := 487) (by decide +kernel)) rfl
theorem al_220 : Cond.instanceMethod yX3_lendQuota ∈ kAL := al_in (List.mem_of_getElem? (i := 488) (by decide +kernel)) rfl
theorem al_221 : Cond.selects RX3 yX3_lendQuota yX3_lendQuota ∈ kAL := al_in (List.mem_of_getElem? (i := 489) (by decide +kernel)) rfl
theorem al_222 : Cond.code yX3_lendQuota cX3_lendQuota 4 (some .int) ∈ kAL := al_in (List.mem_of_getElem? (i := 490) (by decide +kernel)) rfl
theorem al_236 : Cond.instanceMethod yX7_field ∈ kAL := al_in (List.mem_of_getElem? (i := 454) (by decide +kernel)) rfl
theorem al_237 : Cond.selects RX7 yX7_field yX7_field ∈ kAL := al_in (List.mem_of_getElem? (i := 455) (by decide +kernel)) rfl
theorem al_238 : Cond.code yX7_field cX7_field 5 (some .int) ∈ kAL := al_in (List.mem_of_getElem? (i := 456) (by decide +kernel)) rfl
theorem al_239 : Cond.methodLink RX7 56 yX3_addField ∈ kAL := al_in (List.mem_of_getElem? (i := 463) (by decide +kernel)) rfl
theorem al_240 : Cond.instanceMethod yX3_addField ∈ kAL := al_in (List.mem_of_getElem? (i := 464) (by decide +kernel)) rfl
theorem al_241 : Cond.selects RX3 yX3_addField yX3_addField ∈ kAL := al_in (List.mem_of_getElem? (i := 465) (by decide +kernel)) rfl
theorem al_242 : Cond.code yX3_addField cX3_addField 5 (some .int) ∈ kAL := al_in (List.mem_of_getElem? (i := 466) (by decide +kernel)) rfl
theorem al_243 : Cond.methodLink RX3 90 yX0_append ∈ kAL := al_in (List.mem_of_getElem? (i := 467) (by decide +kernel)) rfl
theorem al_244 : Cond.instanceMethod yX0_append ∈ kAL := al_in (List.mem_of_getElem? (i := 468) (by decide +kernel)) rfl
theorem al_245 : Cond.selects RX0 yX0_append yX0_append ∈ kAL := al_in (List.mem_of_getElem? (i := 469) (by decide +kernel)) rfl
theorem al_246 : Cond.code yX0_append cX0_append 6 (some .int) ∈ kAL := al_in (List.mem_of_getElem? (i := 470) (by decide +kernel)) rfl
theorem al_260 : Cond.instanceMethod yX7_stop ∈ kAL := al_in (List.mem_of_getElem? (i := 492) (by decide +kernel)) rfl
theorem al_261 : Cond.selects RX7 yX7_stop yX7_stop ∈ kAL := al_in (List.mem_of_getElem? (i := 493) (by decide +kernel)) rfl
theorem al_262 : Cond.code yX7_stop cX7_stop 3 (some .int) ∈ kAL := al_in (List.mem_of_getElem? (i := 494) (by decide +kernel)) rfl
theorem al_263 : Cond.fieldLink RX7 60 "CaneQuotas$Mill" "stops" "LCaneQuotas$Stops;" ∈ kAL := al_in (List.mem_of_getElem? (i := 154) (by decide +kernel)) rfl
theorem al_264 : Cond.methodLink RX7 64 yX5_addStop ∈ kAL := al_in (List.mem_of_getElem? (i := 495) (by decide +kernel)) rfl
theorem al_265 : Cond.instanceMethod yX5_addStop ∈ kAL := al_in (List.mem_of_getElem? (i := 496) (by decide +kernel)) rfl
theorem al_266 : Cond.selects RX5 yX5_addStop yX5_addStop ∈ kAL := al_in (List.mem_of_getElem? (i := 497) (by decide +kernel)) rfl
theorem al_267 : Cond.code yX5_addStop cX5_addStop 3 (some .int) ∈ kAL := al_in (List.mem_of_getElem? (i := 498) (by decide +kernel)) rfl
theorem al_284 : Cond.instanceMethod yX7_dropStop ∈ kAL := al_in (List.mem_of_getElem? (i := 500) (by decide +kernel)) rfl
theorem al_285 : Cond.selects RX7 yX7_dropStop yX7_dropStop ∈ kAL := al_in (List.mem_of_getElem? (i := 501) (by decide +kernel)) rfl
theorem al_286 : Cond.code yX7_dropStop cX7_dropStop 2 (some .int) ∈ kAL := al_in (List.mem_of_getElem? (i := 502) (by decide +kernel)) rfl
theorem al_287 : Cond.methodLink RX7 69 yX5_removeStop ∈ kAL := al_in (List.mem_of_getElem? (i := 503) (by decide +kernel)) rfl
theorem al_288 : Cond.instanceMethod yX5_removeStop ∈ kAL := al_in (List.mem_of_getElem? (i := 504) (by decide +kernel)) rfl
theorem al_289 : Cond.selects RX5 yX5_removeStop yX5_removeStop ∈ kAL := al_in (List.mem_of_getElem? (i := 505) (by decide +kernel)) rfl
theorem al_290 : Cond.code yX5_removeStop cX5_removeStop 3 (some .int) ∈ kAL := al_in (List.mem_of_getElem? (i := 506) (by decide +kernel)) rfl
theorem al_296 : Cond.instanceMethod yX7_pass ∈ kAL := al_in (List.mem_of_getElem? (i := 528) (by decide +kernel)) rfl
theorem al_297 : Cond.selects RX7 yX7_pass yX7_pass ∈ kAL := al_in (List.mem_of_getElem? (i := 529) (by decide +kernel)) rfl
theorem al_298 : Cond.code yX7_pass cX7_pass 2 (some .int) ∈ kAL := al_in (List.mem_of_getElem? (i := 530) (by decide +kernel)) rfl
theorem al_299 : Cond.methodLink RX7 72 yX3_passDays ∈ kAL := al_in (List.mem_of_getElem? (i := 531) (by decide +kernel)) rfl
theorem al_300 : Cond.instanceMethod yX3_passDays ∈ kAL := al_in (List.mem_of_getElem? (i := 532) (by decide +kernel)) rfl
theorem al_301 : Cond.selects RX3 yX3_passDays yX3_passDays ∈ kAL := al_in (List.mem_of_getElem? (i := 533) (by decide +kernel)) rfl
theorem al_302 : Cond.code yX3_passDays cX3_passDays 3 (some .int) ∈ kAL := al_in (List.mem_of_getElem? (i := 534) (by decide +kernel)) rfl
theorem al_303 : Cond.methodLink RX3 94 yX3_passDay ∈ kAL := al_in (List.mem_of_getElem? (i := 535) (by decide +kernel)) rfl
theorem al_304 : Cond.instanceMethod yX3_passDay ∈ kAL := al_in (List.mem_of_getElem? (i := 388) (by decide +kernel)) rfl
theorem al_305 : Cond.selects RX3 yX3_passDay yX3_passDay ∈ kAL := al_in (List.mem_of_getElem? (i := 389) (by decide +kernel)) rfl
theorem al_306 : Cond.code yX3_passDay cX3_passDay 2 none ∈ kAL := al_in (List.mem_of_getElem? (i := 390) (by decide +kernel)) rfl
theorem al_307 : Cond.methodLink RX3 98 yX3_loseOldCane ∈ kAL := al_in (List.mem_of_getElem? (i := 391) (by decide +kernel)) rfl
theorem al_308 : Cond.instanceMethod yX3_loseOldCane ∈ kAL := al_in (List.mem_of_getElem? (i := 393) (by decide +kernel)) rfl
theorem al_309 : Cond.selects RX3 yX3_loseOldCane yX3_loseOldCane ∈ kAL := al_in (List.mem_of_getElem? (i := 4) (by decide +kernel)) rfl
theorem al_310 : Cond.code yX3_loseOldCane cX3_loseOldCane 2 none ∈ kAL := al_in (List.mem_of_getElem? (i := 394) (by decide +kernel)) rfl
theorem al_311 : Cond.fieldLink RX3 110 "CaneQuotas$Fields" "count" "I" ∈ kAL := al_in (List.mem_of_getElem? (i := 85) (by decide +kernel)) rfl
theorem al_312 : Cond.fieldLink RX3 113 "CaneQuotas$Fields" "burnt" "[I" ∈ kAL := al_in (List.mem_of_getElem? (i := 75) (by decide +kernel)) rfl
theorem al_313 : Cond.fieldLink RX3 116 "CaneQuotas$Growers" "lost" "[I" ∈ kAL := al_in (List.mem_of_getElem? (i := 47) (by decide +kernel)) rfl
theorem al_314 : Cond.fieldLink RX3 119 "CaneQuotas$Fields" "grower" "[I" ∈ kAL := al_in (List.mem_of_getElem? (i := 69) (by decide +kernel)) rfl
theorem al_315 : Cond.methodLink RX3 122 yX0_loseCane ∈ kAL := al_in (List.mem_of_getElem? (i := 395) (by decide +kernel)) rfl
theorem al_316 : Cond.instanceMethod yX0_loseCane ∈ kAL := al_in (List.mem_of_getElem? (i := 396) (by decide +kernel)) rfl
theorem al_317 : Cond.selects RX0 yX0_loseCane yX0_loseCane ∈ kAL := al_in (List.mem_of_getElem? (i := 397) (by decide +kernel)) rfl
theorem al_318 : Cond.code yX0_loseCane cX0_loseCane 3 (some .int) ∈ kAL := al_in (List.mem_of_getElem? (i := 398) (by decide +kernel)) rfl
theorem al_319 : Cond.methodLink RX3 101 yX3_bringLoads ∈ kAL := al_in (List.mem_of_getElem? (i := 399) (by decide +kernel)) rfl
theorem al_320 : Cond.instanceMethod yX3_bringLoads ∈ kAL := al_in (List.mem_of_getElem? (i := 401) (by decide +kernel)) rfl
theorem al_321 : Cond.selects RX3 yX3_bringLoads yX3_bringLoads ∈ kAL := al_in (List.mem_of_getElem? (i := 5) (by decide +kernel)) rfl
theorem al_322 : Cond.code yX3_bringLoads cX3_bringLoads 3 none ∈ kAL := al_in (List.mem_of_getElem? (i := 402) (by decide +kernel)) rfl
theorem al_323 : Cond.methodLink RX3 126 yX3_nextField ∈ kAL := al_in (List.mem_of_getElem? (i := 403) (by decide +kernel)) rfl
theorem al_324 : Cond.instanceMethod yX3_nextField ∈ kAL := al_in (List.mem_of_getElem? (i := 331) (by decide +kernel)) rfl
theorem al_325 : Cond.selects RX3 yX3_nextField yX3_nextField ∈ kAL := al_in (List.mem_of_getElem? (i := 332) (by decide +kernel)) rfl
theorem al_326 : Cond.code yX3_nextField cX3_nextField 3 (some .int) ∈ kAL := al_in (List.mem_of_getElem? (i := 333) (by decide +kernel)) rfl
theorem al_327 : Cond.methodLink RX3 134 yX3_room ∈ kAL := al_in (List.mem_of_getElem? (i := 334) (by decide +kernel)) rfl
theorem al_328 : Cond.instanceMethod yX3_room ∈ kAL := al_in (List.mem_of_getElem? (i := 336) (by decide +kernel)) rfl
theorem al_329 : Cond.selects RX3 yX3_room yX3_room ∈ kAL := al_in (List.mem_of_getElem? (i := 0) (by decide +kernel)) rfl
theorem al_330 : Cond.code yX3_room cX3_room 1 (some .int) ∈ kAL := al_in (List.mem_of_getElem? (i := 337) (by decide +kernel)) rfl
theorem al_331 : Cond.fieldLink RX3 148 "CaneQuotas$Yard" "loads" "I" ∈ kAL := al_in (List.mem_of_getElem? (i := 134) (by decide +kernel)) rfl
theorem al_332 : Cond.fieldLink RX3 151 "CaneQuotas$Yard" "total" "I" ∈ kAL := al_in (List.mem_of_getElem? (i := 136) (by decide +kernel)) rfl
theorem al_333 : Cond.methodLink RX3 137 yX0_howItIs ∈ kAL := al_in (List.mem_of_getElem? (i := 277) (by decide +kernel)) rfl
theorem al_334 : Cond.instanceMethod yX0_howItIs ∈ kAL := al_in (List.mem_of_getElem? (i := 278) (by decide +kernel)) rfl
theorem al_335 : Cond.selects RX0 yX0_howItIs yX0_howItIs ∈ kAL := al_in (List.mem_of_getElem? (i := 279) (by decide +kernel)) rfl
theorem al_336 : Cond.code yX0_howItIs cX0_howItIs 3 (some .int) ∈ kAL := al_in (List.mem_of_getElem? (i := 280) (by decide +kernel)) rfl
theorem al_337 : Cond.methodLink RX3 141 yX3_quotaOf ∈ kAL := al_in (List.mem_of_getElem? (i := 338) (by decide +kernel)) rfl
theorem al_338 : Cond.instanceMethod yX3_quotaOf ∈ kAL := al_in (List.mem_of_getElem? (i := 340) (by decide +kernel)) rfl
theorem al_339 : Cond.selects RX3 yX3_quotaOf yX3_quotaOf ∈ kAL := al_in (List.mem_of_getElem? (i := 1) (by decide +kernel)) rfl
theorem al_340 : Cond.code yX3_quotaOf cX3_quotaOf 2 (some .int) ∈ kAL := al_in (List.mem_of_getElem? (i := 341) (by decide +kernel)) rfl
theorem al_341 : Cond.methodLink RX3 144 yX3_goesAhead ∈ kAL := al_in (List.mem_of_getElem? (i := 342) (by decide +kernel)) rfl
theorem al_342 : Cond.instanceMethod yX3_goesAhead ∈ kAL := al_in (List.mem_of_getElem? (i := 344) (by decide +kernel)) rfl
theorem al_343 : Cond.selects RX3 yX3_goesAhead yX3_goesAhead ∈ kAL := al_in (List.mem_of_getElem? (i := 2) (by decide +kernel)) rfl
theorem al_344 : Cond.code yX3_goesAhead cX3_goesAhead 5 (some .boolean) ∈ kAL := al_in (List.mem_of_getElem? (i := 345) (by decide +kernel)) rfl
theorem al_345 : Cond.methodLink RX3 130 yX3_bringLoad ∈ kAL := al_in (List.mem_of_getElem? (i := 404) (by decide +kernel)) rfl
theorem al_346 : Cond.instanceMethod yX3_bringLoad ∈ kAL := al_in (List.mem_of_getElem? (i := 406) (by decide +kernel)) rfl
theorem al_347 : Cond.selects RX3 yX3_bringLoad yX3_bringLoad ∈ kAL := al_in (List.mem_of_getElem? (i := 6) (by decide +kernel)) rfl
theorem al_348 : Cond.code yX3_bringLoad cX3_bringLoad 5 none ∈ kAL := al_in (List.mem_of_getElem? (i := 407) (by decide +kernel)) rfl
theorem al_349 : Cond.fieldLink RX3 154 "CaneQuotas$Fields" "left" "[I" ∈ kAL := al_in (List.mem_of_getElem? (i := 77) (by decide +kernel)) rfl
theorem al_350 : Cond.methodLink RX3 157 Lib.Math.min.name ∈ kAL := al_in (List.mem_of_getElem? (i := 408) (by decide +kernel)) rfl
theorem al_351 : Cond.fieldLink RX3 162 "CaneQuotas$Growers" "brought" "[I" ∈ kAL := al_in (List.mem_of_getElem? (i := 43) (by decide +kernel)) rfl
theorem al_352 : Cond.fieldLink RX3 165 "CaneQuotas$Fields" "inYard" "[I" ∈ kAL := al_in (List.mem_of_getElem? (i := 79) (by decide +kernel)) rfl
theorem al_353 : Cond.methodLink RX3 168 yX6_append ∈ kAL := al_in (List.mem_of_getElem? (i := 409) (by decide +kernel)) rfl
theorem al_354 : Cond.instanceMethod yX6_append ∈ kAL := al_in (List.mem_of_getElem? (i := 410) (by decide +kernel)) rfl
theorem al_355 : Cond.selects RX6 yX6_append yX6_append ∈ kAL := al_in (List.mem_of_getElem? (i := 411) (by decide +kernel)) rfl
theorem al_356 : Cond.code yX6_append cX6_append 4 none ∈ kAL := al_in (List.mem_of_getElem? (i := 412) (by decide +kernel)) rfl
theorem al_357 : Cond.methodLink RX3 104 yX5_isStopped ∈ kAL := al_in (List.mem_of_getElem? (i := 413) (by decide +kernel)) rfl
theorem al_358 : Cond.instanceMethod yX5_isStopped ∈ kAL := al_in (List.mem_of_getElem? (i := 414) (by decide +kernel)) rfl
theorem al_359 : Cond.selects RX5 yX5_isStopped yX5_isStopped ∈ kAL := al_in (List.mem_of_getElem? (i := 415) (by decide +kernel)) rfl
theorem al_360 : Cond.code yX5_isStopped cX5_isStopped 3 (some .boolean) ∈ kAL := al_in (List.mem_of_getElem? (i := 416) (by decide +kernel)) rfl
theorem al_361 : Cond.methodLink RX3 107 yX3_crush ∈ kAL := al_in (List.mem_of_getElem? (i := 418) (by decide +kernel)) rfl
theorem al_362 : Cond.instanceMethod yX3_crush ∈ kAL := al_in (List.mem_of_getElem? (i := 420) (by decide +kernel)) rfl
theorem al_363 : Cond.selects RX3 yX3_crush yX3_crush ∈ kAL := al_in (List.mem_of_getElem? (i := 7) (by decide +kernel)) rfl
theorem al_364 : Cond.code yX3_crush cX3_crush 5 none ∈ kAL := al_in (List.mem_of_getElem? (i := 421) (by decide +kernel)) rfl
theorem al_365 : Cond.fieldLink RX3 171 "CaneQuotas$Yard" "tonnes" "[I" ∈ kAL := al_in (List.mem_of_getElem? (i := 131) (by decide +kernel)) rfl
theorem al_366 : Cond.fieldLink RX3 174 "CaneQuotas$Yard" "field" "[I" ∈ kAL := al_in (List.mem_of_getElem? (i := 129) (by decide +kernel)) rfl
theorem al_367 : Cond.methodLink RX3 177 yX3_crushPart ∈ kAL := al_in (List.mem_of_getElem? (i := 422) (by decide +kernel)) rfl
theorem al_368 : Cond.instanceMethod yX3_crushPart ∈ kAL := al_in (List.mem_of_getElem? (i := 424) (by decide +kernel)) rfl
theorem al_369 : Cond.selects RX3 yX3_crushPart yX3_crushPart ∈ kAL := al_in (List.mem_of_getElem? (i := 8) (by decide +kernel)) rfl
theorem al_370 : Cond.code yX3_crushPart cX3_crushPart 5 none ∈ kAL := al_in (List.mem_of_getElem? (i := 425) (by decide +kernel)) rfl
theorem al_371 : Cond.fieldLink RX3 191 "CaneQuotas$Growers" "paid" "[I" ∈ kAL := al_in (List.mem_of_getElem? (i := 49) (by decide +kernel)) rfl
theorem al_372 : Cond.fieldLink RX3 194 "CaneQuotas$Growers" "crushed" "[I" ∈ kAL := al_in (List.mem_of_getElem? (i := 45) (by decide +kernel)) rfl
theorem al_373 : Cond.fieldLink RX3 197 "CaneQuotas$Fields" "crushed" "[I" ∈ kAL := al_in (List.mem_of_getElem? (i := 81) (by decide +kernel)) rfl
theorem al_374 : Cond.methodLink RX3 187 yX0_purityOn ∈ kAL := al_in (List.mem_of_getElem? (i := 281) (by decide +kernel)) rfl
theorem al_375 : Cond.instanceMethod yX0_purityOn ∈ kAL := al_in (List.mem_of_getElem? (i := 282) (by decide +kernel)) rfl
theorem al_376 : Cond.selects RX0 yX0_purityOn yX0_purityOn ∈ kAL := al_in (List.mem_of_getElem? (i := 283) (by decide +kernel)) rfl
theorem al_377 : Cond.code yX0_purityOn cX0_purityOn 5 (some .int) ∈ kAL := al_in (List.mem_of_getElem? (i := 284) (by decide +kernel)) rfl
theorem al_378 : Cond.methodLink RX0 44 Lib.Math.max.name ∈ kAL := al_in (List.mem_of_getElem? (i := 285) (by decide +kernel)) rfl
theorem al_379 : Cond.static Lib.Math.max.name ∈ kAL := al_in (List.mem_of_getElem? (i := 286) (by decide +kernel)) rfl
