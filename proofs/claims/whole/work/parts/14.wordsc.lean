section
set_option maxRecDepth 100000 in
theorem xw_340 : Cond.classLink RX10 27 RX3 ∈ lw_tbl := List.mem_of_getElem? (i := 293) (by decide +kernel)
set_option maxRecDepth 100000 in
theorem xw_341 : Cond.instantiable RX3 4 ∈ lw_tbl := List.mem_of_getElem? (i := 294) (by decide +kernel)
set_option maxRecDepth 100000 in
theorem xw_342 : Cond.initialized RX3 ∈ lw_tbl := List.mem_of_getElem? (i := 69) (by decide +kernel)
set_option maxRecDepth 100000 in
theorem xw_343 : Cond.methodLinkNest RX10 29 yX3_init "CellLibrary" ∈ lw_tbl := List.mem_of_getElem? (i := 295) (by decide +kernel)
set_option maxRecDepth 100000 in
theorem xw_344 : Cond.instanceMethod yX3_init ∈ lw_tbl := List.mem_of_getElem? (i := 296) (by decide +kernel)
set_option maxRecDepth 100000 in
theorem xw_345 : Cond.fieldLink RX10 30 (TX10 4).1 (TX10 4).2.1 (TX10 4).2.2.1 ∈ lw_tbl := List.mem_of_getElem? (i := 317) (by decide +kernel)
set_option maxRecDepth 100000 in
theorem xw_346 : Cond.fieldLink RX10 34 (TX10 5).1 (TX10 5).2.1 (TX10 5).2.2.1 ∈ lw_tbl := List.mem_of_getElem? (i := 318) (by decide +kernel)
set_option maxRecDepth 100000 in
theorem xw_347 : Cond.methodLink RX10 38 yX10_mayStandOnTape ∈ lw_tbl := List.mem_of_getElem? (i := 336) (by decide +kernel)
set_option maxRecDepth 100000 in
theorem xw_348 : Cond.static yX10_mayStandOnTape ∈ lw_tbl := List.mem_of_getElem? (i := 337) (by decide +kernel)
set_option maxRecDepth 100000 in
theorem xw_349 : Cond.fieldLink RX10 42 (TX10 1).1 (TX10 1).2.1 (TX10 1).2.2.1 ∈ lw_tbl := List.mem_of_getElem? (i := 314) (by decide +kernel)
set_option maxRecDepth 100000 in
theorem xw_350 : Cond.methodLink RX10 46 yX5_readText ∈ lw_tbl := List.mem_of_getElem? (i := 348) (by decide +kernel)
set_option maxRecDepth 100000 in
theorem xw_351 : Cond.instanceMethod yX5_readText ∈ lw_tbl := List.mem_of_getElem? (i := 349) (by decide +kernel)
set_option maxRecDepth 100000 in
theorem xw_352 : Cond.selects RX5 yX5_readText yX5_readText ∈ lw_tbl := List.mem_of_getElem? (i := 350) (by decide +kernel)
set_option maxRecDepth 100000 in
theorem xw_353 : Cond.methodLink RX10 52 yX5_place ∈ lw_tbl := List.mem_of_getElem? (i := 693) (by decide +kernel)
set_option maxRecDepth 100000 in
theorem xw_354 : Cond.instanceMethod yX5_place ∈ lw_tbl := List.mem_of_getElem? (i := 694) (by decide +kernel)
set_option maxRecDepth 100000 in
theorem xw_355 : Cond.selects RX5 yX5_place yX5_place ∈ lw_tbl := List.mem_of_getElem? (i := 695) (by decide +kernel)
set_option maxRecDepth 100000 in
theorem xw_356 : Cond.methodLink RX10 56 yX5_exchange ∈ lw_tbl := List.mem_of_getElem? (i := 697) (by decide +kernel)
set_option maxRecDepth 100000 in
theorem xw_357 : Cond.instanceMethod yX5_exchange ∈ lw_tbl := List.mem_of_getElem? (i := 698) (by decide +kernel)
set_option maxRecDepth 100000 in
theorem xw_358 : Cond.selects RX5 yX5_exchange yX5_exchange ∈ lw_tbl := List.mem_of_getElem? (i := 699) (by decide +kernel)
set_option maxRecDepth 100000 in
theorem xw_359 : Cond.fieldLinkNest RX10 60 (TX6 4).1 (TX6 4).2.1 (TX6 4).2.2.1 "CellLibrary" ∈ lw_tbl := List.mem_of_getElem? (i := 215) (by decide +kernel)
set_option maxRecDepth 100000 in
theorem xw_360 : Cond.methodLink RX10 63 yX10_cellAt ∈ lw_tbl := List.mem_of_getElem? (i := 709) (by decide +kernel)
set_option maxRecDepth 100000 in
theorem xw_361 : Cond.instanceMethod yX10_cellAt ∈ lw_tbl := List.mem_of_getElem? (i := 711) (by decide +kernel)
set_option maxRecDepth 100000 in
theorem xw_362 : Cond.selects RX10 yX10_cellAt yX10_cellAt ∈ lw_tbl := List.mem_of_getElem? (i := 21) (by decide +kernel)
set_option maxRecDepth 100000 in
theorem xw_363 : Cond.fieldLinkNest RX10 67 (TX1 3).1 (TX1 3).2.1 (TX1 3).2.2.1 "CellLibrary" ∈ lw_tbl := List.mem_of_getElem? (i := 155) (by decide +kernel)
set_option maxRecDepth 100000 in
theorem xw_364 : Cond.fieldLinkNest RX10 72 (TX1 4).1 (TX1 4).2.1 (TX1 4).2.2.1 "CellLibrary" ∈ lw_tbl := List.mem_of_getElem? (i := 158) (by decide +kernel)
set_option maxRecDepth 100000 in
theorem xw_365 : Cond.fieldLinkNest RX10 75 (TX1 11).1 (TX1 11).2.1 (TX1 11).2.2.1 "CellLibrary" ∈ lw_tbl := List.mem_of_getElem? (i := 177) (by decide +kernel)
set_option maxRecDepth 100000 in
theorem xw_366 : Cond.fieldLinkNest RX10 78 (TX1 6).1 (TX1 6).2.1 (TX1 6).2.2.1 "CellLibrary" ∈ lw_tbl := List.mem_of_getElem? (i := 165) (by decide +kernel)
set_option maxRecDepth 100000 in
theorem xw_367 : Cond.methodLink RX10 81 yX1_disagreeing ∈ lw_tbl := List.mem_of_getElem? (i := 731) (by decide +kernel)
set_option maxRecDepth 100000 in
theorem xw_368 : Cond.instanceMethod yX1_disagreeing ∈ lw_tbl := List.mem_of_getElem? (i := 732) (by decide +kernel)
set_option maxRecDepth 100000 in
theorem xw_369 : Cond.selects RX1 yX1_disagreeing yX1_disagreeing ∈ lw_tbl := List.mem_of_getElem? (i := 733) (by decide +kernel)
set_option maxRecDepth 100000 in
theorem xw_370 : Cond.fieldLinkNest RX10 84 (TX1 1).1 (TX1 1).2.1 (TX1 1).2.2.1 "CellLibrary" ∈ lw_tbl := List.mem_of_getElem? (i := 149) (by decide +kernel)
set_option maxRecDepth 100000 in
theorem xw_371 : Cond.methodLink RX10 89 yX10_requireIndex ∈ lw_tbl := List.mem_of_getElem? (i := 713) (by decide +kernel)
set_option maxRecDepth 100000 in
theorem xw_372 : Cond.static yX10_requireIndex ∈ lw_tbl := List.mem_of_getElem? (i := 714) (by decide +kernel)
set_option maxRecDepth 100000 in
theorem xw_373 : Cond.fieldLinkNest RX10 93 (TX1 5).1 (TX1 5).2.1 (TX1 5).2.2.1 "CellLibrary" ∈ lw_tbl := List.mem_of_getElem? (i := 162) (by decide +kernel)
set_option maxRecDepth 100000 in
theorem xw_374 : Cond.methodLink RX10 97 yX2_senseOf ∈ lw_tbl := List.mem_of_getElem? (i := 757) (by decide +kernel)
set_option maxRecDepth 100000 in
theorem xw_375 : Cond.methodLink RX10 103 yX1_arcPart ∈ lw_tbl := List.mem_of_getElem? (i := 765) (by decide +kernel)
set_option maxRecDepth 100000 in
theorem xw_376 : Cond.methodLink RX10 107 yX1_agrees ∈ lw_tbl := List.mem_of_getElem? (i := 766) (by decide +kernel)
set_option maxRecDepth 100000 in
theorem xw_377 : Cond.constant RX10 110 (1000000 : Int32) ∈ lw_tbl := List.mem_of_getElem? (i := 775) (by decide +kernel)
set_option maxRecDepth 100000 in
theorem xw_378 : Cond.fieldLinkNest RX10 114 (TX6 1).1 (TX6 1).2.1 (TX6 1).2.2.1 "CellLibrary" ∈ lw_tbl := List.mem_of_getElem? (i := 208) (by decide +kernel)
set_option maxRecDepth 100000 in
theorem xw_379 : Cond.methodLink RX10 118 yX7_joined ∈ lw_tbl := List.mem_of_getElem? (i := 791) (by decide +kernel)
set_option maxRecDepth 100000 in
theorem xw_380 : Cond.instanceMethod yX7_joined ∈ lw_tbl := List.mem_of_getElem? (i := 792) (by decide +kernel)
set_option maxRecDepth 100000 in
theorem xw_381 : Cond.selects RX7 yX7_joined yX7_joined ∈ lw_tbl := List.mem_of_getElem? (i := 793) (by decide +kernel)
set_option maxRecDepth 100000 in
theorem xw_382 : Cond.methodLink RX10 123 yX1_states ∈ lw_tbl := List.mem_of_getElem? (i := 832) (by decide +kernel)
set_option maxRecDepth 100000 in
theorem xw_383 : Cond.fieldLinkNest RX10 126 (TX1 9).1 (TX1 9).2.1 (TX1 9).2.2.1 "CellLibrary" ∈ lw_tbl := List.mem_of_getElem? (i := 174) (by decide +kernel)
set_option maxRecDepth 100000 in
theorem xw_384 : Cond.fieldLinkNest RX10 130 (TX1 8).1 (TX1 8).2.1 (TX1 8).2.2.1 "CellLibrary" ∈ lw_tbl := List.mem_of_getElem? (i := 170) (by decide +kernel)
set_option maxRecDepth 100000 in
theorem xw_385 : Cond.methodLink RX10 133 yX3_match ∈ lw_tbl := List.mem_of_getElem? (i := 840) (by decide +kernel)
set_option maxRecDepth 100000 in
theorem xw_386 : Cond.instanceMethod yX3_match ∈ lw_tbl := List.mem_of_getElem? (i := 841) (by decide +kernel)
set_option maxRecDepth 100000 in
theorem xw_387 : Cond.selects RX3 yX3_match yX3_match ∈ lw_tbl := List.mem_of_getElem? (i := 842) (by decide +kernel)
set_option maxRecDepth 100000 in
theorem xw_388 : Cond.fieldLinkNest RX10 137 (TX3 0).1 (TX3 0).2.1 (TX3 0).2.2.1 "CellLibrary" ∈ lw_tbl := List.mem_of_getElem? (i := 300) (by decide +kernel)
set_option maxRecDepth 100000 in
theorem xw_389 : Cond.methodLink RX10 140 yX10_requireNotBelowZero ∈ lw_tbl := List.mem_of_getElem? (i := 881) (by decide +kernel)
set_option maxRecDepth 100000 in
theorem xw_390 : Cond.static yX10_requireNotBelowZero ∈ lw_tbl := List.mem_of_getElem? (i := 882) (by decide +kernel)
set_option maxRecDepth 100000 in
theorem xw_391 : Cond.methodLink RX10 144 yX10_gatherMembers ∈ lw_tbl := List.mem_of_getElem? (i := 884) (by decide +kernel)
set_option maxRecDepth 100000 in
theorem xw_392 : Cond.instanceMethod yX10_gatherMembers ∈ lw_tbl := List.mem_of_getElem? (i := 886) (by decide +kernel)
set_option maxRecDepth 100000 in
theorem xw_393 : Cond.selects RX10 yX10_gatherMembers yX10_gatherMembers ∈ lw_tbl := List.mem_of_getElem? (i := 26) (by decide +kernel)
set_option maxRecDepth 100000 in
theorem xw_394 : Cond.fieldLinkNest RX10 148 (TX6 2).1 (TX6 2).2.1 (TX6 2).2.2.1 "CellLibrary" ∈ lw_tbl := List.mem_of_getElem? (i := 210) (by decide +kernel)
set_option maxRecDepth 100000 in
theorem xw_395 : Cond.fieldLinkNest RX10 152 (TX1 0).1 (TX1 0).2.1 (TX1 0).2.2.1 "CellLibrary" ∈ lw_tbl := List.mem_of_getElem? (i := 147) (by decide +kernel)
set_option maxRecDepth 100000 in
theorem xw_396 : Cond.fieldLinkNest RX10 156 (TX1 2).1 (TX1 2).2.1 (TX1 2).2.2.1 "CellLibrary" ∈ lw_tbl := List.mem_of_getElem? (i := 152) (by decide +kernel)
set_option maxRecDepth 100000 in
theorem xw_397 : Cond.methodLink RX10 159 yX4_characterOf ∈ lw_tbl := List.mem_of_getElem? (i := 906) (by decide +kernel)
set_option maxRecDepth 100000 in
theorem xw_398 : Cond.static yX4_characterOf ∈ lw_tbl := List.mem_of_getElem? (i := 907) (by decide +kernel)
set_option maxRecDepth 100000 in
theorem xw_399 : Cond.fieldLinkNest RX10 164 (TX6 3).1 (TX6 3).2.1 (TX6 3).2.2.1 "CellLibrary" ∈ lw_tbl := List.mem_of_getElem? (i := 213) (by decide +kernel)
set_option maxRecDepth 100000 in
theorem xw_400 : Cond.methodLink RX10 167 yX1_comesBefore ∈ lw_tbl := List.mem_of_getElem? (i := 888) (by decide +kernel)
set_option maxRecDepth 100000 in
theorem xw_401 : Cond.instanceMethod yX1_comesBefore ∈ lw_tbl := List.mem_of_getElem? (i := 889) (by decide +kernel)
set_option maxRecDepth 100000 in
theorem xw_402 : Cond.selects RX1 yX1_comesBefore yX1_comesBefore ∈ lw_tbl := List.mem_of_getElem? (i := 890) (by decide +kernel)
set_option maxRecDepth 100000 in
theorem xw_403 : Cond.methodLink RX11 1 objectInit ∈ lw_tbl := List.mem_of_getElem? (i := 921) (by decide +kernel)
set_option maxRecDepth 100000 in
theorem xw_404 : Cond.fieldLink RX11 7 (TX11 2).1 (TX11 2).2.1 (TX11 2).2.2.1 ∈ lw_tbl := List.mem_of_getElem? (i := 924) (by decide +kernel)
set_option maxRecDepth 100000 in
theorem xw_405 : Cond.fieldLink RX11 13 (TX11 4).1 (TX11 4).2.1 (TX11 4).2.2.1 ∈ lw_tbl := List.mem_of_getElem? (i := 926) (by decide +kernel)
set_option maxRecDepth 100000 in
theorem xw_406 : Cond.fieldLink RX11 16 (TX11 5).1 (TX11 5).2.1 (TX11 5).2.2.1 ∈ lw_tbl := List.mem_of_getElem? (i := 927) (by decide +kernel)
set_option maxRecDepth 100000 in
theorem xw_407 : Cond.fieldLink RX11 20 (TX11 6).1 (TX11 6).2.1 (TX11 6).2.2.1 ∈ lw_tbl := List.mem_of_getElem? (i := 928) (by decide +kernel)
set_option maxRecDepth 100000 in
theorem xw_408 : Cond.fieldLink RX11 23 (TX11 7).1 (TX11 7).2.1 (TX11 7).2.2.1 ∈ lw_tbl := List.mem_of_getElem? (i := 929) (by decide +kernel)
set_option maxRecDepth 100000 in
theorem xw_409 : Cond.fieldLink RX11 26 (TX11 8).1 (TX11 8).2.1 (TX11 8).2.2.1 ∈ lw_tbl := List.mem_of_getElem? (i := 930) (by decide +kernel)
set_option maxRecDepth 100000 in
theorem xw_410 : Cond.fieldLink RX11 29 (TX11 9).1 (TX11 9).2.1 (TX11 9).2.2.1 ∈ lw_tbl := List.mem_of_getElem? (i := 931) (by decide +kernel)
set_option maxRecDepth 100000 in
theorem xw_411 : Cond.fieldLink RX11 32 (TX11 10).1 (TX11 10).2.1 (TX11 10).2.2.1 ∈ lw_tbl := List.mem_of_getElem? (i := 932) (by decide +kernel)
set_option maxRecDepth 100000 in
theorem xw_412 : Cond.fieldLink RX11 35 (TX11 11).1 (TX11 11).2.1 (TX11 11).2.2.1 ∈ lw_tbl := List.mem_of_getElem? (i := 933) (by decide +kernel)
set_option maxRecDepth 100000 in
theorem xw_413 : Cond.fieldLink RX11 38 (TX11 12).1 (TX11 12).2.1 (TX11 12).2.2.1 ∈ lw_tbl := List.mem_of_getElem? (i := 934) (by decide +kernel)
set_option maxRecDepth 100000 in
theorem xw_414 : Cond.fieldLink RX11 41 (TX11 13).1 (TX11 13).2.1 (TX11 13).2.2.1 ∈ lw_tbl := List.mem_of_getElem? (i := 935) (by decide +kernel)
set_option maxRecDepth 100000 in
theorem xw_415 : Cond.fieldLink RX11 44 (TX11 14).1 (TX11 14).2.1 (TX11 14).2.2.1 ∈ lw_tbl := List.mem_of_getElem? (i := 936) (by decide +kernel)
set_option maxRecDepth 100000 in
theorem xw_416 : Cond.fieldLink RX11 47 (TX11 15).1 (TX11 15).2.1 (TX11 15).2.2.1 ∈ lw_tbl := List.mem_of_getElem? (i := 937) (by decide +kernel)
set_option maxRecDepth 100000 in
theorem xw_417 : Cond.fieldLink RX11 50 (TX11 16).1 (TX11 16).2.1 (TX11 16).2.2.1 ∈ lw_tbl := List.mem_of_getElem? (i := 938) (by decide +kernel)
set_option maxRecDepth 100000 in
theorem xw_418 : Cond.fieldLink RX11 53 (TX11 17).1 (TX11 17).2.1 (TX11 17).2.2.1 ∈ lw_tbl := List.mem_of_getElem? (i := 939) (by decide +kernel)
set_option maxRecDepth 100000 in
theorem xw_419 : Cond.fieldLink RX11 56 (TX11 18).1 (TX11 18).2.1 (TX11 18).2.2.1 ∈ lw_tbl := List.mem_of_getElem? (i := 940) (by decide +kernel)
set_option maxRecDepth 100000 in
theorem xw_420 : Cond.fieldLink RX11 60 (TX11 19).1 (TX11 19).2.1 (TX11 19).2.2.1 ∈ lw_tbl := List.mem_of_getElem? (i := 941) (by decide +kernel)
set_option maxRecDepth 100000 in
theorem xw_421 : Cond.fieldLink RX11 63 (TX11 20).1 (TX11 20).2.1 (TX11 20).2.2.1 ∈ lw_tbl := List.mem_of_getElem? (i := 942) (by decide +kernel)
set_option maxRecDepth 100000 in
theorem xw_422 : Cond.fieldLink RX11 66 (TX11 21).1 (TX11 21).2.1 (TX11 21).2.2.1 ∈ lw_tbl := List.mem_of_getElem? (i := 943) (by decide +kernel)
set_option maxRecDepth 100000 in
theorem xw_423 : Cond.fieldLink RX11 69 (TX11 22).1 (TX11 22).2.1 (TX11 22).2.2.1 ∈ lw_tbl := List.mem_of_getElem? (i := 944) (by decide +kernel)
set_option maxRecDepth 100000 in
theorem xw_424 : Cond.fieldLink RX11 72 (TX11 31).1 (TX11 31).2.1 (TX11 31).2.2.1 ∈ lw_tbl := List.mem_of_getElem? (i := 953) (by decide +kernel)
set_option maxRecDepth 100000 in
theorem xw_425 : Cond.fieldLink RX11 75 (TX11 33).1 (TX11 33).2.1 (TX11 33).2.2.1 ∈ lw_tbl := List.mem_of_getElem? (i := 955) (by decide +kernel)
set_option maxRecDepth 100000 in
theorem xw_426 : Cond.fieldLink RX11 78 (TX11 35).1 (TX11 35).2.1 (TX11 35).2.2.1 ∈ lw_tbl := List.mem_of_getElem? (i := 957) (by decide +kernel)
set_option maxRecDepth 100000 in
theorem xw_427 : Cond.fieldLink RX11 81 (TX11 36).1 (TX11 36).2.1 (TX11 36).2.2.1 ∈ lw_tbl := List.mem_of_getElem? (i := 958) (by decide +kernel)
set_option maxRecDepth 100000 in
theorem xw_428 : Cond.fieldLink RX11 84 (TX11 0).1 (TX11 0).2.1 (TX11 0).2.2.1 ∈ lw_tbl := List.mem_of_getElem? (i := 922) (by decide +kernel)
set_option maxRecDepth 100000 in
theorem xw_429 : Cond.methodLink RX11 88 yX11_isCharacter ∈ lw_tbl := List.mem_of_getElem? (i := 1042) (by decide +kernel)
set_option maxRecDepth 100000 in
theorem xw_430 : Cond.static yX11_isCharacter ∈ lw_tbl := List.mem_of_getElem? (i := 1043) (by decide +kernel)
set_option maxRecDepth 100000 in
theorem xw_431 : Cond.fieldLink RX11 92 (TX11 1).1 (TX11 1).2.1 (TX11 1).2.2.1 ∈ lw_tbl := List.mem_of_getElem? (i := 923) (by decide +kernel)
set_option maxRecDepth 100000 in
theorem xw_432 : Cond.fieldLink RX11 95 (TX11 23).1 (TX11 23).2.1 (TX11 23).2.2.1 ∈ lw_tbl := List.mem_of_getElem? (i := 945) (by decide +kernel)
set_option maxRecDepth 100000 in
theorem xw_433 : Cond.fieldLink RX11 98 (TX11 24).1 (TX11 24).2.1 (TX11 24).2.2.1 ∈ lw_tbl := List.mem_of_getElem? (i := 946) (by decide +kernel)
set_option maxRecDepth 100000 in
theorem xw_434 : Cond.fieldLink RX11 101 (TX11 26).1 (TX11 26).2.1 (TX11 26).2.2.1 ∈ lw_tbl := List.mem_of_getElem? (i := 948) (by decide +kernel)
set_option maxRecDepth 100000 in
theorem xw_435 : Cond.fieldLink RX11 105 (TX11 27).1 (TX11 27).2.1 (TX11 27).2.2.1 ∈ lw_tbl := List.mem_of_getElem? (i := 949) (by decide +kernel)
set_option maxRecDepth 100000 in
theorem xw_436 : Cond.fieldLink RX11 108 (TX11 25).1 (TX11 25).2.1 (TX11 25).2.2.1 ∈ lw_tbl := List.mem_of_getElem? (i := 947) (by decide +kernel)
set_option maxRecDepth 100000 in
theorem xw_437 : Cond.methodLink RX11 111 yX11_isLetter ∈ lw_tbl := List.mem_of_getElem? (i := 1057) (by decide +kernel)
set_option maxRecDepth 100000 in
theorem xw_438 : Cond.static yX11_isLetter ∈ lw_tbl := List.mem_of_getElem? (i := 1058) (by decide +kernel)
set_option maxRecDepth 100000 in
theorem xw_439 : Cond.methodLink RX11 114 yX11_isDigit ∈ lw_tbl := List.mem_of_getElem? (i := 1060) (by decide +kernel)
set_option maxRecDepth 100000 in
theorem xw_440 : Cond.static yX11_isDigit ∈ lw_tbl := List.mem_of_getElem? (i := 1061) (by decide +kernel)
set_option maxRecDepth 100000 in
theorem xw_441 : Cond.fieldLink RX11 117 (TX11 28).1 (TX11 28).2.1 (TX11 28).2.2.1 ∈ lw_tbl := List.mem_of_getElem? (i := 950) (by decide +kernel)
set_option maxRecDepth 100000 in
theorem xw_442 : Cond.methodLink RX11 121 yX11_look ∈ lw_tbl := List.mem_of_getElem? (i := 1053) (by decide +kernel)
set_option maxRecDepth 100000 in
theorem xw_443 : Cond.instanceMethod yX11_look ∈ lw_tbl := List.mem_of_getElem? (i := 1055) (by decide +kernel)
set_option maxRecDepth 100000 in
theorem xw_444 : Cond.selects RX11 yX11_look yX11_look ∈ lw_tbl := List.mem_of_getElem? (i := 27) (by decide +kernel)
set_option maxRecDepth 100000 in
theorem xw_445 : Cond.methodLink RX11 124 yX11_isSign ∈ lw_tbl := List.mem_of_getElem? (i := 1090) (by decide +kernel)
set_option maxRecDepth 100000 in
theorem xw_446 : Cond.instanceMethod yX11_isSign ∈ lw_tbl := List.mem_of_getElem? (i := 1092) (by decide +kernel)
set_option maxRecDepth 100000 in
theorem xw_447 : Cond.selects RX11 yX11_isSign yX11_isSign ∈ lw_tbl := List.mem_of_getElem? (i := 34) (by decide +kernel)
set_option maxRecDepth 100000 in
theorem xw_448 : Cond.methodLink RX11 127 yX11_need ∈ lw_tbl := List.mem_of_getElem? (i := 1082) (by decide +kernel)
set_option maxRecDepth 100000 in
theorem xw_449 : Cond.instanceMethod yX11_need ∈ lw_tbl := List.mem_of_getElem? (i := 1084) (by decide +kernel)
set_option maxRecDepth 100000 in
theorem xw_450 : Cond.selects RX11 yX11_need yX11_need ∈ lw_tbl := List.mem_of_getElem? (i := 32) (by decide +kernel)
set_option maxRecDepth 100000 in
theorem xw_451 : Cond.methodLink RX11 131 yX11_go ∈ lw_tbl := List.mem_of_getElem? (i := 1074) (by decide +kernel)
set_option maxRecDepth 100000 in
theorem xw_452 : Cond.instanceMethod yX11_go ∈ lw_tbl := List.mem_of_getElem? (i := 1076) (by decide +kernel)
set_option maxRecDepth 100000 in
theorem xw_453 : Cond.selects RX11 yX11_go yX11_go ∈ lw_tbl := List.mem_of_getElem? (i := 30) (by decide +kernel)
set_option maxRecDepth 100000 in
theorem xw_454 : Cond.methodLink RX11 134 yX11_word ∈ lw_tbl := List.mem_of_getElem? (i := 1067) (by decide +kernel)
set_option maxRecDepth 100000 in
theorem xw_455 : Cond.static yX11_word ∈ lw_tbl := List.mem_of_getElem? (i := 1068) (by decide +kernel)
set_option maxRecDepth 100000 in
theorem xw_456 : Cond.fieldLink RX11 138 (TX11 29).1 (TX11 29).2.1 (TX11 29).2.2.1 ∈ lw_tbl := List.mem_of_getElem? (i := 951) (by decide +kernel)
set_option maxRecDepth 100000 in
theorem xw_457 : Cond.methodLink RX11 141 yX11_tableOf ∈ lw_tbl := List.mem_of_getElem? (i := 1078) (by decide +kernel)
set_option maxRecDepth 100000 in
theorem xw_458 : Cond.instanceMethod yX11_tableOf ∈ lw_tbl := List.mem_of_getElem? (i := 1080) (by decide +kernel)
set_option maxRecDepth 100000 in
theorem xw_459 : Cond.selects RX11 yX11_tableOf yX11_tableOf ∈ lw_tbl := List.mem_of_getElem? (i := 31) (by decide +kernel)
set_option maxRecDepth 100000 in
theorem xw_460 : Cond.methodLink RX11 145 yX11_sign ∈ lw_tbl := List.mem_of_getElem? (i := 1086) (by decide +kernel)
set_option maxRecDepth 100000 in
theorem xw_461 : Cond.instanceMethod yX11_sign ∈ lw_tbl := List.mem_of_getElem? (i := 1088) (by decide +kernel)
set_option maxRecDepth 100000 in
theorem xw_462 : Cond.selects RX11 yX11_sign yX11_sign ∈ lw_tbl := List.mem_of_getElem? (i := 33) (by decide +kernel)
set_option maxRecDepth 100000 in
theorem xw_463 : Cond.methodLink RX11 149 yX11_axis ∈ lw_tbl := List.mem_of_getElem? (i := 1094) (by decide +kernel)
set_option maxRecDepth 100000 in
theorem xw_464 : Cond.instanceMethod yX11_axis ∈ lw_tbl := List.mem_of_getElem? (i := 1096) (by decide +kernel)
set_option maxRecDepth 100000 in
theorem xw_465 : Cond.selects RX11 yX11_axis yX11_axis ∈ lw_tbl := List.mem_of_getElem? (i := 35) (by decide +kernel)
set_option maxRecDepth 100000 in
theorem xw_466 : Cond.methodLink RX11 153 yX11_numberNow ∈ lw_tbl := List.mem_of_getElem? (i := 1098) (by decide +kernel)
set_option maxRecDepth 100000 in
theorem xw_467 : Cond.instanceMethod yX11_numberNow ∈ lw_tbl := List.mem_of_getElem? (i := 1100) (by decide +kernel)
set_option maxRecDepth 100000 in
theorem xw_468 : Cond.selects RX11 yX11_numberNow yX11_numberNow ∈ lw_tbl := List.mem_of_getElem? (i := 36) (by decide +kernel)
set_option maxRecDepth 100000 in
theorem xw_469 : Cond.fieldLink RX11 157 (TX11 30).1 (TX11 30).2.1 (TX11 30).2.2.1 ∈ lw_tbl := List.mem_of_getElem? (i := 952) (by decide +kernel)
set_option maxRecDepth 100000 in
theorem xw_470 : Cond.methodLink RX11 160 yX11_pinOf ∈ lw_tbl := List.mem_of_getElem? (i := 1118) (by decide +kernel)
set_option maxRecDepth 100000 in
theorem xw_471 : Cond.instanceMethod yX11_pinOf ∈ lw_tbl := List.mem_of_getElem? (i := 1120) (by decide +kernel)
set_option maxRecDepth 100000 in
theorem xw_472 : Cond.selects RX11 yX11_pinOf yX11_pinOf ∈ lw_tbl := List.mem_of_getElem? (i := 41) (by decide +kernel)
set_option maxRecDepth 100000 in
theorem xw_473 : Cond.methodLink RX11 164 yX11_readItem ∈ lw_tbl := List.mem_of_getElem? (i := 1106) (by decide +kernel)
set_option maxRecDepth 100000 in
theorem xw_474 : Cond.instanceMethod yX11_readItem ∈ lw_tbl := List.mem_of_getElem? (i := 1108) (by decide +kernel)
set_option maxRecDepth 100000 in
theorem xw_475 : Cond.selects RX11 yX11_readItem yX11_readItem ∈ lw_tbl := List.mem_of_getElem? (i := 38) (by decide +kernel)
set_option maxRecDepth 100000 in
theorem xw_476 : Cond.methodLink RX11 167 yX11_is ∈ lw_tbl := List.mem_of_getElem? (i := 1063) (by decide +kernel)
set_option maxRecDepth 100000 in
theorem xw_477 : Cond.instanceMethod yX11_is ∈ lw_tbl := List.mem_of_getElem? (i := 1065) (by decide +kernel)
set_option maxRecDepth 100000 in
theorem xw_478 : Cond.selects RX11 yX11_is yX11_is ∈ lw_tbl := List.mem_of_getElem? (i := 28) (by decide +kernel)
set_option maxRecDepth 100000 in
theorem xw_479 : Cond.methodLink RX11 171 yX11_readInput ∈ lw_tbl := List.mem_of_getElem? (i := 1110) (by decide +kernel)
set_option maxRecDepth 100000 in
theorem xw_480 : Cond.instanceMethod yX11_readInput ∈ lw_tbl := List.mem_of_getElem? (i := 1112) (by decide +kernel)
set_option maxRecDepth 100000 in
theorem xw_481 : Cond.selects RX11 yX11_readInput yX11_readInput ∈ lw_tbl := List.mem_of_getElem? (i := 39) (by decide +kernel)
set_option maxRecDepth 100000 in
theorem xw_482 : Cond.methodLink RX11 174 yX11_readOutput ∈ lw_tbl := List.mem_of_getElem? (i := 1122) (by decide +kernel)
set_option maxRecDepth 100000 in
theorem xw_483 : Cond.instanceMethod yX11_readOutput ∈ lw_tbl := List.mem_of_getElem? (i := 1124) (by decide +kernel)
set_option maxRecDepth 100000 in
theorem xw_484 : Cond.selects RX11 yX11_readOutput yX11_readOutput ∈ lw_tbl := List.mem_of_getElem? (i := 42) (by decide +kernel)
set_option maxRecDepth 100000 in
theorem xw_485 : Cond.methodLink RX11 177 yX11_readNumber ∈ lw_tbl := List.mem_of_getElem? (i := 1156) (by decide +kernel)
set_option maxRecDepth 100000 in
theorem xw_486 : Cond.instanceMethod yX11_readNumber ∈ lw_tbl := List.mem_of_getElem? (i := 1158) (by decide +kernel)
set_option maxRecDepth 100000 in
theorem xw_487 : Cond.selects RX11 yX11_readNumber yX11_readNumber ∈ lw_tbl := List.mem_of_getElem? (i := 48) (by decide +kernel)
set_option maxRecDepth 100000 in
theorem xw_488 : Cond.methodLink RX11 180 yX11_readArc ∈ lw_tbl := List.mem_of_getElem? (i := 1160) (by decide +kernel)
set_option maxRecDepth 100000 in
theorem xw_489 : Cond.instanceMethod yX11_readArc ∈ lw_tbl := List.mem_of_getElem? (i := 1162) (by decide +kernel)
set_option maxRecDepth 100000 in
theorem xw_490 : Cond.selects RX11 yX11_readArc yX11_readArc ∈ lw_tbl := List.mem_of_getElem? (i := 49) (by decide +kernel)
set_option maxRecDepth 100000 in
theorem xw_491 : Cond.methodLink RX11 183 yX11_readPower ∈ lw_tbl := List.mem_of_getElem? (i := 1164) (by decide +kernel)
set_option maxRecDepth 100000 in
theorem xw_492 : Cond.instanceMethod yX11_readPower ∈ lw_tbl := List.mem_of_getElem? (i := 1166) (by decide +kernel)
set_option maxRecDepth 100000 in
theorem xw_493 : Cond.selects RX11 yX11_readPower yX11_readPower ∈ lw_tbl := List.mem_of_getElem? (i := 50) (by decide +kernel)
set_option maxRecDepth 100000 in
theorem xw_494 : Cond.methodLink RX11 186 yX11_isPin ∈ lw_tbl := List.mem_of_getElem? (i := 1114) (by decide +kernel)
set_option maxRecDepth 100000 in
theorem xw_495 : Cond.instanceMethod yX11_isPin ∈ lw_tbl := List.mem_of_getElem? (i := 1116) (by decide +kernel)
set_option maxRecDepth 100000 in
theorem xw_496 : Cond.selects RX11 yX11_isPin yX11_isPin ∈ lw_tbl := List.mem_of_getElem? (i := 40) (by decide +kernel)
set_option maxRecDepth 100000 in
theorem xw_497 : Cond.constantLong RX11 190 (-1 : Int64) ∈ lw_tbl := List.mem_of_getElem? (i := 1141) (by decide +kernel)
set_option maxRecDepth 100000 in
theorem xw_498 : Cond.fieldLink RX11 192 (TX11 32).1 (TX11 32).2.1 (TX11 32).2.2.1 ∈ lw_tbl := List.mem_of_getElem? (i := 954) (by decide +kernel)
set_option maxRecDepth 100000 in
theorem xw_499 : Cond.methodLink RX11 195 yX11_rank ∈ lw_tbl := List.mem_of_getElem? (i := 1149) (by decide +kernel)
set_option maxRecDepth 100000 in
theorem xw_500 : Cond.static yX11_rank ∈ lw_tbl := List.mem_of_getElem? (i := 1150) (by decide +kernel)
set_option maxRecDepth 100000 in
theorem xw_501 : Cond.fieldLink RX11 199 (TX11 34).1 (TX11 34).2.1 (TX11 34).2.2.1 ∈ lw_tbl := List.mem_of_getElem? (i := 956) (by decide +kernel)
set_option maxRecDepth 100000 in
theorem xw_502 : Cond.methodLink RX11 202 yX11_all ∈ lw_tbl := List.mem_of_getElem? (i := 1138) (by decide +kernel)
set_option maxRecDepth 100000 in
theorem xw_503 : Cond.static yX11_all ∈ lw_tbl := List.mem_of_getElem? (i := 1139) (by decide +kernel)
set_option maxRecDepth 100000 in
theorem xw_504 : Cond.methodLink RX11 206 yX11_push ∈ lw_tbl := List.mem_of_getElem? (i := 1134) (by decide +kernel)
set_option maxRecDepth 100000 in
theorem xw_505 : Cond.instanceMethod yX11_push ∈ lw_tbl := List.mem_of_getElem? (i := 1136) (by decide +kernel)
set_option maxRecDepth 100000 in
theorem xw_506 : Cond.selects RX11 yX11_push yX11_push ∈ lw_tbl := List.mem_of_getElem? (i := 45) (by decide +kernel)
set_option maxRecDepth 100000 in
theorem xw_507 : Cond.methodLink RX11 209 yX11_statesOf ∈ lw_tbl := List.mem_of_getElem? (i := 1142) (by decide +kernel)
set_option maxRecDepth 100000 in
theorem xw_508 : Cond.static yX11_statesOf ∈ lw_tbl := List.mem_of_getElem? (i := 1143) (by decide +kernel)
set_option maxRecDepth 100000 in
theorem xw_509 : Cond.methodLink RX11 213 yX11_turn ∈ lw_tbl := List.mem_of_getElem? (i := 1145) (by decide +kernel)
end
