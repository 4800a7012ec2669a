section
set_option maxRecDepth 100000 in
theorem xw_510 : Cond.instanceMethod yX11_turn ∈ lw_tbl := List.mem_of_getElem? (i := 1147) (by decide +kernel)
set_option maxRecDepth 100000 in
theorem xw_511 : Cond.selects RX11 yX11_turn yX11_turn ∈ lw_tbl := List.mem_of_getElem? (i := 46) (by decide +kernel)
set_option maxRecDepth 100000 in
theorem xw_512 : Cond.methodLink RX11 216 yX11_operand ∈ lw_tbl := List.mem_of_getElem? (i := 1130) (by decide +kernel)
set_option maxRecDepth 100000 in
theorem xw_513 : Cond.instanceMethod yX11_operand ∈ lw_tbl := List.mem_of_getElem? (i := 1132) (by decide +kernel)
set_option maxRecDepth 100000 in
theorem xw_514 : Cond.selects RX11 yX11_operand yX11_operand ∈ lw_tbl := List.mem_of_getElem? (i := 44) (by decide +kernel)
set_option maxRecDepth 100000 in
theorem xw_515 : Cond.methodLink RX11 219 yX11_settle ∈ lw_tbl := List.mem_of_getElem? (i := 1152) (by decide +kernel)
set_option maxRecDepth 100000 in
theorem xw_516 : Cond.instanceMethod yX11_settle ∈ lw_tbl := List.mem_of_getElem? (i := 1154) (by decide +kernel)
set_option maxRecDepth 100000 in
theorem xw_517 : Cond.selects RX11 yX11_settle yX11_settle ∈ lw_tbl := List.mem_of_getElem? (i := 47) (by decide +kernel)
set_option maxRecDepth 100000 in
theorem xw_518 : Cond.methodLink RX11 222 yX11_expression ∈ lw_tbl := List.mem_of_getElem? (i := 1126) (by decide +kernel)
set_option maxRecDepth 100000 in
theorem xw_519 : Cond.instanceMethod yX11_expression ∈ lw_tbl := List.mem_of_getElem? (i := 1128) (by decide +kernel)
set_option maxRecDepth 100000 in
theorem xw_520 : Cond.selects RX11 yX11_expression yX11_expression ∈ lw_tbl := List.mem_of_getElem? (i := 43) (by decide +kernel)
set_option maxRecDepth 100000 in
theorem xw_521 : Cond.fieldLink RX11 226 (TX11 3).1 (TX11 3).2.1 (TX11 3).2.2.1 ∈ lw_tbl := List.mem_of_getElem? (i := 925) (by decide +kernel)
set_option maxRecDepth 100000 in
theorem xw_522 : Cond.methodLink RX11 229 yX11_readTable ∈ lw_tbl := List.mem_of_getElem? (i := 1070) (by decide +kernel)
set_option maxRecDepth 100000 in
theorem xw_523 : Cond.instanceMethod yX11_readTable ∈ lw_tbl := List.mem_of_getElem? (i := 1072) (by decide +kernel)
set_option maxRecDepth 100000 in
theorem xw_524 : Cond.selects RX11 yX11_readTable yX11_readTable ∈ lw_tbl := List.mem_of_getElem? (i := 29) (by decide +kernel)
set_option maxRecDepth 100000 in
theorem xw_525 : Cond.methodLink RX11 232 yX11_readCell ∈ lw_tbl := List.mem_of_getElem? (i := 1102) (by decide +kernel)
set_option maxRecDepth 100000 in
theorem xw_526 : Cond.instanceMethod yX11_readCell ∈ lw_tbl := List.mem_of_getElem? (i := 1104) (by decide +kernel)
set_option maxRecDepth 100000 in
theorem xw_527 : Cond.selects RX11 yX11_readCell yX11_readCell ∈ lw_tbl := List.mem_of_getElem? (i := 37) (by decide +kernel)
set_option maxRecDepth 100000 in
theorem xw_528 : Cond.methodLink RX11 235 yX11_senseOf ∈ lw_tbl := List.mem_of_getElem? (i := 1180) (by decide +kernel)
set_option maxRecDepth 100000 in
theorem xw_529 : Cond.static yX11_senseOf ∈ lw_tbl := List.mem_of_getElem? (i := 1181) (by decide +kernel)
set_option maxRecDepth 100000 in
theorem xw_530 : Cond.methodLink RX11 238 yX11_isCell ∈ lw_tbl := List.mem_of_getElem? (i := 1172) (by decide +kernel)
set_option maxRecDepth 100000 in
theorem xw_531 : Cond.instanceMethod yX11_isCell ∈ lw_tbl := List.mem_of_getElem? (i := 1174) (by decide +kernel)
set_option maxRecDepth 100000 in
theorem xw_532 : Cond.selects RX11 yX11_isCell yX11_isCell ∈ lw_tbl := List.mem_of_getElem? (i := 51) (by decide +kernel)
set_option maxRecDepth 100000 in
theorem xw_533 : Cond.methodLink RX11 241 yX11_agrees ∈ lw_tbl := List.mem_of_getElem? (i := 1176) (by decide +kernel)
set_option maxRecDepth 100000 in
theorem xw_534 : Cond.instanceMethod yX11_agrees ∈ lw_tbl := List.mem_of_getElem? (i := 1178) (by decide +kernel)
set_option maxRecDepth 100000 in
theorem xw_535 : Cond.selects RX11 yX11_agrees yX11_agrees ∈ lw_tbl := List.mem_of_getElem? (i := 52) (by decide +kernel)
set_option maxRecDepth 100000 in
theorem xw_536 : Cond.methodLink RX11 245 yX11_isArc ∈ lw_tbl := List.mem_of_getElem? (i := 1195) (by decide +kernel)
set_option maxRecDepth 100000 in
theorem xw_537 : Cond.instanceMethod yX11_isArc ∈ lw_tbl := List.mem_of_getElem? (i := 1197) (by decide +kernel)
set_option maxRecDepth 100000 in
theorem xw_538 : Cond.selects RX11 yX11_isArc yX11_isArc ∈ lw_tbl := List.mem_of_getElem? (i := 53) (by decide +kernel)
set_option maxRecDepth 100000 in
theorem xw_539 : Cond.methodLink RX11 248 yX11_brought ∈ lw_tbl := List.mem_of_getElem? (i := 1208) (by decide +kernel)
set_option maxRecDepth 100000 in
theorem xw_540 : Cond.static yX11_brought ∈ lw_tbl := List.mem_of_getElem? (i := 1209) (by decide +kernel)
set_option maxRecDepth 100000 in
theorem xw_541 : Cond.methodLink RX11 252 yX11_spanOf ∈ lw_tbl := List.mem_of_getElem? (i := 1211) (by decide +kernel)
set_option maxRecDepth 100000 in
theorem xw_542 : Cond.static yX11_spanOf ∈ lw_tbl := List.mem_of_getElem? (i := 1212) (by decide +kernel)
set_option maxRecDepth 100000 in
theorem xw_543 : Cond.methodLink RX11 255 yX11_mixed ∈ lw_tbl := List.mem_of_getElem? (i := 1214) (by decide +kernel)
set_option maxRecDepth 100000 in
theorem xw_544 : Cond.static yX11_mixed ∈ lw_tbl := List.mem_of_getElem? (i := 1215) (by decide +kernel)
set_option maxRecDepth 100000 in
theorem xw_545 : Cond.constant RX11 259 (1000000 : Int32) ∈ lw_tbl := List.mem_of_getElem? (i := 1203) (by decide +kernel)
set_option maxRecDepth 100000 in
theorem xw_546 : Cond.methodLink RX11 260 yX11_byLoad ∈ lw_tbl := List.mem_of_getElem? (i := 1204) (by decide +kernel)
set_option maxRecDepth 100000 in
theorem xw_547 : Cond.instanceMethod yX11_byLoad ∈ lw_tbl := List.mem_of_getElem? (i := 1206) (by decide +kernel)
set_option maxRecDepth 100000 in
theorem xw_548 : Cond.selects RX11 yX11_byLoad yX11_byLoad ∈ lw_tbl := List.mem_of_getElem? (i := 54) (by decide +kernel)
set_option maxRecDepth 100000 in
theorem xw_549 : Cond.methodLink RX11 264 yX11_isOrder ∈ lw_tbl := List.mem_of_getElem? (i := 1229) (by decide +kernel)
set_option maxRecDepth 100000 in
theorem xw_550 : Cond.instanceMethod yX11_isOrder ∈ lw_tbl := List.mem_of_getElem? (i := 1231) (by decide +kernel)
set_option maxRecDepth 100000 in
theorem xw_551 : Cond.selects RX11 yX11_isOrder yX11_isOrder ∈ lw_tbl := List.mem_of_getElem? (i := 56) (by decide +kernel)
set_option maxRecDepth 100000 in
theorem xw_552 : Cond.methodLink RX11 267 yX11_fits ∈ lw_tbl := List.mem_of_getElem? (i := 1233) (by decide +kernel)
set_option maxRecDepth 100000 in
theorem xw_553 : Cond.instanceMethod yX11_fits ∈ lw_tbl := List.mem_of_getElem? (i := 1235) (by decide +kernel)
set_option maxRecDepth 100000 in
theorem xw_554 : Cond.selects RX11 yX11_fits yX11_fits ∈ lw_tbl := List.mem_of_getElem? (i := 57) (by decide +kernel)
set_option maxRecDepth 100000 in
theorem xw_555 : Cond.methodLink RX11 270 yX11_find ∈ lw_tbl := List.mem_of_getElem? (i := 1225) (by decide +kernel)
set_option maxRecDepth 100000 in
theorem xw_556 : Cond.instanceMethod yX11_find ∈ lw_tbl := List.mem_of_getElem? (i := 1227) (by decide +kernel)
set_option maxRecDepth 100000 in
theorem xw_557 : Cond.selects RX11 yX11_find yX11_find ∈ lw_tbl := List.mem_of_getElem? (i := 55) (by decide +kernel)
set_option maxRecDepth 100000 in
theorem xw_558 : Cond.methodLink RX11 273 yX11_isBefore ∈ lw_tbl := List.mem_of_getElem? (i := 1249) (by decide +kernel)
set_option maxRecDepth 100000 in
theorem xw_559 : Cond.instanceMethod yX11_isBefore ∈ lw_tbl := List.mem_of_getElem? (i := 1251) (by decide +kernel)
set_option maxRecDepth 100000 in
theorem xw_560 : Cond.selects RX11 yX11_isBefore yX11_isBefore ∈ lw_tbl := List.mem_of_getElem? (i := 59) (by decide +kernel)
set_option maxRecDepth 100000 in
theorem xw_561 : Cond.methodLink RX11 276 yX11_gather ∈ lw_tbl := List.mem_of_getElem? (i := 1245) (by decide +kernel)
set_option maxRecDepth 100000 in
theorem xw_562 : Cond.instanceMethod yX11_gather ∈ lw_tbl := List.mem_of_getElem? (i := 1247) (by decide +kernel)
set_option maxRecDepth 100000 in
theorem xw_563 : Cond.selects RX11 yX11_gather yX11_gather ∈ lw_tbl := List.mem_of_getElem? (i := 58) (by decide +kernel)
set_option maxRecDepth 100000 in
theorem xw_564 : Cond.constantLong RX11 279 (255 : Int64) ∈ lw_tbl := List.mem_of_getElem? (i := 1261) (by decide +kernel)
set_option maxRecDepth 100000 in
theorem xw_565 : Cond.methodLink RL 7 yX10_cell ∈ lw_tbl := List.mem_of_getElem? (i := 705) (by decide +kernel)
set_option maxRecDepth 100000 in
theorem xw_566 : Cond.instanceMethod yX10_cell ∈ lw_tbl := List.mem_of_getElem? (i := 706) (by decide +kernel)
set_option maxRecDepth 100000 in
theorem xw_567 : Cond.selects RX10 yX10_cell yX10_cell ∈ lw_tbl := List.mem_of_getElem? (i := 707) (by decide +kernel)
set_option maxRecDepth 100000 in
theorem xw_568 : Cond.methodLink RL 15 yX10_truth ∈ lw_tbl := List.mem_of_getElem? (i := 746) (by decide +kernel)
set_option maxRecDepth 100000 in
theorem xw_569 : Cond.instanceMethod yX10_truth ∈ lw_tbl := List.mem_of_getElem? (i := 747) (by decide +kernel)
set_option maxRecDepth 100000 in
theorem xw_570 : Cond.selects RX10 yX10_truth yX10_truth ∈ lw_tbl := List.mem_of_getElem? (i := 748) (by decide +kernel)
set_option maxRecDepth 100000 in
theorem xw_571 : Cond.methodLink RL 19 yX10_sense ∈ lw_tbl := List.mem_of_getElem? (i := 753) (by decide +kernel)
set_option maxRecDepth 100000 in
theorem xw_572 : Cond.instanceMethod yX10_sense ∈ lw_tbl := List.mem_of_getElem? (i := 754) (by decide +kernel)
set_option maxRecDepth 100000 in
theorem xw_573 : Cond.selects RX10 yX10_sense yX10_sense ∈ lw_tbl := List.mem_of_getElem? (i := 755) (by decide +kernel)
set_option maxRecDepth 100000 in
theorem xw_574 : Cond.methodLink RL 23 yX10_arc ∈ lw_tbl := List.mem_of_getElem? (i := 761) (by decide +kernel)
set_option maxRecDepth 100000 in
theorem xw_575 : Cond.instanceMethod yX10_arc ∈ lw_tbl := List.mem_of_getElem? (i := 762) (by decide +kernel)
set_option maxRecDepth 100000 in
theorem xw_576 : Cond.selects RX10 yX10_arc yX10_arc ∈ lw_tbl := List.mem_of_getElem? (i := 763) (by decide +kernel)
set_option maxRecDepth 100000 in
theorem xw_577 : Cond.methodLink RL 26 yX10_delay ∈ lw_tbl := List.mem_of_getElem? (i := 771) (by decide +kernel)
set_option maxRecDepth 100000 in
theorem xw_578 : Cond.instanceMethod yX10_delay ∈ lw_tbl := List.mem_of_getElem? (i := 772) (by decide +kernel)
set_option maxRecDepth 100000 in
theorem xw_579 : Cond.selects RX10 yX10_delay yX10_delay ∈ lw_tbl := List.mem_of_getElem? (i := 773) (by decide +kernel)
set_option maxRecDepth 100000 in
theorem xw_580 : Cond.methodLink RL 32 yX10_power ∈ lw_tbl := List.mem_of_getElem? (i := 828) (by decide +kernel)
set_option maxRecDepth 100000 in
theorem xw_581 : Cond.instanceMethod yX10_power ∈ lw_tbl := List.mem_of_getElem? (i := 829) (by decide +kernel)
set_option maxRecDepth 100000 in
theorem xw_582 : Cond.selects RX10 yX10_power yX10_power ∈ lw_tbl := List.mem_of_getElem? (i := 830) (by decide +kernel)
set_option maxRecDepth 100000 in
theorem xw_583 : Cond.methodLink RL 35 yX10_alike ∈ lw_tbl := List.mem_of_getElem? (i := 836) (by decide +kernel)
set_option maxRecDepth 100000 in
theorem xw_584 : Cond.instanceMethod yX10_alike ∈ lw_tbl := List.mem_of_getElem? (i := 837) (by decide +kernel)
set_option maxRecDepth 100000 in
theorem xw_585 : Cond.selects RX10 yX10_alike yX10_alike ∈ lw_tbl := List.mem_of_getElem? (i := 838) (by decide +kernel)
set_option maxRecDepth 100000 in
theorem xw_586 : Cond.methodLink RL 39 yX10_order ∈ lw_tbl := List.mem_of_getElem? (i := 870) (by decide +kernel)
set_option maxRecDepth 100000 in
theorem xw_587 : Cond.instanceMethod yX10_order ∈ lw_tbl := List.mem_of_getElem? (i := 871) (by decide +kernel)
set_option maxRecDepth 100000 in
theorem xw_588 : Cond.selects RX10 yX10_order yX10_order ∈ lw_tbl := List.mem_of_getElem? (i := 872) (by decide +kernel)
set_option maxRecDepth 100000 in
theorem xw_589 : Cond.methodLink RL 42 yX10_family ∈ lw_tbl := List.mem_of_getElem? (i := 877) (by decide +kernel)
set_option maxRecDepth 100000 in
theorem xw_590 : Cond.instanceMethod yX10_family ∈ lw_tbl := List.mem_of_getElem? (i := 878) (by decide +kernel)
set_option maxRecDepth 100000 in
theorem xw_591 : Cond.selects RX10 yX10_family yX10_family ∈ lw_tbl := List.mem_of_getElem? (i := 879) (by decide +kernel)
set_option maxRecDepth 100000 in
theorem xw_592 : Cond.methodLink RL 45 yX10_best ∈ lw_tbl := List.mem_of_getElem? (i := 895) (by decide +kernel)
set_option maxRecDepth 100000 in
theorem xw_593 : Cond.instanceMethod yX10_best ∈ lw_tbl := List.mem_of_getElem? (i := 896) (by decide +kernel)
set_option maxRecDepth 100000 in
theorem xw_594 : Cond.selects RX10 yX10_best yX10_best ∈ lw_tbl := List.mem_of_getElem? (i := 897) (by decide +kernel)
set_option maxRecDepth 100000 in
theorem xw_595 : Cond.methodLink RL 48 yX10_letter ∈ lw_tbl := List.mem_of_getElem? (i := 902) (by decide +kernel)
set_option maxRecDepth 100000 in
theorem xw_596 : Cond.instanceMethod yX10_letter ∈ lw_tbl := List.mem_of_getElem? (i := 903) (by decide +kernel)
set_option maxRecDepth 100000 in
theorem xw_597 : Cond.selects RX10 yX10_letter yX10_letter ∈ lw_tbl := List.mem_of_getElem? (i := 904) (by decide +kernel)
set_option maxRecDepth 100000 in
theorem xw_598 : Cond.methodLink RL 51 yX10_count ∈ lw_tbl := List.mem_of_getElem? (i := 912) (by decide +kernel)
set_option maxRecDepth 100000 in
theorem xw_599 : Cond.instanceMethod yX10_count ∈ lw_tbl := List.mem_of_getElem? (i := 913) (by decide +kernel)
set_option maxRecDepth 100000 in
theorem xw_600 : Cond.selects RX10 yX10_count yX10_count ∈ lw_tbl := List.mem_of_getElem? (i := 914) (by decide +kernel)
set_option maxRecDepth 100000 in
theorem xw_601 : Cond.classLink RL 8 RX10 ∈ lw_tbl := List.mem_of_getElem? (i := 85) (by decide +kernel)
set_option maxRecDepth 100000 in
theorem xw_602 : Cond.instantiable RX10 6 ∈ lw_tbl := List.mem_of_getElem? (i := 86) (by decide +kernel)
set_option maxRecDepth 100000 in
theorem xw_603 : Cond.initialized RX10 ∈ lw_tbl := List.mem_of_getElem? (i := 61) (by decide +kernel)
set_option maxRecDepth 100000 in
theorem xw_604 : Cond.methodLink RL 55 yX10_init ∈ lw_tbl := List.mem_of_getElem? (i := 87) (by decide +kernel)
set_option maxRecDepth 100000 in
theorem xw_605 : Cond.instanceMethod yX10_init ∈ lw_tbl := List.mem_of_getElem? (i := 88) (by decide +kernel)
set_option maxRecDepth 100000 in
theorem xw_606 : Cond.classLink RL 56 RX11 ∈ lw_tbl := List.mem_of_getElem? (i := 916) (by decide +kernel)
set_option maxRecDepth 100000 in
theorem xw_607 : Cond.instantiable RX11 37 ∈ lw_tbl := List.mem_of_getElem? (i := 917) (by decide +kernel)
set_option maxRecDepth 100000 in
theorem xw_608 : Cond.initialized RX11 ∈ lw_tbl := List.mem_of_getElem? (i := 70) (by decide +kernel)
set_option maxRecDepth 100000 in
theorem xw_609 : Cond.methodLink RL 58 yX11_init ∈ lw_tbl := List.mem_of_getElem? (i := 918) (by decide +kernel)
set_option maxRecDepth 100000 in
theorem xw_610 : Cond.instanceMethod yX11_init ∈ lw_tbl := List.mem_of_getElem? (i := 919) (by decide +kernel)
set_option maxRecDepth 100000 in
theorem xw_611 : Cond.methodLink RL 59 yX10_unit ∈ lw_tbl := List.mem_of_getElem? (i := 332) (by decide +kernel)
set_option maxRecDepth 100000 in
theorem xw_612 : Cond.instanceMethod yX10_unit ∈ lw_tbl := List.mem_of_getElem? (i := 333) (by decide +kernel)
set_option maxRecDepth 100000 in
theorem xw_613 : Cond.selects RX10 yX10_unit yX10_unit ∈ lw_tbl := List.mem_of_getElem? (i := 334) (by decide +kernel)
set_option maxRecDepth 100000 in
theorem xw_614 : Cond.methodLink RL 63 yX11_unit ∈ lw_tbl := List.mem_of_getElem? (i := 1038) (by decide +kernel)
set_option maxRecDepth 100000 in
theorem xw_615 : Cond.instanceMethod yX11_unit ∈ lw_tbl := List.mem_of_getElem? (i := 1039) (by decide +kernel)
set_option maxRecDepth 100000 in
theorem xw_616 : Cond.selects RX11 yX11_unit yX11_unit ∈ lw_tbl := List.mem_of_getElem? (i := 1040) (by decide +kernel)
set_option maxRecDepth 100000 in
theorem xw_617 : Cond.methodLink RL 64 yX10_units ∈ lw_tbl := List.mem_of_getElem? (i := 339) (by decide +kernel)
set_option maxRecDepth 100000 in
theorem xw_618 : Cond.instanceMethod yX10_units ∈ lw_tbl := List.mem_of_getElem? (i := 340) (by decide +kernel)
set_option maxRecDepth 100000 in
theorem xw_619 : Cond.selects RX10 yX10_units yX10_units ∈ lw_tbl := List.mem_of_getElem? (i := 341) (by decide +kernel)
set_option maxRecDepth 100000 in
theorem xw_620 : Cond.methodLink RL 67 yX11_units ∈ lw_tbl := List.mem_of_getElem? (i := 1045) (by decide +kernel)
set_option maxRecDepth 100000 in
theorem xw_621 : Cond.instanceMethod yX11_units ∈ lw_tbl := List.mem_of_getElem? (i := 1046) (by decide +kernel)
set_option maxRecDepth 100000 in
theorem xw_622 : Cond.selects RX11 yX11_units yX11_units ∈ lw_tbl := List.mem_of_getElem? (i := 1047) (by decide +kernel)
set_option maxRecDepth 100000 in
theorem xw_623 : Cond.methodLink RL 68 yX10_read ∈ lw_tbl := List.mem_of_getElem? (i := 343) (by decide +kernel)
set_option maxRecDepth 100000 in
theorem xw_624 : Cond.instanceMethod yX10_read ∈ lw_tbl := List.mem_of_getElem? (i := 344) (by decide +kernel)
set_option maxRecDepth 100000 in
theorem xw_625 : Cond.selects RX10 yX10_read yX10_read ∈ lw_tbl := List.mem_of_getElem? (i := 345) (by decide +kernel)
set_option maxRecDepth 100000 in
theorem xw_626 : Cond.methodLink RL 72 yX11_read ∈ lw_tbl := List.mem_of_getElem? (i := 1049) (by decide +kernel)
set_option maxRecDepth 100000 in
theorem xw_627 : Cond.instanceMethod yX11_read ∈ lw_tbl := List.mem_of_getElem? (i := 1050) (by decide +kernel)
set_option maxRecDepth 100000 in
theorem xw_628 : Cond.selects RX11 yX11_read yX11_read ∈ lw_tbl := List.mem_of_getElem? (i := 1051) (by decide +kernel)
set_option maxRecDepth 100000 in
theorem xw_629 : Cond.methodLink RL 73 yL_cell ∈ lw_tbl := List.mem_of_getElem? (i := 701) (by decide +kernel)
set_option maxRecDepth 100000 in
theorem xw_630 : Cond.static yL_cell ∈ lw_tbl := List.mem_of_getElem? (i := 702) (by decide +kernel)
set_option maxRecDepth 100000 in
theorem xw_631 : Cond.methodLink RL 78 yX11_cell ∈ lw_tbl := List.mem_of_getElem? (i := 1168) (by decide +kernel)
set_option maxRecDepth 100000 in
theorem xw_632 : Cond.instanceMethod yX11_cell ∈ lw_tbl := List.mem_of_getElem? (i := 1169) (by decide +kernel)
set_option maxRecDepth 100000 in
theorem xw_633 : Cond.selects RX11 yX11_cell yX11_cell ∈ lw_tbl := List.mem_of_getElem? (i := 1170) (by decide +kernel)
set_option maxRecDepth 100000 in
theorem xw_634 : Cond.methodLink RL 79 yX11_thrown ∈ lw_tbl := List.mem_of_getElem? (i := 1034) (by decide +kernel)
set_option maxRecDepth 100000 in
theorem xw_635 : Cond.instanceMethod yX11_thrown ∈ lw_tbl := List.mem_of_getElem? (i := 1035) (by decide +kernel)
set_option maxRecDepth 100000 in
theorem xw_636 : Cond.selects RX11 yX11_thrown yX11_thrown ∈ lw_tbl := List.mem_of_getElem? (i := 1036) (by decide +kernel)
set_option maxRecDepth 100000 in
theorem xw_637 : Cond.methodLink RL 82 yL_truth ∈ lw_tbl := List.mem_of_getElem? (i := 743) (by decide +kernel)
set_option maxRecDepth 100000 in
theorem xw_638 : Cond.static yL_truth ∈ lw_tbl := List.mem_of_getElem? (i := 744) (by decide +kernel)
set_option maxRecDepth 100000 in
theorem xw_639 : Cond.methodLink RL 84 yX11_truth ∈ lw_tbl := List.mem_of_getElem? (i := 1183) (by decide +kernel)
set_option maxRecDepth 100000 in
theorem xw_640 : Cond.instanceMethod yX11_truth ∈ lw_tbl := List.mem_of_getElem? (i := 1184) (by decide +kernel)
set_option maxRecDepth 100000 in
theorem xw_641 : Cond.selects RX11 yX11_truth yX11_truth ∈ lw_tbl := List.mem_of_getElem? (i := 1185) (by decide +kernel)
set_option maxRecDepth 100000 in
theorem xw_642 : Cond.methodLink RL 85 yL_sense ∈ lw_tbl := List.mem_of_getElem? (i := 750) (by decide +kernel)
set_option maxRecDepth 100000 in
theorem xw_643 : Cond.static yL_sense ∈ lw_tbl := List.mem_of_getElem? (i := 751) (by decide +kernel)
set_option maxRecDepth 100000 in
theorem xw_644 : Cond.methodLink RL 88 yX11_sense ∈ lw_tbl := List.mem_of_getElem? (i := 1187) (by decide +kernel)
set_option maxRecDepth 100000 in
theorem xw_645 : Cond.instanceMethod yX11_sense ∈ lw_tbl := List.mem_of_getElem? (i := 1188) (by decide +kernel)
set_option maxRecDepth 100000 in
theorem xw_646 : Cond.selects RX11 yX11_sense yX11_sense ∈ lw_tbl := List.mem_of_getElem? (i := 1189) (by decide +kernel)
set_option maxRecDepth 100000 in
theorem xw_647 : Cond.methodLink RL 89 yL_arc ∈ lw_tbl := List.mem_of_getElem? (i := 758) (by decide +kernel)
set_option maxRecDepth 100000 in
theorem xw_648 : Cond.static yL_arc ∈ lw_tbl := List.mem_of_getElem? (i := 759) (by decide +kernel)
set_option maxRecDepth 100000 in
theorem xw_649 : Cond.methodLink RL 91 yX11_arc ∈ lw_tbl := List.mem_of_getElem? (i := 1191) (by decide +kernel)
set_option maxRecDepth 100000 in
theorem xw_650 : Cond.instanceMethod yX11_arc ∈ lw_tbl := List.mem_of_getElem? (i := 1192) (by decide +kernel)
set_option maxRecDepth 100000 in
theorem xw_651 : Cond.selects RX11 yX11_arc yX11_arc ∈ lw_tbl := List.mem_of_getElem? (i := 1193) (by decide +kernel)
set_option maxRecDepth 100000 in
theorem xw_652 : Cond.methodLink RL 92 yL_delay ∈ lw_tbl := List.mem_of_getElem? (i := 767) (by decide +kernel)
set_option maxRecDepth 100000 in
theorem xw_653 : Cond.static yL_delay ∈ lw_tbl := List.mem_of_getElem? (i := 768) (by decide +kernel)
set_option maxRecDepth 100000 in
theorem xw_654 : Cond.methodLink RL 95 yX11_delay ∈ lw_tbl := List.mem_of_getElem? (i := 1199) (by decide +kernel)
set_option maxRecDepth 100000 in
theorem xw_655 : Cond.instanceMethod yX11_delay ∈ lw_tbl := List.mem_of_getElem? (i := 1200) (by decide +kernel)
set_option maxRecDepth 100000 in
theorem xw_656 : Cond.selects RX11 yX11_delay yX11_delay ∈ lw_tbl := List.mem_of_getElem? (i := 1201) (by decide +kernel)
set_option maxRecDepth 100000 in
theorem xw_657 : Cond.methodLink RL 96 yL_power ∈ lw_tbl := List.mem_of_getElem? (i := 825) (by decide +kernel)
set_option maxRecDepth 100000 in
theorem xw_658 : Cond.static yL_power ∈ lw_tbl := List.mem_of_getElem? (i := 826) (by decide +kernel)
set_option maxRecDepth 100000 in
theorem xw_659 : Cond.methodLink RL 98 yX11_power ∈ lw_tbl := List.mem_of_getElem? (i := 1217) (by decide +kernel)
set_option maxRecDepth 100000 in
theorem xw_660 : Cond.instanceMethod yX11_power ∈ lw_tbl := List.mem_of_getElem? (i := 1218) (by decide +kernel)
set_option maxRecDepth 100000 in
theorem xw_661 : Cond.selects RX11 yX11_power yX11_power ∈ lw_tbl := List.mem_of_getElem? (i := 1219) (by decide +kernel)
set_option maxRecDepth 100000 in
theorem xw_662 : Cond.methodLink RL 99 yL_alike ∈ lw_tbl := List.mem_of_getElem? (i := 833) (by decide +kernel)
set_option maxRecDepth 100000 in
theorem xw_663 : Cond.static yL_alike ∈ lw_tbl := List.mem_of_getElem? (i := 834) (by decide +kernel)
set_option maxRecDepth 100000 in
theorem xw_664 : Cond.methodLink RL 101 yX11_alike ∈ lw_tbl := List.mem_of_getElem? (i := 1221) (by decide +kernel)
set_option maxRecDepth 100000 in
theorem xw_665 : Cond.instanceMethod yX11_alike ∈ lw_tbl := List.mem_of_getElem? (i := 1222) (by decide +kernel)
set_option maxRecDepth 100000 in
theorem xw_666 : Cond.selects RX11 yX11_alike yX11_alike ∈ lw_tbl := List.mem_of_getElem? (i := 1223) (by decide +kernel)
set_option maxRecDepth 100000 in
theorem xw_667 : Cond.methodLink RL 102 yL_order ∈ lw_tbl := List.mem_of_getElem? (i := 867) (by decide +kernel)
set_option maxRecDepth 100000 in
theorem xw_668 : Cond.static yL_order ∈ lw_tbl := List.mem_of_getElem? (i := 868) (by decide +kernel)
set_option maxRecDepth 100000 in
theorem xw_669 : Cond.methodLink RL 104 yX11_order ∈ lw_tbl := List.mem_of_getElem? (i := 1237) (by decide +kernel)
set_option maxRecDepth 100000 in
theorem xw_670 : Cond.instanceMethod yX11_order ∈ lw_tbl := List.mem_of_getElem? (i := 1238) (by decide +kernel)
set_option maxRecDepth 100000 in
theorem xw_671 : Cond.selects RX11 yX11_order yX11_order ∈ lw_tbl := List.mem_of_getElem? (i := 1239) (by decide +kernel)
set_option maxRecDepth 100000 in
theorem xw_672 : Cond.methodLink RL 105 yL_family ∈ lw_tbl := List.mem_of_getElem? (i := 874) (by decide +kernel)
set_option maxRecDepth 100000 in
theorem xw_673 : Cond.static yL_family ∈ lw_tbl := List.mem_of_getElem? (i := 875) (by decide +kernel)
set_option maxRecDepth 100000 in
theorem xw_674 : Cond.methodLink RL 107 yX11_family ∈ lw_tbl := List.mem_of_getElem? (i := 1241) (by decide +kernel)
set_option maxRecDepth 100000 in
theorem xw_675 : Cond.instanceMethod yX11_family ∈ lw_tbl := List.mem_of_getElem? (i := 1242) (by decide +kernel)
set_option maxRecDepth 100000 in
theorem xw_676 : Cond.selects RX11 yX11_family yX11_family ∈ lw_tbl := List.mem_of_getElem? (i := 1243) (by decide +kernel)
set_option maxRecDepth 100000 in
theorem xw_677 : Cond.methodLink RL 108 yL_best ∈ lw_tbl := List.mem_of_getElem? (i := 892) (by decide +kernel)
set_option maxRecDepth 100000 in
theorem xw_678 : Cond.static yL_best ∈ lw_tbl := List.mem_of_getElem? (i := 893) (by decide +kernel)
set_option maxRecDepth 100000 in
theorem xw_679 : Cond.methodLink RL 110 yX11_best ∈ lw_tbl := List.mem_of_getElem? (i := 1253) (by decide +kernel)
end
