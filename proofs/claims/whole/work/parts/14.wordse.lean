section
set_option maxRecDepth 100000 in
theorem xw_680 : Cond.instanceMethod yX11_best ∈ lw_tbl := List.mem_of_getElem? (i := 1254) (by decide +kernel)
set_option maxRecDepth 100000 in
theorem xw_681 : Cond.selects RX11 yX11_best yX11_best ∈ lw_tbl := List.mem_of_getElem? (i := 1255) (by decide +kernel)
set_option maxRecDepth 100000 in
theorem xw_682 : Cond.methodLink RL 111 yL_letter ∈ lw_tbl := List.mem_of_getElem? (i := 899) (by decide +kernel)
set_option maxRecDepth 100000 in
theorem xw_683 : Cond.static yL_letter ∈ lw_tbl := List.mem_of_getElem? (i := 900) (by decide +kernel)
set_option maxRecDepth 100000 in
theorem xw_684 : Cond.methodLink RL 113 yX11_letter ∈ lw_tbl := List.mem_of_getElem? (i := 1257) (by decide +kernel)
set_option maxRecDepth 100000 in
theorem xw_685 : Cond.instanceMethod yX11_letter ∈ lw_tbl := List.mem_of_getElem? (i := 1258) (by decide +kernel)
set_option maxRecDepth 100000 in
theorem xw_686 : Cond.selects RX11 yX11_letter yX11_letter ∈ lw_tbl := List.mem_of_getElem? (i := 1259) (by decide +kernel)
set_option maxRecDepth 100000 in
theorem xw_687 : Cond.methodLink RL 114 yL_count ∈ lw_tbl := List.mem_of_getElem? (i := 909) (by decide +kernel)
set_option maxRecDepth 100000 in
theorem xw_688 : Cond.static yL_count ∈ lw_tbl := List.mem_of_getElem? (i := 910) (by decide +kernel)
set_option maxRecDepth 100000 in
theorem xw_689 : Cond.methodLink RL 117 yX11_count ∈ lw_tbl := List.mem_of_getElem? (i := 1262) (by decide +kernel)
set_option maxRecDepth 100000 in
theorem xw_690 : Cond.instanceMethod yX11_count ∈ lw_tbl := List.mem_of_getElem? (i := 1263) (by decide +kernel)
set_option maxRecDepth 100000 in
theorem xw_691 : Cond.selects RX11 yX11_count yX11_count ∈ lw_tbl := List.mem_of_getElem? (i := 1264) (by decide +kernel)
set_option maxRecDepth 100000 in
theorem xw_692 : Cond.code yJ13_bitCount_95d88 cJ13_bitCount_95d88 2 (some .int) ∈ lw_tbl := List.mem_of_getElem? (i := 846) (by decide +kernel)
set_option maxRecDepth 100000 in
theorem xw_693 : Cond.initialized RJ13 ∈ lw_tbl := List.mem_of_getElem? (i := 84) (by decide +kernel)
set_option maxRecDepth 100000 in
theorem xw_694 : Cond.code yJ9_floorDiv_f86c9 cJ9_floorDiv_f86c9 6 (some .long) ∈ lw_tbl := List.mem_of_getElem? (i := 824) (by decide +kernel)
set_option maxRecDepth 100000 in
theorem xw_695 : Cond.initialized RJ9 ∈ lw_tbl := List.mem_of_getElem? (i := 83) (by decide +kernel)
set_option maxRecDepth 100000 in
theorem xw_696 : Cond.code yJ9_max_7cf53 cJ9_max_7cf53 2 (some .int) ∈ lw_tbl := List.mem_of_getElem? (i := 804) (by decide +kernel)
set_option maxRecDepth 100000 in
theorem xw_697 : Cond.code yJ9_min_7cf53 cJ9_min_7cf53 2 (some .int) ∈ lw_tbl := List.mem_of_getElem? (i := 801) (by decide +kernel)
set_option maxRecDepth 100000 in
theorem xw_698 : Cond.code yJ0_length_8abf5 cJ0_length_8abf5 1 (some .int) ∈ lw_tbl := List.mem_of_getElem? (i := 378) (by decide +kernel)
set_option maxRecDepth 100000 in
theorem xw_699 : Cond.initialized RJ0 ∈ lw_tbl := List.mem_of_getElem? (i := 71) (by decide +kernel)
set_option maxRecDepth 100000 in
theorem xw_700 : Cond.code yJ0_charAt_5068e cJ0_charAt_5068e 2 (some .char) ∈ lw_tbl := List.mem_of_getElem? (i := 388) (by decide +kernel)
set_option maxRecDepth 100000 in
theorem xw_701 : Cond.code yJ0_coder_7d493 cJ0_coder_7d493 1 (some .byte) ∈ lw_tbl := List.mem_of_getElem? (i := 382) (by decide +kernel)
set_option maxRecDepth 100000 in
theorem xw_702 : Cond.code yJ0_isLatin1_aae02 cJ0_isLatin1_aae02 1 (some .boolean) ∈ lw_tbl := List.mem_of_getElem? (i := 392) (by decide +kernel)
set_option maxRecDepth 100000 in
theorem xw_703 : Cond.code yJ0_checkIndex_df160 cJ0_checkIndex_df160 2 none ∈ lw_tbl := List.mem_of_getElem? (i := 398) (by decide +kernel)
set_option maxRecDepth 100000 in
theorem xw_704 : Cond.code yJ1_charAt_3b067 cJ1_charAt_3b067 2 (some .char) ∈ lw_tbl := List.mem_of_getElem? (i := 395) (by decide +kernel)
set_option maxRecDepth 100000 in
theorem xw_705 : Cond.initialized RJ1 ∈ lw_tbl := List.mem_of_getElem? (i := 72) (by decide +kernel)
set_option maxRecDepth 100000 in
theorem xw_706 : Cond.code yJ3_checkIndex_8e157 cJ3_checkIndex_8e157 3 (some .int) ∈ lw_tbl := List.mem_of_getElem? (i := 403) (by decide +kernel)
set_option maxRecDepth 100000 in
theorem xw_707 : Cond.initialized RJ3 ∈ lw_tbl := List.mem_of_getElem? (i := 73) (by decide +kernel)
set_option maxRecDepth 100000 in
theorem xw_708 : Cond.code yX0_init cX0_init 1 none ∈ lw_tbl := List.mem_of_getElem? (i := 112) (by decide +kernel)
set_option maxRecDepth 100000 in
theorem xw_709 : Cond.code yX0_brought cX0_brought 2 (some .int) ∈ lw_tbl := List.mem_of_getElem? (i := 798) (by decide +kernel)
set_option maxRecDepth 100000 in
theorem xw_710 : Cond.code yX0_spanStart cX0_spanStart 4 (some .int) ∈ lw_tbl := List.mem_of_getElem? (i := 808) (by decide +kernel)
set_option maxRecDepth 100000 in
theorem xw_711 : Cond.code yX0_spanEnd cX0_spanEnd 2 (some .int) ∈ lw_tbl := List.mem_of_getElem? (i := 816) (by decide +kernel)
set_option maxRecDepth 100000 in
theorem xw_712 : Cond.code yX0_mixed cX0_mixed 7 (some .int) ∈ lw_tbl := List.mem_of_getElem? (i := 820) (by decide +kernel)
set_option maxRecDepth 100000 in
theorem xw_713 : Cond.code yX2_within cX2_within 3 (some .long) ∈ lw_tbl := List.mem_of_getElem? (i := 651) (by decide +kernel)
set_option maxRecDepth 100000 in
theorem xw_714 : Cond.initialized RX2 ∈ lw_tbl := List.mem_of_getElem? (i := 80) (by decide +kernel)
set_option maxRecDepth 100000 in
theorem xw_715 : Cond.code yX2_senseOf cX2_senseOf 9 (some .int) ∈ lw_tbl := List.mem_of_getElem? (i := 741) (by decide +kernel)
set_option maxRecDepth 100000 in
theorem xw_716 : Cond.code yX4_packed cX4_packed 6 (some .long) ∈ lw_tbl := List.mem_of_getElem? (i := 434) (by decide +kernel)
set_option maxRecDepth 100000 in
theorem xw_717 : Cond.initialized RX4 ∈ lw_tbl := List.mem_of_getElem? (i := 75) (by decide +kernel)
set_option maxRecDepth 100000 in
theorem xw_718 : Cond.code yX4_characterOf cX4_characterOf 4 (some .int) ∈ lw_tbl := List.mem_of_getElem? (i := 908) (by decide +kernel)
set_option maxRecDepth 100000 in
theorem xw_719 : Cond.code yX4_find cX4_find 5 (some .int) ∈ lw_tbl := List.mem_of_getElem? (i := 504) (by decide +kernel)
set_option maxRecDepth 100000 in
theorem xw_720 : Cond.code yX7_init cX7_init 1 none ∈ lw_tbl := List.mem_of_getElem? (i := 106) (by decide +kernel)
set_option maxRecDepth 100000 in
theorem xw_721 : Cond.code yX7_joined cX7_joined 7 (some .int) ∈ lw_tbl := List.mem_of_getElem? (i := 794) (by decide +kernel)
set_option maxRecDepth 100000 in
theorem xw_722 : Cond.code yX7_joinedByLoad cX7_joinedByLoad 6 (some .int) ∈ lw_tbl := List.mem_of_getElem? (i := 812) (by decide +kernel)
set_option maxRecDepth 100000 in
theorem xw_723 : Cond.code yX8_init cX8_init 1 none ∈ lw_tbl := List.mem_of_getElem? (i := 262) (by decide +kernel)
set_option maxRecDepth 100000 in
theorem xw_724 : Cond.code yX8_begin cX8_begin 1 none ∈ lw_tbl := List.mem_of_getElem? (i := 578) (by decide +kernel)
set_option maxRecDepth 100000 in
theorem xw_725 : Cond.code yX8_openBracket cX8_openBracket 1 none ∈ lw_tbl := List.mem_of_getElem? (i := 597) (by decide +kernel)
set_option maxRecDepth 100000 in
theorem xw_726 : Cond.code yX8_closeBracket cX8_closeBracket 3 none ∈ lw_tbl := List.mem_of_getElem? (i := 623) (by decide +kernel)
set_option maxRecDepth 100000 in
theorem xw_727 : Cond.code yX8_turn cX8_turn 1 none ∈ lw_tbl := List.mem_of_getElem? (i := 593) (by decide +kernel)
set_option maxRecDepth 100000 in
theorem xw_728 : Cond.code yX8_put cX8_put 3 none ∈ lw_tbl := List.mem_of_getElem? (i := 614) (by decide +kernel)
set_option maxRecDepth 100000 in
theorem xw_729 : Cond.code yX8_endAnd cX8_endAnd 1 none ∈ lw_tbl := List.mem_of_getElem? (i := 642) (by decide +kernel)
set_option maxRecDepth 100000 in
theorem xw_730 : Cond.code yX8_endXor cX8_endXor 1 none ∈ lw_tbl := List.mem_of_getElem? (i := 637) (by decide +kernel)
set_option maxRecDepth 100000 in
theorem xw_731 : Cond.code yX8_total cX8_total 1 (some .long) ∈ lw_tbl := List.mem_of_getElem? (i := 627) (by decide +kernel)
set_option maxRecDepth 100000 in
theorem xw_732 : Cond.code yX8_clearLevel cX8_clearLevel 1 none ∈ lw_tbl := List.mem_of_getElem? (i := 582) (by decide +kernel)
set_option maxRecDepth 100000 in
theorem xw_733 : Cond.code yX9_init cX9_init 1 none ∈ lw_tbl := List.mem_of_getElem? (i := 238) (by decide +kernel)
set_option maxRecDepth 100000 in
theorem xw_734 : Cond.code yX9_open cX9_open 3 none ∈ lw_tbl := List.mem_of_getElem? (i := 359) (by decide +kernel)
set_option maxRecDepth 100000 in
theorem xw_735 : Cond.code yX9_step cX9_step 1 none ∈ lw_tbl := List.mem_of_getElem? (i := 363) (by decide +kernel)
set_option maxRecDepth 100000 in
theorem xw_736 : Cond.code yX9_is cX9_is 3 (some .boolean) ∈ lw_tbl := List.mem_of_getElem? (i := 374) (by decide +kernel)
set_option maxRecDepth 100000 in
theorem xw_737 : Cond.code yX9_name cX9_name 1 (some .long) ∈ lw_tbl := List.mem_of_getElem? (i := 431) (by decide +kernel)
set_option maxRecDepth 100000 in
theorem xw_738 : Cond.code yX9_number cX9_number 3 (some .int) ∈ lw_tbl := List.mem_of_getElem? (i := 521) (by decide +kernel)
set_option maxRecDepth 100000 in
theorem xw_739 : Cond.code yX9_isDigit cX9_isDigit 1 (some .boolean) ∈ lw_tbl := List.mem_of_getElem? (i := 366) (by decide +kernel)
set_option maxRecDepth 100000 in
theorem xw_740 : Cond.code yX9_isLetter cX9_isLetter 1 (some .boolean) ∈ lw_tbl := List.mem_of_getElem? (i := 369) (by decide +kernel)
set_option maxRecDepth 100000 in
theorem xw_741 : Cond.code yX1_init cX1_init 1 none ∈ lw_tbl := List.mem_of_getElem? (i := 143) (by decide +kernel)
set_option maxRecDepth 100000 in
theorem xw_742 : Cond.code yX1_begin cX1_begin 5 none ∈ lw_tbl := List.mem_of_getElem? (i := 548) (by decide +kernel)
set_option maxRecDepth 100000 in
theorem xw_743 : Cond.code yX1_states cX1_states 1 (some .int) ∈ lw_tbl := List.mem_of_getElem? (i := 648) (by decide +kernel)
set_option maxRecDepth 100000 in
theorem xw_744 : Cond.code yX1_inputNamed cX1_inputNamed 3 (some .int) ∈ lw_tbl := List.mem_of_getElem? (i := 607) (by decide +kernel)
set_option maxRecDepth 100000 in
theorem xw_745 : Cond.code yX1_pinNamed cX1_pinNamed 3 (some .int) ∈ lw_tbl := List.mem_of_getElem? (i := 563) (by decide +kernel)
set_option maxRecDepth 100000 in
theorem xw_746 : Cond.code yX1_addArc cX1_addArc 7 none ∈ lw_tbl := List.mem_of_getElem? (i := 687) (by decide +kernel)
set_option maxRecDepth 100000 in
theorem xw_747 : Cond.code yX1_arcPart cX1_arcPart 3 (some .int) ∈ lw_tbl := List.mem_of_getElem? (i := 672) (by decide +kernel)
set_option maxRecDepth 100000 in
theorem xw_748 : Cond.code yX1_hasArc cX1_hasArc 4 (some .boolean) ∈ lw_tbl := List.mem_of_getElem? (i := 668) (by decide +kernel)
set_option maxRecDepth 100000 in
theorem xw_749 : Cond.code yX1_agrees cX1_agrees 4 (some .boolean) ∈ lw_tbl := List.mem_of_getElem? (i := 738) (by decide +kernel)
set_option maxRecDepth 100000 in
theorem xw_750 : Cond.code yX1_disagreeing cX1_disagreeing 3 (some .int) ∈ lw_tbl := List.mem_of_getElem? (i := 734) (by decide +kernel)
set_option maxRecDepth 100000 in
theorem xw_751 : Cond.code yX1_comesBefore cX1_comesBefore 2 (some .boolean) ∈ lw_tbl := List.mem_of_getElem? (i := 891) (by decide +kernel)
set_option maxRecDepth 100000 in
theorem xw_752 : Cond.code yX3_init cX3_init 1 none ∈ lw_tbl := List.mem_of_getElem? (i := 297) (by decide +kernel)
set_option maxRecDepth 100000 in
theorem xw_753 : Cond.code yX3_match cX3_match 4 (some .boolean) ∈ lw_tbl := List.mem_of_getElem? (i := 843) (by decide +kernel)
set_option maxRecDepth 100000 in
theorem xw_754 : Cond.code yX3_placeFrom cX3_placeFrom 4 (some .boolean) ∈ lw_tbl := List.mem_of_getElem? (i := 858) (by decide +kernel)
set_option maxRecDepth 100000 in
theorem xw_755 : Cond.code yX3_goesOnWith cX3_goesOnWith 4 (some .boolean) ∈ lw_tbl := List.mem_of_getElem? (i := 862) (by decide +kernel)
set_option maxRecDepth 100000 in
theorem xw_756 : Cond.code yX3_fits cX3_fits 6 (some .boolean) ∈ lw_tbl := List.mem_of_getElem? (i := 866) (by decide +kernel)
set_option maxRecDepth 100000 in
theorem xw_757 : Cond.code yX3_split cX3_split 4 none ∈ lw_tbl := List.mem_of_getElem? (i := 852) (by decide +kernel)
set_option maxRecDepth 100000 in
theorem xw_758 : Cond.code yX6_init cX6_init 2 none ∈ lw_tbl := List.mem_of_getElem? (i := 97) (by decide +kernel)
set_option maxRecDepth 100000 in
theorem xw_759 : Cond.code yX6_clear cX6_clear 1 none ∈ lw_tbl := List.mem_of_getElem? (i := 355) (by decide +kernel)
set_option maxRecDepth 100000 in
theorem xw_760 : Cond.code yX6_hasCell cX6_hasCell 4 (some .boolean) ∈ lw_tbl := List.mem_of_getElem? (i := 540) (by decide +kernel)
set_option maxRecDepth 100000 in
theorem xw_761 : Cond.code yX6_addTable cX6_addTable 3 (some (.object "CellLibrary$Table")) ∈ lw_tbl := List.mem_of_getElem? (i := 508) (by decide +kernel)
set_option maxRecDepth 100000 in
theorem xw_762 : Cond.code yX6_addCell cX6_addCell 5 (some (.object "CellLibrary$Cell")) ∈ lw_tbl := List.mem_of_getElem? (i := 544) (by decide +kernel)
set_option maxRecDepth 100000 in
theorem xw_763 : Cond.code yX5_init cX5_init 1 none ∈ lw_tbl := List.mem_of_getElem? (i := 232) (by decide +kernel)
set_option maxRecDepth 100000 in
theorem xw_764 : Cond.code yX5_place cX5_place 1 (some .int) ∈ lw_tbl := List.mem_of_getElem? (i := 696) (by decide +kernel)
set_option maxRecDepth 100000 in
theorem xw_765 : Cond.code yX5_exchange cX5_exchange 3 (some (.object "CellLibrary$Shelf")) ∈ lw_tbl := List.mem_of_getElem? (i := 700) (by decide +kernel)
set_option maxRecDepth 100000 in
theorem xw_766 : Cond.code yX5_readText cX5_readText 4 none ∈ lw_tbl := List.mem_of_getElem? (i := 351) (by decide +kernel)
set_option maxRecDepth 100000 in
theorem xw_767 : Cond.code yX5_readTable cX5_readTable 4 none ∈ lw_tbl := List.mem_of_getElem? (i := 426) (by decide +kernel)
set_option maxRecDepth 100000 in
theorem xw_768 : Cond.code yX5_readAxis cX5_readAxis 4 none ∈ lw_tbl := List.mem_of_getElem? (i := 517) (by decide +kernel)
set_option maxRecDepth 100000 in
theorem xw_769 : Cond.code yX5_readNumbers cX5_readNumbers 4 none ∈ lw_tbl := List.mem_of_getElem? (i := 526) (by decide +kernel)
set_option maxRecDepth 100000 in
theorem xw_770 : Cond.code yX5_readCell cX5_readCell 5 none ∈ lw_tbl := List.mem_of_getElem? (i := 536) (by decide +kernel)
set_option maxRecDepth 100000 in
theorem xw_771 : Cond.code yX5_readInput cX5_readInput 2 none ∈ lw_tbl := List.mem_of_getElem? (i := 555) (by decide +kernel)
set_option maxRecDepth 100000 in
theorem xw_772 : Cond.code yX5_readOutputName cX5_readOutputName 2 none ∈ lw_tbl := List.mem_of_getElem? (i := 569) (by decide +kernel)
set_option maxRecDepth 100000 in
theorem xw_773 : Cond.code yX5_readFunction cX5_readFunction 4 none ∈ lw_tbl := List.mem_of_getElem? (i := 574) (by decide +kernel)
set_option maxRecDepth 100000 in
theorem xw_774 : Cond.code yX5_takeNewPin cX5_takeNewPin 4 none ∈ lw_tbl := List.mem_of_getElem? (i := 559) (by decide +kernel)
set_option maxRecDepth 100000 in
theorem xw_775 : Cond.code yX5_readAmount cX5_readAmount 3 none ∈ lw_tbl := List.mem_of_getElem? (i := 657) (by decide +kernel)
set_option maxRecDepth 100000 in
theorem xw_776 : Cond.code yX5_readPowers cX5_readPowers 2 none ∈ lw_tbl := List.mem_of_getElem? (i := 692) (by decide +kernel)
set_option maxRecDepth 100000 in
theorem xw_777 : Cond.code yX5_readArc cX5_readArc 7 none ∈ lw_tbl := List.mem_of_getElem? (i := 664) (by decide +kernel)
set_option maxRecDepth 100000 in
theorem xw_778 : Cond.code yX5_takeSense cX5_takeSense 2 (some .int) ∈ lw_tbl := List.mem_of_getElem? (i := 676) (by decide +kernel)
set_option maxRecDepth 100000 in
theorem xw_779 : Cond.code yX5_takeTable cX5_takeTable 2 (some .int) ∈ lw_tbl := List.mem_of_getElem? (i := 683) (by decide +kernel)
set_option maxRecDepth 100000 in
theorem xw_780 : Cond.code yX5_readOpenings cX5_readOpenings 2 none ∈ lw_tbl := List.mem_of_getElem? (i := 587) (by decide +kernel)
set_option maxRecDepth 100000 in
theorem xw_781 : Cond.code yX5_takePrimary cX5_takePrimary 5 (some .long) ∈ lw_tbl := List.mem_of_getElem? (i := 601) (by decide +kernel)
set_option maxRecDepth 100000 in
theorem xw_782 : Cond.code yX5_readClosings cX5_readClosings 2 none ∈ lw_tbl := List.mem_of_getElem? (i := 618) (by decide +kernel)
set_option maxRecDepth 100000 in
theorem xw_783 : Cond.code yX5_takeOperator cX5_takeOperator 1 (some .boolean) ∈ lw_tbl := List.mem_of_getElem? (i := 632) (by decide +kernel)
set_option maxRecDepth 100000 in
theorem xw_784 : Cond.code yX5_takeNumber cX5_takeNumber 2 (some .int) ∈ lw_tbl := List.mem_of_getElem? (i := 530) (by decide +kernel)
set_option maxRecDepth 100000 in
theorem xw_785 : Cond.code yX5_takeSign cX5_takeSign 2 none ∈ lw_tbl := List.mem_of_getElem? (i := 513) (by decide +kernel)
set_option maxRecDepth 100000 in
theorem xw_786 : Cond.code yX5_demand cX5_demand 1 none ∈ lw_tbl := List.mem_of_getElem? (i := 437) (by decide +kernel)
set_option maxRecDepth 100000 in
theorem xw_787 : Cond.code yX10_init cX10_init 1 none ∈ lw_tbl := List.mem_of_getElem? (i := 89) (by decide +kernel)
set_option maxRecDepth 100000 in
theorem xw_788 : Cond.code yX10_unit cX10_unit 2 (some .boolean) ∈ lw_tbl := List.mem_of_getElem? (i := 335) (by decide +kernel)
set_option maxRecDepth 100000 in
theorem xw_789 : Cond.code yX10_units cX10_units 5 (some .boolean) ∈ lw_tbl := List.mem_of_getElem? (i := 342) (by decide +kernel)
set_option maxRecDepth 100000 in
theorem xw_790 : Cond.codeWith yX10_read cX10_read 3 (some .int) [(10, 22, 25, 50)] ∈ lw_tbl := List.mem_of_getElem? (i := 346) (by decide +kernel)
set_option maxRecDepth 100000 in
theorem xw_791 : Cond.code yX10_cell cX10_cell 4 (some .int) ∈ lw_tbl := List.mem_of_getElem? (i := 708) (by decide +kernel)
set_option maxRecDepth 100000 in
theorem xw_792 : Cond.code yX10_truth cX10_truth 4 (some .long) ∈ lw_tbl := List.mem_of_getElem? (i := 749) (by decide +kernel)
set_option maxRecDepth 100000 in
theorem xw_793 : Cond.code yX10_sense cX10_sense 5 (some .int) ∈ lw_tbl := List.mem_of_getElem? (i := 756) (by decide +kernel)
set_option maxRecDepth 100000 in
theorem xw_794 : Cond.code yX10_arc cX10_arc 5 (some .int) ∈ lw_tbl := List.mem_of_getElem? (i := 764) (by decide +kernel)
set_option maxRecDepth 100000 in
theorem xw_795 : Cond.code yX10_delay cX10_delay 8 (some .int) ∈ lw_tbl := List.mem_of_getElem? (i := 774) (by decide +kernel)
set_option maxRecDepth 100000 in
theorem xw_796 : Cond.code yX10_power cX10_power 4 (some .int) ∈ lw_tbl := List.mem_of_getElem? (i := 831) (by decide +kernel)
set_option maxRecDepth 100000 in
theorem xw_797 : Cond.code yX10_alike cX10_alike 5 (some .boolean) ∈ lw_tbl := List.mem_of_getElem? (i := 839) (by decide +kernel)
set_option maxRecDepth 100000 in
theorem xw_798 : Cond.code yX10_order cX10_order 6 (some .int) ∈ lw_tbl := List.mem_of_getElem? (i := 873) (by decide +kernel)
set_option maxRecDepth 100000 in
theorem xw_799 : Cond.code yX10_family cX10_family 4 (some .int) ∈ lw_tbl := List.mem_of_getElem? (i := 880) (by decide +kernel)
set_option maxRecDepth 100000 in
theorem xw_800 : Cond.code yX10_best cX10_best 10 (some .int) ∈ lw_tbl := List.mem_of_getElem? (i := 898) (by decide +kernel)
set_option maxRecDepth 100000 in
theorem xw_801 : Cond.code yX10_letter cX10_letter 5 (some .int) ∈ lw_tbl := List.mem_of_getElem? (i := 905) (by decide +kernel)
set_option maxRecDepth 100000 in
theorem xw_802 : Cond.code yX10_count cX10_count 2 (some .int) ∈ lw_tbl := List.mem_of_getElem? (i := 915) (by decide +kernel)
set_option maxRecDepth 100000 in
theorem xw_803 : Cond.code yX10_mayStandOnTape cX10_mayStandOnTape 1 (some .boolean) ∈ lw_tbl := List.mem_of_getElem? (i := 338) (by decide +kernel)
set_option maxRecDepth 100000 in
theorem xw_804 : Cond.code yX10_cellAt cX10_cellAt 2 (some (.object "CellLibrary$Cell")) ∈ lw_tbl := List.mem_of_getElem? (i := 712) (by decide +kernel)
set_option maxRecDepth 100000 in
theorem xw_805 : Cond.code yX10_requireIndex cX10_requireIndex 2 none ∈ lw_tbl := List.mem_of_getElem? (i := 715) (by decide +kernel)
set_option maxRecDepth 100000 in
theorem xw_806 : Cond.code yX10_requireNotBelowZero cX10_requireNotBelowZero 1 none ∈ lw_tbl := List.mem_of_getElem? (i := 883) (by decide +kernel)
set_option maxRecDepth 100000 in
theorem xw_807 : Cond.code yX10_gatherMembers cX10_gatherMembers 6 (some .int) ∈ lw_tbl := List.mem_of_getElem? (i := 887) (by decide +kernel)
set_option maxRecDepth 100000 in
theorem xw_808 : Cond.code yX11_init cX11_init 1 none ∈ lw_tbl := List.mem_of_getElem? (i := 920) (by decide +kernel)
set_option maxRecDepth 100000 in
theorem xw_809 : Cond.code yX11_thrown cX11_thrown 1 (some .int) ∈ lw_tbl := List.mem_of_getElem? (i := 1037) (by decide +kernel)
set_option maxRecDepth 100000 in
theorem xw_810 : Cond.code yX11_isCharacter cX11_isCharacter 1 (some .boolean) ∈ lw_tbl := List.mem_of_getElem? (i := 1044) (by decide +kernel)
set_option maxRecDepth 100000 in
theorem xw_811 : Cond.code yX11_unit cX11_unit 2 (some .boolean) ∈ lw_tbl := List.mem_of_getElem? (i := 1041) (by decide +kernel)
set_option maxRecDepth 100000 in
theorem xw_812 : Cond.code yX11_units cX11_units 5 (some .boolean) ∈ lw_tbl := List.mem_of_getElem? (i := 1048) (by decide +kernel)
set_option maxRecDepth 100000 in
theorem xw_813 : Cond.code yX11_isLetter cX11_isLetter 1 (some .boolean) ∈ lw_tbl := List.mem_of_getElem? (i := 1059) (by decide +kernel)
set_option maxRecDepth 100000 in
theorem xw_814 : Cond.code yX11_isDigit cX11_isDigit 1 (some .boolean) ∈ lw_tbl := List.mem_of_getElem? (i := 1062) (by decide +kernel)
set_option maxRecDepth 100000 in
theorem xw_815 : Cond.code yX11_look cX11_look 1 none ∈ lw_tbl := List.mem_of_getElem? (i := 1056) (by decide +kernel)
set_option maxRecDepth 100000 in
theorem xw_816 : Cond.code yX11_go cX11_go 1 none ∈ lw_tbl := List.mem_of_getElem? (i := 1077) (by decide +kernel)
set_option maxRecDepth 100000 in
theorem xw_817 : Cond.code yX11_need cX11_need 2 none ∈ lw_tbl := List.mem_of_getElem? (i := 1085) (by decide +kernel)
set_option maxRecDepth 100000 in
theorem xw_818 : Cond.code yX11_isSign cX11_isSign 2 (some .boolean) ∈ lw_tbl := List.mem_of_getElem? (i := 1093) (by decide +kernel)
set_option maxRecDepth 100000 in
theorem xw_819 : Cond.code yX11_sign cX11_sign 2 none ∈ lw_tbl := List.mem_of_getElem? (i := 1089) (by decide +kernel)
set_option maxRecDepth 100000 in
theorem xw_820 : Cond.code yX11_word cX11_word 5 (some .long) ∈ lw_tbl := List.mem_of_getElem? (i := 1069) (by decide +kernel)
set_option maxRecDepth 100000 in
theorem xw_821 : Cond.code yX11_is cX11_is 6 (some .boolean) ∈ lw_tbl := List.mem_of_getElem? (i := 1066) (by decide +kernel)
set_option maxRecDepth 100000 in
theorem xw_822 : Cond.code yX11_numberNow cX11_numberNow 2 (some .int) ∈ lw_tbl := List.mem_of_getElem? (i := 1101) (by decide +kernel)
set_option maxRecDepth 100000 in
theorem xw_823 : Cond.code yX11_tableOf cX11_tableOf 6 (some .int) ∈ lw_tbl := List.mem_of_getElem? (i := 1081) (by decide +kernel)
set_option maxRecDepth 100000 in
theorem xw_824 : Cond.code yX11_axis cX11_axis 4 (some .int) ∈ lw_tbl := List.mem_of_getElem? (i := 1097) (by decide +kernel)
set_option maxRecDepth 100000 in
theorem xw_825 : Cond.code yX11_readTable cX11_readTable 3 none ∈ lw_tbl := List.mem_of_getElem? (i := 1073) (by decide +kernel)
set_option maxRecDepth 100000 in
theorem xw_826 : Cond.code yX11_pinOf cX11_pinOf 7 (some .int) ∈ lw_tbl := List.mem_of_getElem? (i := 1121) (by decide +kernel)
set_option maxRecDepth 100000 in
theorem xw_827 : Cond.code yX11_isPin cX11_isPin 1 (some .boolean) ∈ lw_tbl := List.mem_of_getElem? (i := 1117) (by decide +kernel)
set_option maxRecDepth 100000 in
theorem xw_828 : Cond.code yX11_readCell cX11_readCell 3 none ∈ lw_tbl := List.mem_of_getElem? (i := 1105) (by decide +kernel)
set_option maxRecDepth 100000 in
theorem xw_829 : Cond.code yX11_readItem cX11_readItem 1 none ∈ lw_tbl := List.mem_of_getElem? (i := 1109) (by decide +kernel)
set_option maxRecDepth 100000 in
theorem xw_830 : Cond.code yX11_readInput cX11_readInput 1 none ∈ lw_tbl := List.mem_of_getElem? (i := 1113) (by decide +kernel)
set_option maxRecDepth 100000 in
theorem xw_831 : Cond.code yX11_readNumber cX11_readNumber 2 none ∈ lw_tbl := List.mem_of_getElem? (i := 1159) (by decide +kernel)
set_option maxRecDepth 100000 in
theorem xw_832 : Cond.code yX11_readPower cX11_readPower 2 none ∈ lw_tbl := List.mem_of_getElem? (i := 1167) (by decide +kernel)
set_option maxRecDepth 100000 in
theorem xw_833 : Cond.code yX11_readArc cX11_readArc 9 none ∈ lw_tbl := List.mem_of_getElem? (i := 1163) (by decide +kernel)
set_option maxRecDepth 100000 in
theorem xw_834 : Cond.code yX11_all cX11_all 1 (some .long) ∈ lw_tbl := List.mem_of_getElem? (i := 1140) (by decide +kernel)
set_option maxRecDepth 100000 in
theorem xw_835 : Cond.code yX11_statesOf cX11_statesOf 5 (some .long) ∈ lw_tbl := List.mem_of_getElem? (i := 1144) (by decide +kernel)
set_option maxRecDepth 100000 in
theorem xw_836 : Cond.code yX11_rank cX11_rank 1 (some .int) ∈ lw_tbl := List.mem_of_getElem? (i := 1151) (by decide +kernel)
set_option maxRecDepth 100000 in
theorem xw_837 : Cond.code yX11_settle cX11_settle 7 none ∈ lw_tbl := List.mem_of_getElem? (i := 1155) (by decide +kernel)
set_option maxRecDepth 100000 in
theorem xw_838 : Cond.code yX11_turn cX11_turn 1 none ∈ lw_tbl := List.mem_of_getElem? (i := 1148) (by decide +kernel)
set_option maxRecDepth 100000 in
theorem xw_839 : Cond.code yX11_push cX11_push 2 none ∈ lw_tbl := List.mem_of_getElem? (i := 1137) (by decide +kernel)
set_option maxRecDepth 100000 in
theorem xw_840 : Cond.code yX11_operand cX11_operand 4 (some .boolean) ∈ lw_tbl := List.mem_of_getElem? (i := 1133) (by decide +kernel)
set_option maxRecDepth 100000 in
theorem xw_841 : Cond.code yX11_expression cX11_expression 4 (some .long) ∈ lw_tbl := List.mem_of_getElem? (i := 1129) (by decide +kernel)
set_option maxRecDepth 100000 in
theorem xw_842 : Cond.code yX11_readOutput cX11_readOutput 2 none ∈ lw_tbl := List.mem_of_getElem? (i := 1125) (by decide +kernel)
set_option maxRecDepth 100000 in
theorem xw_843 : Cond.code yX11_read cX11_read 1 (some .int) ∈ lw_tbl := List.mem_of_getElem? (i := 1052) (by decide +kernel)
set_option maxRecDepth 100000 in
theorem xw_844 : Cond.code yX11_isCell cX11_isCell 2 (some .boolean) ∈ lw_tbl := List.mem_of_getElem? (i := 1175) (by decide +kernel)
set_option maxRecDepth 100000 in
theorem xw_845 : Cond.code yX11_senseOf cX11_senseOf 8 (some .int) ∈ lw_tbl := List.mem_of_getElem? (i := 1182) (by decide +kernel)
set_option maxRecDepth 100000 in
theorem xw_846 : Cond.code yX11_agrees cX11_agrees 6 (some .boolean) ∈ lw_tbl := List.mem_of_getElem? (i := 1179) (by decide +kernel)
set_option maxRecDepth 100000 in
theorem xw_847 : Cond.code yX11_cell cX11_cell 6 (some .int) ∈ lw_tbl := List.mem_of_getElem? (i := 1171) (by decide +kernel)
set_option maxRecDepth 100000 in
theorem xw_848 : Cond.code yX11_truth cX11_truth 3 (some .long) ∈ lw_tbl := List.mem_of_getElem? (i := 1186) (by decide +kernel)
set_option maxRecDepth 100000 in
theorem xw_849 : Cond.code yX11_sense cX11_sense 5 (some .int) ∈ lw_tbl := List.mem_of_getElem? (i := 1190) (by decide +kernel)
end
