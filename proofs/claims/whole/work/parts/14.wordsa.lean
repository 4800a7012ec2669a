section
set_option maxRecDepth 100000 in
theorem xw_0 : Cond.constantLong RJ13 314 (6148914691236517205 : Int64) ∈ lw_tbl := List.mem_of_getElem? (i := 847) (by decide +kernel)
set_option maxRecDepth 100000 in
theorem xw_1 : Cond.constantLong RJ13 316 (3689348814741910323 : Int64) ∈ lw_tbl := List.mem_of_getElem? (i := 848) (by decide +kernel)
set_option maxRecDepth 100000 in
theorem xw_2 : Cond.constantLong RJ13 318 (1085102592571150095 : Int64) ∈ lw_tbl := List.mem_of_getElem? (i := 849) (by decide +kernel)
set_option maxRecDepth 100000 in
theorem xw_3 : Cond.fieldLink RJ0 9 RJ0 "value" "[B" ∈ lw_tbl := List.mem_of_getElem? (i := 1267) (by decide +kernel)
set_option maxRecDepth 100000 in
theorem xw_4 : Cond.methodLink RJ0 335 yJ0_coder_7d493 ∈ lw_tbl := List.mem_of_getElem? (i := 379) (by decide +kernel)
set_option maxRecDepth 100000 in
theorem xw_5 : Cond.instanceMethod yJ0_coder_7d493 ∈ lw_tbl := List.mem_of_getElem? (i := 380) (by decide +kernel)
set_option maxRecDepth 100000 in
theorem xw_6 : Cond.selects RJ0 yJ0_coder_7d493 yJ0_coder_7d493 ∈ lw_tbl := List.mem_of_getElem? (i := 381) (by decide +kernel)
set_option maxRecDepth 100000 in
theorem xw_7 : Cond.methodLink RJ0 492 yJ0_isLatin1_aae02 ∈ lw_tbl := List.mem_of_getElem? (i := 389) (by decide +kernel)
set_option maxRecDepth 100000 in
theorem xw_8 : Cond.instanceMethod yJ0_isLatin1_aae02 ∈ lw_tbl := List.mem_of_getElem? (i := 390) (by decide +kernel)
set_option maxRecDepth 100000 in
theorem xw_9 : Cond.selects RJ0 yJ0_isLatin1_aae02 yJ0_isLatin1_aae02 ∈ lw_tbl := List.mem_of_getElem? (i := 391) (by decide +kernel)
set_option maxRecDepth 100000 in
theorem xw_10 : Cond.methodLink RJ0 495 yJ1_charAt_3b067 ∈ lw_tbl := List.mem_of_getElem? (i := 393) (by decide +kernel)
set_option maxRecDepth 100000 in
theorem xw_11 : Cond.static yJ1_charAt_3b067 ∈ lw_tbl := List.mem_of_getElem? (i := 394) (by decide +kernel)
set_option maxRecDepth 100000 in
theorem xw_12 : Cond.fieldLink RJ0 38 RJ0 "COMPACT_STRINGS" "Z" ∈ lw_tbl := List.mem_of_getElem? (i := 383) (by decide +kernel)
set_option maxRecDepth 100000 in
theorem xw_13 : Cond.fieldLink RJ0 15 RJ0 "coder" "B" ∈ lw_tbl := List.mem_of_getElem? (i := 1268) (by decide +kernel)
set_option maxRecDepth 100000 in
theorem xw_14 : Cond.fieldLink RJ0 1053 RJ3 "SIOOBE_FORMATTER" "Ljava/util/function/BiFunction;" ∈ lw_tbl := List.mem_of_getElem? (i := 399) (by decide +kernel)
set_option maxRecDepth 100000 in
theorem xw_15 : Cond.methodLink RJ0 1059 yJ3_checkIndex_8e157 ∈ lw_tbl := List.mem_of_getElem? (i := 401) (by decide +kernel)
set_option maxRecDepth 100000 in
theorem xw_16 : Cond.static yJ3_checkIndex_8e157 ∈ lw_tbl := List.mem_of_getElem? (i := 402) (by decide +kernel)
set_option maxRecDepth 100000 in
theorem xw_17 : Cond.methodLink RJ1 9 yJ0_checkIndex_df160 ∈ lw_tbl := List.mem_of_getElem? (i := 396) (by decide +kernel)
set_option maxRecDepth 100000 in
theorem xw_18 : Cond.static yJ0_checkIndex_df160 ∈ lw_tbl := List.mem_of_getElem? (i := 397) (by decide +kernel)
set_option maxRecDepth 100000 in
theorem xw_19 : Cond.methodLink RX0 3 objectInit ∈ lw_tbl := List.mem_of_getElem? (i := 113) (by decide +kernel)
set_option maxRecDepth 100000 in
theorem xw_20 : Cond.instanceMethod objectInit ∈ lw_tbl := List.mem_of_getElem? (i := 91) (by decide +kernel)
set_option maxRecDepth 100000 in
theorem xw_21 : Cond.code objectInit ⟨#[0xb1]⟩ 1 none ∈ lw_tbl := by decide +kernel
set_option maxRecDepth 100000 in
theorem xw_22 : Cond.arrayClass (newarray.typeOf .int) ∈ lw_tbl := List.mem_of_getElem? (i := 126) (by decide +kernel)
set_option maxRecDepth 100000 in
theorem xw_23 : Cond.fieldLink RX0 9 (TX0 0).1 (TX0 0).2.1 (TX0 0).2.2.1 ∈ lw_tbl := List.mem_of_getElem? (i := 114) (by decide +kernel)
set_option maxRecDepth 100000 in
theorem xw_24 : Cond.fieldLink RX0 15 (TX0 1).1 (TX0 1).2.1 (TX0 1).2.2.1 ∈ lw_tbl := List.mem_of_getElem? (i := 116) (by decide +kernel)
set_option maxRecDepth 100000 in
theorem xw_25 : Cond.methodLink RX0 19 yJ9_min_7cf53 ∈ lw_tbl := List.mem_of_getElem? (i := 799) (by decide +kernel)
set_option maxRecDepth 100000 in
theorem xw_26 : Cond.static yJ9_min_7cf53 ∈ lw_tbl := List.mem_of_getElem? (i := 800) (by decide +kernel)
set_option maxRecDepth 100000 in
theorem xw_27 : Cond.methodLink RX0 25 yJ9_max_7cf53 ∈ lw_tbl := List.mem_of_getElem? (i := 802) (by decide +kernel)
set_option maxRecDepth 100000 in
theorem xw_28 : Cond.static yJ9_max_7cf53 ∈ lw_tbl := List.mem_of_getElem? (i := 803) (by decide +kernel)
set_option maxRecDepth 100000 in
theorem xw_29 : Cond.methodLink RX0 28 yX0_spanEnd ∈ lw_tbl := List.mem_of_getElem? (i := 821) (by decide +kernel)
set_option maxRecDepth 100000 in
theorem xw_30 : Cond.instanceMethod yX0_spanEnd ∈ lw_tbl := List.mem_of_getElem? (i := 814) (by decide +kernel)
set_option maxRecDepth 100000 in
theorem xw_31 : Cond.selects RX0 yX0_spanEnd yX0_spanEnd ∈ lw_tbl := List.mem_of_getElem? (i := 815) (by decide +kernel)
set_option maxRecDepth 100000 in
theorem xw_32 : Cond.methodLink RX0 32 yJ9_floorDiv_f86c9 ∈ lw_tbl := List.mem_of_getElem? (i := 822) (by decide +kernel)
set_option maxRecDepth 100000 in
theorem xw_33 : Cond.static yJ9_floorDiv_f86c9 ∈ lw_tbl := List.mem_of_getElem? (i := 823) (by decide +kernel)
set_option maxRecDepth 100000 in
theorem xw_34 : Cond.constantLong RX2 9 (-1 : Int64) ∈ lw_tbl := List.mem_of_getElem? (i := 652) (by decide +kernel)
set_option maxRecDepth 100000 in
theorem xw_35 : Cond.fieldLink RX2 11 RX2 "INPUTS" "[J" ∈ lw_tbl := List.mem_of_getElem? (i := 742) (by decide +kernel)
set_option maxRecDepth 100000 in
theorem xw_36 : Cond.methodLink RX7 3 objectInit ∈ lw_tbl := List.mem_of_getElem? (i := 107) (by decide +kernel)
set_option maxRecDepth 100000 in
theorem xw_37 : Cond.classLink RX7 9 RX0 ∈ lw_tbl := List.mem_of_getElem? (i := 108) (by decide +kernel)
set_option maxRecDepth 100000 in
theorem xw_38 : Cond.instantiable RX0 2 ∈ lw_tbl := List.mem_of_getElem? (i := 109) (by decide +kernel)
set_option maxRecDepth 100000 in
theorem xw_39 : Cond.initialized RX0 ∈ lw_tbl := List.mem_of_getElem? (i := 64) (by decide +kernel)
set_option maxRecDepth 100000 in
theorem xw_40 : Cond.methodLinkNest RX7 11 yX0_init "CellLibrary" ∈ lw_tbl := List.mem_of_getElem? (i := 110) (by decide +kernel)
set_option maxRecDepth 100000 in
theorem xw_41 : Cond.instanceMethod yX0_init ∈ lw_tbl := List.mem_of_getElem? (i := 111) (by decide +kernel)
set_option maxRecDepth 100000 in
theorem xw_42 : Cond.fieldLink RX7 12 (TX7 0).1 (TX7 0).2.1 (TX7 0).2.2.1 ∈ lw_tbl := List.mem_of_getElem? (i := 127) (by decide +kernel)
set_option maxRecDepth 100000 in
theorem xw_43 : Cond.fieldLink RX7 18 (TX7 1).1 (TX7 1).2.1 (TX7 1).2.2.1 ∈ lw_tbl := List.mem_of_getElem? (i := 129) (by decide +kernel)
set_option maxRecDepth 100000 in
theorem xw_44 : Cond.fieldLink RX7 21 (TX7 2).1 (TX7 2).2.1 (TX7 2).2.2.1 ∈ lw_tbl := List.mem_of_getElem? (i := 131) (by decide +kernel)
set_option maxRecDepth 100000 in
theorem xw_45 : Cond.methodLink RX7 25 yX0_brought ∈ lw_tbl := List.mem_of_getElem? (i := 795) (by decide +kernel)
set_option maxRecDepth 100000 in
theorem xw_46 : Cond.instanceMethod yX0_brought ∈ lw_tbl := List.mem_of_getElem? (i := 796) (by decide +kernel)
set_option maxRecDepth 100000 in
theorem xw_47 : Cond.selects RX0 yX0_brought yX0_brought ∈ lw_tbl := List.mem_of_getElem? (i := 797) (by decide +kernel)
set_option maxRecDepth 100000 in
theorem xw_48 : Cond.methodLink RX7 29 yX0_spanStart ∈ lw_tbl := List.mem_of_getElem? (i := 805) (by decide +kernel)
set_option maxRecDepth 100000 in
theorem xw_49 : Cond.instanceMethod yX0_spanStart ∈ lw_tbl := List.mem_of_getElem? (i := 806) (by decide +kernel)
set_option maxRecDepth 100000 in
theorem xw_50 : Cond.selects RX0 yX0_spanStart yX0_spanStart ∈ lw_tbl := List.mem_of_getElem? (i := 807) (by decide +kernel)
set_option maxRecDepth 100000 in
theorem xw_51 : Cond.methodLink RX7 32 yX7_joinedByLoad ∈ lw_tbl := List.mem_of_getElem? (i := 809) (by decide +kernel)
set_option maxRecDepth 100000 in
theorem xw_52 : Cond.instanceMethod yX7_joinedByLoad ∈ lw_tbl := List.mem_of_getElem? (i := 811) (by decide +kernel)
set_option maxRecDepth 100000 in
theorem xw_53 : Cond.selects RX7 yX7_joinedByLoad yX7_joinedByLoad ∈ lw_tbl := List.mem_of_getElem? (i := 22) (by decide +kernel)
set_option maxRecDepth 100000 in
theorem xw_54 : Cond.methodLink RX7 36 yX0_spanEnd ∈ lw_tbl := List.mem_of_getElem? (i := 813) (by decide +kernel)
set_option maxRecDepth 100000 in
theorem xw_55 : Cond.methodLink RX7 39 yX0_mixed ∈ lw_tbl := List.mem_of_getElem? (i := 817) (by decide +kernel)
set_option maxRecDepth 100000 in
theorem xw_56 : Cond.instanceMethod yX0_mixed ∈ lw_tbl := List.mem_of_getElem? (i := 818) (by decide +kernel)
set_option maxRecDepth 100000 in
theorem xw_57 : Cond.selects RX0 yX0_mixed yX0_mixed ∈ lw_tbl := List.mem_of_getElem? (i := 819) (by decide +kernel)
set_option maxRecDepth 100000 in
theorem xw_58 : Cond.fieldLinkNest RX7 43 (TX0 1).1 (TX0 1).2.1 (TX0 1).2.2.1 "CellLibrary" ∈ lw_tbl := List.mem_of_getElem? (i := 117) (by decide +kernel)
set_option maxRecDepth 100000 in
theorem xw_59 : Cond.methodLink RX8 3 objectInit ∈ lw_tbl := List.mem_of_getElem? (i := 263) (by decide +kernel)
set_option maxRecDepth 100000 in
theorem xw_60 : Cond.arrayClass (newarray.typeOf .long) ∈ lw_tbl := List.mem_of_getElem? (i := 125) (by decide +kernel)
set_option maxRecDepth 100000 in
theorem xw_61 : Cond.fieldLink RX8 9 (TX8 0).1 (TX8 0).2.1 (TX8 0).2.2.1 ∈ lw_tbl := List.mem_of_getElem? (i := 264) (by decide +kernel)
set_option maxRecDepth 100000 in
theorem xw_62 : Cond.fieldLink RX8 15 (TX8 1).1 (TX8 1).2.1 (TX8 1).2.2.1 ∈ lw_tbl := List.mem_of_getElem? (i := 265) (by decide +kernel)
set_option maxRecDepth 100000 in
theorem xw_63 : Cond.fieldLink RX8 18 (TX8 2).1 (TX8 2).2.1 (TX8 2).2.2.1 ∈ lw_tbl := List.mem_of_getElem? (i := 266) (by decide +kernel)
set_option maxRecDepth 100000 in
theorem xw_64 : Cond.fieldLink RX8 21 (TX8 3).1 (TX8 3).2.1 (TX8 3).2.2.1 ∈ lw_tbl := List.mem_of_getElem? (i := 267) (by decide +kernel)
set_option maxRecDepth 100000 in
theorem xw_65 : Cond.fieldLink RX8 24 (TX8 4).1 (TX8 4).2.1 (TX8 4).2.2.1 ∈ lw_tbl := List.mem_of_getElem? (i := 268) (by decide +kernel)
set_option maxRecDepth 100000 in
theorem xw_66 : Cond.methodLink RX8 28 yX8_clearLevel ∈ lw_tbl := List.mem_of_getElem? (i := 579) (by decide +kernel)
set_option maxRecDepth 100000 in
theorem xw_67 : Cond.instanceMethod yX8_clearLevel ∈ lw_tbl := List.mem_of_getElem? (i := 581) (by decide +kernel)
set_option maxRecDepth 100000 in
theorem xw_68 : Cond.selects RX8 yX8_clearLevel yX8_clearLevel ∈ lw_tbl := List.mem_of_getElem? (i := 11) (by decide +kernel)
set_option maxRecDepth 100000 in
theorem xw_69 : Cond.methodLink RX8 31 yX8_total ∈ lw_tbl := List.mem_of_getElem? (i := 624) (by decide +kernel)
set_option maxRecDepth 100000 in
theorem xw_70 : Cond.instanceMethod yX8_total ∈ lw_tbl := List.mem_of_getElem? (i := 625) (by decide +kernel)
set_option maxRecDepth 100000 in
theorem xw_71 : Cond.selects RX8 yX8_total yX8_total ∈ lw_tbl := List.mem_of_getElem? (i := 626) (by decide +kernel)
set_option maxRecDepth 100000 in
theorem xw_72 : Cond.methodLink RX8 35 yX8_put ∈ lw_tbl := List.mem_of_getElem? (i := 628) (by decide +kernel)
set_option maxRecDepth 100000 in
theorem xw_73 : Cond.instanceMethod yX8_put ∈ lw_tbl := List.mem_of_getElem? (i := 612) (by decide +kernel)
set_option maxRecDepth 100000 in
theorem xw_74 : Cond.selects RX8 yX8_put yX8_put ∈ lw_tbl := List.mem_of_getElem? (i := 613) (by decide +kernel)
set_option maxRecDepth 100000 in
theorem xw_75 : Cond.constantLong RX8 39 (-1 : Int64) ∈ lw_tbl := List.mem_of_getElem? (i := 583) (by decide +kernel)
set_option maxRecDepth 100000 in
theorem xw_76 : Cond.methodLink RX9 1 objectInit ∈ lw_tbl := List.mem_of_getElem? (i := 239) (by decide +kernel)
set_option maxRecDepth 100000 in
theorem xw_77 : Cond.arrayClass (newarray.typeOf .char) ∈ lw_tbl := List.mem_of_getElem? (i := 124) (by decide +kernel)
set_option maxRecDepth 100000 in
theorem xw_78 : Cond.fieldLink RX9 7 (TX9 0).1 (TX9 0).2.1 (TX9 0).2.2.1 ∈ lw_tbl := List.mem_of_getElem? (i := 240) (by decide +kernel)
set_option maxRecDepth 100000 in
theorem xw_79 : Cond.fieldLink RX9 13 (TX9 1).1 (TX9 1).2.1 (TX9 1).2.2.1 ∈ lw_tbl := List.mem_of_getElem? (i := 241) (by decide +kernel)
set_option maxRecDepth 100000 in
theorem xw_80 : Cond.fieldLink RX9 17 (TX9 3).1 (TX9 3).2.1 (TX9 3).2.2.1 ∈ lw_tbl := List.mem_of_getElem? (i := 244) (by decide +kernel)
set_option maxRecDepth 100000 in
theorem xw_81 : Cond.methodLink RX9 20 yX9_step ∈ lw_tbl := List.mem_of_getElem? (i := 360) (by decide +kernel)
set_option maxRecDepth 100000 in
theorem xw_82 : Cond.instanceMethod yX9_step ∈ lw_tbl := List.mem_of_getElem? (i := 361) (by decide +kernel)
set_option maxRecDepth 100000 in
theorem xw_83 : Cond.selects RX9 yX9_step yX9_step ∈ lw_tbl := List.mem_of_getElem? (i := 362) (by decide +kernel)
set_option maxRecDepth 100000 in
theorem xw_84 : Cond.fieldLink RX9 23 (TX9 2).1 (TX9 2).2.1 (TX9 2).2.2.1 ∈ lw_tbl := List.mem_of_getElem? (i := 243) (by decide +kernel)
set_option maxRecDepth 100000 in
theorem xw_85 : Cond.fieldLink RX9 26 (TX9 4).1 (TX9 4).2.1 (TX9 4).2.2.1 ∈ lw_tbl := List.mem_of_getElem? (i := 245) (by decide +kernel)
set_option maxRecDepth 100000 in
theorem xw_86 : Cond.methodLink RX9 29 yX9_isDigit ∈ lw_tbl := List.mem_of_getElem? (i := 364) (by decide +kernel)
set_option maxRecDepth 100000 in
theorem xw_87 : Cond.static yX9_isDigit ∈ lw_tbl := List.mem_of_getElem? (i := 365) (by decide +kernel)
set_option maxRecDepth 100000 in
theorem xw_88 : Cond.methodLink RX9 33 yX9_isLetter ∈ lw_tbl := List.mem_of_getElem? (i := 367) (by decide +kernel)
set_option maxRecDepth 100000 in
theorem xw_89 : Cond.static yX9_isLetter ∈ lw_tbl := List.mem_of_getElem? (i := 368) (by decide +kernel)
set_option maxRecDepth 100000 in
theorem xw_90 : Cond.methodLink RX9 38 yJ0_length_8abf5 ∈ lw_tbl := List.mem_of_getElem? (i := 375) (by decide +kernel)
set_option maxRecDepth 100000 in
theorem xw_91 : Cond.instanceMethod yJ0_length_8abf5 ∈ lw_tbl := List.mem_of_getElem? (i := 376) (by decide +kernel)
set_option maxRecDepth 100000 in
theorem xw_92 : Cond.selects RJ0 yJ0_length_8abf5 yJ0_length_8abf5 ∈ lw_tbl := List.mem_of_getElem? (i := 377) (by decide +kernel)
set_option maxRecDepth 100000 in
theorem xw_93 : Cond.methodLink RX9 43 yJ0_charAt_5068e ∈ lw_tbl := List.mem_of_getElem? (i := 385) (by decide +kernel)
set_option maxRecDepth 100000 in
theorem xw_94 : Cond.instanceMethod yJ0_charAt_5068e ∈ lw_tbl := List.mem_of_getElem? (i := 386) (by decide +kernel)
set_option maxRecDepth 100000 in
theorem xw_95 : Cond.selects RJ0 yJ0_charAt_5068e yJ0_charAt_5068e ∈ lw_tbl := List.mem_of_getElem? (i := 387) (by decide +kernel)
set_option maxRecDepth 100000 in
theorem xw_96 : Cond.methodLink RX9 47 yX4_packed ∈ lw_tbl := List.mem_of_getElem? (i := 432) (by decide +kernel)
set_option maxRecDepth 100000 in
theorem xw_97 : Cond.static yX4_packed ∈ lw_tbl := List.mem_of_getElem? (i := 433) (by decide +kernel)
set_option maxRecDepth 100000 in
theorem xw_98 : Cond.methodLink RX1 3 objectInit ∈ lw_tbl := List.mem_of_getElem? (i := 144) (by decide +kernel)
set_option maxRecDepth 100000 in
theorem xw_99 : Cond.fieldLink RX1 9 (TX1 2).1 (TX1 2).2.1 (TX1 2).2.2.1 ∈ lw_tbl := List.mem_of_getElem? (i := 150) (by decide +kernel)
set_option maxRecDepth 100000 in
theorem xw_100 : Cond.fieldLink RX1 15 (TX1 5).1 (TX1 5).2.1 (TX1 5).2.2.1 ∈ lw_tbl := List.mem_of_getElem? (i := 160) (by decide +kernel)
set_option maxRecDepth 100000 in
theorem xw_101 : Cond.fieldLink RX1 18 (TX1 6).1 (TX1 6).2.1 (TX1 6).2.2.1 ∈ lw_tbl := List.mem_of_getElem? (i := 164) (by decide +kernel)
set_option maxRecDepth 100000 in
theorem xw_102 : Cond.arrayClass (newarray.typeOf .boolean) ∈ lw_tbl := List.mem_of_getElem? (i := 204) (by decide +kernel)
set_option maxRecDepth 100000 in
theorem xw_103 : Cond.fieldLink RX1 22 (TX1 7).1 (TX1 7).2.1 (TX1 7).2.2.1 ∈ lw_tbl := List.mem_of_getElem? (i := 167) (by decide +kernel)
set_option maxRecDepth 100000 in
theorem xw_104 : Cond.fieldLink RX1 26 (TX1 8).1 (TX1 8).2.1 (TX1 8).2.2.1 ∈ lw_tbl := List.mem_of_getElem? (i := 169) (by decide +kernel)
set_option maxRecDepth 100000 in
theorem xw_105 : Cond.fieldLink RX1 29 (TX1 10).1 (TX1 10).2.1 (TX1 10).2.2.1 ∈ lw_tbl := List.mem_of_getElem? (i := 175) (by decide +kernel)
set_option maxRecDepth 100000 in
theorem xw_106 : Cond.fieldLink RX1 32 (TX1 0).1 (TX1 0).2.1 (TX1 0).2.2.1 ∈ lw_tbl := List.mem_of_getElem? (i := 145) (by decide +kernel)
set_option maxRecDepth 100000 in
theorem xw_107 : Cond.fieldLink RX1 36 (TX1 1).1 (TX1 1).2.1 (TX1 1).2.2.1 ∈ lw_tbl := List.mem_of_getElem? (i := 148) (by decide +kernel)
set_option maxRecDepth 100000 in
theorem xw_108 : Cond.fieldLink RX1 40 (TX1 3).1 (TX1 3).2.1 (TX1 3).2.2.1 ∈ lw_tbl := List.mem_of_getElem? (i := 154) (by decide +kernel)
set_option maxRecDepth 100000 in
theorem xw_109 : Cond.fieldLink RX1 43 (TX1 4).1 (TX1 4).2.1 (TX1 4).2.2.1 ∈ lw_tbl := List.mem_of_getElem? (i := 157) (by decide +kernel)
set_option maxRecDepth 100000 in
theorem xw_110 : Cond.fieldLink RX1 46 (TX1 11).1 (TX1 11).2.1 (TX1 11).2.2.1 ∈ lw_tbl := List.mem_of_getElem? (i := 176) (by decide +kernel)
set_option maxRecDepth 100000 in
theorem xw_111 : Cond.fieldLink RX1 49 (TX1 9).1 (TX1 9).2.1 (TX1 9).2.2.1 ∈ lw_tbl := List.mem_of_getElem? (i := 172) (by decide +kernel)
set_option maxRecDepth 100000 in
theorem xw_112 : Cond.methodLink RX1 53 yX4_find ∈ lw_tbl := List.mem_of_getElem? (i := 564) (by decide +kernel)
set_option maxRecDepth 100000 in
theorem xw_113 : Cond.static yX4_find ∈ lw_tbl := List.mem_of_getElem? (i := 503) (by decide +kernel)
set_option maxRecDepth 100000 in
theorem xw_114 : Cond.methodLink RX1 59 yX1_arcPart ∈ lw_tbl := List.mem_of_getElem? (i := 669) (by decide +kernel)
set_option maxRecDepth 100000 in
theorem xw_115 : Cond.instanceMethod yX1_arcPart ∈ lw_tbl := List.mem_of_getElem? (i := 670) (by decide +kernel)
set_option maxRecDepth 100000 in
theorem xw_116 : Cond.selects RX1 yX1_arcPart yX1_arcPart ∈ lw_tbl := List.mem_of_getElem? (i := 671) (by decide +kernel)
set_option maxRecDepth 100000 in
theorem xw_117 : Cond.methodLink RX1 63 yX2_senseOf ∈ lw_tbl := List.mem_of_getElem? (i := 739) (by decide +kernel)
set_option maxRecDepth 100000 in
theorem xw_118 : Cond.static yX2_senseOf ∈ lw_tbl := List.mem_of_getElem? (i := 740) (by decide +kernel)
set_option maxRecDepth 100000 in
theorem xw_119 : Cond.methodLink RX1 69 yX1_agrees ∈ lw_tbl := List.mem_of_getElem? (i := 735) (by decide +kernel)
set_option maxRecDepth 100000 in
theorem xw_120 : Cond.instanceMethod yX1_agrees ∈ lw_tbl := List.mem_of_getElem? (i := 736) (by decide +kernel)
set_option maxRecDepth 100000 in
theorem xw_121 : Cond.selects RX1 yX1_agrees yX1_agrees ∈ lw_tbl := List.mem_of_getElem? (i := 737) (by decide +kernel)
set_option maxRecDepth 100000 in
theorem xw_122 : Cond.methodLink RX3 3 objectInit ∈ lw_tbl := List.mem_of_getElem? (i := 298) (by decide +kernel)
set_option maxRecDepth 100000 in
theorem xw_123 : Cond.fieldLink RX3 9 (TX3 0).1 (TX3 0).2.1 (TX3 0).2.2.1 ∈ lw_tbl := List.mem_of_getElem? (i := 299) (by decide +kernel)
set_option maxRecDepth 100000 in
theorem xw_124 : Cond.fieldLink RX3 15 (TX3 1).1 (TX3 1).2.1 (TX3 1).2.2.1 ∈ lw_tbl := List.mem_of_getElem? (i := 301) (by decide +kernel)
set_option maxRecDepth 100000 in
theorem xw_125 : Cond.fieldLink RX3 19 (TX3 2).1 (TX3 2).2.1 (TX3 2).2.2.1 ∈ lw_tbl := List.mem_of_getElem? (i := 302) (by decide +kernel)
set_option maxRecDepth 100000 in
theorem xw_126 : Cond.fieldLinkNest RX3 22 (TX1 3).1 (TX1 3).2.1 (TX1 3).2.2.1 "CellLibrary" ∈ lw_tbl := List.mem_of_getElem? (i := 153) (by decide +kernel)
set_option maxRecDepth 100000 in
theorem xw_127 : Cond.fieldLink RX3 28 (TX3 3).1 (TX3 3).2.1 (TX3 3).2.2.1 ∈ lw_tbl := List.mem_of_getElem? (i := 303) (by decide +kernel)
set_option maxRecDepth 100000 in
theorem xw_128 : Cond.fieldLinkNest RX3 29 (TX1 5).1 (TX1 5).2.1 (TX1 5).2.2.1 "CellLibrary" ∈ lw_tbl := List.mem_of_getElem? (i := 161) (by decide +kernel)
set_option maxRecDepth 100000 in
theorem xw_129 : Cond.methodLink RX3 32 yJ13_bitCount_95d88 ∈ lw_tbl := List.mem_of_getElem? (i := 844) (by decide +kernel)
set_option maxRecDepth 100000 in
theorem xw_130 : Cond.static yJ13_bitCount_95d88 ∈ lw_tbl := List.mem_of_getElem? (i := 845) (by decide +kernel)
set_option maxRecDepth 100000 in
theorem xw_131 : Cond.methodLink RX3 38 yX3_split ∈ lw_tbl := List.mem_of_getElem? (i := 850) (by decide +kernel)
set_option maxRecDepth 100000 in
theorem xw_132 : Cond.static yX3_split ∈ lw_tbl := List.mem_of_getElem? (i := 851) (by decide +kernel)
set_option maxRecDepth 100000 in
theorem xw_133 : Cond.methodLink RX3 42 yX3_placeFrom ∈ lw_tbl := List.mem_of_getElem? (i := 855) (by decide +kernel)
set_option maxRecDepth 100000 in
theorem xw_134 : Cond.instanceMethod yX3_placeFrom ∈ lw_tbl := List.mem_of_getElem? (i := 857) (by decide +kernel)
set_option maxRecDepth 100000 in
theorem xw_135 : Cond.selects RX3 yX3_placeFrom yX3_placeFrom ∈ lw_tbl := List.mem_of_getElem? (i := 23) (by decide +kernel)
set_option maxRecDepth 100000 in
theorem xw_136 : Cond.methodLink RX3 46 yX3_goesOnWith ∈ lw_tbl := List.mem_of_getElem? (i := 859) (by decide +kernel)
set_option maxRecDepth 100000 in
theorem xw_137 : Cond.instanceMethod yX3_goesOnWith ∈ lw_tbl := List.mem_of_getElem? (i := 861) (by decide +kernel)
set_option maxRecDepth 100000 in
theorem xw_138 : Cond.selects RX3 yX3_goesOnWith yX3_goesOnWith ∈ lw_tbl := List.mem_of_getElem? (i := 24) (by decide +kernel)
set_option maxRecDepth 100000 in
theorem xw_139 : Cond.methodLink RX3 50 yX3_fits ∈ lw_tbl := List.mem_of_getElem? (i := 863) (by decide +kernel)
set_option maxRecDepth 100000 in
theorem xw_140 : Cond.instanceMethod yX3_fits ∈ lw_tbl := List.mem_of_getElem? (i := 865) (by decide +kernel)
set_option maxRecDepth 100000 in
theorem xw_141 : Cond.selects RX3 yX3_fits yX3_fits ∈ lw_tbl := List.mem_of_getElem? (i := 25) (by decide +kernel)
set_option maxRecDepth 100000 in
theorem xw_142 : Cond.fieldLinkNest RX3 53 RX2 "INPUTS" "[J" "CellLibrary" ∈ lw_tbl := List.mem_of_getElem? (i := 853) (by decide +kernel)
set_option maxRecDepth 100000 in
theorem xw_143 : Cond.constantLong RX3 58 (-1 : Int64) ∈ lw_tbl := List.mem_of_getElem? (i := 854) (by decide +kernel)
set_option maxRecDepth 100000 in
theorem xw_144 : Cond.methodLink RX6 3 objectInit ∈ lw_tbl := List.mem_of_getElem? (i := 98) (by decide +kernel)
set_option maxRecDepth 100000 in
theorem xw_145 : Cond.fieldLink RX6 9 (TX6 0).1 (TX6 0).2.1 (TX6 0).2.2.1 ∈ lw_tbl := List.mem_of_getElem? (i := 205) (by decide +kernel)
set_option maxRecDepth 100000 in
theorem xw_146 : Cond.classLink RX6 15 RX7 ∈ lw_tbl := List.mem_of_getElem? (i := 99) (by decide +kernel)
set_option maxRecDepth 100000 in
theorem xw_147 : Cond.arrayOver (.object RX7) ∈ lw_tbl := List.mem_of_getElem? (i := 100) (by decide +kernel)
set_option maxRecDepth 100000 in
theorem xw_148 : Cond.fieldLink RX6 17 (TX6 1).1 (TX6 1).2.1 (TX6 1).2.2.1 ∈ lw_tbl := List.mem_of_getElem? (i := 207) (by decide +kernel)
set_option maxRecDepth 100000 in
theorem xw_149 : Cond.classLink RX6 21 RX1 ∈ lw_tbl := List.mem_of_getElem? (i := 101) (by decide +kernel)
set_option maxRecDepth 100000 in
theorem xw_150 : Cond.arrayOver (.object RX1) ∈ lw_tbl := List.mem_of_getElem? (i := 102) (by decide +kernel)
set_option maxRecDepth 100000 in
theorem xw_151 : Cond.fieldLink RX6 23 (TX6 2).1 (TX6 2).2.1 (TX6 2).2.2.1 ∈ lw_tbl := List.mem_of_getElem? (i := 209) (by decide +kernel)
set_option maxRecDepth 100000 in
theorem xw_152 : Cond.instantiable RX7 3 ∈ lw_tbl := List.mem_of_getElem? (i := 103) (by decide +kernel)
set_option maxRecDepth 100000 in
theorem xw_153 : Cond.initialized RX7 ∈ lw_tbl := List.mem_of_getElem? (i := 63) (by decide +kernel)
set_option maxRecDepth 100000 in
theorem xw_154 : Cond.methodLinkNest RX6 27 yX7_init "CellLibrary" ∈ lw_tbl := List.mem_of_getElem? (i := 104) (by decide +kernel)
set_option maxRecDepth 100000 in
theorem xw_155 : Cond.instanceMethod yX7_init ∈ lw_tbl := List.mem_of_getElem? (i := 105) (by decide +kernel)
set_option maxRecDepth 100000 in
theorem xw_156 : Cond.instantiable RX1 12 ∈ lw_tbl := List.mem_of_getElem? (i := 140) (by decide +kernel)
set_option maxRecDepth 100000 in
theorem xw_157 : Cond.initialized RX1 ∈ lw_tbl := List.mem_of_getElem? (i := 65) (by decide +kernel)
set_option maxRecDepth 100000 in
theorem xw_158 : Cond.methodLinkNest RX6 28 yX1_init "CellLibrary" ∈ lw_tbl := List.mem_of_getElem? (i := 141) (by decide +kernel)
set_option maxRecDepth 100000 in
theorem xw_159 : Cond.instanceMethod yX1_init ∈ lw_tbl := List.mem_of_getElem? (i := 142) (by decide +kernel)
set_option maxRecDepth 100000 in
theorem xw_160 : Cond.fieldLink RX6 29 (TX6 3).1 (TX6 3).2.1 (TX6 3).2.2.1 ∈ lw_tbl := List.mem_of_getElem? (i := 211) (by decide +kernel)
set_option maxRecDepth 100000 in
theorem xw_161 : Cond.fieldLink RX6 33 (TX6 4).1 (TX6 4).2.1 (TX6 4).2.2.1 ∈ lw_tbl := List.mem_of_getElem? (i := 214) (by decide +kernel)
set_option maxRecDepth 100000 in
theorem xw_162 : Cond.fieldLinkNest RX6 36 (TX1 0).1 (TX1 0).2.1 (TX1 0).2.2.1 "CellLibrary" ∈ lw_tbl := List.mem_of_getElem? (i := 146) (by decide +kernel)
set_option maxRecDepth 100000 in
theorem xw_163 : Cond.methodLink RX6 40 yX1_begin ∈ lw_tbl := List.mem_of_getElem? (i := 545) (by decide +kernel)
set_option maxRecDepth 100000 in
theorem xw_164 : Cond.instanceMethod yX1_begin ∈ lw_tbl := List.mem_of_getElem? (i := 546) (by decide +kernel)
set_option maxRecDepth 100000 in
theorem xw_165 : Cond.selects RX1 yX1_begin yX1_begin ∈ lw_tbl := List.mem_of_getElem? (i := 547) (by decide +kernel)
set_option maxRecDepth 100000 in
theorem xw_166 : Cond.methodLink RX5 3 objectInit ∈ lw_tbl := List.mem_of_getElem? (i := 233) (by decide +kernel)
set_option maxRecDepth 100000 in
theorem xw_167 : Cond.classLink RX5 9 RX9 ∈ lw_tbl := List.mem_of_getElem? (i := 234) (by decide +kernel)
set_option maxRecDepth 100000 in
theorem xw_168 : Cond.instantiable RX9 5 ∈ lw_tbl := List.mem_of_getElem? (i := 235) (by decide +kernel)
set_option maxRecDepth 100000 in
theorem xw_169 : Cond.initialized RX9 ∈ lw_tbl := List.mem_of_getElem? (i := 67) (by decide +kernel)
end
