/-! ===== words of the tables, by their places ===== -/
theorem wd_0 : Cond.methodLink RX0 3 Lib.objectInit ∈ ak_Ws := ak_ws 379 (by decide +kernel) rfl
theorem wd_1 : Cond.instanceMethod Lib.objectInit ∈ ak_Ws := ak_ws 121 (by decide +kernel) rfl
theorem wd_2 : Cond.code Lib.objectInit ⟨#[0xb1]⟩ 1 none ∈ ak_Ws := ak_ws 122 (by decide +kernel) rfl
theorem wd_3 : Cond.arrayClass .int ∈ ak_Ws := ak_ws 150 (by decide +kernel) rfl
theorem wd_4 : Cond.fieldLink RX0 9 "GreetedMirrors$Book" "mirrors" "[I" ∈ ak_Ws := ak_ws 380 (by decide +kernel) rfl
theorem wd_5 : Cond.fieldLink RX0 15 "GreetedMirrors$Book" "names" "[I" ∈ ak_Ws := ak_ws 381 (by decide +kernel) rfl
theorem wd_6 : Cond.code yX0_init cX0_init 1 none ∈ ak_Ws := ak_ws 378 (by decide +kernel) rfl
theorem wd_7 : Cond.code yX9_put cX9_put 3 none ∈ ak_Ws := ak_ws 448 (by decide +kernel) rfl
theorem wd_8 : Cond.fieldLink RX0 18 "GreetedMirrors$Book" "count" "I" ∈ ak_Ws := ak_ws 382 (by decide +kernel) rfl
theorem wd_9 : Cond.methodLinkNest RX0 22 yX9_put "GreetedMirrors" ∈ lw_tbl := List.mem_of_getElem? (i := 891) (by decide +kernel)
theorem wd_10 : Cond.initialized RX9 ∈ ak_Ws := ak_ws 103 (by decide +kernel) rfl
theorem wd_11 : Cond.static yX9_put ∈ ak_Ws := ak_ws 447 (by decide +kernel) rfl
theorem wd_12 : Cond.code yX0_enter cX0_enter 3 (some .int) ∈ ak_Ws := ak_ws 890 (by decide +kernel) rfl
theorem wd_13 : Cond.code yX9_at cX9_at 2 (some .int) ∈ ak_Ws := ak_ws 514 (by decide +kernel) rfl
theorem wd_14 : Cond.fieldLinkNest RX0 26 "GreetedMirrors$State" "name" "[I" "GreetedMirrors" ∈ lw_tbl := List.mem_of_getElem? (i := 249) (by decide +kernel)
theorem wd_15 : Cond.methodLinkNest RX0 31 yX9_at "GreetedMirrors" ∈ lw_tbl := List.mem_of_getElem? (i := 904) (by decide +kernel)
theorem wd_16 : Cond.static yX9_at ∈ ak_Ws := ak_ws 513 (by decide +kernel) rfl
theorem wd_17 : Cond.code yX0_firstWrong cX0_firstWrong 3 (some .int) ∈ ak_Ws := ak_ws 903 (by decide +kernel) rfl
theorem wd_18 : Cond.methodLink RX1 1 Lib.objectInit ∈ ak_Ws := ak_ws 396 (by decide +kernel) rfl
theorem wd_19 : Cond.code yX1_init cX1_init 1 none ∈ ak_Ws := ak_ws 395 (by decide +kernel) rfl
theorem wd_20 : Cond.fieldLink RX1 7 "GreetedMirrors$Draws" "seed" "J" ∈ ak_Ws := ak_ws 397 (by decide +kernel) rfl
theorem wd_21 : Cond.constantLong RX1 13 1103515245 ∈ ak_Ws := ak_ws 715 (by decide +kernel) rfl
theorem wd_22 : Cond.constantLong RX1 15 12345 ∈ ak_Ws := ak_ws 716 (by decide +kernel) rfl
theorem wd_23 : Cond.constantLong RX1 17 2147483647 ∈ ak_Ws := ak_ws 717 (by decide +kernel) rfl
theorem wd_24 : Cond.constantLong RX1 19 65536 ∈ ak_Ws := ak_ws 718 (by decide +kernel) rfl
theorem wd_25 : Cond.code yX1_next cX1_next 2 (some .int) ∈ ak_Ws := ak_ws 714 (by decide +kernel) rfl
theorem wd_26 : Cond.fieldLink RX2 27 "GreetedMirrors$House" "nameBreath" "[I" ∈ ak_Ws := ak_ws 193 (by decide +kernel) rfl
theorem wd_27 : Cond.fieldLink RX2 30 "GreetedMirrors$House" "personRoom" "[I" ∈ ak_Ws := ak_ws 195 (by decide +kernel) rfl
theorem wd_28 : Cond.methodLink RX2 3 Lib.objectInit ∈ ak_Ws := ak_ws 156 (by decide +kernel) rfl
theorem wd_29 : Cond.fieldLink RX2 9 "GreetedMirrors$House" "doorFrom" "[I" ∈ ak_Ws := ak_ws 177 (by decide +kernel) rfl
theorem wd_30 : Cond.fieldLink RX2 15 "GreetedMirrors$House" "doorTo" "[I" ∈ ak_Ws := ak_ws 180 (by decide +kernel) rfl
theorem wd_31 : Cond.fieldLink RX2 18 "GreetedMirrors$House" "mirrorRoom" "[I" ∈ ak_Ws := ak_ws 183 (by decide +kernel) rfl
theorem wd_32 : Cond.fieldLink RX2 21 "GreetedMirrors$House" "toldName" "[I" ∈ ak_Ws := ak_ws 187 (by decide +kernel) rfl
theorem wd_33 : Cond.fieldLink RX2 24 "GreetedMirrors$House" "opposite" "[I" ∈ ak_Ws := ak_ws 190 (by decide +kernel) rfl
theorem wd_34 : Cond.code yX2_init cX2_init 1 none ∈ ak_Ws := ak_ws 155 (by decide +kernel) rfl
theorem wd_35 : Cond.code yX9_fill cX9_fill 3 none ∈ ak_Ws := ak_ws 463 (by decide +kernel) rfl
theorem wd_36 : Cond.fieldLink RX2 33 "GreetedMirrors$House" "rooms" "I" ∈ ak_Ws := ak_ws 157 (by decide +kernel) rfl
theorem wd_37 : Cond.fieldLink RX2 37 "GreetedMirrors$House" "known" "I" ∈ ak_Ws := ak_ws 161 (by decide +kernel) rfl
theorem wd_38 : Cond.fieldLink RX2 40 "GreetedMirrors$House" "doors" "I" ∈ ak_Ws := ak_ws 164 (by decide +kernel) rfl
theorem wd_39 : Cond.fieldLink RX2 43 "GreetedMirrors$House" "mirrors" "I" ∈ ak_Ws := ak_ws 168 (by decide +kernel) rfl
theorem wd_40 : Cond.fieldLink RX2 46 "GreetedMirrors$House" "persons" "I" ∈ ak_Ws := ak_ws 173 (by decide +kernel) rfl
theorem wd_41 : Cond.methodLinkNest RX2 49 yX9_fill "GreetedMirrors" ∈ lw_tbl := List.mem_of_getElem? (i := 461) (by decide +kernel)
theorem wd_42 : Cond.static yX9_fill ∈ ak_Ws := ak_ws 462 (by decide +kernel) rfl
theorem wd_43 : Cond.code yX2_empty cX2_empty 1 none ∈ ak_Ws := ak_ws 460 (by decide +kernel) rfl
theorem wd_44 : Cond.code yX2_hasRoom cX2_hasRoom 2 (some .boolean) ∈ ak_Ws := ak_ws 631 (by decide +kernel) rfl
theorem wd_45 : Cond.code yX2_hasDoor cX2_hasDoor 2 (some .boolean) ∈ ak_Ws := ak_ws 590 (by decide +kernel) rfl
theorem wd_46 : Cond.code yX2_hasMirror cX2_hasMirror 2 (some .boolean) ∈ ak_Ws := ak_ws 580 (by decide +kernel) rfl
theorem wd_47 : Cond.code yX2_hasPerson cX2_hasPerson 2 (some .boolean) ∈ ak_Ws := ak_ws 598 (by decide +kernel) rfl
theorem wd_48 : Cond.code yX2_allMirrors cX2_allMirrors 1 (some .int) ∈ ak_Ws := ak_ws 735 (by decide +kernel) rfl
theorem wd_49 : Cond.code yX9_with cX9_with 3 (some .int) ∈ ak_Ws := ak_ws 609 (by decide +kernel) rfl
theorem wd_50 : Cond.methodLinkNest RX2 53 yX9_at "GreetedMirrors" ∈ lw_tbl := List.mem_of_getElem? (i := 512) (by decide +kernel)
theorem wd_51 : Cond.methodLinkNest RX2 57 yX9_with "GreetedMirrors" ∈ lw_tbl := List.mem_of_getElem? (i := 607) (by decide +kernel)
theorem wd_52 : Cond.static yX9_with ∈ ak_Ws := ak_ws 608 (by decide +kernel) rfl
theorem wd_53 : Cond.code yX2_mirrorsIn cX2_mirrorsIn 4 (some .int) ∈ ak_Ws := ak_ws 606 (by decide +kernel) rfl
theorem wd_54 : Cond.code yX2_hungAhead cX2_hungAhead 3 (some .int) ∈ ak_Ws := ak_ws 680 (by decide +kernel) rfl
theorem wd_55 : Cond.methodLink RX2 61 Lib.Math.max.name ∈ ak_Ws := ak_ws 661 (by decide +kernel) rfl
theorem wd_56 : Cond.static Lib.Math.max.name ∈ ak_Ws := ak_ws 662 (by decide +kernel) rfl
theorem wd_57 : Cond.initialized "java/lang/Math" ∈ ak_Ws := ak_ws 114 (by decide +kernel) rfl
theorem wd_58 : Cond.code Lib.Math.max.name Lib.Math.max.code 2 (some .int) ∈ ak_Ws := ak_ws 663 (by decide +kernel) rfl
theorem wd_59 : Cond.code yX2_breathOf cX2_breathOf 2 (some .int) ∈ ak_Ws := ak_ws 660 (by decide +kernel) rfl
theorem wd_60 : Cond.code yX2_haveDoor cX2_haveDoor 6 (some .boolean) ∈ ak_Ws := ak_ws 511 (by decide +kernel) rfl
theorem wd_61 : Cond.methodLinkNest RX2 67 yX9_put "GreetedMirrors" ∈ lw_tbl := List.mem_of_getElem? (i := 519) (by decide +kernel)
theorem wd_62 : Cond.code yX2_addDoor cX2_addDoor 3 none ∈ ak_Ws := ak_ws 518 (by decide +kernel) rfl
theorem wd_63 : Cond.code yX2_addMirror cX2_addMirror 3 none ∈ ak_Ws := ak_ws 527 (by decide +kernel) rfl
theorem wd_64 : Cond.code yX2_addPerson cX2_addPerson 2 none ∈ ak_Ws := ak_ws 544 (by decide +kernel) rfl
theorem wd_65 : Cond.methodLink RX8 3 Lib.objectInit ∈ ak_Ws := ak_ws 227 (by decide +kernel) rfl
theorem wd_66 : Cond.fieldLink RX8 9 "GreetedMirrors$State" "name" "[I" ∈ ak_Ws := ak_ws 248 (by decide +kernel) rfl
theorem wd_67 : Cond.fieldLink RX8 15 "GreetedMirrors$State" "otherName" "[I" ∈ ak_Ws := ak_ws 252 (by decide +kernel) rfl
theorem wd_68 : Cond.fieldLink RX8 18 "GreetedMirrors$State" "otherCount" "[I" ∈ ak_Ws := ak_ws 254 (by decide +kernel) rfl
theorem wd_69 : Cond.fieldLink RX8 21 "GreetedMirrors$State" "personRoom" "[I" ∈ ak_Ws := ak_ws 256 (by decide +kernel) rfl
theorem wd_70 : Cond.code yX8_init cX8_init 1 none ∈ ak_Ws := ak_ws 226 (by decide +kernel) rfl
theorem wd_71 : Cond.methodLink RX3 1 Lib.objectInit ∈ ak_Ws := ak_ws 308 (by decide +kernel) rfl
theorem wd_72 : Cond.classLink RX3 7 RX8 ∈ ak_Ws := ak_ws 309 (by decide +kernel) rfl
theorem wd_73 : Cond.instantiable RX8 12 ∈ ak_Ws := ak_ws 223 (by decide +kernel) rfl
theorem wd_74 : Cond.initialized RX8 ∈ ak_Ws := ak_ws 106 (by decide +kernel) rfl
theorem wd_75 : Cond.methodLinkNest RX3 9 yX8_init "GreetedMirrors" ∈ lw_tbl := List.mem_of_getElem? (i := 310) (by decide +kernel)
theorem wd_76 : Cond.instanceMethod yX8_init ∈ ak_Ws := ak_ws 225 (by decide +kernel) rfl
theorem wd_77 : Cond.fieldLink RX3 10 "GreetedMirrors$Image" "state" "LGreetedMirrors$State;" ∈ ak_Ws := ak_ws 311 (by decide +kernel) rfl
theorem wd_78 : Cond.code yX3_init cX3_init 1 none ∈ ak_Ws := ak_ws 307 (by decide +kernel) rfl
theorem wd_79 : Cond.methodLink RX4 3 Lib.objectInit ∈ ak_Ws := ak_ws 355 (by decide +kernel) rfl
theorem wd_80 : Cond.fieldLink RX4 9 "GreetedMirrors$Inquiry" "mirrors" "[I" ∈ ak_Ws := ak_ws 356 (by decide +kernel) rfl
theorem wd_81 : Cond.fieldLink RX4 15 "GreetedMirrors$Inquiry" "names" "[I" ∈ ak_Ws := ak_ws 357 (by decide +kernel) rfl
theorem wd_82 : Cond.fieldLink RX4 18 "GreetedMirrors$Inquiry" "answers" "[I" ∈ ak_Ws := ak_ws 358 (by decide +kernel) rfl
theorem wd_83 : Cond.fieldLink RX4 21 "GreetedMirrors$Inquiry" "fitting" "[I" ∈ ak_Ws := ak_ws 359 (by decide +kernel) rfl
theorem wd_84 : Cond.code yX4_init cX4_init 1 none ∈ ak_Ws := ak_ws 354 (by decide +kernel) rfl
theorem wd_85 : Cond.methodLinkNest RX4 28 yX9_put "GreetedMirrors" ∈ lw_tbl := List.mem_of_getElem? (i := 841) (by decide +kernel)
theorem wd_86 : Cond.fieldLink RX4 24 "GreetedMirrors$Inquiry" "count" "I" ∈ ak_Ws := ak_ws 361 (by decide +kernel) rfl
theorem wd_87 : Cond.code yX4_note cX4_note 4 (some .int) ∈ ak_Ws := ak_ws 840 (by decide +kernel) rfl
theorem wd_88 : Cond.code yX4_forget cX4_forget 1 none ∈ ak_Ws := ak_ws 564 (by decide +kernel) rfl
theorem wd_89 : Cond.methodLinkNest RX4 37 yX9_at "GreetedMirrors" ∈ lw_tbl := List.mem_of_getElem? (i := 850) (by decide +kernel)
theorem wd_90 : Cond.fieldLinkNest RX4 32 "GreetedMirrors$House" "toldName" "[I" "GreetedMirrors" ∈ lw_tbl := List.mem_of_getElem? (i := 189) (by decide +kernel)
theorem wd_91 : Cond.code yX4_nameBy cX4_nameBy 6 (some .int) ∈ ak_Ws := ak_ws 854 (by decide +kernel) rfl
theorem wd_92 : Cond.methodLink RX4 41 yX4_nameBy ∈ ak_Ws := ak_ws 851 (by decide +kernel) rfl
theorem wd_93 : Cond.initialized RX4 ∈ ak_Ws := ak_ws 110 (by decide +kernel) rfl
theorem wd_94 : Cond.instanceMethod yX4_nameBy ∈ ak_Ws := ak_ws 853 (by decide +kernel) rfl
theorem wd_95 : Cond.selects RX4 yX4_nameBy yX4_nameBy ∈ ak_Ws := ak_ws 62 (by decide +kernel) rfl
theorem wd_96 : Cond.code yX4_fits cX4_fits 5 (some .boolean) ∈ ak_Ws := ak_ws 849 (by decide +kernel) rfl
theorem wd_97 : Cond.fieldLinkNest RX4 45 "GreetedMirrors$House" "mirrors" "I" "GreetedMirrors" ∈ lw_tbl := List.mem_of_getElem? (i := 171) (by decide +kernel)
theorem wd_98 : Cond.methodLink RX4 47 yX4_fits ∈ ak_Ws := ak_ws 859 (by decide +kernel) rfl
theorem wd_99 : Cond.instanceMethod yX4_fits ∈ ak_Ws := ak_ws 848 (by decide +kernel) rfl
theorem wd_100 : Cond.selects RX4 yX4_fits yX4_fits ∈ ak_Ws := ak_ws 61 (by decide +kernel) rfl
theorem wd_101 : Cond.code yX4_findPairs cX4_findPairs 6 (some .int) ∈ ak_Ws := ak_ws 858 (by decide +kernel) rfl
theorem wd_102 : Cond.methodLink RX4 59 Lib.Math.max.name ∈ ak_Ws := ak_ws 873 (by decide +kernel) rfl
theorem wd_103 : Cond.code yX4_greatestPart cX4_greatestPart 7 (some .int) ∈ ak_Ws := ak_ws 872 (by decide +kernel) rfl
theorem wd_104 : Cond.methodLink RX4 55 yX4_greatestPart ∈ ak_Ws := ak_ws 869 (by decide +kernel) rfl
theorem wd_105 : Cond.instanceMethod yX4_greatestPart ∈ ak_Ws := ak_ws 871 (by decide +kernel) rfl
theorem wd_106 : Cond.selects RX4 yX4_greatestPart yX4_greatestPart ∈ ak_Ws := ak_ws 65 (by decide +kernel) rfl
theorem wd_107 : Cond.methodLink RX4 51 yX4_findPairs ∈ ak_Ws := ak_ws 868 (by decide +kernel) rfl
theorem wd_108 : Cond.instanceMethod yX4_findPairs ∈ ak_Ws := ak_ws 857 (by decide +kernel) rfl
theorem wd_109 : Cond.selects RX4 yX4_findPairs yX4_findPairs ∈ ak_Ws := ak_ws 63 (by decide +kernel) rfl
theorem wd_110 : Cond.code yX4_bestQuestion cX4_bestQuestion 8 (some .int) ∈ ak_Ws := ak_ws 867 (by decide +kernel) rfl
theorem wd_111 : Cond.methodLinkNest RX4 65 yX9_with "GreetedMirrors" ∈ lw_tbl := List.mem_of_getElem? (i := 882) (by decide +kernel)
theorem wd_112 : Cond.code yX4_namesThatFit cX4_namesThatFit 5 (some .int) ∈ ak_Ws := ak_ws 881 (by decide +kernel) rfl
theorem wd_113 : Cond.fieldLink RX5 11 "GreetedMirrors$Past" "ring" "[LGreetedMirrors$State;" ∈ ak_Ws := ak_ws 292 (by decide +kernel) rfl
theorem wd_114 : Cond.classLink RX5 9 RX8 ∈ ak_Ws := ak_ws 289 (by decide +kernel) rfl
theorem wd_115 : Cond.methodLinkNest RX5 17 yX8_init "GreetedMirrors" ∈ lw_tbl := List.mem_of_getElem? (i := 291) (by decide +kernel)
theorem wd_116 : Cond.methodLink RX5 3 Lib.objectInit ∈ ak_Ws := ak_ws 288 (by decide +kernel) rfl
theorem wd_117 : Cond.code yX5_init cX5_init 2 none ∈ ak_Ws := ak_ws 287 (by decide +kernel) rfl
theorem wd_118 : Cond.code yX5_stateAt cX5_stateAt 2 (some (.object "GreetedMirrors$State")) ∈ ak_Ws := ak_ws 642 (by decide +kernel) rfl
theorem wd_119 : Cond.code yX9_copy cX9_copy 3 none ∈ ak_Ws := ak_ws 555 (by decide +kernel) rfl
theorem wd_120 : Cond.methodLinkNest RX8 55 yX9_copy "GreetedMirrors" ∈ lw_tbl := List.mem_of_getElem? (i := 553) (by decide +kernel)
theorem wd_121 : Cond.static yX9_copy ∈ ak_Ws := ak_ws 554 (by decide +kernel) rfl
theorem wd_122 : Cond.fieldLink RX8 46 "GreetedMirrors$State" "breath" "I" ∈ ak_Ws := ak_ws 244 (by decide +kernel) rfl
theorem wd_123 : Cond.fieldLink RX8 49 "GreetedMirrors$State" "nights" "I" ∈ ak_Ws := ak_ws 246 (by decide +kernel) rfl
theorem wd_124 : Cond.fieldLink RX8 24 "GreetedMirrors$State" "room" "I" ∈ ak_Ws := ak_ws 228 (by decide +kernel) rfl
theorem wd_125 : Cond.fieldLink RX8 33 "GreetedMirrors$State" "known" "I" ∈ ak_Ws := ak_ws 231 (by decide +kernel) rfl
theorem wd_126 : Cond.fieldLink RX8 34 "GreetedMirrors$State" "lit" "I" ∈ ak_Ws := ak_ws 234 (by decide +kernel) rfl
theorem wd_127 : Cond.fieldLink RX8 37 "GreetedMirrors$State" "spoilt" "I" ∈ ak_Ws := ak_ws 237 (by decide +kernel) rfl
theorem wd_128 : Cond.fieldLink RX8 40 "GreetedMirrors$State" "steamed" "I" ∈ ak_Ws := ak_ws 240 (by decide +kernel) rfl
theorem wd_129 : Cond.fieldLink RX8 43 "GreetedMirrors$State" "shut" "I" ∈ ak_Ws := ak_ws 242 (by decide +kernel) rfl
theorem wd_130 : Cond.code yX8_become cX8_become 2 none ∈ ak_Ws := ak_ws 646 (by decide +kernel) rfl
theorem wd_131 : Cond.fieldLink RX5 18 "GreetedMirrors$Past" "next" "I" ∈ ak_Ws := ak_ws 293 (by decide +kernel) rfl
theorem wd_132 : Cond.fieldLink RX5 30 "GreetedMirrors$Past" "count" "I" ∈ ak_Ws := ak_ws 294 (by decide +kernel) rfl
theorem wd_133 : Cond.methodLink RX5 33 Lib.Math.min.name ∈ ak_Ws := ak_ws 647 (by decide +kernel) rfl
theorem wd_134 : Cond.static Lib.Math.min.name ∈ ak_Ws := ak_ws 648 (by decide +kernel) rfl
theorem wd_135 : Cond.code Lib.Math.min.name Lib.Math.min.code 2 (some .int) ∈ ak_Ws := ak_ws 649 (by decide +kernel) rfl
theorem wd_136 : Cond.methodLink RX5 22 yX5_stateAt ∈ ak_Ws := ak_ws 639 (by decide +kernel) rfl
theorem wd_137 : Cond.initialized RX5 ∈ ak_Ws := ak_ws 107 (by decide +kernel) rfl
theorem wd_138 : Cond.instanceMethod yX5_stateAt ∈ ak_Ws := ak_ws 641 (by decide +kernel) rfl
theorem wd_139 : Cond.selects RX5 yX5_stateAt yX5_stateAt ∈ ak_Ws := ak_ws 34 (by decide +kernel) rfl
theorem wd_140 : Cond.methodLinkNest RX5 26 yX8_become "GreetedMirrors" ∈ lw_tbl := List.mem_of_getElem? (i := 643) (by decide +kernel)
theorem wd_141 : Cond.instanceMethod yX8_become ∈ ak_Ws := ak_ws 645 (by decide +kernel) rfl
theorem wd_142 : Cond.selects RX8 yX8_become yX8_become ∈ ak_Ws := ak_ws 35 (by decide +kernel) rfl
theorem wd_143 : Cond.code yX5_push cX5_push 3 none ∈ ak_Ws := ak_ws 638 (by decide +kernel) rfl
theorem wd_144 : Cond.constant RX5 39 (-1000000003) ∈ ak_Ws := ak_ws 727 (by decide +kernel) rfl
theorem wd_145 : Cond.code yX5_pop cX5_pop 4 (some .int) ∈ ak_Ws := ak_ws 726 (by decide +kernel) rfl
theorem wd_146 : Cond.code yX5_forget cX5_forget 1 none ∈ ak_Ws := ak_ws 560 (by decide +kernel) rfl
theorem wd_147 : Cond.methodLink RX6 3 Lib.objectInit ∈ ak_Ws := ak_ws 128 (by decide +kernel) rfl
theorem wd_148 : Cond.fieldLink RX6 9 "GreetedMirrors$Reader" "letters" "[I" ∈ ak_Ws := ak_ws 129 (by decide +kernel) rfl
theorem wd_149 : Cond.fieldLink RX6 15 "GreetedMirrors$Reader" "faultPlace" "I" ∈ ak_Ws := ak_ws 135 (by decide +kernel) rfl
theorem wd_150 : Cond.code yX6_init cX6_init 1 none ∈ ak_Ws := ak_ws 127 (by decide +kernel) rfl
theorem wd_151 : Cond.fieldLink RX6 19 "GreetedMirrors$Reader" "length" "I" ∈ ak_Ws := ak_ws 130 (by decide +kernel) rfl
theorem wd_152 : Cond.methodLinkNest RX6 22 yX9_put "GreetedMirrors" ∈ lw_tbl := List.mem_of_getElem? (i := 446) (by decide +kernel)
theorem wd_153 : Cond.code yX6_append cX6_append 2 (some .int) ∈ ak_Ws := ak_ws 445 (by decide +kernel) rfl
theorem wd_154 : Cond.fieldLink RX6 31 "GreetedMirrors$Reader" "place" "I" ∈ ak_Ws := ak_ws 132 (by decide +kernel) rfl
theorem wd_155 : Cond.code yX6_here cX6_here 1 (some .int) ∈ ak_Ws := ak_ws 471 (by decide +kernel) rfl
theorem wd_156 : Cond.methodLink RX6 51 yX6_here ∈ ak_Ws := ak_ws 468 (by decide +kernel) rfl
theorem wd_157 : Cond.initialized RX6 ∈ ak_Ws := ak_ws 104 (by decide +kernel) rfl
theorem wd_158 : Cond.instanceMethod yX6_here ∈ ak_Ws := ak_ws 470 (by decide +kernel) rfl
theorem wd_159 : Cond.selects RX6 yX6_here yX6_here ∈ ak_Ws := ak_ws 4 (by decide +kernel) rfl
theorem wd_160 : Cond.code yX6_skipBlanks cX6_skipBlanks 1 none ∈ ak_Ws := ak_ws 467 (by decide +kernel) rfl
theorem wd_161 : Cond.code yX6_isWord cX6_isWord 2 (some .boolean) ∈ ak_Ws := ak_ws 479 (by decide +kernel) rfl
theorem wd_162 : Cond.fieldLink RX6 34 "GreetedMirrors$Reader" "fault" "I" ∈ ak_Ws := ak_ws 134 (by decide +kernel) rfl
theorem wd_163 : Cond.code yX6_mark cX6_mark 3 none ∈ ak_Ws := ak_ws 483 (by decide +kernel) rfl
theorem wd_164 : Cond.fieldLinkNest RX6 70 "GreetedMirrors$House" "doors" "I" "GreetedMirrors" ∈ lw_tbl := List.mem_of_getElem? (i := 166) (by decide +kernel)
theorem wd_165 : Cond.fieldLinkNest RX6 55 "GreetedMirrors$House" "rooms" "I" "GreetedMirrors" ∈ lw_tbl := List.mem_of_getElem? (i := 158) (by decide +kernel)
theorem wd_166 : Cond.fieldLinkNest RX6 73 "GreetedMirrors$House" "mirrors" "I" "GreetedMirrors" ∈ lw_tbl := List.mem_of_getElem? (i := 172) (by decide +kernel)
theorem wd_167 : Cond.fieldLinkNest RX6 76 "GreetedMirrors$House" "persons" "I" "GreetedMirrors" ∈ lw_tbl := List.mem_of_getElem? (i := 175) (by decide +kernel)
theorem wd_168 : Cond.code yX6_isOneTooMany cX6_isOneTooMany 3 (some .boolean) ∈ ak_Ws := ak_ws 487 (by decide +kernel) rfl
theorem wd_169 : Cond.methodLink RX6 62 yX6_mark ∈ ak_Ws := ak_ws 480 (by decide +kernel) rfl
theorem wd_170 : Cond.instanceMethod yX6_mark ∈ ak_Ws := ak_ws 482 (by decide +kernel) rfl
theorem wd_171 : Cond.selects RX6 yX6_mark yX6_mark ∈ ak_Ws := ak_ws 7 (by decide +kernel) rfl
theorem wd_172 : Cond.methodLink RX6 66 yX6_isOneTooMany ∈ ak_Ws := ak_ws 484 (by decide +kernel) rfl
theorem wd_173 : Cond.instanceMethod yX6_isOneTooMany ∈ ak_Ws := ak_ws 486 (by decide +kernel) rfl
theorem wd_174 : Cond.selects RX6 yX6_isOneTooMany yX6_isOneTooMany ∈ ak_Ws := ak_ws 8 (by decide +kernel) rfl
theorem wd_175 : Cond.methodLink RX6 58 yX6_isWord ∈ ak_Ws := ak_ws 476 (by decide +kernel) rfl
theorem wd_176 : Cond.instanceMethod yX6_isWord ∈ ak_Ws := ak_ws 478 (by decide +kernel) rfl
theorem wd_177 : Cond.selects RX6 yX6_isWord yX6_isWord ∈ ak_Ws := ak_ws 6 (by decide +kernel) rfl
theorem wd_178 : Cond.code yX6_readWord cX6_readWord 4 (some .int) ∈ ak_Ws := ak_ws 475 (by decide +kernel) rfl
theorem wd_179 : Cond.code yX6_isFigure cX6_isFigure 2 (some .boolean) ∈ ak_Ws := ak_ws 503 (by decide +kernel) rfl
theorem wd_180 : Cond.fieldLink RX6 109 "GreetedMirrors$Reader" "numberPlace" "I" ∈ ak_Ws := ak_ws 133 (by decide +kernel) rfl
theorem wd_181 : Cond.methodLink RX6 135 yX6_isFigure ∈ ak_Ws := ak_ws 500 (by decide +kernel) rfl
theorem wd_182 : Cond.instanceMethod yX6_isFigure ∈ ak_Ws := ak_ws 502 (by decide +kernel) rfl
theorem wd_183 : Cond.selects RX6 yX6_isFigure yX6_isFigure ∈ ak_Ws := ak_ws 12 (by decide +kernel) rfl
theorem wd_184 : Cond.methodLink RX6 37 yX6_skipBlanks ∈ ak_Ws := ak_ws 464 (by decide +kernel) rfl
theorem wd_185 : Cond.instanceMethod yX6_skipBlanks ∈ ak_Ws := ak_ws 466 (by decide +kernel) rfl
theorem wd_186 : Cond.selects RX6 yX6_skipBlanks yX6_skipBlanks ∈ ak_Ws := ak_ws 3 (by decide +kernel) rfl
theorem wd_187 : Cond.code yX6_readNumber cX6_readNumber 5 (some .int) ∈ ak_Ws := ak_ws 499 (by decide +kernel) rfl
theorem wd_188 : Cond.methodLink RX6 98 yX6_readNumber ∈ ak_Ws := ak_ws 496 (by decide +kernel) rfl
theorem wd_189 : Cond.instanceMethod yX6_readNumber ∈ ak_Ws := ak_ws 498 (by decide +kernel) rfl
theorem wd_190 : Cond.selects RX6 yX6_readNumber yX6_readNumber ∈ ak_Ws := ak_ws 11 (by decide +kernel) rfl
theorem wd_191 : Cond.fieldLinkNest RX6 102 "GreetedMirrors$House" "known" "I" "GreetedMirrors" ∈ lw_tbl := List.mem_of_getElem? (i := 163) (by decide +kernel)
theorem wd_192 : Cond.code yX6_readRooms cX6_readRooms 2 none ∈ ak_Ws := ak_ws 495 (by decide +kernel) rfl
theorem wd_193 : Cond.methodLinkNest RX6 112 yX2_addDoor "GreetedMirrors" ∈ lw_tbl := List.mem_of_getElem? (i := 515) (by decide +kernel)
theorem wd_194 : Cond.initialized RX2 ∈ ak_Ws := ak_ws 105 (by decide +kernel) rfl
theorem wd_195 : Cond.instanceMethod yX2_addDoor ∈ ak_Ws := ak_ws 517 (by decide +kernel) rfl
theorem wd_196 : Cond.selects RX2 yX2_addDoor yX2_addDoor ∈ ak_Ws := ak_ws 15 (by decide +kernel) rfl
theorem wd_197 : Cond.methodLinkNest RX6 105 yX2_haveDoor "GreetedMirrors" ∈ lw_tbl := List.mem_of_getElem? (i := 508) (by decide +kernel)
theorem wd_198 : Cond.instanceMethod yX2_haveDoor ∈ ak_Ws := ak_ws 510 (by decide +kernel) rfl
theorem wd_199 : Cond.selects RX2 yX2_haveDoor yX2_haveDoor ∈ ak_Ws := ak_ws 14 (by decide +kernel) rfl
theorem wd_200 : Cond.code yX6_readDoor cX6_readDoor 4 none ∈ ak_Ws := ak_ws 507 (by decide +kernel) rfl
theorem wd_201 : Cond.methodLinkNest RX6 115 yX2_addMirror "GreetedMirrors" ∈ lw_tbl := List.mem_of_getElem? (i := 524) (by decide +kernel)
theorem wd_202 : Cond.instanceMethod yX2_addMirror ∈ ak_Ws := ak_ws 526 (by decide +kernel) rfl
theorem wd_203 : Cond.selects RX2 yX2_addMirror yX2_addMirror ∈ ak_Ws := ak_ws 17 (by decide +kernel) rfl
theorem wd_204 : Cond.code yX6_readMirror cX6_readMirror 4 none ∈ ak_Ws := ak_ws 523 (by decide +kernel) rfl
theorem wd_205 : Cond.fieldLinkNest RX6 118 "GreetedMirrors$House" "opposite" "[I" "GreetedMirrors" ∈ lw_tbl := List.mem_of_getElem? (i := 192) (by decide +kernel)
theorem wd_206 : Cond.methodLinkNest RX6 121 yX9_at "GreetedMirrors" ∈ lw_tbl := List.mem_of_getElem? (i := 532) (by decide +kernel)
theorem wd_207 : Cond.fieldLinkNest RX6 125 "GreetedMirrors$House" "mirrorRoom" "[I" "GreetedMirrors" ∈ lw_tbl := List.mem_of_getElem? (i := 186) (by decide +kernel)
theorem wd_208 : Cond.code yX6_readOpposite cX6_readOpposite 4 none ∈ ak_Ws := ak_ws 531 (by decide +kernel) rfl
theorem wd_209 : Cond.fieldLinkNest RX6 128 "GreetedMirrors$House" "nameBreath" "[I" "GreetedMirrors" ∈ lw_tbl := List.mem_of_getElem? (i := 194) (by decide +kernel)
theorem wd_210 : Cond.code yX6_readBreath cX6_readBreath 4 none ∈ ak_Ws := ak_ws 536 (by decide +kernel) rfl
theorem wd_211 : Cond.methodLinkNest RX6 131 yX2_addPerson "GreetedMirrors" ∈ lw_tbl := List.mem_of_getElem? (i := 541) (by decide +kernel)
theorem wd_212 : Cond.instanceMethod yX2_addPerson ∈ ak_Ws := ak_ws 543 (by decide +kernel) rfl
theorem wd_213 : Cond.selects RX2 yX2_addPerson yX2_addPerson ∈ ak_Ws := ak_ws 21 (by decide +kernel) rfl
theorem wd_214 : Cond.code yX6_readPerson cX6_readPerson 3 none ∈ ak_Ws := ak_ws 540 (by decide +kernel) rfl
theorem wd_215 : Cond.methodLink RX6 92 yX6_readBreath ∈ ak_Ws := ak_ws 533 (by decide +kernel) rfl
theorem wd_216 : Cond.instanceMethod yX6_readBreath ∈ ak_Ws := ak_ws 535 (by decide +kernel) rfl
theorem wd_217 : Cond.selects RX6 yX6_readBreath yX6_readBreath ∈ ak_Ws := ak_ws 19 (by decide +kernel) rfl
theorem wd_218 : Cond.methodLink RX6 83 yX6_readDoor ∈ ak_Ws := ak_ws 504 (by decide +kernel) rfl
theorem wd_219 : Cond.instanceMethod yX6_readDoor ∈ ak_Ws := ak_ws 506 (by decide +kernel) rfl
theorem wd_220 : Cond.selects RX6 yX6_readDoor yX6_readDoor ∈ ak_Ws := ak_ws 13 (by decide +kernel) rfl
theorem wd_221 : Cond.methodLink RX6 79 yX6_readRooms ∈ ak_Ws := ak_ws 492 (by decide +kernel) rfl
theorem wd_222 : Cond.instanceMethod yX6_readRooms ∈ ak_Ws := ak_ws 494 (by decide +kernel) rfl
theorem wd_223 : Cond.selects RX6 yX6_readRooms yX6_readRooms ∈ ak_Ws := ak_ws 10 (by decide +kernel) rfl
theorem wd_224 : Cond.methodLink RX6 86 yX6_readMirror ∈ ak_Ws := ak_ws 520 (by decide +kernel) rfl
theorem wd_225 : Cond.instanceMethod yX6_readMirror ∈ ak_Ws := ak_ws 522 (by decide +kernel) rfl
theorem wd_226 : Cond.selects RX6 yX6_readMirror yX6_readMirror ∈ ak_Ws := ak_ws 16 (by decide +kernel) rfl
theorem wd_227 : Cond.methodLink RX6 89 yX6_readOpposite ∈ ak_Ws := ak_ws 528 (by decide +kernel) rfl
theorem wd_228 : Cond.instanceMethod yX6_readOpposite ∈ ak_Ws := ak_ws 530 (by decide +kernel) rfl
theorem wd_229 : Cond.selects RX6 yX6_readOpposite yX6_readOpposite ∈ ak_Ws := ak_ws 18 (by decide +kernel) rfl
theorem wd_230 : Cond.methodLink RX6 95 yX6_readPerson ∈ ak_Ws := ak_ws 537 (by decide +kernel) rfl
theorem wd_231 : Cond.instanceMethod yX6_readPerson ∈ ak_Ws := ak_ws 539 (by decide +kernel) rfl
theorem wd_232 : Cond.selects RX6 yX6_readPerson yX6_readPerson ∈ ak_Ws := ak_ws 20 (by decide +kernel) rfl
theorem wd_233 : Cond.code yX6_readNumbers cX6_readNumbers 3 none ∈ ak_Ws := ak_ws 491 (by decide +kernel) rfl
theorem wd_234 : Cond.code yX6_readEnd cX6_readEnd 1 none ∈ ak_Ws := ak_ws 548 (by decide +kernel) rfl
theorem wd_235 : Cond.methodLink RX6 40 yX6_readWord ∈ ak_Ws := ak_ws 472 (by decide +kernel) rfl
theorem wd_236 : Cond.instanceMethod yX6_readWord ∈ ak_Ws := ak_ws 474 (by decide +kernel) rfl
theorem wd_237 : Cond.selects RX6 yX6_readWord yX6_readWord ∈ ak_Ws := ak_ws 5 (by decide +kernel) rfl
theorem wd_238 : Cond.methodLink RX6 44 yX6_readNumbers ∈ ak_Ws := ak_ws 488 (by decide +kernel) rfl
theorem wd_239 : Cond.instanceMethod yX6_readNumbers ∈ ak_Ws := ak_ws 490 (by decide +kernel) rfl
theorem wd_240 : Cond.selects RX6 yX6_readNumbers yX6_readNumbers ∈ ak_Ws := ak_ws 9 (by decide +kernel) rfl
theorem wd_241 : Cond.methodLink RX6 48 yX6_readEnd ∈ ak_Ws := ak_ws 545 (by decide +kernel) rfl
theorem wd_242 : Cond.instanceMethod yX6_readEnd ∈ ak_Ws := ak_ws 547 (by decide +kernel) rfl
theorem wd_243 : Cond.selects RX6 yX6_readEnd yX6_readEnd ∈ ak_Ws := ak_ws 22 (by decide +kernel) rfl
theorem wd_244 : Cond.methodLinkNest RX6 26 yX2_empty "GreetedMirrors" ∈ lw_tbl := List.mem_of_getElem? (i := 457) (by decide +kernel)
theorem wd_245 : Cond.instanceMethod yX2_empty ∈ ak_Ws := ak_ws 459 (by decide +kernel) rfl
theorem wd_246 : Cond.selects RX2 yX2_empty yX2_empty ∈ ak_Ws := ak_ws 2 (by decide +kernel) rfl
theorem wd_247 : Cond.code yX6_readInto cX6_readInto 4 (some .int) ∈ ak_Ws := ak_ws 456 (by decide +kernel) rfl
theorem wd_248 : Cond.methodLink RX7 3 Lib.objectInit ∈ ak_Ws := ak_ws 327 (by decide +kernel) rfl
theorem wd_249 : Cond.fieldLink RX7 9 "GreetedMirrors$Rounds" "far" "[I" ∈ ak_Ws := ak_ws 328 (by decide +kernel) rfl
theorem wd_250 : Cond.fieldLink RX7 15 "GreetedMirrors$Rounds" "here" "[I" ∈ ak_Ws := ak_ws 329 (by decide +kernel) rfl
theorem wd_251 : Cond.fieldLink RX7 18 "GreetedMirrors$Rounds" "way" "[I" ∈ ak_Ws := ak_ws 330 (by decide +kernel) rfl
theorem wd_252 : Cond.fieldLink RX7 21 "GreetedMirrors$Rounds" "least" "[I" ∈ ak_Ws := ak_ws 331 (by decide +kernel) rfl
theorem wd_253 : Cond.code yX7_init cX7_init 1 none ∈ ak_Ws := ak_ws 326 (by decide +kernel) rfl
theorem wd_254 : Cond.code yX9_has cX9_has 2 (some .boolean) ∈ ak_Ws := ak_ws 612 (by decide +kernel) rfl
theorem wd_255 : Cond.methodLinkNest RX8 84 yX9_with "GreetedMirrors" ∈ lw_tbl := List.mem_of_getElem? (i := 623) (by decide +kernel)
theorem wd_256 : Cond.fieldLinkNest RX8 92 "GreetedMirrors$House" "doors" "I" "GreetedMirrors" ∈ lw_tbl := List.mem_of_getElem? (i := 167) (by decide +kernel)
theorem wd_257 : Cond.methodLinkNest RX8 76 yX9_has "GreetedMirrors" ∈ lw_tbl := List.mem_of_getElem? (i := 621) (by decide +kernel)
theorem wd_258 : Cond.static yX9_has ∈ ak_Ws := ak_ws 611 (by decide +kernel) rfl
theorem wd_259 : Cond.fieldLinkNest RX8 95 "GreetedMirrors$House" "doorFrom" "[I" "GreetedMirrors" ∈ lw_tbl := List.mem_of_getElem? (i := 178) (by decide +kernel)
theorem wd_260 : Cond.methodLinkNest RX8 64 yX9_at "GreetedMirrors" ∈ lw_tbl := List.mem_of_getElem? (i := 622) (by decide +kernel)
theorem wd_261 : Cond.fieldLinkNest RX8 98 "GreetedMirrors$House" "doorTo" "[I" "GreetedMirrors" ∈ lw_tbl := List.mem_of_getElem? (i := 181) (by decide +kernel)
theorem wd_262 : Cond.code yX8_openBeside cX8_openBeside 7 (some .int) ∈ ak_Ws := ak_ws 620 (by decide +kernel) rfl
theorem wd_263 : Cond.fieldLinkNest RX7 65 "GreetedMirrors$House" "rooms" "I" "GreetedMirrors" ∈ lw_tbl := List.mem_of_getElem? (i := 159) (by decide +kernel)
theorem wd_264 : Cond.methodLinkNest RX7 68 yX9_has "GreetedMirrors" ∈ lw_tbl := List.mem_of_getElem? (i := 750) (by decide +kernel)
theorem wd_265 : Cond.methodLinkNest RX7 72 yX9_put "GreetedMirrors" ∈ lw_tbl := List.mem_of_getElem? (i := 751) (by decide +kernel)
theorem wd_266 : Cond.methodLinkNest RX7 76 yX8_openBeside "GreetedMirrors" ∈ lw_tbl := List.mem_of_getElem? (i := 752) (by decide +kernel)
theorem wd_267 : Cond.instanceMethod yX8_openBeside ∈ ak_Ws := ak_ws 619 (by decide +kernel) rfl
theorem wd_268 : Cond.selects RX8 yX8_openBeside yX8_openBeside ∈ ak_Ws := ak_ws 31 (by decide +kernel) rfl
theorem wd_269 : Cond.methodLinkNest RX7 61 yX9_fill "GreetedMirrors" ∈ lw_tbl := List.mem_of_getElem? (i := 748) (by decide +kernel)
theorem wd_270 : Cond.methodLinkNest RX7 57 yX9_with "GreetedMirrors" ∈ lw_tbl := List.mem_of_getElem? (i := 749) (by decide +kernel)
theorem wd_271 : Cond.code yX7_measureFrom cX7_measureFrom 9 none ∈ ak_Ws := ak_ws 747 (by decide +kernel) rfl
theorem wd_272 : Cond.methodLinkNest RX7 49 yX9_at "GreetedMirrors" ∈ lw_tbl := List.mem_of_getElem? (i := 754) (by decide +kernel)
theorem wd_273 : Cond.code yX7_fromHere cX7_fromHere 2 (some .int) ∈ ak_Ws := ak_ws 758 (by decide +kernel) rfl
theorem wd_274 : Cond.fieldLinkNest RX7 41 "GreetedMirrors$House" "mirrors" "I" "GreetedMirrors" ∈ lw_tbl := List.mem_of_getElem? (i := 169) (by decide +kernel)
theorem wd_275 : Cond.fieldLinkNest RX7 46 "GreetedMirrors$House" "mirrorRoom" "[I" "GreetedMirrors" ∈ lw_tbl := List.mem_of_getElem? (i := 184) (by decide +kernel)
theorem wd_276 : Cond.methodLink RX7 53 yX7_fromHere ∈ ak_Ws := ak_ws 755 (by decide +kernel) rfl
theorem wd_277 : Cond.initialized RX7 ∈ ak_Ws := ak_ws 109 (by decide +kernel) rfl
theorem wd_278 : Cond.instanceMethod yX7_fromHere ∈ ak_Ws := ak_ws 757 (by decide +kernel) rfl
theorem wd_279 : Cond.selects RX7 yX7_fromHere yX7_fromHere ∈ ak_Ws := ak_ws 48 (by decide +kernel) rfl
theorem wd_280 : Cond.fieldLink RX7 38 "GreetedMirrors$Rounds" "reachable" "I" ∈ ak_Ws := ak_ws 332 (by decide +kernel) rfl
theorem wd_281 : Cond.fieldLinkNest RX7 24 "GreetedMirrors$State" "room" "I" "GreetedMirrors" ∈ lw_tbl := List.mem_of_getElem? (i := 229) (by decide +kernel)
theorem wd_282 : Cond.methodLink RX7 30 yX7_measureFrom ∈ ak_Ws := ak_ws 744 (by decide +kernel) rfl
theorem wd_283 : Cond.instanceMethod yX7_measureFrom ∈ ak_Ws := ak_ws 746 (by decide +kernel) rfl
theorem wd_284 : Cond.selects RX7 yX7_measureFrom yX7_measureFrom ∈ ak_Ws := ak_ws 47 (by decide +kernel) rfl
theorem wd_285 : Cond.methodLinkNest RX7 34 yX9_copy "GreetedMirrors" ∈ lw_tbl := List.mem_of_getElem? (i := 753) (by decide +kernel)
theorem wd_286 : Cond.code yX7_measure cX7_measure 4 none ∈ ak_Ws := ak_ws 743 (by decide +kernel) rfl
theorem wd_287 : Cond.fieldLinkNest RX7 80 "GreetedMirrors$State" "known" "I" "GreetedMirrors" ∈ lw_tbl := List.mem_of_getElem? (i := 232) (by decide +kernel)
theorem wd_288 : Cond.fieldLinkNest RX7 83 "GreetedMirrors$State" "name" "[I" "GreetedMirrors" ∈ lw_tbl := List.mem_of_getElem? (i := 250) (by decide +kernel)
theorem wd_289 : Cond.fieldLinkNest RX7 86 "GreetedMirrors$State" "spoilt" "I" "GreetedMirrors" ∈ lw_tbl := List.mem_of_getElem? (i := 238) (by decide +kernel)
theorem wd_290 : Cond.code yX7_canGreet cX7_canGreet 3 (some .boolean) ∈ ak_Ws := ak_ws 762 (by decide +kernel) rfl
theorem wd_291 : Cond.fieldLink RX7 93 "GreetedMirrors$Rounds" "wanted" "I" ∈ ak_Ws := ak_ws 333 (by decide +kernel) rfl
theorem wd_292 : Cond.code yX7_measureWays cX7_measureWays 5 none ∈ ak_Ws := ak_ws 766 (by decide +kernel) rfl
theorem wd_293 : Cond.code yX7_leastFrom cX7_leastFrom 3 (some .int) ∈ ak_Ws := ak_ws 784 (by decide +kernel) rfl
theorem wd_294 : Cond.constant RX7 115 1000000 ∈ ak_Ws := ak_ws 775 (by decide +kernel) rfl
theorem wd_295 : Cond.methodLink RX7 111 yX7_leastFrom ∈ ak_Ws := ak_ws 781 (by decide +kernel) rfl
theorem wd_296 : Cond.instanceMethod yX7_leastFrom ∈ ak_Ws := ak_ws 783 (by decide +kernel) rfl
theorem wd_297 : Cond.selects RX7 yX7_leastFrom yX7_leastFrom ∈ ak_Ws := ak_ws 54 (by decide +kernel) rfl
theorem wd_298 : Cond.methodLink RX7 124 Lib.Math.min.name ∈ ak_Ws := ak_ws 785 (by decide +kernel) rfl
theorem wd_299 : Cond.methodLinkNest RX7 129 yX2_hungAhead "GreetedMirrors" ∈ lw_tbl := List.mem_of_getElem? (i := 780) (by decide +kernel)
theorem wd_300 : Cond.instanceMethod yX2_hungAhead ∈ ak_Ws := ak_ws 679 (by decide +kernel) rfl
theorem wd_301 : Cond.selects RX2 yX2_hungAhead yX2_hungAhead ∈ ak_Ws := ak_ws 40 (by decide +kernel) rfl
theorem wd_302 : Cond.fieldLink RX7 99 "GreetedMirrors$Rounds" "lit" "I" ∈ ak_Ws := ak_ws 334 (by decide +kernel) rfl
theorem wd_303 : Cond.code yX7_stepsBy cX7_stepsBy 7 (some .int) ∈ ak_Ws := ak_ws 779 (by decide +kernel) rfl
theorem wd_304 : Cond.methodLink RX7 120 yX7_stepsBy ∈ ak_Ws := ak_ws 776 (by decide +kernel) rfl
theorem wd_305 : Cond.instanceMethod yX7_stepsBy ∈ ak_Ws := ak_ws 778 (by decide +kernel) rfl
theorem wd_306 : Cond.selects RX7 yX7_stepsBy yX7_stepsBy ∈ ak_Ws := ak_ws 53 (by decide +kernel) rfl
theorem wd_307 : Cond.code yX7_weighFrom cX7_weighFrom 6 (some .int) ∈ ak_Ws := ak_ws 774 (by decide +kernel) rfl
theorem wd_308 : Cond.methodLink RX7 116 yX7_weighFrom ∈ ak_Ws := ak_ws 771 (by decide +kernel) rfl
theorem wd_309 : Cond.instanceMethod yX7_weighFrom ∈ ak_Ws := ak_ws 773 (by decide +kernel) rfl
theorem wd_310 : Cond.selects RX7 yX7_weighFrom yX7_weighFrom ∈ ak_Ws := ak_ws 52 (by decide +kernel) rfl
theorem wd_311 : Cond.code yX7_weigh cX7_weigh 4 none ∈ ak_Ws := ak_ws 770 (by decide +kernel) rfl
theorem wd_312 : Cond.methodLink RX7 107 yX7_weigh ∈ ak_Ws := ak_ws 767 (by decide +kernel) rfl
theorem wd_313 : Cond.instanceMethod yX7_weigh ∈ ak_Ws := ak_ws 769 (by decide +kernel) rfl
theorem wd_314 : Cond.selects RX7 yX7_weigh yX7_weigh ∈ ak_Ws := ak_ws 51 (by decide +kernel) rfl
theorem wd_315 : Cond.methodLink RX7 104 yX7_measureWays ∈ ak_Ws := ak_ws 763 (by decide +kernel) rfl
theorem wd_316 : Cond.instanceMethod yX7_measureWays ∈ ak_Ws := ak_ws 765 (by decide +kernel) rfl
theorem wd_317 : Cond.selects RX7 yX7_measureWays yX7_measureWays ∈ ak_Ws := ak_ws 50 (by decide +kernel) rfl
theorem wd_318 : Cond.methodLink RX7 100 yX7_canGreet ∈ ak_Ws := ak_ws 759 (by decide +kernel) rfl
theorem wd_319 : Cond.instanceMethod yX7_canGreet ∈ ak_Ws := ak_ws 761 (by decide +kernel) rfl
theorem wd_320 : Cond.selects RX7 yX7_canGreet yX7_canGreet ∈ ak_Ws := ak_ws 49 (by decide +kernel) rfl
theorem wd_321 : Cond.methodLink RX7 89 yX7_measure ∈ ak_Ws := ak_ws 740 (by decide +kernel) rfl
theorem wd_322 : Cond.instanceMethod yX7_measure ∈ ak_Ws := ak_ws 742 (by decide +kernel) rfl
theorem wd_323 : Cond.selects RX7 yX7_measure yX7_measure ∈ ak_Ws := ak_ws 46 (by decide +kernel) rfl
theorem wd_324 : Cond.fieldLinkNest RX7 96 "GreetedMirrors$State" "lit" "I" "GreetedMirrors" ∈ lw_tbl := List.mem_of_getElem? (i := 236) (by decide +kernel)
theorem wd_325 : Cond.code yX7_plan cX7_plan 5 (some .boolean) ∈ ak_Ws := ak_ws 739 (by decide +kernel) rfl
theorem wd_326 : Cond.methodLinkNest RX7 132 yX2_breathOf "GreetedMirrors" ∈ lw_tbl := List.mem_of_getElem? (i := 790) (by decide +kernel)
theorem wd_327 : Cond.instanceMethod yX2_breathOf ∈ ak_Ws := ak_ws 659 (by decide +kernel) rfl
theorem wd_328 : Cond.selects RX2 yX2_breathOf yX2_breathOf ∈ ak_Ws := ak_ws 36 (by decide +kernel) rfl
theorem wd_329 : Cond.code yX7_breath cX7_breath 5 (some .int) ∈ ak_Ws := ak_ws 789 (by decide +kernel) rfl
theorem wd_330 : Cond.code yX7_nextOf cX7_nextOf 6 (some .int) ∈ ak_Ws := ak_ws 798 (by decide +kernel) rfl
theorem wd_331 : Cond.methodLink RX7 135 yX7_nextOf ∈ ak_Ws := ak_ws 795 (by decide +kernel) rfl
theorem wd_332 : Cond.instanceMethod yX7_nextOf ∈ ak_Ws := ak_ws 797 (by decide +kernel) rfl
theorem wd_333 : Cond.selects RX7 yX7_nextOf yX7_nextOf ∈ ak_Ws := ak_ws 57 (by decide +kernel) rfl
theorem wd_334 : Cond.code yX7_mirrorAt cX7_mirrorAt 7 (some .int) ∈ ak_Ws := ak_ws 794 (by decide +kernel) rfl
theorem wd_335 : Cond.fieldLinkNest RX8 52 "GreetedMirrors$House" "toldName" "[I" "GreetedMirrors" ∈ lw_tbl := List.mem_of_getElem? (i := 188) (by decide +kernel)
theorem wd_336 : Cond.methodLinkNest RX8 59 yX9_fill "GreetedMirrors" ∈ lw_tbl := List.mem_of_getElem? (i := 556) (by decide +kernel)
theorem wd_337 : Cond.fieldLinkNest RX8 63 "GreetedMirrors$House" "personRoom" "[I" "GreetedMirrors" ∈ lw_tbl := List.mem_of_getElem? (i := 196) (by decide +kernel)
theorem wd_338 : Cond.fieldLinkNest RX8 28 "GreetedMirrors$House" "known" "I" "GreetedMirrors" ∈ lw_tbl := List.mem_of_getElem? (i := 162) (by decide +kernel)
theorem wd_339 : Cond.code yX8_startIn cX8_startIn 2 none ∈ ak_Ws := ak_ws 552 (by decide +kernel) rfl
theorem wd_340 : Cond.methodLinkNest RX8 88 yX9_put "GreetedMirrors" ∈ lw_tbl := List.mem_of_getElem? (i := 672) (by decide +kernel)
theorem wd_341 : Cond.code yX8_endCount cX8_endCount 2 none ∈ ak_Ws := ak_ws 676 (by decide +kernel) rfl
theorem wd_342 : Cond.methodLink RX8 72 yX8_endCount ∈ ak_Ws := ak_ws 673 (by decide +kernel) rfl
theorem wd_343 : Cond.instanceMethod yX8_endCount ∈ ak_Ws := ak_ws 675 (by decide +kernel) rfl
theorem wd_344 : Cond.selects RX8 yX8_endCount yX8_endCount ∈ ak_Ws := ak_ws 39 (by decide +kernel) rfl
theorem wd_345 : Cond.code yX8_countOther cX8_countOther 4 none ∈ ak_Ws := ak_ws 671 (by decide +kernel) rfl
theorem wd_346 : Cond.methodLinkNest RX8 80 yX2_hungAhead "GreetedMirrors" ∈ lw_tbl := List.mem_of_getElem? (i := 677) (by decide +kernel)
theorem wd_347 : Cond.methodLink RX8 68 yX8_countOther ∈ ak_Ws := ak_ws 668 (by decide +kernel) rfl
theorem wd_348 : Cond.instanceMethod yX8_countOther ∈ ak_Ws := ak_ws 670 (by decide +kernel) rfl
theorem wd_349 : Cond.selects RX8 yX8_countOther yX8_countOther ∈ ak_Ws := ak_ws 38 (by decide +kernel) rfl
theorem wd_350 : Cond.code yX8_hear cX8_hear 5 (some .boolean) ∈ ak_Ws := ak_ws 667 (by decide +kernel) rfl
theorem wd_351 : Cond.methodLink RX8 101 yX8_openBeside ∈ ak_Ws := ak_ws 617 (by decide +kernel) rfl
theorem wd_352 : Cond.code yX8_seenFrom cX8_seenFrom 3 (some .int) ∈ ak_Ws := ak_ws 616 (by decide +kernel) rfl
theorem wd_353 : Cond.fieldLinkNest RX8 105 "GreetedMirrors$House" "persons" "I" "GreetedMirrors" ∈ lw_tbl := List.mem_of_getElem? (i := 176) (by decide +kernel)
theorem wd_354 : Cond.code yX8_personsIn cX8_personsIn 5 (some .int) ∈ ak_Ws := ak_ws 822 (by decide +kernel) rfl
theorem wd_355 : Cond.classLink RX9 64 RX0 ∈ ak_Ws := ak_ws 374 (by decide +kernel) rfl
theorem wd_356 : Cond.instantiable RX0 3 ∈ ak_Ws := ak_ws 375 (by decide +kernel) rfl
theorem wd_357 : Cond.initialized RX0 ∈ ak_Ws := ak_ws 111 (by decide +kernel) rfl
theorem wd_358 : Cond.methodLinkNest RX9 66 yX0_init "GreetedMirrors" ∈ lw_tbl := List.mem_of_getElem? (i := 376) (by decide +kernel)
theorem wd_359 : Cond.instanceMethod yX0_init ∈ ak_Ws := ak_ws 377 (by decide +kernel) rfl
theorem wd_360 : Cond.fieldLink RX9 67 "GreetedMirrors" "book" "LGreetedMirrors$Book;" ∈ ak_Ws := ak_ws 411 (by decide +kernel) rfl
theorem wd_361 : Cond.classLink RX9 71 RX1 ∈ ak_Ws := ak_ws 391 (by decide +kernel) rfl
theorem wd_362 : Cond.instantiable RX1 1 ∈ ak_Ws := ak_ws 392 (by decide +kernel) rfl
theorem wd_363 : Cond.initialized RX1 ∈ ak_Ws := ak_ws 112 (by decide +kernel) rfl
theorem wd_364 : Cond.methodLinkNest RX9 73 yX1_init "GreetedMirrors" ∈ lw_tbl := List.mem_of_getElem? (i := 393) (by decide +kernel)
theorem wd_365 : Cond.instanceMethod yX1_init ∈ ak_Ws := ak_ws 394 (by decide +kernel) rfl
theorem wd_366 : Cond.fieldLink RX9 74 "GreetedMirrors" "draws" "LGreetedMirrors$Draws;" ∈ ak_Ws := ak_ws 412 (by decide +kernel) rfl
theorem wd_367 : Cond.methodLinkNest RX9 35 yX5_init "GreetedMirrors" ∈ lw_tbl := List.mem_of_getElem? (i := 285) (by decide +kernel)
theorem wd_368 : Cond.instanceMethod yX5_init ∈ ak_Ws := ak_ws 286 (by decide +kernel) rfl
theorem wd_369 : Cond.fieldLink RX9 36 "GreetedMirrors" "past" "LGreetedMirrors$Past;" ∈ ak_Ws := ak_ws 406 (by decide +kernel) rfl
theorem wd_370 : Cond.classLink RX9 40 RX3 ∈ ak_Ws := ak_ws 303 (by decide +kernel) rfl
theorem wd_371 : Cond.instantiable RX3 3 ∈ ak_Ws := ak_ws 304 (by decide +kernel) rfl
theorem wd_372 : Cond.initialized RX3 ∈ ak_Ws := ak_ws 108 (by decide +kernel) rfl
theorem wd_373 : Cond.methodLinkNest RX9 42 yX3_init "GreetedMirrors" ∈ lw_tbl := List.mem_of_getElem? (i := 305) (by decide +kernel)
theorem wd_374 : Cond.instanceMethod yX3_init ∈ ak_Ws := ak_ws 306 (by decide +kernel) rfl
theorem wd_375 : Cond.fieldLink RX9 43 "GreetedMirrors" "firstImage" "LGreetedMirrors$Image;" ∈ ak_Ws := ak_ws 407 (by decide +kernel) rfl
theorem wd_376 : Cond.fieldLink RX9 47 "GreetedMirrors" "secondImage" "LGreetedMirrors$Image;" ∈ ak_Ws := ak_ws 408 (by decide +kernel) rfl
theorem wd_377 : Cond.classLink RX9 50 RX7 ∈ ak_Ws := ak_ws 322 (by decide +kernel) rfl
theorem wd_378 : Cond.instantiable RX7 7 ∈ ak_Ws := ak_ws 323 (by decide +kernel) rfl
theorem wd_379 : Cond.methodLinkNest RX9 52 yX7_init "GreetedMirrors" ∈ lw_tbl := List.mem_of_getElem? (i := 324) (by decide +kernel)
theorem wd_380 : Cond.instanceMethod yX7_init ∈ ak_Ws := ak_ws 325 (by decide +kernel) rfl
theorem wd_381 : Cond.fieldLink RX9 53 "GreetedMirrors" "rounds" "LGreetedMirrors$Rounds;" ∈ ak_Ws := ak_ws 409 (by decide +kernel) rfl
theorem wd_382 : Cond.classLink RX9 57 RX4 ∈ ak_Ws := ak_ws 350 (by decide +kernel) rfl
theorem wd_383 : Cond.instantiable RX4 5 ∈ ak_Ws := ak_ws 351 (by decide +kernel) rfl
theorem wd_384 : Cond.methodLinkNest RX9 59 yX4_init "GreetedMirrors" ∈ lw_tbl := List.mem_of_getElem? (i := 352) (by decide +kernel)
theorem wd_385 : Cond.instanceMethod yX4_init ∈ ak_Ws := ak_ws 353 (by decide +kernel) rfl
theorem wd_386 : Cond.fieldLink RX9 60 "GreetedMirrors" "inquiry" "LGreetedMirrors$Inquiry;" ∈ ak_Ws := ak_ws 410 (by decide +kernel) rfl
theorem wd_387 : Cond.methodLink RX9 1 Lib.objectInit ∈ ak_Ws := ak_ws 120 (by decide +kernel) rfl
theorem wd_388 : Cond.classLink RX9 7 RX6 ∈ ak_Ws := ak_ws 123 (by decide +kernel) rfl
theorem wd_389 : Cond.instantiable RX6 6 ∈ ak_Ws := ak_ws 124 (by decide +kernel) rfl
theorem wd_390 : Cond.methodLinkNest RX9 9 yX6_init "GreetedMirrors" ∈ lw_tbl := List.mem_of_getElem? (i := 125) (by decide +kernel)
theorem wd_391 : Cond.instanceMethod yX6_init ∈ ak_Ws := ak_ws 126 (by decide +kernel) rfl
theorem wd_392 : Cond.fieldLink RX9 10 "GreetedMirrors" "reader" "LGreetedMirrors$Reader;" ∈ ak_Ws := ak_ws 402 (by decide +kernel) rfl
theorem wd_393 : Cond.classLink RX9 16 RX2 ∈ ak_Ws := ak_ws 151 (by decide +kernel) rfl
theorem wd_394 : Cond.instantiable RX2 12 ∈ ak_Ws := ak_ws 152 (by decide +kernel) rfl
theorem wd_395 : Cond.methodLinkNest RX9 18 yX2_init "GreetedMirrors" ∈ lw_tbl := List.mem_of_getElem? (i := 153) (by decide +kernel)
theorem wd_396 : Cond.instanceMethod yX2_init ∈ ak_Ws := ak_ws 154 (by decide +kernel) rfl
theorem wd_397 : Cond.fieldLink RX9 19 "GreetedMirrors" "built" "LGreetedMirrors$House;" ∈ ak_Ws := ak_ws 403 (by decide +kernel) rfl
theorem wd_398 : Cond.fieldLink RX9 23 "GreetedMirrors" "spare" "LGreetedMirrors$House;" ∈ ak_Ws := ak_ws 404 (by decide +kernel) rfl
theorem wd_399 : Cond.classLink RX9 26 RX8 ∈ ak_Ws := ak_ws 222 (by decide +kernel) rfl
theorem wd_400 : Cond.methodLinkNest RX9 28 yX8_init "GreetedMirrors" ∈ lw_tbl := List.mem_of_getElem? (i := 224) (by decide +kernel)
theorem wd_401 : Cond.fieldLink RX9 29 "GreetedMirrors" "now" "LGreetedMirrors$State;" ∈ ak_Ws := ak_ws 405 (by decide +kernel) rfl
theorem wd_402 : Cond.classLink RX9 33 RX5 ∈ ak_Ws := ak_ws 283 (by decide +kernel) rfl
theorem wd_403 : Cond.instantiable RX5 3 ∈ ak_Ws := ak_ws 284 (by decide +kernel) rfl
theorem wd_404 : Cond.code yX9_init cX9_init 1 none ∈ ak_Ws := ak_ws 119 (by decide +kernel) rfl
theorem wd_405 : Cond.constant RX9 78 (-1000000002) ∈ ak_Ws := ak_ws 440 (by decide +kernel) rfl
theorem wd_406 : Cond.fieldLinkNest RX9 79 "GreetedMirrors$Reader" "length" "I" "GreetedMirrors" ∈ lw_tbl := List.mem_of_getElem? (i := 131) (by decide +kernel)
theorem wd_407 : Cond.methodLinkNest RX9 84 yX6_append "GreetedMirrors" ∈ lw_tbl := List.mem_of_getElem? (i := 442) (by decide +kernel)
theorem wd_408 : Cond.instanceMethod yX6_append ∈ ak_Ws := ak_ws 444 (by decide +kernel) rfl
theorem wd_409 : Cond.selects RX6 yX6_append yX6_append ∈ ak_Ws := ak_ws 0 (by decide +kernel) rfl
theorem wd_410 : Cond.constant RX9 83 (-1000000004) ∈ ak_Ws := ak_ws 441 (by decide +kernel) rfl
theorem wd_411 : Cond.code yX9_feed cX9_feed 2 (some .int) ∈ ak_Ws := ak_ws 439 (by decide +kernel) rfl
theorem wd_412 : Cond.methodLinkNest RX9 96 yX5_forget "GreetedMirrors" ∈ lw_tbl := List.mem_of_getElem? (i := 557) (by decide +kernel)
theorem wd_413 : Cond.instanceMethod yX5_forget ∈ ak_Ws := ak_ws 559 (by decide +kernel) rfl
theorem wd_414 : Cond.selects RX5 yX5_forget yX5_forget ∈ ak_Ws := ak_ws 24 (by decide +kernel) rfl
theorem wd_415 : Cond.fieldLinkNest RX9 99 "GreetedMirrors$Image" "kept" "Z" "GreetedMirrors" ∈ lw_tbl := List.mem_of_getElem? (i := 314) (by decide +kernel)
theorem wd_416 : Cond.methodLinkNest RX9 103 yX4_forget "GreetedMirrors" ∈ lw_tbl := List.mem_of_getElem? (i := 561) (by decide +kernel)
theorem wd_417 : Cond.instanceMethod yX4_forget ∈ ak_Ws := ak_ws 563 (by decide +kernel) rfl
theorem wd_418 : Cond.selects RX4 yX4_forget yX4_forget ∈ ak_Ws := ak_ws 25 (by decide +kernel) rfl
theorem wd_419 : Cond.fieldLinkNest RX9 104 "GreetedMirrors$Book" "count" "I" "GreetedMirrors" ∈ lw_tbl := List.mem_of_getElem? (i := 383) (by decide +kernel)
theorem wd_420 : Cond.fieldLinkNest RX9 107 "GreetedMirrors$House" "mirrors" "I" "GreetedMirrors" ∈ lw_tbl := List.mem_of_getElem? (i := 170) (by decide +kernel)
theorem wd_421 : Cond.methodLinkNest RX9 88 yX6_readInto "GreetedMirrors" ∈ lw_tbl := List.mem_of_getElem? (i := 453) (by decide +kernel)
theorem wd_422 : Cond.instanceMethod yX6_readInto ∈ ak_Ws := ak_ws 455 (by decide +kernel) rfl
theorem wd_423 : Cond.selects RX6 yX6_readInto yX6_readInto ∈ ak_Ws := ak_ws 1 (by decide +kernel) rfl
theorem wd_424 : Cond.methodLinkNest RX9 92 yX8_startIn "GreetedMirrors" ∈ lw_tbl := List.mem_of_getElem? (i := 549) (by decide +kernel)
theorem wd_425 : Cond.instanceMethod yX8_startIn ∈ ak_Ws := ak_ws 551 (by decide +kernel) rfl
theorem wd_426 : Cond.selects RX8 yX8_startIn yX8_startIn ∈ ak_Ws := ak_ws 23 (by decide +kernel) rfl
theorem wd_427 : Cond.code yX9_house cX9_house 3 (some .int) ∈ ak_Ws := ak_ws 452 (by decide +kernel) rfl
theorem wd_428 : Cond.fieldLinkNest RX9 110 "GreetedMirrors$Reader" "faultPlace" "I" "GreetedMirrors" ∈ lw_tbl := List.mem_of_getElem? (i := 136) (by decide +kernel)
theorem wd_429 : Cond.code yX9_fault cX9_fault 1 (some .int) ∈ ak_Ws := ak_ws 568 (by decide +kernel) rfl
theorem wd_430 : Cond.fieldLinkNest RX9 113 "GreetedMirrors$House" "rooms" "I" "GreetedMirrors" ∈ lw_tbl := List.mem_of_getElem? (i := 160) (by decide +kernel)
theorem wd_431 : Cond.fieldLinkNest RX9 116 "GreetedMirrors$House" "doors" "I" "GreetedMirrors" ∈ lw_tbl := List.mem_of_getElem? (i := 165) (by decide +kernel)
theorem wd_432 : Cond.fieldLinkNest RX9 119 "GreetedMirrors$House" "persons" "I" "GreetedMirrors" ∈ lw_tbl := List.mem_of_getElem? (i := 174) (by decide +kernel)
theorem wd_433 : Cond.fieldLinkNest RX9 122 "GreetedMirrors$State" "room" "I" "GreetedMirrors" ∈ lw_tbl := List.mem_of_getElem? (i := 230) (by decide +kernel)
theorem wd_434 : Cond.fieldLinkNest RX9 125 "GreetedMirrors$State" "known" "I" "GreetedMirrors" ∈ lw_tbl := List.mem_of_getElem? (i := 233) (by decide +kernel)
theorem wd_435 : Cond.fieldLinkNest RX9 128 "GreetedMirrors$State" "lit" "I" "GreetedMirrors" ∈ lw_tbl := List.mem_of_getElem? (i := 235) (by decide +kernel)
theorem wd_436 : Cond.fieldLinkNest RX9 131 "GreetedMirrors$State" "spoilt" "I" "GreetedMirrors" ∈ lw_tbl := List.mem_of_getElem? (i := 239) (by decide +kernel)
theorem wd_437 : Cond.fieldLinkNest RX9 134 "GreetedMirrors$State" "steamed" "I" "GreetedMirrors" ∈ lw_tbl := List.mem_of_getElem? (i := 241) (by decide +kernel)
theorem wd_438 : Cond.fieldLinkNest RX9 137 "GreetedMirrors$State" "shut" "I" "GreetedMirrors" ∈ lw_tbl := List.mem_of_getElem? (i := 243) (by decide +kernel)
theorem wd_439 : Cond.fieldLinkNest RX9 140 "GreetedMirrors$State" "breath" "I" "GreetedMirrors" ∈ lw_tbl := List.mem_of_getElem? (i := 245) (by decide +kernel)
theorem wd_440 : Cond.fieldLinkNest RX9 143 "GreetedMirrors$State" "nights" "I" "GreetedMirrors" ∈ lw_tbl := List.mem_of_getElem? (i := 247) (by decide +kernel)
theorem wd_441 : Cond.fieldLinkNest RX9 146 "GreetedMirrors$Inquiry" "count" "I" "GreetedMirrors" ∈ lw_tbl := List.mem_of_getElem? (i := 362) (by decide +kernel)
theorem wd_442 : Cond.fieldLinkNest RX9 147 "GreetedMirrors$Past" "count" "I" "GreetedMirrors" ∈ lw_tbl := List.mem_of_getElem? (i := 295) (by decide +kernel)
theorem wd_443 : Cond.code yX9_told cX9_told 2 (some .int) ∈ ak_Ws := ak_ws 572 (by decide +kernel) rfl
theorem wd_444 : Cond.fieldLinkNest RX9 153 "GreetedMirrors$House" "mirrorRoom" "[I" "GreetedMirrors" ∈ lw_tbl := List.mem_of_getElem? (i := 185) (by decide +kernel)
theorem wd_445 : Cond.methodLink RX9 157 yX9_at ∈ ak_Ws := ak_ws 582 (by decide +kernel) rfl
theorem wd_446 : Cond.fieldLinkNest RX9 161 "GreetedMirrors$State" "name" "[I" "GreetedMirrors" ∈ lw_tbl := List.mem_of_getElem? (i := 251) (by decide +kernel)
theorem wd_447 : Cond.fieldLinkNest RX9 164 "GreetedMirrors$House" "opposite" "[I" "GreetedMirrors" ∈ lw_tbl := List.mem_of_getElem? (i := 191) (by decide +kernel)
theorem wd_448 : Cond.fieldLinkNest RX9 167 "GreetedMirrors$State" "otherName" "[I" "GreetedMirrors" ∈ lw_tbl := List.mem_of_getElem? (i := 253) (by decide +kernel)
theorem wd_449 : Cond.fieldLinkNest RX9 170 "GreetedMirrors$State" "otherCount" "[I" "GreetedMirrors" ∈ lw_tbl := List.mem_of_getElem? (i := 255) (by decide +kernel)
theorem wd_450 : Cond.methodLinkNest RX9 148 yX2_hasMirror "GreetedMirrors" ∈ lw_tbl := List.mem_of_getElem? (i := 577) (by decide +kernel)
theorem wd_451 : Cond.instanceMethod yX2_hasMirror ∈ ak_Ws := ak_ws 579 (by decide +kernel) rfl
theorem wd_452 : Cond.selects RX2 yX2_hasMirror yX2_hasMirror ∈ ak_Ws := ak_ws 26 (by decide +kernel) rfl
theorem wd_453 : Cond.constant RX9 152 (-1000000001) ∈ ak_Ws := ak_ws 581 (by decide +kernel) rfl
theorem wd_454 : Cond.code yX9_mirror cX9_mirror 3 (some .int) ∈ ak_Ws := ak_ws 576 (by decide +kernel) rfl
theorem wd_455 : Cond.fieldLinkNest RX9 176 "GreetedMirrors$House" "doorFrom" "[I" "GreetedMirrors" ∈ lw_tbl := List.mem_of_getElem? (i := 179) (by decide +kernel)
theorem wd_456 : Cond.fieldLinkNest RX9 179 "GreetedMirrors$House" "doorTo" "[I" "GreetedMirrors" ∈ lw_tbl := List.mem_of_getElem? (i := 182) (by decide +kernel)
theorem wd_457 : Cond.methodLinkNest RX9 173 yX2_hasDoor "GreetedMirrors" ∈ lw_tbl := List.mem_of_getElem? (i := 587) (by decide +kernel)
theorem wd_458 : Cond.instanceMethod yX2_hasDoor ∈ ak_Ws := ak_ws 589 (by decide +kernel) rfl
theorem wd_459 : Cond.selects RX2 yX2_hasDoor yX2_hasDoor ∈ ak_Ws := ak_ws 27 (by decide +kernel) rfl
theorem wd_460 : Cond.code yX9_doorOf cX9_doorOf 3 (some .int) ∈ ak_Ws := ak_ws 586 (by decide +kernel) rfl
theorem wd_461 : Cond.methodLinkNest RX9 182 yX2_hasPerson "GreetedMirrors" ∈ lw_tbl := List.mem_of_getElem? (i := 595) (by decide +kernel)
theorem wd_462 : Cond.instanceMethod yX2_hasPerson ∈ ak_Ws := ak_ws 597 (by decide +kernel) rfl
theorem wd_463 : Cond.selects RX2 yX2_hasPerson yX2_hasPerson ∈ ak_Ws := ak_ws 28 (by decide +kernel) rfl
theorem wd_464 : Cond.fieldLinkNest RX9 185 "GreetedMirrors$State" "personRoom" "[I" "GreetedMirrors" ∈ lw_tbl := List.mem_of_getElem? (i := 257) (by decide +kernel)
theorem wd_465 : Cond.code yX9_person cX9_person 2 (some .int) ∈ ak_Ws := ak_ws 594 (by decide +kernel) rfl
theorem wd_466 : Cond.methodLinkNest RX9 195 yX8_seenFrom "GreetedMirrors" ∈ lw_tbl := List.mem_of_getElem? (i := 613) (by decide +kernel)
theorem wd_467 : Cond.instanceMethod yX8_seenFrom ∈ ak_Ws := ak_ws 615 (by decide +kernel) rfl
theorem wd_468 : Cond.selects RX8 yX8_seenFrom yX8_seenFrom ∈ ak_Ws := ak_ws 30 (by decide +kernel) rfl
theorem wd_469 : Cond.methodLink RX9 191 yX9_has ∈ ak_Ws := ak_ws 610 (by decide +kernel) rfl
theorem wd_470 : Cond.methodLinkNest RX9 188 yX2_mirrorsIn "GreetedMirrors" ∈ lw_tbl := List.mem_of_getElem? (i := 603) (by decide +kernel)
theorem wd_471 : Cond.instanceMethod yX2_mirrorsIn ∈ ak_Ws := ak_ws 605 (by decide +kernel) rfl
theorem wd_472 : Cond.selects RX2 yX2_mirrorsIn yX2_mirrorsIn ∈ ak_Ws := ak_ws 29 (by decide +kernel) rfl
theorem wd_473 : Cond.code yX9_sees cX9_sees 5 (some .int) ∈ ak_Ws := ak_ws 602 (by decide +kernel) rfl
theorem wd_474 : Cond.methodLinkNest RX9 207 yX5_push "GreetedMirrors" ∈ lw_tbl := List.mem_of_getElem? (i := 635) (by decide +kernel)
theorem wd_475 : Cond.instanceMethod yX5_push ∈ ak_Ws := ak_ws 637 (by decide +kernel) rfl
theorem wd_476 : Cond.selects RX5 yX5_push yX5_push ∈ ak_Ws := ak_ws 33 (by decide +kernel) rfl
theorem wd_477 : Cond.methodLinkNest RX9 199 yX2_hasRoom "GreetedMirrors" ∈ lw_tbl := List.mem_of_getElem? (i := 628) (by decide +kernel)
theorem wd_478 : Cond.instanceMethod yX2_hasRoom ∈ ak_Ws := ak_ws 630 (by decide +kernel) rfl
theorem wd_479 : Cond.selects RX2 yX2_hasRoom yX2_hasRoom ∈ ak_Ws := ak_ws 32 (by decide +kernel) rfl
theorem wd_480 : Cond.methodLinkNest RX9 202 yX8_openBeside "GreetedMirrors" ∈ lw_tbl := List.mem_of_getElem? (i := 632) (by decide +kernel)
theorem wd_481 : Cond.constant RX9 205 (-1000000003) ∈ ak_Ws := ak_ws 633 (by decide +kernel) rfl
theorem wd_482 : Cond.constant RX9 206 90000 ∈ ak_Ws := ak_ws 634 (by decide +kernel) rfl
theorem wd_483 : Cond.code yX9_step cX9_step 2 (some .int) ∈ ak_Ws := ak_ws 627 (by decide +kernel) rfl
theorem wd_484 : Cond.code yX9_isName cX9_isName 1 (some .boolean) ∈ ak_Ws := ak_ws 656 (by decide +kernel) rfl
theorem wd_485 : Cond.methodLinkNest RX9 217 yX8_hear "GreetedMirrors" ∈ lw_tbl := List.mem_of_getElem? (i := 664) (by decide +kernel)
theorem wd_486 : Cond.instanceMethod yX8_hear ∈ ak_Ws := ak_ws 666 (by decide +kernel) rfl
theorem wd_487 : Cond.selects RX8 yX8_hear yX8_hear ∈ ak_Ws := ak_ws 37 (by decide +kernel) rfl
theorem wd_488 : Cond.methodLinkNest RX9 214 yX2_breathOf "GreetedMirrors" ∈ lw_tbl := List.mem_of_getElem? (i := 657) (by decide +kernel)
theorem wd_489 : Cond.methodLink RX9 211 yX9_isName ∈ ak_Ws := ak_ws 654 (by decide +kernel) rfl
theorem wd_490 : Cond.static yX9_isName ∈ ak_Ws := ak_ws 655 (by decide +kernel) rfl
theorem wd_491 : Cond.code yX9_greet cX9_greet 3 (some .int) ∈ ak_Ws := ak_ws 653 (by decide +kernel) rfl
theorem wd_492 : Cond.methodLink RX9 221 yX9_with ∈ ak_Ws := ak_ws 685 (by decide +kernel) rfl
theorem wd_493 : Cond.code yX9_steam cX9_steam 4 (some .int) ∈ ak_Ws := ak_ws 684 (by decide +kernel) rfl
theorem wd_494 : Cond.code yX9_door cX9_door 4 (some .int) ∈ ak_Ws := ak_ws 689 (by decide +kernel) rfl
theorem wd_495 : Cond.code yX9_night cX9_night 1 (some .int) ∈ ak_Ws := ak_ws 693 (by decide +kernel) rfl
theorem wd_496 : Cond.code yX9_envelope cX9_envelope 2 (some .int) ∈ ak_Ws := ak_ws 697 (by decide +kernel) rfl
theorem wd_497 : Cond.methodLink RX9 225 yX9_put ∈ ak_Ws := ak_ws 702 (by decide +kernel) rfl
theorem wd_498 : Cond.code yX9_walk cX9_walk 4 (some .int) ∈ ak_Ws := ak_ws 701 (by decide +kernel) rfl
theorem wd_499 : Cond.methodLinkNest RX9 232 yX1_next "GreetedMirrors" ∈ lw_tbl := List.mem_of_getElem? (i := 711) (by decide +kernel)
theorem wd_500 : Cond.instanceMethod yX1_next ∈ ak_Ws := ak_ws 713 (by decide +kernel) rfl
theorem wd_501 : Cond.selects RX1 yX1_next yX1_next ∈ ak_Ws := ak_ws 42 (by decide +kernel) rfl
theorem wd_502 : Cond.code yX9_passEvening cX9_passEvening 3 none ∈ ak_Ws := ak_ws 710 (by decide +kernel) rfl
theorem wd_503 : Cond.methodLink RX9 229 yX9_passEvening ∈ ak_Ws := ak_ws 707 (by decide +kernel) rfl
theorem wd_504 : Cond.instanceMethod yX9_passEvening ∈ ak_Ws := ak_ws 709 (by decide +kernel) rfl
theorem wd_505 : Cond.selects RX9 yX9_passEvening yX9_passEvening ∈ ak_Ws := ak_ws 41 (by decide +kernel) rfl
theorem wd_506 : Cond.code yX9_drift cX9_drift 3 (some .int) ∈ ak_Ws := ak_ws 706 (by decide +kernel) rfl
theorem wd_507 : Cond.methodLinkNest RX9 235 yX5_pop "GreetedMirrors" ∈ lw_tbl := List.mem_of_getElem? (i := 723) (by decide +kernel)
theorem wd_508 : Cond.instanceMethod yX5_pop ∈ ak_Ws := ak_ws 725 (by decide +kernel) rfl
theorem wd_509 : Cond.selects RX5 yX5_pop yX5_pop ∈ ak_Ws := ak_ws 43 (by decide +kernel) rfl
theorem wd_510 : Cond.code yX9_undo cX9_undo 1 (some .int) ∈ ak_Ws := ak_ws 722 (by decide +kernel) rfl
theorem wd_511 : Cond.methodLinkNest RX9 247 yX7_breath "GreetedMirrors" ∈ lw_tbl := List.mem_of_getElem? (i := 786) (by decide +kernel)
theorem wd_512 : Cond.instanceMethod yX7_breath ∈ ak_Ws := ak_ws 788 (by decide +kernel) rfl
theorem wd_513 : Cond.selects RX7 yX7_breath yX7_breath ∈ ak_Ws := ak_ws 55 (by decide +kernel) rfl
theorem wd_514 : Cond.methodLinkNest RX9 250 yX7_mirrorAt "GreetedMirrors" ∈ lw_tbl := List.mem_of_getElem? (i := 791) (by decide +kernel)
theorem wd_515 : Cond.instanceMethod yX7_mirrorAt ∈ ak_Ws := ak_ws 793 (by decide +kernel) rfl
theorem wd_516 : Cond.selects RX7 yX7_mirrorAt yX7_mirrorAt ∈ ak_Ws := ak_ws 56 (by decide +kernel) rfl
theorem wd_517 : Cond.methodLinkNest RX9 239 yX2_allMirrors "GreetedMirrors" ∈ lw_tbl := List.mem_of_getElem? (i := 732) (by decide +kernel)
theorem wd_518 : Cond.instanceMethod yX2_allMirrors ∈ ak_Ws := ak_ws 734 (by decide +kernel) rfl
theorem wd_519 : Cond.selects RX2 yX2_allMirrors yX2_allMirrors ∈ ak_Ws := ak_ws 44 (by decide +kernel) rfl
theorem wd_520 : Cond.methodLinkNest RX9 243 yX7_plan "GreetedMirrors" ∈ lw_tbl := List.mem_of_getElem? (i := 736) (by decide +kernel)
theorem wd_521 : Cond.instanceMethod yX7_plan ∈ ak_Ws := ak_ws 738 (by decide +kernel) rfl
theorem wd_522 : Cond.selects RX7 yX7_plan yX7_plan ∈ ak_Ws := ak_ws 45 (by decide +kernel) rfl
theorem wd_523 : Cond.code yX9_round cX9_round 4 (some .int) ∈ ak_Ws := ak_ws 731 (by decide +kernel) rfl
theorem wd_524 : Cond.methodLinkNest RX9 260 yX2_hungAhead "GreetedMirrors" ∈ lw_tbl := List.mem_of_getElem? (i := 808) (by decide +kernel)
theorem wd_525 : Cond.methodLinkNest RX9 263 yX7_canGreet "GreetedMirrors" ∈ lw_tbl := List.mem_of_getElem? (i := 809) (by decide +kernel)
theorem wd_526 : Cond.code yX9_canLightAlone cX9_canLightAlone 3 (some .boolean) ∈ ak_Ws := ak_ws 807 (by decide +kernel) rfl
theorem wd_527 : Cond.methodLink RX9 257 yX9_canLightAlone ∈ ak_Ws := ak_ws 804 (by decide +kernel) rfl
theorem wd_528 : Cond.instanceMethod yX9_canLightAlone ∈ ak_Ws := ak_ws 806 (by decide +kernel) rfl
theorem wd_529 : Cond.selects RX9 yX9_canLightAlone yX9_canLightAlone ∈ ak_Ws := ak_ws 58 (by decide +kernel) rfl
theorem wd_530 : Cond.methodLinkNest RX9 253 yX7_measure "GreetedMirrors" ∈ lw_tbl := List.mem_of_getElem? (i := 803) (by decide +kernel)
theorem wd_531 : Cond.code yX9_cannot cX9_cannot 3 (some .int) ∈ ak_Ws := ak_ws 802 (by decide +kernel) rfl
theorem wd_532 : Cond.methodLinkNest RX9 267 yX7_fromHere "GreetedMirrors" ∈ lw_tbl := List.mem_of_getElem? (i := 814) (by decide +kernel)
theorem wd_533 : Cond.code yX9_steps cX9_steps 2 (some .int) ∈ ak_Ws := ak_ws 813 (by decide +kernel) rfl
theorem wd_534 : Cond.methodLinkNest RX9 270 yX8_personsIn "GreetedMirrors" ∈ lw_tbl := List.mem_of_getElem? (i := 819) (by decide +kernel)
theorem wd_535 : Cond.instanceMethod yX8_personsIn ∈ ak_Ws := ak_ws 821 (by decide +kernel) rfl
theorem wd_536 : Cond.selects RX8 yX8_personsIn yX8_personsIn ∈ ak_Ws := ak_ws 59 (by decide +kernel) rfl
theorem wd_537 : Cond.code yX9_mostSeen cX9_mostSeen 6 (some .int) ∈ ak_Ws := ak_ws 818 (by decide +kernel) rfl
theorem wd_538 : Cond.code yX9_learn cX9_learn 3 (some .int) ∈ ak_Ws := ak_ws 826 (by decide +kernel) rfl
theorem wd_539 : Cond.constantLong RX9 275 100 ∈ ak_Ws := ak_ws 832 (by decide +kernel) rfl
theorem wd_540 : Cond.constantLong RX9 273 1000000000 ∈ ak_Ws := ak_ws 831 (by decide +kernel) rfl
theorem wd_541 : Cond.code yX9_steamed cX9_steamed 6 (some .int) ∈ ak_Ws := ak_ws 830 (by decide +kernel) rfl
theorem wd_542 : Cond.methodLinkNest RX9 277 yX4_note "GreetedMirrors" ∈ lw_tbl := List.mem_of_getElem? (i := 837) (by decide +kernel)
theorem wd_543 : Cond.instanceMethod yX4_note ∈ ak_Ws := ak_ws 839 (by decide +kernel) rfl
theorem wd_544 : Cond.selects RX4 yX4_note yX4_note ∈ ak_Ws := ak_ws 60 (by decide +kernel) rfl
theorem wd_545 : Cond.code yX9_ask cX9_ask 4 (some .int) ∈ ak_Ws := ak_ws 836 (by decide +kernel) rfl
theorem wd_546 : Cond.methodLinkNest RX9 280 yX4_fits "GreetedMirrors" ∈ lw_tbl := List.mem_of_getElem? (i := 846) (by decide +kernel)
theorem wd_547 : Cond.methodLinkNest RX9 284 yX4_findPairs "GreetedMirrors" ∈ lw_tbl := List.mem_of_getElem? (i := 855) (by decide +kernel)
theorem wd_548 : Cond.fieldLinkNest RX9 287 "GreetedMirrors$Inquiry" "fitting" "[I" "GreetedMirrors" ∈ lw_tbl := List.mem_of_getElem? (i := 360) (by decide +kernel)
theorem wd_549 : Cond.code yX9_changed cX9_changed 3 (some .int) ∈ ak_Ws := ak_ws 845 (by decide +kernel) rfl
theorem wd_550 : Cond.methodLinkNest RX9 290 yX4_bestQuestion "GreetedMirrors" ∈ lw_tbl := List.mem_of_getElem? (i := 864) (by decide +kernel)
theorem wd_551 : Cond.instanceMethod yX4_bestQuestion ∈ ak_Ws := ak_ws 866 (by decide +kernel) rfl
theorem wd_552 : Cond.selects RX4 yX4_bestQuestion yX4_bestQuestion ∈ ak_Ws := ak_ws 64 (by decide +kernel) rfl
theorem wd_553 : Cond.code yX9_askNext cX9_askNext 1 (some .int) ∈ ak_Ws := ak_ws 863 (by decide +kernel) rfl
theorem wd_554 : Cond.methodLinkNest RX9 293 yX4_namesThatFit "GreetedMirrors" ∈ lw_tbl := List.mem_of_getElem? (i := 878) (by decide +kernel)
theorem wd_555 : Cond.instanceMethod yX4_namesThatFit ∈ ak_Ws := ak_ws 880 (by decide +kernel) rfl
theorem wd_556 : Cond.selects RX4 yX4_namesThatFit yX4_namesThatFit ∈ ak_Ws := ak_ws 66 (by decide +kernel) rfl
theorem wd_557 : Cond.code yX9_called cX9_called 2 (some .int) ∈ ak_Ws := ak_ws 877 (by decide +kernel) rfl
theorem wd_558 : Cond.methodLinkNest RX9 296 yX0_enter "GreetedMirrors" ∈ lw_tbl := List.mem_of_getElem? (i := 887) (by decide +kernel)
theorem wd_559 : Cond.instanceMethod yX0_enter ∈ ak_Ws := ak_ws 889 (by decide +kernel) rfl
theorem wd_560 : Cond.selects RX0 yX0_enter yX0_enter ∈ ak_Ws := ak_ws 67 (by decide +kernel) rfl
theorem wd_561 : Cond.code yX9_write cX9_write 3 (some .int) ∈ ak_Ws := ak_ws 886 (by decide +kernel) rfl
theorem wd_562 : Cond.code yX9_tear cX9_tear 2 (some .int) ∈ ak_Ws := ak_ws 895 (by decide +kernel) rfl
theorem wd_563 : Cond.methodLinkNest RX9 300 yX0_firstWrong "GreetedMirrors" ∈ lw_tbl := List.mem_of_getElem? (i := 900) (by decide +kernel)
theorem wd_564 : Cond.instanceMethod yX0_firstWrong ∈ ak_Ws := ak_ws 902 (by decide +kernel) rfl
theorem wd_565 : Cond.selects RX0 yX0_firstWrong yX0_firstWrong ∈ ak_Ws := ak_ws 68 (by decide +kernel) rfl
theorem wd_566 : Cond.code yX9_judge cX9_judge 1 (some .int) ∈ ak_Ws := ak_ws 899 (by decide +kernel) rfl
theorem wd_567 : Cond.fieldLinkNest RX9 303 "GreetedMirrors$Draws" "seed" "J" "GreetedMirrors" ∈ lw_tbl := List.mem_of_getElem? (i := 398) (by decide +kernel)
theorem wd_568 : Cond.code yX9_seed cX9_seed 3 (some .int) ∈ ak_Ws := ak_ws 908 (by decide +kernel) rfl
theorem wd_569 : Cond.code yX9_imageOf cX9_imageOf 2 (some (.object "GreetedMirrors$Image")) ∈ ak_Ws := ak_ws 916 (by decide +kernel) rfl
theorem wd_570 : Cond.methodLink RX9 307 yX9_imageOf ∈ ak_Ws := ak_ws 913 (by decide +kernel) rfl
theorem wd_571 : Cond.instanceMethod yX9_imageOf ∈ ak_Ws := ak_ws 915 (by decide +kernel) rfl
theorem wd_572 : Cond.selects RX9 yX9_imageOf yX9_imageOf ∈ ak_Ws := ak_ws 69 (by decide +kernel) rfl
theorem wd_573 : Cond.fieldLinkNest RX9 311 "GreetedMirrors$Image" "state" "LGreetedMirrors$State;" "GreetedMirrors" ∈ lw_tbl := List.mem_of_getElem? (i := 312) (by decide +kernel)
theorem wd_574 : Cond.methodLinkNest RX9 314 yX8_become "GreetedMirrors" ∈ lw_tbl := List.mem_of_getElem? (i := 917) (by decide +kernel)
theorem wd_575 : Cond.fieldLinkNest RX9 317 "GreetedMirrors$Image" "seed" "J" "GreetedMirrors" ∈ lw_tbl := List.mem_of_getElem? (i := 313) (by decide +kernel)
theorem wd_576 : Cond.code yX9_keep cX9_keep 3 (some .int) ∈ ak_Ws := ak_ws 912 (by decide +kernel) rfl
theorem wd_577 : Cond.code yX9_goBack cX9_goBack 3 (some .int) ∈ ak_Ws := ak_ws 921 (by decide +kernel) rfl
theorem wd_578 : Cond.fieldLink RX10 7 "GreetedMirrorsModel" "w" "[I" ∈ ak_Ws := ak_ws 928 (by decide +kernel) rfl
theorem wd_579 : Cond.fieldLink RX10 81 "GreetedMirrorsModel" "bookName" "[I" ∈ ak_Ws := ak_ws 968 (by decide +kernel) rfl
theorem wd_580 : Cond.fieldLink RX10 63 "GreetedMirrorsModel" "way" "[I" ∈ ak_Ws := ak_ws 960 (by decide +kernel) rfl
theorem wd_581 : Cond.fieldLink RX10 66 "GreetedMirrorsModel" "rest" "[I" ∈ ak_Ws := ak_ws 961 (by decide +kernel) rfl
theorem wd_582 : Cond.fieldLink RX10 69 "GreetedMirrorsModel" "askedOf" "[I" ∈ ak_Ws := ak_ws 963 (by decide +kernel) rfl
theorem wd_583 : Cond.fieldLink RX10 72 "GreetedMirrorsModel" "askedName" "[I" ∈ ak_Ws := ak_ws 964 (by decide +kernel) rfl
theorem wd_584 : Cond.arrayClass .boolean ∈ ak_Ws := ak_ws 1052 (by decide +kernel) rfl
theorem wd_585 : Cond.fieldLink RX10 75 "GreetedMirrorsModel" "askedLit" "[Z" ∈ ak_Ws := ak_ws 965 (by decide +kernel) rfl
theorem wd_586 : Cond.fieldLink RX10 78 "GreetedMirrorsModel" "bookOf" "[I" ∈ ak_Ws := ak_ws 967 (by decide +kernel) rfl
theorem wd_587 : Cond.fieldLink RX10 45 "GreetedMirrorsModel" "readB" "[I" ∈ ak_Ws := ak_ws 954 (by decide +kernel) rfl
theorem wd_588 : Cond.fieldLink RX10 48 "GreetedMirrorsModel" "readHangs" "[I" ∈ ak_Ws := ak_ws 955 (by decide +kernel) rfl
theorem wd_589 : Cond.fieldLink RX10 51 "GreetedMirrorsModel" "readName" "[I" ∈ ak_Ws := ak_ws 956 (by decide +kernel) rfl
theorem wd_590 : Cond.fieldLink RX10 54 "GreetedMirrorsModel" "readFacing" "[I" ∈ ak_Ws := ak_ws 957 (by decide +kernel) rfl
theorem wd_591 : Cond.fieldLink RX10 57 "GreetedMirrorsModel" "readBreath" "[I" ∈ ak_Ws := ak_ws 958 (by decide +kernel) rfl
theorem wd_592 : Cond.fieldLink RX10 60 "GreetedMirrorsModel" "readPerson" "[I" ∈ ak_Ws := ak_ws 959 (by decide +kernel) rfl
theorem wd_593 : Cond.fieldLink RX10 26 "GreetedMirrorsModel" "toldName" "[I" ∈ ak_Ws := ak_ws 938 (by decide +kernel) rfl
theorem wd_594 : Cond.fieldLink RX10 29 "GreetedMirrorsModel" "facing" "[I" ∈ ak_Ws := ak_ws 939 (by decide +kernel) rfl
theorem wd_595 : Cond.fieldLink RX10 32 "GreetedMirrorsModel" "takesBreath" "[I" ∈ ak_Ws := ak_ws 940 (by decide +kernel) rfl
theorem wd_596 : Cond.fieldLink RX10 35 "GreetedMirrorsModel" "text" "[I" ∈ ak_Ws := ak_ws 941 (by decide +kernel) rfl
theorem wd_597 : Cond.fieldLink RX10 38 "GreetedMirrorsModel" "faultAt" "I" ∈ ak_Ws := ak_ws 947 (by decide +kernel) rfl
theorem wd_598 : Cond.fieldLink RX10 42 "GreetedMirrorsModel" "readA" "[I" ∈ ak_Ws := ak_ws 953 (by decide +kernel) rfl
theorem wd_599 : Cond.methodLink RX10 1 Lib.objectInit ∈ ak_Ws := ak_ws 927 (by decide +kernel) rfl
theorem wd_600 : Cond.fieldLink RX10 13 "GreetedMirrorsModel" "isKept" "[Z" ∈ ak_Ws := ak_ws 929 (by decide +kernel) rfl
theorem wd_601 : Cond.fieldLink RX10 17 "GreetedMirrorsModel" "doorA" "[I" ∈ ak_Ws := ak_ws 935 (by decide +kernel) rfl
theorem wd_602 : Cond.fieldLink RX10 20 "GreetedMirrorsModel" "doorB" "[I" ∈ ak_Ws := ak_ws 936 (by decide +kernel) rfl
theorem wd_603 : Cond.fieldLink RX10 23 "GreetedMirrorsModel" "hangs" "[I" ∈ ak_Ws := ak_ws 937 (by decide +kernel) rfl
theorem wd_604 : Cond.code yX10_init cX10_init 2 none ∈ ak_Ws := ak_ws 926 (by decide +kernel) rfl
theorem wd_605 : Cond.code yX10_in cX10_in 6 (some .boolean) ∈ ak_Ws := ak_ws 1060 (by decide +kernel) rfl
theorem wd_606 : Cond.code yX10_has cX10_has 2 (some .boolean) ∈ ak_Ws := ak_ws 1162 (by decide +kernel) rfl
theorem wd_607 : Cond.code yX10_copy cX10_copy 4 none ∈ ak_Ws := ak_ws 1179 (by decide +kernel) rfl
theorem wd_608 : Cond.fieldLink RX10 84 "GreetedMirrorsModel" "rooms" "I" ∈ ak_Ws := ak_ws 931 (by decide +kernel) rfl
theorem wd_609 : Cond.methodLink RX10 87 yX10_in ∈ ak_Ws := ak_ws 1058 (by decide +kernel) rfl
theorem wd_610 : Cond.initialized RX10 ∈ ak_Ws := ak_ws 113 (by decide +kernel) rfl
theorem wd_611 : Cond.static yX10_in ∈ ak_Ws := ak_ws 1059 (by decide +kernel) rfl
theorem wd_612 : Cond.code yX10_isRoom cX10_isRoom 2 (some .boolean) ∈ ak_Ws := ak_ws 1187 (by decide +kernel) rfl
theorem wd_613 : Cond.fieldLink RX10 91 "GreetedMirrorsModel" "doors" "I" ∈ ak_Ws := ak_ws 932 (by decide +kernel) rfl
theorem wd_614 : Cond.code yX10_isDoor cX10_isDoor 2 (some .boolean) ∈ ak_Ws := ak_ws 1147 (by decide +kernel) rfl
theorem wd_615 : Cond.fieldLink RX10 94 "GreetedMirrorsModel" "mirrors" "I" ∈ ak_Ws := ak_ws 933 (by decide +kernel) rfl
theorem wd_616 : Cond.code yX10_isMirror cX10_isMirror 2 (some .boolean) ∈ ak_Ws := ak_ws 1138 (by decide +kernel) rfl
theorem wd_617 : Cond.fieldLink RX10 97 "GreetedMirrorsModel" "persons" "I" ∈ ak_Ws := ak_ws 934 (by decide +kernel) rfl
theorem wd_618 : Cond.code yX10_isPerson cX10_isPerson 2 (some .boolean) ∈ ak_Ws := ak_ws 1155 (by decide +kernel) rfl
theorem wd_619 : Cond.constantLong RX10 100 9 ∈ ak_Ws := ak_ws 1200 (by decide +kernel) rfl
theorem wd_620 : Cond.code yX10_isName cX10_isName 1 (some .boolean) ∈ ak_Ws := ak_ws 1199 (by decide +kernel) rfl
theorem wd_621 : Cond.constantLong RX10 102 255 ∈ ak_Ws := ak_ws 1057 (by decide +kernel) rfl
theorem wd_622 : Cond.constant RX10 104 (-1000000002) ∈ ak_Ws := ak_ws 1061 (by decide +kernel) rfl
theorem wd_623 : Cond.fieldLink RX10 105 "GreetedMirrorsModel" "texted" "I" ∈ ak_Ws := ak_ws 942 (by decide +kernel) rfl
theorem wd_624 : Cond.constant RX10 108 (-1000000004) ∈ ak_Ws := ak_ws 1062 (by decide +kernel) rfl
theorem wd_625 : Cond.code yX10_feed cX10_feed 2 (some .int) ∈ ak_Ws := ak_ws 1056 (by decide +kernel) rfl
theorem wd_626 : Cond.code yX10_letterAt cX10_letterAt 2 (some .int) ∈ ak_Ws := ak_ws 1074 (by decide +kernel) rfl
theorem wd_627 : Cond.fieldLink RX10 109 "GreetedMirrorsModel" "at" "I" ∈ ak_Ws := ak_ws 943 (by decide +kernel) rfl
theorem wd_628 : Cond.methodLink RX10 112 yX10_letterAt ∈ ak_Ws := ak_ws 1071 (by decide +kernel) rfl
theorem wd_629 : Cond.instanceMethod yX10_letterAt ∈ ak_Ws := ak_ws 1073 (by decide +kernel) rfl
theorem wd_630 : Cond.selects RX10 yX10_letterAt yX10_letterAt ∈ ak_Ws := ak_ws 71 (by decide +kernel) rfl
theorem wd_631 : Cond.fieldLink RX10 116 "GreetedMirrorsModel" "start" "I" ∈ ak_Ws := ak_ws 944 (by decide +kernel) rfl
theorem wd_632 : Cond.code yX10_here cX10_here 1 (some .int) ∈ ak_Ws := ak_ws 1070 (by decide +kernel) rfl
theorem wd_633 : Cond.fieldLink RX10 119 "GreetedMirrorsModel" "faulty" "I" ∈ ak_Ws := ak_ws 946 (by decide +kernel) rfl
theorem wd_634 : Cond.code yX10_fails cX10_fails 3 (some .boolean) ∈ ak_Ws := ak_ws 1082 (by decide +kernel) rfl
theorem wd_635 : Cond.methodLink RX10 122 yX10_here ∈ ak_Ws := ak_ws 1067 (by decide +kernel) rfl
theorem wd_636 : Cond.instanceMethod yX10_here ∈ ak_Ws := ak_ws 1069 (by decide +kernel) rfl
theorem wd_637 : Cond.selects RX10 yX10_here yX10_here ∈ ak_Ws := ak_ws 70 (by decide +kernel) rfl
theorem wd_638 : Cond.methodLink RX10 126 yX10_fails ∈ ak_Ws := ak_ws 1079 (by decide +kernel) rfl
theorem wd_639 : Cond.instanceMethod yX10_fails ∈ ak_Ws := ak_ws 1081 (by decide +kernel) rfl
theorem wd_640 : Cond.selects RX10 yX10_fails yX10_fails ∈ ak_Ws := ak_ws 73 (by decide +kernel) rfl
theorem wd_641 : Cond.code yX10_takes cX10_takes 2 (some .boolean) ∈ ak_Ws := ak_ws 1120 (by decide +kernel) rfl
theorem wd_642 : Cond.fieldLink RX10 134 "GreetedMirrorsModel" "number" "I" ∈ ak_Ws := ak_ws 945 (by decide +kernel) rfl
theorem wd_643 : Cond.constantLong RX10 130 48 ∈ ak_Ws := ak_ws 1095 (by decide +kernel) rfl
theorem wd_644 : Cond.constantLong RX10 132 57 ∈ ak_Ws := ak_ws 1096 (by decide +kernel) rfl
theorem wd_645 : Cond.code yX10_takesNumber cX10_takesNumber 3 (some .boolean) ∈ ak_Ws := ak_ws 1094 (by decide +kernel) rfl
theorem wd_646 : Cond.methodLink RX10 137 yX10_takesNumber ∈ ak_Ws := ak_ws 1091 (by decide +kernel) rfl
theorem wd_647 : Cond.instanceMethod yX10_takesNumber ∈ ak_Ws := ak_ws 1093 (by decide +kernel) rfl
theorem wd_648 : Cond.selects RX10 yX10_takesNumber yX10_takesNumber ∈ ak_Ws := ak_ws 76 (by decide +kernel) rfl
theorem wd_649 : Cond.fieldLink RX10 140 "GreetedMirrorsModel" "readRooms" "I" ∈ ak_Ws := ak_ws 948 (by decide +kernel) rfl
theorem wd_650 : Cond.fieldLink RX10 143 "GreetedMirrorsModel" "readKnows" "I" ∈ ak_Ws := ak_ws 949 (by decide +kernel) rfl
theorem wd_651 : Cond.code yX10_takesHouse cX10_takesHouse 1 (some .boolean) ∈ ak_Ws := ak_ws 1090 (by decide +kernel) rfl
theorem wd_652 : Cond.fieldLink RX10 146 "GreetedMirrorsModel" "readDoors" "I" ∈ ak_Ws := ak_ws 950 (by decide +kernel) rfl
theorem wd_653 : Cond.code yX10_takesDoor cX10_takesDoor 4 (some .boolean) ∈ ak_Ws := ak_ws 1100 (by decide +kernel) rfl
theorem wd_654 : Cond.fieldLink RX10 149 "GreetedMirrorsModel" "readMirrors" "I" ∈ ak_Ws := ak_ws 951 (by decide +kernel) rfl
theorem wd_655 : Cond.code yX10_takesMirror cX10_takesMirror 1 (some .boolean) ∈ ak_Ws := ak_ws 1104 (by decide +kernel) rfl
theorem wd_656 : Cond.code yX10_takesOpposite cX10_takesOpposite 2 (some .boolean) ∈ ak_Ws := ak_ws 1108 (by decide +kernel) rfl
theorem wd_657 : Cond.code yX10_takesBreaths cX10_takesBreaths 2 (some .boolean) ∈ ak_Ws := ak_ws 1112 (by decide +kernel) rfl
theorem wd_658 : Cond.fieldLink RX10 152 "GreetedMirrorsModel" "readPersons" "I" ∈ ak_Ws := ak_ws 952 (by decide +kernel) rfl
theorem wd_659 : Cond.code yX10_takesPerson cX10_takesPerson 1 (some .boolean) ∈ ak_Ws := ak_ws 1116 (by decide +kernel) rfl
theorem wd_660 : Cond.methodLink RX10 168 yX10_takesBreaths ∈ ak_Ws := ak_ws 1109 (by decide +kernel) rfl
theorem wd_661 : Cond.instanceMethod yX10_takesBreaths ∈ ak_Ws := ak_ws 1111 (by decide +kernel) rfl
theorem wd_662 : Cond.selects RX10 yX10_takesBreaths yX10_takesBreaths ∈ ak_Ws := ak_ws 80 (by decide +kernel) rfl
theorem wd_663 : Cond.methodLink RX10 171 yX10_takesPerson ∈ ak_Ws := ak_ws 1113 (by decide +kernel) rfl
theorem wd_664 : Cond.instanceMethod yX10_takesPerson ∈ ak_Ws := ak_ws 1115 (by decide +kernel) rfl
theorem wd_665 : Cond.selects RX10 yX10_takesPerson yX10_takesPerson ∈ ak_Ws := ak_ws 81 (by decide +kernel) rfl
theorem wd_666 : Cond.methodLink RX10 159 yX10_takesDoor ∈ ak_Ws := ak_ws 1097 (by decide +kernel) rfl
theorem wd_667 : Cond.instanceMethod yX10_takesDoor ∈ ak_Ws := ak_ws 1099 (by decide +kernel) rfl
theorem wd_668 : Cond.selects RX10 yX10_takesDoor yX10_takesDoor ∈ ak_Ws := ak_ws 77 (by decide +kernel) rfl
theorem wd_669 : Cond.methodLink RX10 155 yX10_takesHouse ∈ ak_Ws := ak_ws 1087 (by decide +kernel) rfl
theorem wd_670 : Cond.instanceMethod yX10_takesHouse ∈ ak_Ws := ak_ws 1089 (by decide +kernel) rfl
theorem wd_671 : Cond.selects RX10 yX10_takesHouse yX10_takesHouse ∈ ak_Ws := ak_ws 75 (by decide +kernel) rfl
theorem wd_672 : Cond.methodLink RX10 162 yX10_takesMirror ∈ ak_Ws := ak_ws 1101 (by decide +kernel) rfl
theorem wd_673 : Cond.instanceMethod yX10_takesMirror ∈ ak_Ws := ak_ws 1103 (by decide +kernel) rfl
theorem wd_674 : Cond.selects RX10 yX10_takesMirror yX10_takesMirror ∈ ak_Ws := ak_ws 78 (by decide +kernel) rfl
theorem wd_675 : Cond.methodLink RX10 165 yX10_takesOpposite ∈ ak_Ws := ak_ws 1105 (by decide +kernel) rfl
theorem wd_676 : Cond.instanceMethod yX10_takesOpposite ∈ ak_Ws := ak_ws 1107 (by decide +kernel) rfl
theorem wd_677 : Cond.selects RX10 yX10_takesOpposite yX10_takesOpposite ∈ ak_Ws := ak_ws 79 (by decide +kernel) rfl
theorem wd_678 : Cond.code yX10_takesWords cX10_takesWords 2 (some .boolean) ∈ ak_Ws := ak_ws 1086 (by decide +kernel) rfl
theorem wd_679 : Cond.methodLink RX10 174 yX10_takesWords ∈ ak_Ws := ak_ws 1083 (by decide +kernel) rfl
theorem wd_680 : Cond.instanceMethod yX10_takesWords ∈ ak_Ws := ak_ws 1085 (by decide +kernel) rfl
theorem wd_681 : Cond.selects RX10 yX10_takesWords yX10_takesWords ∈ ak_Ws := ak_ws 74 (by decide +kernel) rfl
theorem wd_682 : Cond.methodLink RX10 178 yX10_takes ∈ ak_Ws := ak_ws 1117 (by decide +kernel) rfl
theorem wd_683 : Cond.instanceMethod yX10_takes ∈ ak_Ws := ak_ws 1119 (by decide +kernel) rfl
theorem wd_684 : Cond.selects RX10 yX10_takes yX10_takes ∈ ak_Ws := ak_ws 82 (by decide +kernel) rfl
theorem wd_685 : Cond.code yX10_takesClause cX10_takesClause 4 (some .boolean) ∈ ak_Ws := ak_ws 1078 (by decide +kernel) rfl
theorem wd_686 : Cond.fieldLink RX10 184 "GreetedMirrorsModel" "asked" "I" ∈ ak_Ws := ak_ws 962 (by decide +kernel) rfl
theorem wd_687 : Cond.fieldLink RX10 187 "GreetedMirrorsModel" "booked" "I" ∈ ak_Ws := ak_ws 966 (by decide +kernel) rfl
theorem wd_688 : Cond.fieldLink RX10 190 "GreetedMirrorsModel" "undoes" "I" ∈ ak_Ws := ak_ws 930 (by decide +kernel) rfl
theorem wd_689 : Cond.methodLink RX10 181 yX10_takesClause ∈ ak_Ws := ak_ws 1075 (by decide +kernel) rfl
theorem wd_690 : Cond.instanceMethod yX10_takesClause ∈ ak_Ws := ak_ws 1077 (by decide +kernel) rfl
theorem wd_691 : Cond.selects RX10 yX10_takesClause yX10_takesClause ∈ ak_Ws := ak_ws 72 (by decide +kernel) rfl
theorem wd_692 : Cond.code yX10_house cX10_house 4 (some .int) ∈ ak_Ws := ak_ws 1066 (by decide +kernel) rfl
theorem wd_693 : Cond.code yX10_fault cX10_fault 1 (some .int) ∈ ak_Ws := ak_ws 1124 (by decide +kernel) rfl
theorem wd_694 : Cond.constantLong RX10 193 5 ∈ ak_Ws := ak_ws 1129 (by decide +kernel) rfl
theorem wd_695 : Cond.constantLong RX10 195 12 ∈ ak_Ws := ak_ws 1130 (by decide +kernel) rfl
theorem wd_696 : Cond.code yX10_told cX10_told 2 (some .int) ∈ ak_Ws := ak_ws 1128 (by decide +kernel) rfl
theorem wd_697 : Cond.methodLink RX10 197 yX10_isMirror ∈ ak_Ws := ak_ws 1135 (by decide +kernel) rfl
theorem wd_698 : Cond.instanceMethod yX10_isMirror ∈ ak_Ws := ak_ws 1137 (by decide +kernel) rfl
theorem wd_699 : Cond.selects RX10 yX10_isMirror yX10_isMirror ∈ ak_Ws := ak_ws 83 (by decide +kernel) rfl
theorem wd_700 : Cond.constant RX10 200 (-1000000001) ∈ ak_Ws := ak_ws 1139 (by decide +kernel) rfl
theorem wd_701 : Cond.code yX10_mirror cX10_mirror 3 (some .int) ∈ ak_Ws := ak_ws 1134 (by decide +kernel) rfl
theorem wd_702 : Cond.methodLink RX10 201 yX10_isDoor ∈ ak_Ws := ak_ws 1144 (by decide +kernel) rfl
theorem wd_703 : Cond.instanceMethod yX10_isDoor ∈ ak_Ws := ak_ws 1146 (by decide +kernel) rfl
theorem wd_704 : Cond.selects RX10 yX10_isDoor yX10_isDoor ∈ ak_Ws := ak_ws 84 (by decide +kernel) rfl
theorem wd_705 : Cond.code yX10_doorOf cX10_doorOf 3 (some .int) ∈ ak_Ws := ak_ws 1143 (by decide +kernel) rfl
theorem wd_706 : Cond.methodLink RX10 204 yX10_isPerson ∈ ak_Ws := ak_ws 1152 (by decide +kernel) rfl
theorem wd_707 : Cond.instanceMethod yX10_isPerson ∈ ak_Ws := ak_ws 1154 (by decide +kernel) rfl
theorem wd_708 : Cond.selects RX10 yX10_isPerson yX10_isPerson ∈ ak_Ws := ak_ws 85 (by decide +kernel) rfl
theorem wd_709 : Cond.code yX10_person cX10_person 2 (some .int) ∈ ak_Ws := ak_ws 1151 (by decide +kernel) rfl
theorem wd_710 : Cond.methodLink RX10 207 yX10_has ∈ ak_Ws := ak_ws 1160 (by decide +kernel) rfl
theorem wd_711 : Cond.static yX10_has ∈ ak_Ws := ak_ws 1161 (by decide +kernel) rfl
theorem wd_712 : Cond.code yX10_isOpen cX10_isOpen 6 (some .boolean) ∈ ak_Ws := ak_ws 1170 (by decide +kernel) rfl
theorem wd_713 : Cond.methodLink RX10 210 yX10_isOpen ∈ ak_Ws := ak_ws 1167 (by decide +kernel) rfl
theorem wd_714 : Cond.instanceMethod yX10_isOpen ∈ ak_Ws := ak_ws 1169 (by decide +kernel) rfl
theorem wd_715 : Cond.selects RX10 yX10_isOpen yX10_isOpen ∈ ak_Ws := ak_ws 87 (by decide +kernel) rfl
theorem wd_716 : Cond.code yX10_isNear cX10_isNear 3 (some .boolean) ∈ ak_Ws := ak_ws 1166 (by decide +kernel) rfl
theorem wd_717 : Cond.methodLink RX10 213 yX10_isNear ∈ ak_Ws := ak_ws 1163 (by decide +kernel) rfl
theorem wd_718 : Cond.instanceMethod yX10_isNear ∈ ak_Ws := ak_ws 1165 (by decide +kernel) rfl
theorem wd_719 : Cond.selects RX10 yX10_isNear yX10_isNear ∈ ak_Ws := ak_ws 86 (by decide +kernel) rfl
theorem wd_720 : Cond.code yX10_sees cX10_sees 6 (some .int) ∈ ak_Ws := ak_ws 1159 (by decide +kernel) rfl
theorem wd_721 : Cond.methodLink RX10 216 yX10_copy ∈ ak_Ws := ak_ws 1176 (by decide +kernel) rfl
theorem wd_722 : Cond.instanceMethod yX10_copy ∈ ak_Ws := ak_ws 1178 (by decide +kernel) rfl
theorem wd_723 : Cond.selects RX10 yX10_copy yX10_copy ∈ ak_Ws := ak_ws 88 (by decide +kernel) rfl
theorem wd_724 : Cond.code yX10_minds cX10_minds 2 none ∈ ak_Ws := ak_ws 1192 (by decide +kernel) rfl
theorem wd_725 : Cond.constant RX10 220 (-1000000003) ∈ ak_Ws := ak_ws 1175 (by decide +kernel) rfl
theorem wd_726 : Cond.code yX10_undo cX10_undo 2 (some .int) ∈ ak_Ws := ak_ws 1174 (by decide +kernel) rfl
theorem wd_727 : Cond.methodLink RX10 221 yX10_isRoom ∈ ak_Ws := ak_ws 1184 (by decide +kernel) rfl
theorem wd_728 : Cond.instanceMethod yX10_isRoom ∈ ak_Ws := ak_ws 1186 (by decide +kernel) rfl
theorem wd_729 : Cond.selects RX10 yX10_isRoom yX10_isRoom ∈ ak_Ws := ak_ws 89 (by decide +kernel) rfl
theorem wd_730 : Cond.constant RX10 224 90000 ∈ ak_Ws := ak_ws 1188 (by decide +kernel) rfl
theorem wd_731 : Cond.methodLink RX10 225 yX10_minds ∈ ak_Ws := ak_ws 1189 (by decide +kernel) rfl
theorem wd_732 : Cond.instanceMethod yX10_minds ∈ ak_Ws := ak_ws 1191 (by decide +kernel) rfl
theorem wd_733 : Cond.selects RX10 yX10_minds yX10_minds ∈ ak_Ws := ak_ws 90 (by decide +kernel) rfl
theorem wd_734 : Cond.code yX10_step cX10_step 2 (some .int) ∈ ak_Ws := ak_ws 1183 (by decide +kernel) rfl
theorem wd_735 : Cond.code yX10_isTooEarly cX10_isTooEarly 5 (some .boolean) ∈ ak_Ws := ak_ws 1208 (by decide +kernel) rfl
theorem wd_736 : Cond.methodLink RX10 228 yX10_isTooEarly ∈ ak_Ws := ak_ws 1205 (by decide +kernel) rfl
theorem wd_737 : Cond.instanceMethod yX10_isTooEarly ∈ ak_Ws := ak_ws 1207 (by decide +kernel) rfl
theorem wd_738 : Cond.selects RX10 yX10_isTooEarly yX10_isTooEarly ∈ ak_Ws := ak_ws 92 (by decide +kernel) rfl
theorem wd_739 : Cond.code yX10_greets cX10_greets 3 (some .int) ∈ ak_Ws := ak_ws 1204 (by decide +kernel) rfl
theorem wd_740 : Cond.methodLink RX10 235 yX10_greets ∈ ak_Ws := ak_ws 1201 (by decide +kernel) rfl
theorem wd_741 : Cond.instanceMethod yX10_greets ∈ ak_Ws := ak_ws 1203 (by decide +kernel) rfl
theorem wd_742 : Cond.selects RX10 yX10_greets yX10_greets ∈ ak_Ws := ak_ws 91 (by decide +kernel) rfl
theorem wd_743 : Cond.methodLink RX10 232 yX10_isName ∈ ak_Ws := ak_ws 1197 (by decide +kernel) rfl
theorem wd_744 : Cond.static yX10_isName ∈ ak_Ws := ak_ws 1198 (by decide +kernel) rfl
theorem wd_745 : Cond.code yX10_greet cX10_greet 3 (some .int) ∈ ak_Ws := ak_ws 1196 (by decide +kernel) rfl
theorem wd_746 : Cond.code yX10_steam cX10_steam 4 (some .int) ∈ ak_Ws := ak_ws 1212 (by decide +kernel) rfl
theorem wd_747 : Cond.code yX10_door cX10_door 4 (some .int) ∈ ak_Ws := ak_ws 1216 (by decide +kernel) rfl
theorem wd_748 : Cond.code yX10_night cX10_night 1 (some .int) ∈ ak_Ws := ak_ws 1220 (by decide +kernel) rfl
theorem wd_749 : Cond.code yX10_envelope cX10_envelope 2 (some .int) ∈ ak_Ws := ak_ws 1224 (by decide +kernel) rfl
theorem wd_750 : Cond.code yX10_walk cX10_walk 4 (some .int) ∈ ak_Ws := ak_ws 1228 (by decide +kernel) rfl
theorem wd_751 : Cond.constantLong RX10 239 1103515245 ∈ ak_Ws := ak_ws 1238 (by decide +kernel) rfl
theorem wd_752 : Cond.constantLong RX10 241 12345 ∈ ak_Ws := ak_ws 1239 (by decide +kernel) rfl
theorem wd_753 : Cond.constantLong RX10 243 2147483648 ∈ ak_Ws := ak_ws 1240 (by decide +kernel) rfl
theorem wd_754 : Cond.constant RX10 245 65536 ∈ ak_Ws := ak_ws 1241 (by decide +kernel) rfl
theorem wd_755 : Cond.code yX10_draw cX10_draw 2 (some .int) ∈ ak_Ws := ak_ws 1237 (by decide +kernel) rfl
theorem wd_756 : Cond.methodLink RX10 248 yX10_draw ∈ ak_Ws := ak_ws 1234 (by decide +kernel) rfl
theorem wd_757 : Cond.instanceMethod yX10_draw ∈ ak_Ws := ak_ws 1236 (by decide +kernel) rfl
theorem wd_758 : Cond.selects RX10 yX10_draw yX10_draw ∈ ak_Ws := ak_ws 93 (by decide +kernel) rfl
theorem wd_759 : Cond.constantLong RX10 246 40 ∈ ak_Ws := ak_ws 1233 (by decide +kernel) rfl
theorem wd_760 : Cond.code yX10_drift cX10_drift 5 (some .int) ∈ ak_Ws := ak_ws 1232 (by decide +kernel) rfl
theorem wd_761 : Cond.constant RX10 251 1000000 ∈ ak_Ws := ak_ws 1254 (by decide +kernel) rfl
theorem wd_762 : Cond.code yX10_layWays cX10_layWays 5 none ∈ ak_Ws := ak_ws 1253 (by decide +kernel) rfl
theorem wd_763 : Cond.code yX10_canBeLit cX10_canBeLit 4 (some .boolean) ∈ ak_Ws := ak_ws 1262 (by decide +kernel) rfl
theorem wd_764 : Cond.code yX10_costOf cX10_costOf 3 (some .int) ∈ ak_Ws := ak_ws 1266 (by decide +kernel) rfl
theorem wd_765 : Cond.methodLink RX10 255 yX10_costOf ∈ ak_Ws := ak_ws 1263 (by decide +kernel) rfl
theorem wd_766 : Cond.instanceMethod yX10_costOf ∈ ak_Ws := ak_ws 1265 (by decide +kernel) rfl
theorem wd_767 : Cond.selects RX10 yX10_costOf yX10_costOf ∈ ak_Ws := ak_ws 98 (by decide +kernel) rfl
theorem wd_768 : Cond.methodLink RX10 252 yX10_canBeLit ∈ ak_Ws := ak_ws 1259 (by decide +kernel) rfl
theorem wd_769 : Cond.instanceMethod yX10_canBeLit ∈ ak_Ws := ak_ws 1261 (by decide +kernel) rfl
theorem wd_770 : Cond.selects RX10 yX10_canBeLit yX10_canBeLit ∈ ak_Ws := ak_ws 97 (by decide +kernel) rfl
theorem wd_771 : Cond.code yX10_restBy cX10_restBy 6 (some .int) ∈ ak_Ws := ak_ws 1258 (by decide +kernel) rfl
theorem wd_772 : Cond.methodLink RX10 261 yX10_restBy ∈ ak_Ws := ak_ws 1255 (by decide +kernel) rfl
theorem wd_773 : Cond.instanceMethod yX10_restBy ∈ ak_Ws := ak_ws 1257 (by decide +kernel) rfl
theorem wd_774 : Cond.selects RX10 yX10_restBy yX10_restBy ∈ ak_Ws := ak_ws 96 (by decide +kernel) rfl
theorem wd_775 : Cond.methodLink RX10 258 yX10_layWays ∈ ak_Ws := ak_ws 1250 (by decide +kernel) rfl
theorem wd_776 : Cond.instanceMethod yX10_layWays ∈ ak_Ws := ak_ws 1252 (by decide +kernel) rfl
theorem wd_777 : Cond.selects RX10 yX10_layWays yX10_layWays ∈ ak_Ws := ak_ws 95 (by decide +kernel) rfl
theorem wd_778 : Cond.code yX10_layRests cX10_layRests 7 none ∈ ak_Ws := ak_ws 1249 (by decide +kernel) rfl
theorem wd_779 : Cond.methodLink RX10 265 yX10_layRests ∈ ak_Ws := ak_ws 1246 (by decide +kernel) rfl
theorem wd_780 : Cond.instanceMethod yX10_layRests ∈ ak_Ws := ak_ws 1248 (by decide +kernel) rfl
theorem wd_781 : Cond.selects RX10 yX10_layRests yX10_layRests ∈ ak_Ws := ak_ws 94 (by decide +kernel) rfl
theorem wd_782 : Cond.code yX10_round cX10_round 10 (some .int) ∈ ak_Ws := ak_ws 1245 (by decide +kernel) rfl
theorem wd_783 : Cond.code yX10_cannot cX10_cannot 4 (some .int) ∈ ak_Ws := ak_ws 1270 (by decide +kernel) rfl
theorem wd_784 : Cond.code yX10_steps cX10_steps 3 (some .int) ∈ ak_Ws := ak_ws 1274 (by decide +kernel) rfl
theorem wd_785 : Cond.code yX10_mostSeen cX10_mostSeen 8 (some .int) ∈ ak_Ws := ak_ws 1278 (by decide +kernel) rfl
theorem wd_786 : Cond.code yX10_learn cX10_learn 3 (some .int) ∈ ak_Ws := ak_ws 1282 (by decide +kernel) rfl
theorem wd_787 : Cond.constantLong RX10 271 100 ∈ ak_Ws := ak_ws 1288 (by decide +kernel) rfl
theorem wd_788 : Cond.constantLong RX10 269 60 ∈ ak_Ws := ak_ws 1287 (by decide +kernel) rfl
theorem wd_789 : Cond.constantLong RX10 273 1000000000 ∈ ak_Ws := ak_ws 1289 (by decide +kernel) rfl
theorem wd_790 : Cond.code yX10_steamed cX10_steamed 6 (some .int) ∈ ak_Ws := ak_ws 1286 (by decide +kernel) rfl
theorem wd_791 : Cond.code yX10_ask cX10_ask 4 (some .int) ∈ ak_Ws := ak_ws 1293 (by decide +kernel) rfl
theorem wd_792 : Cond.code yX10_nameBy cX10_nameBy 4 (some .int) ∈ ak_Ws := ak_ws 1305 (by decide +kernel) rfl
theorem wd_793 : Cond.methodLink RX10 275 yX10_nameBy ∈ ak_Ws := ak_ws 1302 (by decide +kernel) rfl
theorem wd_794 : Cond.instanceMethod yX10_nameBy ∈ ak_Ws := ak_ws 1304 (by decide +kernel) rfl
theorem wd_795 : Cond.selects RX10 yX10_nameBy yX10_nameBy ∈ ak_Ws := ak_ws 100 (by decide +kernel) rfl
theorem wd_796 : Cond.code yX10_isSo cX10_isSo 5 (some .boolean) ∈ ak_Ws := ak_ws 1301 (by decide +kernel) rfl
theorem wd_797 : Cond.methodLink RX10 278 yX10_isSo ∈ ak_Ws := ak_ws 1298 (by decide +kernel) rfl
theorem wd_798 : Cond.instanceMethod yX10_isSo ∈ ak_Ws := ak_ws 1300 (by decide +kernel) rfl
theorem wd_799 : Cond.selects RX10 yX10_isSo yX10_isSo ∈ ak_Ws := ak_ws 99 (by decide +kernel) rfl
theorem wd_800 : Cond.code yX10_mayBe cX10_mayBe 3 (some .boolean) ∈ ak_Ws := ak_ws 1309 (by decide +kernel) rfl
theorem wd_801 : Cond.methodLink RX10 281 yX10_mayBe ∈ ak_Ws := ak_ws 1306 (by decide +kernel) rfl
theorem wd_802 : Cond.instanceMethod yX10_mayBe ∈ ak_Ws := ak_ws 1308 (by decide +kernel) rfl
theorem wd_803 : Cond.selects RX10 yX10_mayBe yX10_mayBe ∈ ak_Ws := ak_ws 101 (by decide +kernel) rfl
theorem wd_804 : Cond.code yX10_changed cX10_changed 5 (some .int) ∈ ak_Ws := ak_ws 1297 (by decide +kernel) rfl
theorem wd_805 : Cond.code yX10_askNext cX10_askNext 11 (some .int) ∈ ak_Ws := ak_ws 1313 (by decide +kernel) rfl
theorem wd_806 : Cond.code yX10_called cX10_called 6 (some .int) ∈ ak_Ws := ak_ws 1317 (by decide +kernel) rfl
theorem wd_807 : Cond.code yX10_write cX10_write 3 (some .int) ∈ ak_Ws := ak_ws 1321 (by decide +kernel) rfl
theorem wd_808 : Cond.code yX10_tear cX10_tear 2 (some .int) ∈ ak_Ws := ak_ws 1325 (by decide +kernel) rfl
theorem wd_809 : Cond.code yX10_judge cX10_judge 2 (some .int) ∈ ak_Ws := ak_ws 1329 (by decide +kernel) rfl
theorem wd_810 : Cond.code yX10_seed cX10_seed 3 (some .int) ∈ ak_Ws := ak_ws 1333 (by decide +kernel) rfl
theorem wd_811 : Cond.code yX10_keep cX10_keep 2 (some .int) ∈ ak_Ws := ak_ws 1337 (by decide +kernel) rfl
theorem wd_812 : Cond.code yX10_goBack cX10_goBack 2 (some .int) ∈ ak_Ws := ak_ws 1341 (by decide +kernel) rfl
theorem wd_813 : Cond.methodLink RL 13 yX9_feed ∈ ak_Ws := ak_ws 436 (by decide +kernel) rfl
theorem wd_814 : Cond.instanceMethod yX9_feed ∈ ak_Ws := ak_ws 437 (by decide +kernel) rfl
theorem wd_815 : Cond.selects RX9 yX9_feed yX9_feed ∈ ak_Ws := ak_ws 438 (by decide +kernel) rfl
theorem wd_816 : Cond.methodLink RL 17 yX10_feed ∈ ak_Ws := ak_ws 1053 (by decide +kernel) rfl
theorem wd_817 : Cond.instanceMethod yX10_feed ∈ ak_Ws := ak_ws 1054 (by decide +kernel) rfl
theorem wd_818 : Cond.selects RX10 yX10_feed yX10_feed ∈ ak_Ws := ak_ws 1055 (by decide +kernel) rfl
theorem wd_819 : Cond.methodLink RL 18 yX9_house ∈ ak_Ws := ak_ws 449 (by decide +kernel) rfl
theorem wd_820 : Cond.instanceMethod yX9_house ∈ ak_Ws := ak_ws 450 (by decide +kernel) rfl
theorem wd_821 : Cond.selects RX9 yX9_house yX9_house ∈ ak_Ws := ak_ws 451 (by decide +kernel) rfl
theorem wd_822 : Cond.methodLink RL 22 yX10_house ∈ ak_Ws := ak_ws 1063 (by decide +kernel) rfl
theorem wd_823 : Cond.instanceMethod yX10_house ∈ ak_Ws := ak_ws 1064 (by decide +kernel) rfl
theorem wd_824 : Cond.selects RX10 yX10_house yX10_house ∈ ak_Ws := ak_ws 1065 (by decide +kernel) rfl
theorem wd_825 : Cond.methodLink RL 23 yX9_fault ∈ ak_Ws := ak_ws 565 (by decide +kernel) rfl
theorem wd_826 : Cond.instanceMethod yX9_fault ∈ ak_Ws := ak_ws 566 (by decide +kernel) rfl
theorem wd_827 : Cond.selects RX9 yX9_fault yX9_fault ∈ ak_Ws := ak_ws 567 (by decide +kernel) rfl
theorem wd_828 : Cond.methodLink RL 26 yX10_fault ∈ ak_Ws := ak_ws 1121 (by decide +kernel) rfl
theorem wd_829 : Cond.instanceMethod yX10_fault ∈ ak_Ws := ak_ws 1122 (by decide +kernel) rfl
theorem wd_830 : Cond.selects RX10 yX10_fault yX10_fault ∈ ak_Ws := ak_ws 1123 (by decide +kernel) rfl
theorem wd_831 : Cond.methodLink RL 27 yX9_told ∈ ak_Ws := ak_ws 569 (by decide +kernel) rfl
theorem wd_832 : Cond.instanceMethod yX9_told ∈ ak_Ws := ak_ws 570 (by decide +kernel) rfl
theorem wd_833 : Cond.selects RX9 yX9_told yX9_told ∈ ak_Ws := ak_ws 571 (by decide +kernel) rfl
theorem wd_834 : Cond.methodLink RL 30 yX10_told ∈ ak_Ws := ak_ws 1125 (by decide +kernel) rfl
theorem wd_835 : Cond.instanceMethod yX10_told ∈ ak_Ws := ak_ws 1126 (by decide +kernel) rfl
theorem wd_836 : Cond.selects RX10 yX10_told yX10_told ∈ ak_Ws := ak_ws 1127 (by decide +kernel) rfl
theorem wd_837 : Cond.methodLink RL 31 yX9_mirror ∈ ak_Ws := ak_ws 573 (by decide +kernel) rfl
theorem wd_838 : Cond.instanceMethod yX9_mirror ∈ ak_Ws := ak_ws 574 (by decide +kernel) rfl
theorem wd_839 : Cond.selects RX9 yX9_mirror yX9_mirror ∈ ak_Ws := ak_ws 575 (by decide +kernel) rfl
theorem wd_840 : Cond.methodLink RL 35 yX10_mirror ∈ ak_Ws := ak_ws 1131 (by decide +kernel) rfl
theorem wd_841 : Cond.instanceMethod yX10_mirror ∈ ak_Ws := ak_ws 1132 (by decide +kernel) rfl
theorem wd_842 : Cond.selects RX10 yX10_mirror yX10_mirror ∈ ak_Ws := ak_ws 1133 (by decide +kernel) rfl
theorem wd_843 : Cond.methodLink RL 36 yX9_doorOf ∈ ak_Ws := ak_ws 583 (by decide +kernel) rfl
theorem wd_844 : Cond.instanceMethod yX9_doorOf ∈ ak_Ws := ak_ws 584 (by decide +kernel) rfl
theorem wd_845 : Cond.selects RX9 yX9_doorOf yX9_doorOf ∈ ak_Ws := ak_ws 585 (by decide +kernel) rfl
theorem wd_846 : Cond.methodLink RL 39 yX10_doorOf ∈ ak_Ws := ak_ws 1140 (by decide +kernel) rfl
theorem wd_847 : Cond.instanceMethod yX10_doorOf ∈ ak_Ws := ak_ws 1141 (by decide +kernel) rfl
theorem wd_848 : Cond.selects RX10 yX10_doorOf yX10_doorOf ∈ ak_Ws := ak_ws 1142 (by decide +kernel) rfl
theorem wd_849 : Cond.methodLink RL 40 yX9_person ∈ ak_Ws := ak_ws 591 (by decide +kernel) rfl
theorem wd_850 : Cond.instanceMethod yX9_person ∈ ak_Ws := ak_ws 592 (by decide +kernel) rfl
theorem wd_851 : Cond.selects RX9 yX9_person yX9_person ∈ ak_Ws := ak_ws 593 (by decide +kernel) rfl
theorem wd_852 : Cond.methodLink RL 43 yX10_person ∈ ak_Ws := ak_ws 1148 (by decide +kernel) rfl
theorem wd_853 : Cond.instanceMethod yX10_person ∈ ak_Ws := ak_ws 1149 (by decide +kernel) rfl
theorem wd_854 : Cond.selects RX10 yX10_person yX10_person ∈ ak_Ws := ak_ws 1150 (by decide +kernel) rfl
theorem wd_855 : Cond.methodLink RL 44 yX9_sees ∈ ak_Ws := ak_ws 599 (by decide +kernel) rfl
theorem wd_856 : Cond.instanceMethod yX9_sees ∈ ak_Ws := ak_ws 600 (by decide +kernel) rfl
theorem wd_857 : Cond.selects RX9 yX9_sees yX9_sees ∈ ak_Ws := ak_ws 601 (by decide +kernel) rfl
theorem wd_858 : Cond.methodLink RL 47 yX10_sees ∈ ak_Ws := ak_ws 1156 (by decide +kernel) rfl
theorem wd_859 : Cond.instanceMethod yX10_sees ∈ ak_Ws := ak_ws 1157 (by decide +kernel) rfl
theorem wd_860 : Cond.selects RX10 yX10_sees yX10_sees ∈ ak_Ws := ak_ws 1158 (by decide +kernel) rfl
theorem wd_861 : Cond.methodLink RL 48 yX9_step ∈ ak_Ws := ak_ws 624 (by decide +kernel) rfl
theorem wd_862 : Cond.instanceMethod yX9_step ∈ ak_Ws := ak_ws 625 (by decide +kernel) rfl
theorem wd_863 : Cond.selects RX9 yX9_step yX9_step ∈ ak_Ws := ak_ws 626 (by decide +kernel) rfl
theorem wd_864 : Cond.methodLink RL 51 yX10_step ∈ ak_Ws := ak_ws 1180 (by decide +kernel) rfl
theorem wd_865 : Cond.instanceMethod yX10_step ∈ ak_Ws := ak_ws 1181 (by decide +kernel) rfl
theorem wd_866 : Cond.selects RX10 yX10_step yX10_step ∈ ak_Ws := ak_ws 1182 (by decide +kernel) rfl
theorem wd_867 : Cond.methodLink RL 52 yX9_greet ∈ ak_Ws := ak_ws 650 (by decide +kernel) rfl
theorem wd_868 : Cond.instanceMethod yX9_greet ∈ ak_Ws := ak_ws 651 (by decide +kernel) rfl
theorem wd_869 : Cond.selects RX9 yX9_greet yX9_greet ∈ ak_Ws := ak_ws 652 (by decide +kernel) rfl
theorem wd_870 : Cond.methodLink RL 55 yX10_greet ∈ ak_Ws := ak_ws 1193 (by decide +kernel) rfl
theorem wd_871 : Cond.instanceMethod yX10_greet ∈ ak_Ws := ak_ws 1194 (by decide +kernel) rfl
theorem wd_872 : Cond.selects RX10 yX10_greet yX10_greet ∈ ak_Ws := ak_ws 1195 (by decide +kernel) rfl
theorem wd_873 : Cond.methodLink RL 60 yX10_steam ∈ ak_Ws := ak_ws 1209 (by decide +kernel) rfl
theorem wd_874 : Cond.instanceMethod yX10_steam ∈ ak_Ws := ak_ws 1210 (by decide +kernel) rfl
theorem wd_875 : Cond.selects RX10 yX10_steam yX10_steam ∈ ak_Ws := ak_ws 1211 (by decide +kernel) rfl
theorem wd_876 : Cond.methodLink RL 56 yX9_steam ∈ ak_Ws := ak_ws 681 (by decide +kernel) rfl
theorem wd_877 : Cond.instanceMethod yX9_steam ∈ ak_Ws := ak_ws 682 (by decide +kernel) rfl
theorem wd_878 : Cond.selects RX9 yX9_steam yX9_steam ∈ ak_Ws := ak_ws 683 (by decide +kernel) rfl
theorem wd_879 : Cond.methodLink RL 64 yX10_door ∈ ak_Ws := ak_ws 1213 (by decide +kernel) rfl
theorem wd_880 : Cond.instanceMethod yX10_door ∈ ak_Ws := ak_ws 1214 (by decide +kernel) rfl
theorem wd_881 : Cond.selects RX10 yX10_door yX10_door ∈ ak_Ws := ak_ws 1215 (by decide +kernel) rfl
theorem wd_882 : Cond.methodLink RL 61 yX9_door ∈ ak_Ws := ak_ws 686 (by decide +kernel) rfl
theorem wd_883 : Cond.instanceMethod yX9_door ∈ ak_Ws := ak_ws 687 (by decide +kernel) rfl
theorem wd_884 : Cond.selects RX9 yX9_door yX9_door ∈ ak_Ws := ak_ws 688 (by decide +kernel) rfl
theorem wd_885 : Cond.methodLink RL 65 yX9_night ∈ ak_Ws := ak_ws 690 (by decide +kernel) rfl
theorem wd_886 : Cond.instanceMethod yX9_night ∈ ak_Ws := ak_ws 691 (by decide +kernel) rfl
theorem wd_887 : Cond.selects RX9 yX9_night yX9_night ∈ ak_Ws := ak_ws 692 (by decide +kernel) rfl
theorem wd_888 : Cond.methodLink RL 68 yX10_night ∈ ak_Ws := ak_ws 1217 (by decide +kernel) rfl
theorem wd_889 : Cond.instanceMethod yX10_night ∈ ak_Ws := ak_ws 1218 (by decide +kernel) rfl
theorem wd_890 : Cond.selects RX10 yX10_night yX10_night ∈ ak_Ws := ak_ws 1219 (by decide +kernel) rfl
theorem wd_891 : Cond.methodLink RL 69 yX9_envelope ∈ ak_Ws := ak_ws 694 (by decide +kernel) rfl
theorem wd_892 : Cond.instanceMethod yX9_envelope ∈ ak_Ws := ak_ws 695 (by decide +kernel) rfl
theorem wd_893 : Cond.selects RX9 yX9_envelope yX9_envelope ∈ ak_Ws := ak_ws 696 (by decide +kernel) rfl
theorem wd_894 : Cond.methodLink RL 72 yX10_envelope ∈ ak_Ws := ak_ws 1221 (by decide +kernel) rfl
theorem wd_895 : Cond.instanceMethod yX10_envelope ∈ ak_Ws := ak_ws 1222 (by decide +kernel) rfl
theorem wd_896 : Cond.selects RX10 yX10_envelope yX10_envelope ∈ ak_Ws := ak_ws 1223 (by decide +kernel) rfl
theorem wd_897 : Cond.methodLink RL 73 yX9_walk ∈ ak_Ws := ak_ws 698 (by decide +kernel) rfl
theorem wd_898 : Cond.instanceMethod yX9_walk ∈ ak_Ws := ak_ws 699 (by decide +kernel) rfl
theorem wd_899 : Cond.selects RX9 yX9_walk yX9_walk ∈ ak_Ws := ak_ws 700 (by decide +kernel) rfl
theorem wd_900 : Cond.methodLink RL 76 yX10_walk ∈ ak_Ws := ak_ws 1225 (by decide +kernel) rfl
theorem wd_901 : Cond.instanceMethod yX10_walk ∈ ak_Ws := ak_ws 1226 (by decide +kernel) rfl
theorem wd_902 : Cond.selects RX10 yX10_walk yX10_walk ∈ ak_Ws := ak_ws 1227 (by decide +kernel) rfl
theorem wd_903 : Cond.methodLink RL 77 yX9_drift ∈ ak_Ws := ak_ws 703 (by decide +kernel) rfl
theorem wd_904 : Cond.instanceMethod yX9_drift ∈ ak_Ws := ak_ws 704 (by decide +kernel) rfl
theorem wd_905 : Cond.selects RX9 yX9_drift yX9_drift ∈ ak_Ws := ak_ws 705 (by decide +kernel) rfl
theorem wd_906 : Cond.methodLink RL 80 yX10_drift ∈ ak_Ws := ak_ws 1229 (by decide +kernel) rfl
theorem wd_907 : Cond.instanceMethod yX10_drift ∈ ak_Ws := ak_ws 1230 (by decide +kernel) rfl
theorem wd_908 : Cond.selects RX10 yX10_drift yX10_drift ∈ ak_Ws := ak_ws 1231 (by decide +kernel) rfl
theorem wd_909 : Cond.methodLink RL 81 yX9_undo ∈ ak_Ws := ak_ws 719 (by decide +kernel) rfl
theorem wd_910 : Cond.instanceMethod yX9_undo ∈ ak_Ws := ak_ws 720 (by decide +kernel) rfl
theorem wd_911 : Cond.selects RX9 yX9_undo yX9_undo ∈ ak_Ws := ak_ws 721 (by decide +kernel) rfl
theorem wd_912 : Cond.methodLink RL 84 yX10_undo ∈ ak_Ws := ak_ws 1171 (by decide +kernel) rfl
theorem wd_913 : Cond.instanceMethod yX10_undo ∈ ak_Ws := ak_ws 1172 (by decide +kernel) rfl
theorem wd_914 : Cond.selects RX10 yX10_undo yX10_undo ∈ ak_Ws := ak_ws 1173 (by decide +kernel) rfl
theorem wd_915 : Cond.methodLink RL 85 yX9_round ∈ ak_Ws := ak_ws 728 (by decide +kernel) rfl
theorem wd_916 : Cond.instanceMethod yX9_round ∈ ak_Ws := ak_ws 729 (by decide +kernel) rfl
theorem wd_917 : Cond.selects RX9 yX9_round yX9_round ∈ ak_Ws := ak_ws 730 (by decide +kernel) rfl
theorem wd_918 : Cond.methodLink RL 88 yX10_round ∈ ak_Ws := ak_ws 1242 (by decide +kernel) rfl
theorem wd_919 : Cond.instanceMethod yX10_round ∈ ak_Ws := ak_ws 1243 (by decide +kernel) rfl
theorem wd_920 : Cond.selects RX10 yX10_round yX10_round ∈ ak_Ws := ak_ws 1244 (by decide +kernel) rfl
theorem wd_921 : Cond.methodLink RL 89 yX9_cannot ∈ ak_Ws := ak_ws 799 (by decide +kernel) rfl
theorem wd_922 : Cond.instanceMethod yX9_cannot ∈ ak_Ws := ak_ws 800 (by decide +kernel) rfl
theorem wd_923 : Cond.selects RX9 yX9_cannot yX9_cannot ∈ ak_Ws := ak_ws 801 (by decide +kernel) rfl
theorem wd_924 : Cond.methodLink RL 92 yX10_cannot ∈ ak_Ws := ak_ws 1267 (by decide +kernel) rfl
theorem wd_925 : Cond.instanceMethod yX10_cannot ∈ ak_Ws := ak_ws 1268 (by decide +kernel) rfl
theorem wd_926 : Cond.selects RX10 yX10_cannot yX10_cannot ∈ ak_Ws := ak_ws 1269 (by decide +kernel) rfl
theorem wd_927 : Cond.methodLink RL 93 yX9_steps ∈ ak_Ws := ak_ws 810 (by decide +kernel) rfl
theorem wd_928 : Cond.instanceMethod yX9_steps ∈ ak_Ws := ak_ws 811 (by decide +kernel) rfl
theorem wd_929 : Cond.selects RX9 yX9_steps yX9_steps ∈ ak_Ws := ak_ws 812 (by decide +kernel) rfl
theorem wd_930 : Cond.methodLink RL 96 yX10_steps ∈ ak_Ws := ak_ws 1271 (by decide +kernel) rfl
theorem wd_931 : Cond.instanceMethod yX10_steps ∈ ak_Ws := ak_ws 1272 (by decide +kernel) rfl
theorem wd_932 : Cond.selects RX10 yX10_steps yX10_steps ∈ ak_Ws := ak_ws 1273 (by decide +kernel) rfl
theorem wd_933 : Cond.methodLink RL 97 yX9_mostSeen ∈ ak_Ws := ak_ws 815 (by decide +kernel) rfl
theorem wd_934 : Cond.instanceMethod yX9_mostSeen ∈ ak_Ws := ak_ws 816 (by decide +kernel) rfl
theorem wd_935 : Cond.selects RX9 yX9_mostSeen yX9_mostSeen ∈ ak_Ws := ak_ws 817 (by decide +kernel) rfl
theorem wd_936 : Cond.methodLink RL 100 yX10_mostSeen ∈ ak_Ws := ak_ws 1275 (by decide +kernel) rfl
theorem wd_937 : Cond.instanceMethod yX10_mostSeen ∈ ak_Ws := ak_ws 1276 (by decide +kernel) rfl
theorem wd_938 : Cond.selects RX10 yX10_mostSeen yX10_mostSeen ∈ ak_Ws := ak_ws 1277 (by decide +kernel) rfl
theorem wd_939 : Cond.methodLink RL 101 yX9_learn ∈ ak_Ws := ak_ws 823 (by decide +kernel) rfl
theorem wd_940 : Cond.instanceMethod yX9_learn ∈ ak_Ws := ak_ws 824 (by decide +kernel) rfl
theorem wd_941 : Cond.selects RX9 yX9_learn yX9_learn ∈ ak_Ws := ak_ws 825 (by decide +kernel) rfl
theorem wd_942 : Cond.methodLink RL 104 yX10_learn ∈ ak_Ws := ak_ws 1279 (by decide +kernel) rfl
theorem wd_943 : Cond.instanceMethod yX10_learn ∈ ak_Ws := ak_ws 1280 (by decide +kernel) rfl
theorem wd_944 : Cond.selects RX10 yX10_learn yX10_learn ∈ ak_Ws := ak_ws 1281 (by decide +kernel) rfl
theorem wd_945 : Cond.methodLink RL 105 yX9_steamed ∈ ak_Ws := ak_ws 827 (by decide +kernel) rfl
theorem wd_946 : Cond.instanceMethod yX9_steamed ∈ ak_Ws := ak_ws 828 (by decide +kernel) rfl
theorem wd_947 : Cond.selects RX9 yX9_steamed yX9_steamed ∈ ak_Ws := ak_ws 829 (by decide +kernel) rfl
theorem wd_948 : Cond.methodLink RL 108 yX10_steamed ∈ ak_Ws := ak_ws 1283 (by decide +kernel) rfl
theorem wd_949 : Cond.instanceMethod yX10_steamed ∈ ak_Ws := ak_ws 1284 (by decide +kernel) rfl
theorem wd_950 : Cond.selects RX10 yX10_steamed yX10_steamed ∈ ak_Ws := ak_ws 1285 (by decide +kernel) rfl
theorem wd_951 : Cond.methodLink RL 113 yX10_ask ∈ ak_Ws := ak_ws 1290 (by decide +kernel) rfl
theorem wd_952 : Cond.instanceMethod yX10_ask ∈ ak_Ws := ak_ws 1291 (by decide +kernel) rfl
theorem wd_953 : Cond.selects RX10 yX10_ask yX10_ask ∈ ak_Ws := ak_ws 1292 (by decide +kernel) rfl
theorem wd_954 : Cond.methodLink RL 109 yX9_ask ∈ ak_Ws := ak_ws 833 (by decide +kernel) rfl
theorem wd_955 : Cond.instanceMethod yX9_ask ∈ ak_Ws := ak_ws 834 (by decide +kernel) rfl
theorem wd_956 : Cond.selects RX9 yX9_ask yX9_ask ∈ ak_Ws := ak_ws 835 (by decide +kernel) rfl
theorem wd_957 : Cond.methodLink RL 114 yX9_changed ∈ ak_Ws := ak_ws 842 (by decide +kernel) rfl
theorem wd_958 : Cond.instanceMethod yX9_changed ∈ ak_Ws := ak_ws 843 (by decide +kernel) rfl
theorem wd_959 : Cond.selects RX9 yX9_changed yX9_changed ∈ ak_Ws := ak_ws 844 (by decide +kernel) rfl
theorem wd_960 : Cond.methodLink RL 117 yX10_changed ∈ ak_Ws := ak_ws 1294 (by decide +kernel) rfl
theorem wd_961 : Cond.instanceMethod yX10_changed ∈ ak_Ws := ak_ws 1295 (by decide +kernel) rfl
theorem wd_962 : Cond.selects RX10 yX10_changed yX10_changed ∈ ak_Ws := ak_ws 1296 (by decide +kernel) rfl
theorem wd_963 : Cond.methodLink RL 118 yX9_askNext ∈ ak_Ws := ak_ws 860 (by decide +kernel) rfl
theorem wd_964 : Cond.instanceMethod yX9_askNext ∈ ak_Ws := ak_ws 861 (by decide +kernel) rfl
theorem wd_965 : Cond.selects RX9 yX9_askNext yX9_askNext ∈ ak_Ws := ak_ws 862 (by decide +kernel) rfl
theorem wd_966 : Cond.methodLink RL 121 yX10_askNext ∈ ak_Ws := ak_ws 1310 (by decide +kernel) rfl
theorem wd_967 : Cond.instanceMethod yX10_askNext ∈ ak_Ws := ak_ws 1311 (by decide +kernel) rfl
theorem wd_968 : Cond.selects RX10 yX10_askNext yX10_askNext ∈ ak_Ws := ak_ws 1312 (by decide +kernel) rfl
theorem wd_969 : Cond.methodLink RL 122 yX9_called ∈ ak_Ws := ak_ws 874 (by decide +kernel) rfl
theorem wd_970 : Cond.instanceMethod yX9_called ∈ ak_Ws := ak_ws 875 (by decide +kernel) rfl
theorem wd_971 : Cond.selects RX9 yX9_called yX9_called ∈ ak_Ws := ak_ws 876 (by decide +kernel) rfl
theorem wd_972 : Cond.methodLink RL 125 yX10_called ∈ ak_Ws := ak_ws 1314 (by decide +kernel) rfl
theorem wd_973 : Cond.instanceMethod yX10_called ∈ ak_Ws := ak_ws 1315 (by decide +kernel) rfl
theorem wd_974 : Cond.selects RX10 yX10_called yX10_called ∈ ak_Ws := ak_ws 1316 (by decide +kernel) rfl
theorem wd_975 : Cond.methodLink RL 126 yX9_write ∈ ak_Ws := ak_ws 883 (by decide +kernel) rfl
theorem wd_976 : Cond.instanceMethod yX9_write ∈ ak_Ws := ak_ws 884 (by decide +kernel) rfl
theorem wd_977 : Cond.selects RX9 yX9_write yX9_write ∈ ak_Ws := ak_ws 885 (by decide +kernel) rfl
theorem wd_978 : Cond.methodLink RL 129 yX10_write ∈ ak_Ws := ak_ws 1318 (by decide +kernel) rfl
theorem wd_979 : Cond.instanceMethod yX10_write ∈ ak_Ws := ak_ws 1319 (by decide +kernel) rfl
theorem wd_980 : Cond.selects RX10 yX10_write yX10_write ∈ ak_Ws := ak_ws 1320 (by decide +kernel) rfl
theorem wd_981 : Cond.methodLink RL 130 yX9_tear ∈ ak_Ws := ak_ws 892 (by decide +kernel) rfl
theorem wd_982 : Cond.instanceMethod yX9_tear ∈ ak_Ws := ak_ws 893 (by decide +kernel) rfl
theorem wd_983 : Cond.selects RX9 yX9_tear yX9_tear ∈ ak_Ws := ak_ws 894 (by decide +kernel) rfl
theorem wd_984 : Cond.methodLink RL 133 yX10_tear ∈ ak_Ws := ak_ws 1322 (by decide +kernel) rfl
theorem wd_985 : Cond.instanceMethod yX10_tear ∈ ak_Ws := ak_ws 1323 (by decide +kernel) rfl
theorem wd_986 : Cond.selects RX10 yX10_tear yX10_tear ∈ ak_Ws := ak_ws 1324 (by decide +kernel) rfl
theorem wd_987 : Cond.methodLink RL 134 yX9_judge ∈ ak_Ws := ak_ws 896 (by decide +kernel) rfl
theorem wd_988 : Cond.instanceMethod yX9_judge ∈ ak_Ws := ak_ws 897 (by decide +kernel) rfl
theorem wd_989 : Cond.selects RX9 yX9_judge yX9_judge ∈ ak_Ws := ak_ws 898 (by decide +kernel) rfl
theorem wd_990 : Cond.methodLink RL 137 yX10_judge ∈ ak_Ws := ak_ws 1326 (by decide +kernel) rfl
theorem wd_991 : Cond.instanceMethod yX10_judge ∈ ak_Ws := ak_ws 1327 (by decide +kernel) rfl
theorem wd_992 : Cond.selects RX10 yX10_judge yX10_judge ∈ ak_Ws := ak_ws 1328 (by decide +kernel) rfl
theorem wd_993 : Cond.methodLink RL 138 yX9_seed ∈ ak_Ws := ak_ws 905 (by decide +kernel) rfl
theorem wd_994 : Cond.instanceMethod yX9_seed ∈ ak_Ws := ak_ws 906 (by decide +kernel) rfl
theorem wd_995 : Cond.selects RX9 yX9_seed yX9_seed ∈ ak_Ws := ak_ws 907 (by decide +kernel) rfl
theorem wd_996 : Cond.methodLink RL 141 yX10_seed ∈ ak_Ws := ak_ws 1330 (by decide +kernel) rfl
theorem wd_997 : Cond.instanceMethod yX10_seed ∈ ak_Ws := ak_ws 1331 (by decide +kernel) rfl
theorem wd_998 : Cond.selects RX10 yX10_seed yX10_seed ∈ ak_Ws := ak_ws 1332 (by decide +kernel) rfl
theorem wd_999 : Cond.methodLink RL 142 yX9_keep ∈ ak_Ws := ak_ws 909 (by decide +kernel) rfl
theorem wd_1000 : Cond.instanceMethod yX9_keep ∈ ak_Ws := ak_ws 910 (by decide +kernel) rfl
theorem wd_1001 : Cond.selects RX9 yX9_keep yX9_keep ∈ ak_Ws := ak_ws 911 (by decide +kernel) rfl
theorem wd_1002 : Cond.methodLink RL 145 yX10_keep ∈ ak_Ws := ak_ws 1334 (by decide +kernel) rfl
theorem wd_1003 : Cond.instanceMethod yX10_keep ∈ ak_Ws := ak_ws 1335 (by decide +kernel) rfl
theorem wd_1004 : Cond.selects RX10 yX10_keep yX10_keep ∈ ak_Ws := ak_ws 1336 (by decide +kernel) rfl
theorem wd_1005 : Cond.methodLink RL 146 yX9_goBack ∈ ak_Ws := ak_ws 918 (by decide +kernel) rfl
theorem wd_1006 : Cond.instanceMethod yX9_goBack ∈ ak_Ws := ak_ws 919 (by decide +kernel) rfl
theorem wd_1007 : Cond.selects RX9 yX9_goBack yX9_goBack ∈ ak_Ws := ak_ws 920 (by decide +kernel) rfl
theorem wd_1008 : Cond.methodLink RL 149 yX10_goBack ∈ ak_Ws := ak_ws 1338 (by decide +kernel) rfl
theorem wd_1009 : Cond.instanceMethod yX10_goBack ∈ ak_Ws := ak_ws 1339 (by decide +kernel) rfl
theorem wd_1010 : Cond.selects RX10 yX10_goBack yX10_goBack ∈ ak_Ws := ak_ws 1340 (by decide +kernel) rfl
theorem wd_1011 : Cond.classLink RL 7 RX9 ∈ ak_Ws := ak_ws 115 (by decide +kernel) rfl
theorem wd_1012 : Cond.instantiable RX9 11 ∈ ak_Ws := ak_ws 116 (by decide +kernel) rfl
theorem wd_1013 : Cond.methodLink RL 9 yX9_init ∈ ak_Ws := ak_ws 117 (by decide +kernel) rfl
theorem wd_1014 : Cond.instanceMethod yX9_init ∈ ak_Ws := ak_ws 118 (by decide +kernel) rfl
theorem wd_1015 : Cond.classLink RL 10 RX10 ∈ ak_Ws := ak_ws 922 (by decide +kernel) rfl
theorem wd_1016 : Cond.instantiable RX10 41 ∈ ak_Ws := ak_ws 923 (by decide +kernel) rfl
theorem wd_1017 : Cond.methodLink RL 12 yX10_init ∈ ak_Ws := ak_ws 924 (by decide +kernel) rfl
theorem wd_1018 : Cond.instanceMethod yX10_init ∈ ak_Ws := ak_ws 925 (by decide +kernel) rfl
