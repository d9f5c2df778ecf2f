theorem tt_0 : (.methodLink "KeepHeap$Reach" 3 Lib.objectInit : Cond) ∈ lw_tbl := List.mem_append_right _ (List.mem_append_left _ (List.mem_of_getElem? (i := 23) rfl))
theorem tt_1 : (.instanceMethod Lib.objectInit : Cond) ∈ lw_tbl := List.mem_append_right _ (List.mem_append_left _ (List.mem_of_getElem? (i := 14) rfl))
theorem tt_2 : (.code Lib.objectInit ⟨#[0xb1]⟩ 1 none : Cond) ∈ lw_tbl := List.mem_append_right _ (List.mem_append_left _ (List.mem_of_getElem? (i := 15) rfl))
theorem tt_3 : (.arrayClass (newarray.typeOf .boolean) : Cond) ∈ lw_tbl := List.mem_append_right _ (List.mem_append_left _ (List.mem_of_getElem? (i := 35) rfl))
theorem tt_4 : (.fieldLink "KeepHeap$Reach" 9 "KeepHeap$Reach" "reached" "[Z" : Cond) ∈ lw_tbl := List.mem_append_right _ (List.mem_append_left _ (List.mem_of_getElem? (i := 24) rfl))
theorem tt_5 : (.arrayClass (newarray.typeOf .int) : Cond) ∈ lw_tbl := List.mem_append_right _ (List.mem_append_left _ (List.mem_of_getElem? (i := 34) rfl))
theorem tt_6 : (.fieldLink "KeepHeap$Reach" 15 "KeepHeap$Reach" "queue" "[I" : Cond) ∈ lw_tbl := List.mem_append_right _ (List.mem_append_left _ (List.mem_of_getElem? (i := 25) rfl))
theorem tt_7 : (.fieldLink "KeepHeap$Reach" 19 "KeepHeap$Reach" "found" "I" : Cond) ∈ lw_tbl := List.mem_append_right _ (List.mem_append_left _ (List.mem_of_getElem? (i := 26) rfl))
theorem tt_8 : (.methodLink "KeepHeap$Slots" 3 Lib.objectInit : Cond) ∈ lw_tbl := List.mem_append_right _ (List.mem_append_left _ (List.mem_of_getElem? (i := 41) rfl))
theorem tt_9 : (.fieldLink "KeepHeap$Slots" 9 "KeepHeap$Slots" "used" "I" : Cond) ∈ lw_tbl := List.mem_append_right _ (List.mem_append_left _ (List.mem_of_getElem? (i := 49) rfl))
theorem tt_10 : (.fieldLink "KeepHeap$Slots" 15 "KeepHeap$Slots" "form" "I" : Cond) ∈ lw_tbl := List.mem_append_right _ (List.mem_append_left _ (List.mem_of_getElem? (i := 42) rfl))
theorem tt_11 : (.fieldLink "KeepHeap$Slots" 18 "KeepHeap$Slots" "names" "[I" : Cond) ∈ lw_tbl := List.mem_append_right _ (List.mem_append_left _ (List.mem_of_getElem? (i := 45) rfl))
theorem tt_12 : (.arrayClass (newarray.typeOf .long) : Cond) ∈ lw_tbl := List.mem_append_right _ (List.mem_append_left _ (List.mem_of_getElem? (i := 61) rfl))
theorem tt_13 : (.fieldLink "KeepHeap$Slots" 22 "KeepHeap$Slots" "values" "[J" : Cond) ∈ lw_tbl := List.mem_append_right _ (List.mem_append_left _ (List.mem_of_getElem? (i := 46) rfl))
theorem tt_14 : (.methodLink "KeepHeap$State" 3 Lib.objectInit : Cond) ∈ lw_tbl := List.mem_append_right _ (List.mem_append_left _ (List.mem_of_getElem? (i := 66) rfl))
theorem tt_15 : (.classLink "KeepHeap$State" 9 "KeepHeap$Slots" : Cond) ∈ lw_tbl := List.mem_append_right _ (List.mem_append_left _ (List.mem_of_getElem? (i := 67) rfl))
theorem tt_16 : (.fieldLink "KeepHeap$State" 11 "KeepHeap$State" "objects" "[LKeepHeap$Slots;" : Cond) ∈ lw_tbl := List.mem_append_right _ (List.mem_append_left _ (List.mem_of_getElem? (i := 69) rfl))
theorem tt_17 : (.fieldLink "KeepHeap$State" 17 "KeepHeap$State" "roots" "LKeepHeap$Slots;" : Cond) ∈ lw_tbl := List.mem_append_right _ (List.mem_append_left _ (List.mem_of_getElem? (i := 72) rfl))
theorem tt_18 : (.methodLink "KeepHeap" 3 Lib.objectInit : Cond) ∈ lw_tbl := List.mem_append_right _ (List.mem_append_left _ (List.mem_of_getElem? (i := 13) rfl))
theorem tt_19 : (.classLink "KeepHeap" 9 "KeepHeap$State" : Cond) ∈ lw_tbl := List.mem_append_right _ (List.mem_append_left _ (List.mem_of_getElem? (i := 16) rfl))
theorem tt_20 : (.fieldLink "KeepHeap" 11 "KeepHeap" "ring" "[LKeepHeap$State;" : Cond) ∈ lw_tbl := List.mem_append_right _ (List.mem_append_left _ (List.mem_of_getElem? (i := 81) rfl))
theorem tt_21 : (.fieldLink "KeepHeap" 15 "KeepHeap" "ringBytes" "[I" : Cond) ∈ lw_tbl := List.mem_append_right _ (List.mem_append_left _ (List.mem_of_getElem? (i := 82) rfl))
theorem tt_22 : (.classLink "KeepHeap" 19 "KeepHeap$Reach" : Cond) ∈ lw_tbl := List.mem_append_right _ (List.mem_append_left _ (List.mem_of_getElem? (i := 18) rfl))
theorem tt_23 : (.instantiable "KeepHeap$Reach" 3 : Cond) ∈ lw_tbl := List.mem_append_right _ (List.mem_append_left _ (List.mem_of_getElem? (i := 19) rfl))
theorem tt_24 : (.initialized "KeepHeap$Reach" : Cond) ∈ lw_tbl := List.mem_append_right _ (List.mem_append_left _ (List.mem_of_getElem? (i := 2) rfl))
theorem tt_25 : (cd_R_init : Cond) ∈ lw_tbl := List.mem_append_right _ (List.mem_append_left _ (List.mem_of_getElem? (i := 22) rfl))
theorem tt_26 : (.instanceMethod y_R_init : Cond) ∈ lw_tbl := List.mem_append_right _ (List.mem_append_left _ (List.mem_of_getElem? (i := 21) rfl))
theorem tt_27 : (.fieldLink "KeepHeap" 22 "KeepHeap" "reach" "LKeepHeap$Reach;" : Cond) ∈ lw_tbl := List.mem_append_right _ (List.mem_append_left _ (List.mem_of_getElem? (i := 83) rfl))
theorem tt_28 : (.fieldLink "KeepHeap" 26 "KeepHeap" "safeAt" "I" : Cond) ∈ lw_tbl := List.mem_append_right _ (List.mem_append_left _ (List.mem_of_getElem? (i := 84) rfl))
theorem tt_29 : (.fieldLink "KeepHeap" 30 "KeepHeap" "waiting" "I" : Cond) ∈ lw_tbl := List.mem_append_right _ (List.mem_append_left _ (List.mem_of_getElem? (i := 85) rfl))
theorem tt_30 : (.fieldLink "KeepHeap" 33 "KeepHeap" "logBytes" "I" : Cond) ∈ lw_tbl := List.mem_append_right _ (List.mem_append_left _ (List.mem_of_getElem? (i := 86) rfl))
theorem tt_31 : (.classLink "KeepHeap" 36 "KeepHeap$Slots" : Cond) ∈ lw_tbl := List.mem_append_right _ (List.mem_append_left _ (List.mem_of_getElem? (i := 36) rfl))
theorem tt_32 : (.instantiable "KeepHeap$Slots" 4 : Cond) ∈ lw_tbl := List.mem_append_right _ (List.mem_append_left _ (List.mem_of_getElem? (i := 37) rfl))
theorem tt_33 : (.initialized "KeepHeap$Slots" : Cond) ∈ lw_tbl := List.mem_append_right _ (List.mem_append_left _ (List.mem_of_getElem? (i := 3) rfl))
theorem tt_34 : (cd_S_init : Cond) ∈ lw_tbl := List.mem_append_right _ (List.mem_append_left _ (List.mem_of_getElem? (i := 40) rfl))
theorem tt_35 : (.methodLink "KeepHeap" 38 y_S_init : Cond) ∈ lw_tbl := List.mem_append_right _ (List.mem_append_left _ (List.mem_of_getElem? (i := 38) rfl))
theorem tt_36 : (.instanceMethod y_S_init : Cond) ∈ lw_tbl := List.mem_append_right _ (List.mem_append_left _ (List.mem_of_getElem? (i := 39) rfl))
theorem tt_37 : (.instantiable "KeepHeap$State" 2 : Cond) ∈ lw_tbl := List.mem_append_right _ (List.mem_append_left _ (List.mem_of_getElem? (i := 62) rfl))
theorem tt_38 : (.initialized "KeepHeap$State" : Cond) ∈ lw_tbl := List.mem_append_right _ (List.mem_append_left _ (List.mem_of_getElem? (i := 4) rfl))
theorem tt_39 : (cd_T_init : Cond) ∈ lw_tbl := List.mem_append_right _ (List.mem_append_left _ (List.mem_of_getElem? (i := 65) rfl))
theorem tt_40 : (.methodLink "KeepHeap" 41 y_T_init : Cond) ∈ lw_tbl := List.mem_append_right _ (List.mem_append_left _ (List.mem_of_getElem? (i := 63) rfl))
theorem tt_41 : (.instanceMethod y_T_init : Cond) ∈ lw_tbl := List.mem_append_right _ (List.mem_append_left _ (List.mem_of_getElem? (i := 64) rfl))
theorem tt_42 : (.fieldLink "KeepHeap" 44 "KeepHeap" "now" "LKeepHeap$State;" : Cond) ∈ lw_tbl := List.mem_append_right _ (List.mem_append_left _ (List.mem_of_getElem? (i := 80) rfl))
theorem tt_43 : (.methodLink "KeepHeapModel$State" 3 Lib.objectInit : Cond) ∈ lw_tbl := List.mem_append_right _ (List.mem_append_right _ (List.mem_of_getElem? (i := 61) rfl))
theorem tt_44 : (.fieldLink "KeepHeapModel$State" 9 "KeepHeapModel$State" "kind" "[I" : Cond) ∈ lw_tbl := List.mem_append_right _ (List.mem_append_right _ (List.mem_of_getElem? (i := 62) rfl))
theorem tt_45 : (.fieldLink "KeepHeapModel$State" 15 "KeepHeapModel$State" "size" "[I" : Cond) ∈ lw_tbl := List.mem_append_right _ (List.mem_append_right _ (List.mem_of_getElem? (i := 64) rfl))
theorem tt_46 : (.fieldLink "KeepHeapModel$State" 18 "KeepHeapModel$State" "name" "[I" : Cond) ∈ lw_tbl := List.mem_append_right _ (List.mem_append_right _ (List.mem_of_getElem? (i := 66) rfl))
theorem tt_47 : (.fieldLink "KeepHeapModel$State" 21 "KeepHeapModel$State" "root" "[I" : Cond) ∈ lw_tbl := List.mem_append_right _ (List.mem_append_right _ (List.mem_of_getElem? (i := 68) rfl))
theorem tt_48 : (.fieldLink "KeepHeapModel$State" 24 "KeepHeapModel$State" "slot" "[J" : Cond) ∈ lw_tbl := List.mem_append_right _ (List.mem_append_right _ (List.mem_of_getElem? (i := 70) rfl))
theorem tt_49 : (.fieldLink "KeepHeapModel$State" 28 "KeepHeapModel$State" "value" "[J" : Cond) ∈ lw_tbl := List.mem_append_right _ (List.mem_append_right _ (List.mem_of_getElem? (i := 72) rfl))
theorem tt_50 : (.methodLink "KeepHeapModel" 1 Lib.objectInit : Cond) ∈ lw_tbl := List.mem_append_right _ (List.mem_append_right _ (List.mem_of_getElem? (i := 55) rfl))
theorem tt_51 : (.classLink "KeepHeapModel" 7 "KeepHeapModel$State" : Cond) ∈ lw_tbl := List.mem_append_right _ (List.mem_append_right _ (List.mem_of_getElem? (i := 56) rfl))
theorem tt_52 : (.instantiable "KeepHeapModel$State" 8 : Cond) ∈ lw_tbl := List.mem_append_right _ (List.mem_append_right _ (List.mem_of_getElem? (i := 57) rfl))
theorem tt_53 : (.initialized "KeepHeapModel$State" : Cond) ∈ lw_tbl := List.mem_append_right _ (List.mem_append_left _ (List.mem_of_getElem? (i := 6) rfl))
theorem tt_54 : (cd_N_init : Cond) ∈ lw_tbl := List.mem_append_right _ (List.mem_append_right _ (List.mem_of_getElem? (i := 60) rfl))
theorem tt_55 : (.instanceMethod y_N_init : Cond) ∈ lw_tbl := List.mem_append_right _ (List.mem_append_right _ (List.mem_of_getElem? (i := 59) rfl))
theorem tt_56 : (.fieldLink "KeepHeapModel" 10 "KeepHeapModel" "now" "LKeepHeapModel$State;" : Cond) ∈ lw_tbl := List.mem_append_right _ (List.mem_append_right _ (List.mem_of_getElem? (i := 95) rfl))
theorem tt_57 : (.fieldLink "KeepHeapModel" 16 "KeepHeapModel" "kept" "LKeepHeapModel$State;" : Cond) ∈ lw_tbl := List.mem_append_right _ (List.mem_append_right _ (List.mem_of_getElem? (i := 96) rfl))
theorem tt_58 : (.fieldLink "KeepHeapModel" 19 "KeepHeapModel" "safe" "LKeepHeapModel$State;" : Cond) ∈ lw_tbl := List.mem_append_right _ (List.mem_append_right _ (List.mem_of_getElem? (i := 97) rfl))
theorem tt_59 : (.fieldLink "KeepHeapModel" 22 "KeepHeapModel" "waiting" "[LKeepHeapModel$State;" : Cond) ∈ lw_tbl := List.mem_append_right _ (List.mem_append_right _ (List.mem_of_getElem? (i := 98) rfl))
theorem tt_60 : (.fieldLink "KeepHeapModel" 26 "KeepHeapModel" "reached" "[Z" : Cond) ∈ lw_tbl := List.mem_append_right _ (List.mem_append_right _ (List.mem_of_getElem? (i := 101) rfl))
theorem tt_61 : (.fieldLink "KeepHeapModel" 30 "KeepHeapModel" "path" "[I" : Cond) ∈ lw_tbl := List.mem_append_right _ (List.mem_append_right _ (List.mem_of_getElem? (i := 102) rfl))
theorem tt_62 : (.fieldLink "KeepHeap" 48 "KeepHeap$State" "objects" "[LKeepHeap$Slots;" : Cond) ∈ lw_tbl := List.mem_append_right _ (List.mem_append_left _ (List.mem_of_getElem? (i := 70) rfl))
theorem tt_63 : (.fieldLink "KeepHeapModel" 40 "KeepHeapModel$State" "kind" "[I" : Cond) ∈ lw_tbl := List.mem_append_right _ (List.mem_append_right _ (List.mem_of_getElem? (i := 63) rfl))
theorem tt_64 : (.fieldLink "KeepHeapModel" 51 "KeepHeapModel$State" "size" "[I" : Cond) ∈ lw_tbl := List.mem_append_right _ (List.mem_append_right _ (List.mem_of_getElem? (i := 65) rfl))
theorem tt_65 : (.constantLong "KeepHeap" 132 1099511627776 : Cond) ∈ lw_tbl := List.mem_append_right _ (List.mem_append_left _ (List.mem_of_getElem? (i := 114) rfl))
theorem tt_66 : (cd_T_has : Cond) ∈ lw_tbl := List.mem_append_right _ (List.mem_append_left _ (List.mem_of_getElem? (i := 118) rfl))
theorem tt_67 : (.methodLink "KeepHeap" 134 y_T_has : Cond) ∈ lw_tbl := List.mem_append_right _ (List.mem_append_left _ (List.mem_of_getElem? (i := 115) rfl))
theorem tt_68 : (.instanceMethod y_T_has : Cond) ∈ lw_tbl := List.mem_append_right _ (List.mem_append_left _ (List.mem_of_getElem? (i := 116) rfl))
theorem tt_69 : (.selects "KeepHeap$State" y_T_has y_T_has : Cond) ∈ lw_tbl := List.mem_append_right _ (List.mem_append_left _ (List.mem_of_getElem? (i := 117) rfl))
theorem tt_70 : (.constantLong "KeepHeap" 60 (-1099511627776) : Cond) ∈ lw_tbl := List.mem_append_right _ (List.mem_append_left _ (List.mem_of_getElem? (i := 120) rfl))
theorem tt_71 : (.constantLong "KeepHeap" 137 1099511627777 : Cond) ∈ lw_tbl := List.mem_append_right _ (List.mem_append_left _ (List.mem_of_getElem? (i := 119) rfl))
theorem tt_72 : (.methodLink "KeepHeap$State" 21 y_T_has : Cond) ∈ lw_tbl := List.mem_append_right _ (List.mem_append_left _ (List.mem_of_getElem? (i := 129) rfl))
theorem tt_73 : (.fieldLink "KeepHeap$State" 25 "KeepHeap$Slots" "form" "I" : Cond) ∈ lw_tbl := List.mem_append_right _ (List.mem_append_left _ (List.mem_of_getElem? (i := 43) rfl))
theorem tt_74 : (cd_K_ringIndex : Cond) ∈ lw_tbl := List.mem_append_right _ (List.mem_append_left _ (List.mem_of_getElem? (i := 137) rfl))
theorem tt_75 : (.methodLink "KeepHeap" 116 y_K_ringIndex : Cond) ∈ lw_tbl := List.mem_append_right _ (List.mem_append_left _ (List.mem_of_getElem? (i := 134) rfl))
theorem tt_76 : (.instanceMethod y_K_ringIndex : Cond) ∈ lw_tbl := List.mem_append_right _ (List.mem_append_left _ (List.mem_of_getElem? (i := 136) rfl))
theorem tt_77 : (.selects "KeepHeap" y_K_ringIndex y_K_ringIndex : Cond) ∈ lw_tbl := List.mem_append_left _ (List.mem_of_getElem? (i := 3) rfl)
theorem tt_78 : (.initialized "KeepHeap" : Cond) ∈ lw_tbl := List.mem_append_right _ (List.mem_append_left _ (List.mem_of_getElem? (i := 1) rfl))
theorem tt_79 : (.classLink "KeepHeap$Slots" 10 "KeepHeap$Slots" : Cond) ∈ lw_tbl := List.mem_append_right _ (List.mem_append_left _ (List.mem_of_getElem? (i := 142) rfl))
theorem tt_80 : (.methodLink "KeepHeap$Slots" 26 y_S_init : Cond) ∈ lw_tbl := List.mem_append_right _ (List.mem_append_left _ (List.mem_of_getElem? (i := 143) rfl))
theorem tt_81 : (.methodLink "KeepHeap$Slots" 29 arraycopyName : Cond) ∈ lw_tbl := List.mem_append_right _ (List.mem_append_left _ (List.mem_of_getElem? (i := 144) rfl))
theorem tt_82 : (.native arraycopyName : Cond) ∈ lw_tbl := List.mem_append_right _ (List.mem_append_left _ (List.mem_of_getElem? (i := 146) rfl))
theorem tt_83 : (.static arraycopyName : Cond) ∈ lw_tbl := List.mem_append_right _ (List.mem_append_left _ (List.mem_of_getElem? (i := 145) rfl))
theorem tt_84 : (.initialized "java/lang/System" : Cond) ∈ lw_tbl := List.mem_append_right _ (List.mem_append_left _ (List.mem_of_getElem? (i := 7) rfl))
theorem tt_85 : (cd_T_find : Cond) ∈ lw_tbl := List.mem_append_right _ (List.mem_append_left _ (List.mem_of_getElem? (i := 128) rfl))
theorem tt_86 : (.methodLink "KeepHeap" 66 y_T_find : Cond) ∈ lw_tbl := List.mem_append_right _ (List.mem_append_left _ (List.mem_of_getElem? (i := 125) rfl))
theorem tt_87 : (.instanceMethod y_T_find : Cond) ∈ lw_tbl := List.mem_append_right _ (List.mem_append_left _ (List.mem_of_getElem? (i := 126) rfl))
theorem tt_88 : (.selects "KeepHeap$State" y_T_find y_T_find : Cond) ∈ lw_tbl := List.mem_append_right _ (List.mem_append_left _ (List.mem_of_getElem? (i := 127) rfl))
theorem tt_89 : (cd_K_kept : Cond) ∈ lw_tbl := List.mem_append_right _ (List.mem_append_left _ (List.mem_of_getElem? (i := 133) rfl))
theorem tt_90 : (.methodLink "KeepHeap" 104 y_K_kept : Cond) ∈ lw_tbl := List.mem_append_right _ (List.mem_append_left _ (List.mem_of_getElem? (i := 130) rfl))
theorem tt_91 : (.instanceMethod y_K_kept : Cond) ∈ lw_tbl := List.mem_append_right _ (List.mem_append_left _ (List.mem_of_getElem? (i := 132) rfl))
theorem tt_92 : (.selects "KeepHeap" y_K_kept y_K_kept : Cond) ∈ lw_tbl := List.mem_append_left _ (List.mem_of_getElem? (i := 2) rfl)
theorem tt_93 : (cd_S_twin : Cond) ∈ lw_tbl := List.mem_append_right _ (List.mem_append_left _ (List.mem_of_getElem? (i := 141) rfl))
theorem tt_94 : (.methodLink "KeepHeap" 139 y_S_twin : Cond) ∈ lw_tbl := List.mem_append_right _ (List.mem_append_left _ (List.mem_of_getElem? (i := 138) rfl))
theorem tt_95 : (.instanceMethod y_S_twin : Cond) ∈ lw_tbl := List.mem_append_right _ (List.mem_append_left _ (List.mem_of_getElem? (i := 139) rfl))
theorem tt_96 : (.selects "KeepHeap$Slots" y_S_twin y_S_twin : Cond) ∈ lw_tbl := List.mem_append_right _ (List.mem_append_left _ (List.mem_of_getElem? (i := 140) rfl))
theorem tt_97 : (cd_S_holds : Cond) ∈ lw_tbl := List.mem_append_right _ (List.mem_append_left _ (List.mem_of_getElem? (i := 163) rfl))
theorem tt_98 : (.methodLink "KeepHeap$Slots" 49 y_S_holds : Cond) ∈ lw_tbl := List.mem_append_right _ (List.mem_append_left _ (List.mem_of_getElem? (i := 160) rfl))
theorem tt_99 : (.instanceMethod y_S_holds : Cond) ∈ lw_tbl := List.mem_append_right _ (List.mem_append_left _ (List.mem_of_getElem? (i := 161) rfl))
theorem tt_100 : (.selects "KeepHeap$Slots" y_S_holds y_S_holds : Cond) ∈ lw_tbl := List.mem_append_right _ (List.mem_append_left _ (List.mem_of_getElem? (i := 162) rfl))
theorem tt_101 : (cd_S_placeOf : Cond) ∈ lw_tbl := List.mem_append_right _ (List.mem_append_left _ (List.mem_of_getElem? (i := 154) rfl))
theorem tt_102 : (.methodLink "KeepHeap$Slots" 35 y_S_placeOf : Cond) ∈ lw_tbl := List.mem_append_right _ (List.mem_append_left _ (List.mem_of_getElem? (i := 151) rfl))
theorem tt_103 : (.instanceMethod y_S_placeOf : Cond) ∈ lw_tbl := List.mem_append_right _ (List.mem_append_left _ (List.mem_of_getElem? (i := 152) rfl))
theorem tt_104 : (.selects "KeepHeap$Slots" y_S_placeOf y_S_placeOf : Cond) ∈ lw_tbl := List.mem_append_right _ (List.mem_append_left _ (List.mem_of_getElem? (i := 153) rfl))
theorem tt_105 : (.constantLong "KeepHeap$Slots" 39 1099511627776 : Cond) ∈ lw_tbl := List.mem_append_right _ (List.mem_append_left _ (List.mem_of_getElem? (i := 155) rfl))
theorem tt_106 : (cd_S_append : Cond) ∈ lw_tbl := List.mem_append_right _ (List.mem_append_left _ (List.mem_of_getElem? (i := 167) rfl))
theorem tt_107 : (.methodLink "KeepHeap$Slots" 45 y_S_append : Cond) ∈ lw_tbl := List.mem_append_right _ (List.mem_append_left _ (List.mem_of_getElem? (i := 164) rfl))
theorem tt_108 : (.instanceMethod y_S_append : Cond) ∈ lw_tbl := List.mem_append_right _ (List.mem_append_left _ (List.mem_of_getElem? (i := 165) rfl))
theorem tt_109 : (.selects "KeepHeap$Slots" y_S_append y_S_append : Cond) ∈ lw_tbl := List.mem_append_right _ (List.mem_append_left _ (List.mem_of_getElem? (i := 166) rfl))
theorem tt_110 : (cd_S_removeAt : Cond) ∈ lw_tbl := List.mem_append_right _ (List.mem_append_left _ (List.mem_of_getElem? (i := 159) rfl))
theorem tt_111 : (.methodLink "KeepHeap$Slots" 41 y_S_removeAt : Cond) ∈ lw_tbl := List.mem_append_right _ (List.mem_append_left _ (List.mem_of_getElem? (i := 156) rfl))
theorem tt_112 : (.instanceMethod y_S_removeAt : Cond) ∈ lw_tbl := List.mem_append_right _ (List.mem_append_left _ (List.mem_of_getElem? (i := 157) rfl))
theorem tt_113 : (.selects "KeepHeap$Slots" y_S_removeAt y_S_removeAt : Cond) ∈ lw_tbl := List.mem_append_right _ (List.mem_append_left _ (List.mem_of_getElem? (i := 158) rfl))
theorem tt_114 : (cd_K_valueOf : Cond) ∈ lw_tbl := List.mem_append_right _ (List.mem_append_left _ (List.mem_of_getElem? (i := 113) rfl))
theorem tt_115 : (.methodLink "KeepHeap" 52 y_K_valueOf : Cond) ∈ lw_tbl := List.mem_append_right _ (List.mem_append_left _ (List.mem_of_getElem? (i := 110) rfl))
theorem tt_116 : (.instanceMethod y_K_valueOf : Cond) ∈ lw_tbl := List.mem_append_right _ (List.mem_append_left _ (List.mem_of_getElem? (i := 112) rfl))
theorem tt_117 : (.selects "KeepHeap" y_K_valueOf y_K_valueOf : Cond) ∈ lw_tbl := List.mem_append_left _ (List.mem_of_getElem? (i := 0) rfl)
theorem tt_118 : (cd_K_own : Cond) ∈ lw_tbl := List.mem_append_right _ (List.mem_append_left _ (List.mem_of_getElem? (i := 124) rfl))
theorem tt_119 : (.methodLink "KeepHeap" 56 y_K_own : Cond) ∈ lw_tbl := List.mem_append_right _ (List.mem_append_left _ (List.mem_of_getElem? (i := 121) rfl))
theorem tt_120 : (.instanceMethod y_K_own : Cond) ∈ lw_tbl := List.mem_append_right _ (List.mem_append_left _ (List.mem_of_getElem? (i := 123) rfl))
theorem tt_121 : (.selects "KeepHeap" y_K_own y_K_own : Cond) ∈ lw_tbl := List.mem_append_left _ (List.mem_of_getElem? (i := 1) rfl)
theorem tt_122 : (cd_S_assign : Cond) ∈ lw_tbl := List.mem_append_right _ (List.mem_append_left _ (List.mem_of_getElem? (i := 150) rfl))
theorem tt_123 : (.methodLink "KeepHeap" 62 y_S_assign : Cond) ∈ lw_tbl := List.mem_append_right _ (List.mem_append_left _ (List.mem_of_getElem? (i := 147) rfl))
theorem tt_124 : (.instanceMethod y_S_assign : Cond) ∈ lw_tbl := List.mem_append_right _ (List.mem_append_left _ (List.mem_of_getElem? (i := 148) rfl))
theorem tt_125 : (.selects "KeepHeap$Slots" y_S_assign y_S_assign : Cond) ∈ lw_tbl := List.mem_append_right _ (List.mem_append_left _ (List.mem_of_getElem? (i := 149) rfl))
theorem tt_126 : (.constantLong "KeepHeapModel" 34 99 : Cond) ∈ lw_tbl := List.mem_append_right _ (List.mem_append_right _ (List.mem_of_getElem? (i := 132) rfl))
theorem tt_127 : (cd_M_in : Cond) ∈ lw_tbl := List.mem_append_right _ (List.mem_append_right _ (List.mem_of_getElem? (i := 135) rfl))
theorem tt_128 : (.methodLink "KeepHeapModel" 36 y_M_in : Cond) ∈ lw_tbl := List.mem_append_right _ (List.mem_append_right _ (List.mem_of_getElem? (i := 133) rfl))
theorem tt_129 : (.static y_M_in : Cond) ∈ lw_tbl := List.mem_append_right _ (List.mem_append_right _ (List.mem_of_getElem? (i := 134) rfl))
theorem tt_130 : (.initialized "KeepHeapModel" : Cond) ∈ lw_tbl := List.mem_append_right _ (List.mem_append_left _ (List.mem_of_getElem? (i := 5) rfl))
theorem tt_131 : (cd_M_isThere : Cond) ∈ lw_tbl := List.mem_append_right _ (List.mem_append_right _ (List.mem_of_getElem? (i := 143) rfl))
theorem tt_132 : (.methodLink "KeepHeapModel" 43 y_M_isThere : Cond) ∈ lw_tbl := List.mem_append_right _ (List.mem_append_right _ (List.mem_of_getElem? (i := 140) rfl))
theorem tt_133 : (.instanceMethod y_M_isThere : Cond) ∈ lw_tbl := List.mem_append_right _ (List.mem_append_right _ (List.mem_of_getElem? (i := 142) rfl))
theorem tt_134 : (.selects "KeepHeapModel" y_M_isThere y_M_isThere : Cond) ∈ lw_tbl := List.mem_append_left _ (List.mem_of_getElem? (i := 10) rfl)
theorem tt_135 : (.constantLong "KeepHeapModel" 49 1099511627777 : Cond) ∈ lw_tbl := List.mem_append_right _ (List.mem_append_right _ (List.mem_of_getElem? (i := 152) rfl))
theorem tt_136 : (.constantLong "KeepHeapModel" 47 1099511627776 : Cond) ∈ lw_tbl := List.mem_append_right _ (List.mem_append_right _ (List.mem_of_getElem? (i := 151) rfl))
theorem tt_137 : (cd_M_is : Cond) ∈ lw_tbl := List.mem_append_right _ (List.mem_append_right _ (List.mem_of_getElem? (i := 131) rfl))
theorem tt_138 : (.methodLink "KeepHeapModel" 54 y_M_is : Cond) ∈ lw_tbl := List.mem_append_right _ (List.mem_append_right _ (List.mem_of_getElem? (i := 128) rfl))
theorem tt_139 : (.instanceMethod y_M_is : Cond) ∈ lw_tbl := List.mem_append_right _ (List.mem_append_right _ (List.mem_of_getElem? (i := 130) rfl))
theorem tt_140 : (.selects "KeepHeapModel" y_M_is y_M_is : Cond) ∈ lw_tbl := List.mem_append_left _ (List.mem_of_getElem? (i := 8) rfl)
theorem tt_141 : (cd_M_isValue : Cond) ∈ lw_tbl := List.mem_append_right _ (List.mem_append_right _ (List.mem_of_getElem? (i := 139) rfl))
theorem tt_142 : (.methodLink "KeepHeapModel" 58 y_M_isValue : Cond) ∈ lw_tbl := List.mem_append_right _ (List.mem_append_right _ (List.mem_of_getElem? (i := 136) rfl))
theorem tt_143 : (.instanceMethod y_M_isValue : Cond) ∈ lw_tbl := List.mem_append_right _ (List.mem_append_right _ (List.mem_of_getElem? (i := 138) rfl))
theorem tt_144 : (.selects "KeepHeapModel" y_M_isValue y_M_isValue : Cond) ∈ lw_tbl := List.mem_append_left _ (List.mem_of_getElem? (i := 9) rfl)
theorem tt_145 : (cd_N_findField : Cond) ∈ lw_tbl := List.mem_append_right _ (List.mem_append_right _ (List.mem_of_getElem? (i := 147) rfl))
theorem tt_146 : (.methodLink "KeepHeapModel" 61 y_N_findField : Cond) ∈ lw_tbl := List.mem_append_right _ (List.mem_append_right _ (List.mem_of_getElem? (i := 144) rfl))
theorem tt_147 : (.instanceMethod y_N_findField : Cond) ∈ lw_tbl := List.mem_append_right _ (List.mem_append_right _ (List.mem_of_getElem? (i := 145) rfl))
theorem tt_148 : (.selects "KeepHeapModel$State" y_N_findField y_N_findField : Cond) ∈ lw_tbl := List.mem_append_right _ (List.mem_append_right _ (List.mem_of_getElem? (i := 146) rfl))
theorem tt_149 : (.fieldLink "KeepHeapModel" 68 "KeepHeapModel$State" "slot" "[J" : Cond) ∈ lw_tbl := List.mem_append_right _ (List.mem_append_right _ (List.mem_of_getElem? (i := 71) rfl))
theorem tt_150 : (cd_M_value : Cond) ∈ lw_tbl := List.mem_append_right _ (List.mem_append_right _ (List.mem_of_getElem? (i := 150) rfl))
theorem tt_151 : (.methodLink "KeepHeapModel" 72 y_M_value : Cond) ∈ lw_tbl := List.mem_append_right _ (List.mem_append_right _ (List.mem_of_getElem? (i := 148) rfl))
theorem tt_152 : (.static y_M_value : Cond) ∈ lw_tbl := List.mem_append_right _ (List.mem_append_right _ (List.mem_of_getElem? (i := 149) rfl))
theorem tt_153 : (.fieldLink "KeepHeapModel" 65 "KeepHeapModel$State" "name" "[I" : Cond) ∈ lw_tbl := List.mem_append_right _ (List.mem_append_right _ (List.mem_of_getElem? (i := 67) rfl))
theorem tt_154 : (cd_S_named : Cond) ∈ lw_tbl := List.mem_append_right _ (List.mem_append_left _ (List.mem_of_getElem? (i := 175) rfl))
theorem tt_155 : (.methodLink "KeepHeap" 69 y_S_named : Cond) ∈ lw_tbl := List.mem_append_right _ (List.mem_append_left _ (List.mem_of_getElem? (i := 172) rfl))
theorem tt_156 : (.instanceMethod y_S_named : Cond) ∈ lw_tbl := List.mem_append_right _ (List.mem_append_left _ (List.mem_of_getElem? (i := 173) rfl))
theorem tt_157 : (.selects "KeepHeap$Slots" y_S_named y_S_named : Cond) ∈ lw_tbl := List.mem_append_right _ (List.mem_append_left _ (List.mem_of_getElem? (i := 174) rfl))
theorem tt_158 : (.constantLong "KeepHeapModel" 76 (-1099511627776) : Cond) ∈ lw_tbl := List.mem_append_right _ (List.mem_append_right _ (List.mem_of_getElem? (i := 157) rfl))
theorem tt_159 : (.methodLink "KeepHeap" 73 y_S_append : Cond) ∈ lw_tbl := List.mem_append_right _ (List.mem_append_left _ (List.mem_of_getElem? (i := 180) rfl))
theorem tt_160 : (.constantLong "KeepHeap$Slots" 53 (-1099511627776) : Cond) ∈ lw_tbl := List.mem_append_right _ (List.mem_append_left _ (List.mem_of_getElem? (i := 189) rfl))
theorem tt_161 : (cd_S_takeLast : Cond) ∈ lw_tbl := List.mem_append_right _ (List.mem_append_left _ (List.mem_of_getElem? (i := 188) rfl))
theorem tt_162 : (.methodLink "KeepHeap" 76 y_S_takeLast : Cond) ∈ lw_tbl := List.mem_append_right _ (List.mem_append_left _ (List.mem_of_getElem? (i := 185) rfl))
theorem tt_163 : (.instanceMethod y_S_takeLast : Cond) ∈ lw_tbl := List.mem_append_right _ (List.mem_append_left _ (List.mem_of_getElem? (i := 186) rfl))
theorem tt_164 : (.selects "KeepHeap$Slots" y_S_takeLast y_S_takeLast : Cond) ∈ lw_tbl := List.mem_append_right _ (List.mem_append_left _ (List.mem_of_getElem? (i := 187) rfl))
theorem tt_165 : (.methodLink "KeepHeap" 80 y_S_holds : Cond) ∈ lw_tbl := List.mem_append_right _ (List.mem_append_left _ (List.mem_of_getElem? (i := 194) rfl))
theorem tt_166 : (.fieldLink "KeepHeap" 84 "KeepHeap$Slots" "values" "[J" : Cond) ∈ lw_tbl := List.mem_append_right _ (List.mem_append_left _ (List.mem_of_getElem? (i := 48) rfl))
theorem tt_167 : (.fieldLink "KeepHeap" 92 "KeepHeap$State" "roots" "LKeepHeap$Slots;" : Cond) ∈ lw_tbl := List.mem_append_right _ (List.mem_append_left _ (List.mem_of_getElem? (i := 74) rfl))
theorem tt_168 : (cd_K_ownRoots : Cond) ∈ lw_tbl := List.mem_append_right _ (List.mem_append_left _ (List.mem_of_getElem? (i := 206) rfl))
theorem tt_169 : (.methodLink "KeepHeap" 88 y_K_ownRoots : Cond) ∈ lw_tbl := List.mem_append_right _ (List.mem_append_left _ (List.mem_of_getElem? (i := 203) rfl))
theorem tt_170 : (.instanceMethod y_K_ownRoots : Cond) ∈ lw_tbl := List.mem_append_right _ (List.mem_append_left _ (List.mem_of_getElem? (i := 205) rfl))
theorem tt_171 : (.selects "KeepHeap" y_K_ownRoots y_K_ownRoots : Cond) ∈ lw_tbl := List.mem_append_left _ (List.mem_of_getElem? (i := 4) rfl)
theorem tt_172 : (.fieldLink "KeepHeapModel$State" 37 "KeepHeapModel$State" "roots" "I" : Cond) ∈ lw_tbl := List.mem_append_right _ (List.mem_append_right _ (List.mem_of_getElem? (i := 74) rfl))
theorem tt_173 : (cd_N_findRoot : Cond) ∈ lw_tbl := List.mem_append_right _ (List.mem_append_right _ (List.mem_of_getElem? (i := 181) rfl))
theorem tt_174 : (.methodLink "KeepHeapModel" 78 y_N_findRoot : Cond) ∈ lw_tbl := List.mem_append_right _ (List.mem_append_right _ (List.mem_of_getElem? (i := 178) rfl))
theorem tt_175 : (.instanceMethod y_N_findRoot : Cond) ∈ lw_tbl := List.mem_append_right _ (List.mem_append_right _ (List.mem_of_getElem? (i := 179) rfl))
theorem tt_176 : (.selects "KeepHeapModel$State" y_N_findRoot y_N_findRoot : Cond) ∈ lw_tbl := List.mem_append_right _ (List.mem_append_right _ (List.mem_of_getElem? (i := 180) rfl))
theorem tt_177 : (.fieldLink "KeepHeapModel" 89 "KeepHeapModel$State" "value" "[J" : Cond) ∈ lw_tbl := List.mem_append_right _ (List.mem_append_right _ (List.mem_of_getElem? (i := 73) rfl))
theorem tt_178 : (.fieldLink "KeepHeapModel" 82 "KeepHeapModel$State" "roots" "I" : Cond) ∈ lw_tbl := List.mem_append_right _ (List.mem_append_right _ (List.mem_of_getElem? (i := 75) rfl))
theorem tt_179 : (.fieldLink "KeepHeapModel" 86 "KeepHeapModel$State" "root" "[I" : Cond) ∈ lw_tbl := List.mem_append_right _ (List.mem_append_right _ (List.mem_of_getElem? (i := 69) rfl))
theorem tt_180 : (.methodLink "KeepHeap$Slots" 55 y_S_named : Cond) ∈ lw_tbl := List.mem_append_right _ (List.mem_append_left _ (List.mem_of_getElem? (i := 227) rfl))
theorem tt_181 : (cd_S_namesChangedFrom : Cond) ∈ lw_tbl := List.mem_append_right _ (List.mem_append_left _ (List.mem_of_getElem? (i := 226) rfl))
theorem tt_182 : (.methodLink "KeepHeap" 146 y_S_namesChangedFrom : Cond) ∈ lw_tbl := List.mem_append_right _ (List.mem_append_left _ (List.mem_of_getElem? (i := 223) rfl))
theorem tt_183 : (.instanceMethod y_S_namesChangedFrom : Cond) ∈ lw_tbl := List.mem_append_right _ (List.mem_append_left _ (List.mem_of_getElem? (i := 224) rfl))
theorem tt_184 : (.selects "KeepHeap$Slots" y_S_namesChangedFrom y_S_namesChangedFrom : Cond) ∈ lw_tbl := List.mem_append_right _ (List.mem_append_left _ (List.mem_of_getElem? (i := 225) rfl))
theorem tt_185 : (cd_S_sameAs : Cond) ∈ lw_tbl := List.mem_append_right _ (List.mem_append_left _ (List.mem_of_getElem? (i := 222) rfl))
theorem tt_186 : (.methodLink "KeepHeap" 142 y_S_sameAs : Cond) ∈ lw_tbl := List.mem_append_right _ (List.mem_append_left _ (List.mem_of_getElem? (i := 219) rfl))
theorem tt_187 : (.instanceMethod y_S_sameAs : Cond) ∈ lw_tbl := List.mem_append_right _ (List.mem_append_left _ (List.mem_of_getElem? (i := 220) rfl))
theorem tt_188 : (.selects "KeepHeap$Slots" y_S_sameAs y_S_sameAs : Cond) ∈ lw_tbl := List.mem_append_right _ (List.mem_append_left _ (List.mem_of_getElem? (i := 221) rfl))
theorem tt_189 : (cd_T_become : Cond) ∈ lw_tbl := List.mem_append_right _ (List.mem_append_left _ (List.mem_of_getElem? (i := 235) rfl))
theorem tt_190 : (.methodLink "KeepHeap" 108 y_T_become : Cond) ∈ lw_tbl := List.mem_append_right _ (List.mem_append_left _ (List.mem_of_getElem? (i := 232) rfl))
theorem tt_191 : (.instanceMethod y_T_become : Cond) ∈ lw_tbl := List.mem_append_right _ (List.mem_append_left _ (List.mem_of_getElem? (i := 233) rfl))
theorem tt_192 : (.selects "KeepHeap$State" y_T_become y_T_become : Cond) ∈ lw_tbl := List.mem_append_right _ (List.mem_append_left _ (List.mem_of_getElem? (i := 234) rfl))
theorem tt_193 : (cd_K_changedBytes : Cond) ∈ lw_tbl := List.mem_append_right _ (List.mem_append_left _ (List.mem_of_getElem? (i := 218) rfl))
theorem tt_194 : (.methodLink "KeepHeap" 96 y_K_changedBytes : Cond) ∈ lw_tbl := List.mem_append_right _ (List.mem_append_left _ (List.mem_of_getElem? (i := 215) rfl))
theorem tt_195 : (.instanceMethod y_K_changedBytes : Cond) ∈ lw_tbl := List.mem_append_right _ (List.mem_append_left _ (List.mem_of_getElem? (i := 217) rfl))
theorem tt_196 : (.selects "KeepHeap" y_K_changedBytes y_K_changedBytes : Cond) ∈ lw_tbl := List.mem_append_left _ (List.mem_of_getElem? (i := 5) rfl)
theorem tt_197 : (cd_K_keepNow : Cond) ∈ lw_tbl := List.mem_append_right _ (List.mem_append_left _ (List.mem_of_getElem? (i := 231) rfl))
theorem tt_198 : (.methodLink "KeepHeap" 100 y_K_keepNow : Cond) ∈ lw_tbl := List.mem_append_right _ (List.mem_append_left _ (List.mem_of_getElem? (i := 228) rfl))
theorem tt_199 : (.instanceMethod y_K_keepNow : Cond) ∈ lw_tbl := List.mem_append_right _ (List.mem_append_left _ (List.mem_of_getElem? (i := 230) rfl))
theorem tt_200 : (.selects "KeepHeap" y_K_keepNow y_K_keepNow : Cond) ∈ lw_tbl := List.mem_append_left _ (List.mem_of_getElem? (i := 6) rfl)
theorem tt_201 : (cd_N_isSame : Cond) ∈ lw_tbl := List.mem_append_right _ (List.mem_append_right _ (List.mem_of_getElem? (i := 197) rfl))
theorem tt_202 : (.methodLink "KeepHeapModel$State" 41 y_N_isSame : Cond) ∈ lw_tbl := List.mem_append_right _ (List.mem_append_right _ (List.mem_of_getElem? (i := 194) rfl))
theorem tt_203 : (.instanceMethod y_N_isSame : Cond) ∈ lw_tbl := List.mem_append_right _ (List.mem_append_right _ (List.mem_of_getElem? (i := 195) rfl))
theorem tt_204 : (.selects "KeepHeapModel$State" y_N_isSame y_N_isSame : Cond) ∈ lw_tbl := List.mem_append_right _ (List.mem_append_right _ (List.mem_of_getElem? (i := 196) rfl))
theorem tt_205 : (.methodLink "KeepHeapModel$State" 45 y_N_findRoot : Cond) ∈ lw_tbl := List.mem_append_right _ (List.mem_append_right _ (List.mem_of_getElem? (i := 198) rfl))
theorem tt_206 : (.methodLink "KeepHeapModel$State" 31 arraycopyName : Cond) ∈ lw_tbl := List.mem_append_right _ (List.mem_append_right _ (List.mem_of_getElem? (i := 207) rfl))
theorem tt_207 : (cd_N_copy : Cond) ∈ lw_tbl := List.mem_append_right _ (List.mem_append_right _ (List.mem_of_getElem? (i := 206) rfl))
theorem tt_208 : (.methodLink "KeepHeapModel" 91 y_N_copy : Cond) ∈ lw_tbl := List.mem_append_right _ (List.mem_append_right _ (List.mem_of_getElem? (i := 203) rfl))
theorem tt_209 : (.instanceMethod y_N_copy : Cond) ∈ lw_tbl := List.mem_append_right _ (List.mem_append_right _ (List.mem_of_getElem? (i := 204) rfl))
theorem tt_210 : (.selects "KeepHeapModel$State" y_N_copy y_N_copy : Cond) ∈ lw_tbl := List.mem_append_right _ (List.mem_append_right _ (List.mem_of_getElem? (i := 205) rfl))
theorem tt_211 : (.fieldLink "KeepHeapModel" 95 "KeepHeapModel" "logged" "I" : Cond) ∈ lw_tbl := List.mem_append_right _ (List.mem_append_right _ (List.mem_of_getElem? (i := 100) rfl))
theorem tt_212 : (.fieldLink "KeepHeapModel" 98 "KeepHeapModel" "waits" "I" : Cond) ∈ lw_tbl := List.mem_append_right _ (List.mem_append_right _ (List.mem_of_getElem? (i := 99) rfl))
theorem tt_213 : (.fieldLink "KeepHeapModel" 101 "KeepHeapModel$State" "bytes" "I" : Cond) ∈ lw_tbl := List.mem_append_right _ (List.mem_append_right _ (List.mem_of_getElem? (i := 76) rfl))
theorem tt_214 : (cd_N_bytesBehind : Cond) ∈ lw_tbl := List.mem_append_right _ (List.mem_append_right _ (List.mem_of_getElem? (i := 193) rfl))
theorem tt_215 : (.methodLink "KeepHeapModel" 104 y_N_bytesBehind : Cond) ∈ lw_tbl := List.mem_append_right _ (List.mem_append_right _ (List.mem_of_getElem? (i := 190) rfl))
theorem tt_216 : (.instanceMethod y_N_bytesBehind : Cond) ∈ lw_tbl := List.mem_append_right _ (List.mem_append_right _ (List.mem_of_getElem? (i := 191) rfl))
theorem tt_217 : (.selects "KeepHeapModel$State" y_N_bytesBehind y_N_bytesBehind : Cond) ∈ lw_tbl := List.mem_append_right _ (List.mem_append_right _ (List.mem_of_getElem? (i := 192) rfl))
theorem tt_218 : (cd_M_keep : Cond) ∈ lw_tbl := List.mem_append_right _ (List.mem_append_right _ (List.mem_of_getElem? (i := 202) rfl))
theorem tt_219 : (.methodLink "KeepHeapModel" 108 y_M_keep : Cond) ∈ lw_tbl := List.mem_append_right _ (List.mem_append_right _ (List.mem_of_getElem? (i := 199) rfl))
theorem tt_220 : (.instanceMethod y_M_keep : Cond) ∈ lw_tbl := List.mem_append_right _ (List.mem_append_right _ (List.mem_of_getElem? (i := 201) rfl))
theorem tt_221 : (.selects "KeepHeapModel" y_M_keep y_M_keep : Cond) ∈ lw_tbl := List.mem_append_left _ (List.mem_of_getElem? (i := 11) rfl)
theorem tt_222 : (.fieldLink "KeepHeap$Reach" 41 "KeepHeap$Slots" "used" "I" : Cond) ∈ lw_tbl := List.mem_append_right _ (List.mem_append_left _ (List.mem_of_getElem? (i := 50) rfl))
theorem tt_223 : (.fieldLink "KeepHeap$Reach" 46 "KeepHeap$Slots" "values" "[J" : Cond) ∈ lw_tbl := List.mem_append_right _ (List.mem_append_left _ (List.mem_of_getElem? (i := 47) rfl))
theorem tt_224 : (.constantLong "KeepHeap$Reach" 50 1099511627777 : Cond) ∈ lw_tbl := List.mem_append_right _ (List.mem_append_right _ (List.mem_of_getElem? (i := 16) rfl))
theorem tt_225 : (.constantLong "KeepHeap$Reach" 52 100 : Cond) ∈ lw_tbl := List.mem_append_right _ (List.mem_append_right _ (List.mem_of_getElem? (i := 17) rfl))
theorem tt_226 : (cd_R_enqueue : Cond) ∈ lw_tbl := List.mem_append_right _ (List.mem_append_right _ (List.mem_of_getElem? (i := 21) rfl))
theorem tt_227 : (.methodLink "KeepHeap$Reach" 54 y_R_enqueue : Cond) ∈ lw_tbl := List.mem_append_right _ (List.mem_append_right _ (List.mem_of_getElem? (i := 18) rfl))
theorem tt_228 : (.instanceMethod y_R_enqueue : Cond) ∈ lw_tbl := List.mem_append_right _ (List.mem_append_right _ (List.mem_of_getElem? (i := 19) rfl))
theorem tt_229 : (.selects "KeepHeap$Reach" y_R_enqueue y_R_enqueue : Cond) ∈ lw_tbl := List.mem_append_right _ (List.mem_append_right _ (List.mem_of_getElem? (i := 20) rfl))
theorem tt_230 : (.fieldLink "KeepHeap$Reach" 33 "KeepHeap$State" "roots" "LKeepHeap$Slots;" : Cond) ∈ lw_tbl := List.mem_append_right _ (List.mem_append_left _ (List.mem_of_getElem? (i := 73) rfl))
theorem tt_231 : (cd_R_enqueueAll : Cond) ∈ lw_tbl := List.mem_append_right _ (List.mem_append_right _ (List.mem_of_getElem? (i := 15) rfl))
theorem tt_232 : (.methodLink "KeepHeap$Reach" 37 y_R_enqueueAll : Cond) ∈ lw_tbl := List.mem_append_right _ (List.mem_append_right _ (List.mem_of_getElem? (i := 12) rfl))
theorem tt_233 : (.instanceMethod y_R_enqueueAll : Cond) ∈ lw_tbl := List.mem_append_right _ (List.mem_append_right _ (List.mem_of_getElem? (i := 13) rfl))
theorem tt_234 : (.selects "KeepHeap$Reach" y_R_enqueueAll y_R_enqueueAll : Cond) ∈ lw_tbl := List.mem_append_right _ (List.mem_append_right _ (List.mem_of_getElem? (i := 14) rfl))
theorem tt_235 : (.fieldLink "KeepHeap$Reach" 27 "KeepHeap$State" "objects" "[LKeepHeap$Slots;" : Cond) ∈ lw_tbl := List.mem_append_right _ (List.mem_append_left _ (List.mem_of_getElem? (i := 71) rfl))
theorem tt_236 : (cd_R_walk : Cond) ∈ lw_tbl := List.mem_append_right _ (List.mem_append_right _ (List.mem_of_getElem? (i := 11) rfl))
theorem tt_237 : (.methodLink "KeepHeap$Reach" 23 y_R_walk : Cond) ∈ lw_tbl := List.mem_append_right _ (List.mem_append_right _ (List.mem_of_getElem? (i := 8) rfl))
theorem tt_238 : (.instanceMethod y_R_walk : Cond) ∈ lw_tbl := List.mem_append_right _ (List.mem_append_right _ (List.mem_of_getElem? (i := 9) rfl))
theorem tt_239 : (.selects "KeepHeap$Reach" y_R_walk y_R_walk : Cond) ∈ lw_tbl := List.mem_append_right _ (List.mem_append_right _ (List.mem_of_getElem? (i := 10) rfl))
theorem tt_240 : (cd_R_dropUnreached : Cond) ∈ lw_tbl := List.mem_append_right _ (List.mem_append_right _ (List.mem_of_getElem? (i := 7) rfl))
theorem tt_241 : (.methodLink "KeepHeap" 112 y_R_dropUnreached : Cond) ∈ lw_tbl := List.mem_append_right _ (List.mem_append_right _ (List.mem_of_getElem? (i := 4) rfl))
theorem tt_242 : (.instanceMethod y_R_dropUnreached : Cond) ∈ lw_tbl := List.mem_append_right _ (List.mem_append_right _ (List.mem_of_getElem? (i := 5) rfl))
theorem tt_243 : (.selects "KeepHeap$Reach" y_R_dropUnreached y_R_dropUnreached : Cond) ∈ lw_tbl := List.mem_append_right _ (List.mem_append_right _ (List.mem_of_getElem? (i := 6) rfl))
theorem tt_244 : (cd_M_reach : Cond) ∈ lw_tbl := List.mem_append_right _ (List.mem_append_right _ (List.mem_of_getElem? (i := 219) rfl))
theorem tt_245 : (.methodLink "KeepHeapModel" 112 y_M_reach : Cond) ∈ lw_tbl := List.mem_append_right _ (List.mem_append_right _ (List.mem_of_getElem? (i := 216) rfl))
theorem tt_246 : (.instanceMethod y_M_reach : Cond) ∈ lw_tbl := List.mem_append_right _ (List.mem_append_right _ (List.mem_of_getElem? (i := 218) rfl))
theorem tt_247 : (.selects "KeepHeapModel" y_M_reach y_M_reach : Cond) ∈ lw_tbl := List.mem_append_left _ (List.mem_of_getElem? (i := 12) rfl)
theorem tt_248 : (cd_K_entriesWithin : Cond) ∈ lw_tbl := List.mem_append_right _ (List.mem_append_right _ (List.mem_of_getElem? (i := 33) rfl))
theorem tt_249 : (.methodLink "KeepHeap" 120 y_K_entriesWithin : Cond) ∈ lw_tbl := List.mem_append_right _ (List.mem_append_right _ (List.mem_of_getElem? (i := 30) rfl))
theorem tt_250 : (.instanceMethod y_K_entriesWithin : Cond) ∈ lw_tbl := List.mem_append_right _ (List.mem_append_right _ (List.mem_of_getElem? (i := 32) rfl))
theorem tt_251 : (.selects "KeepHeap" y_K_entriesWithin y_K_entriesWithin : Cond) ∈ lw_tbl := List.mem_append_left _ (List.mem_of_getElem? (i := 7) rfl)
theorem tt_252 : (.fieldLink "KeepHeap" 123 "KeepHeap$Slots" "form" "I" : Cond) ∈ lw_tbl := List.mem_append_right _ (List.mem_append_left _ (List.mem_of_getElem? (i := 44) rfl))
theorem tt_253 : (.fieldLink "KeepHeap" 126 "KeepHeap$Slots" "used" "I" : Cond) ∈ lw_tbl := List.mem_append_right _ (List.mem_append_left _ (List.mem_of_getElem? (i := 51) rfl))
theorem tt_254 : (cd_T_objectsThere : Cond) ∈ lw_tbl := List.mem_append_right _ (List.mem_append_right _ (List.mem_of_getElem? (i := 49) rfl))
theorem tt_255 : (.methodLink "KeepHeap" 129 y_T_objectsThere : Cond) ∈ lw_tbl := List.mem_append_right _ (List.mem_append_right _ (List.mem_of_getElem? (i := 46) rfl))
theorem tt_256 : (.instanceMethod y_T_objectsThere : Cond) ∈ lw_tbl := List.mem_append_right _ (List.mem_append_right _ (List.mem_of_getElem? (i := 47) rfl))
theorem tt_257 : (.selects "KeepHeap$State" y_T_objectsThere y_T_objectsThere : Cond) ∈ lw_tbl := List.mem_append_right _ (List.mem_append_right _ (List.mem_of_getElem? (i := 48) rfl))
theorem tt_258 : (.classLink "KeepHeapLaw" 7 "KeepHeap" : Cond) ∈ lw_tbl := List.mem_append_right _ (List.mem_append_left _ (List.mem_of_getElem? (i := 8) rfl))
theorem tt_259 : (.instantiable "KeepHeap" 7 : Cond) ∈ lw_tbl := List.mem_append_right _ (List.mem_append_left _ (List.mem_of_getElem? (i := 9) rfl))
theorem tt_260 : (cd_K_init : Cond) ∈ lw_tbl := List.mem_append_right _ (List.mem_append_left _ (List.mem_of_getElem? (i := 12) rfl))
theorem tt_261 : (.methodLink "KeepHeapLaw" 9 y_K_init : Cond) ∈ lw_tbl := List.mem_append_right _ (List.mem_append_left _ (List.mem_of_getElem? (i := 10) rfl))
theorem tt_262 : (.instanceMethod y_K_init : Cond) ∈ lw_tbl := List.mem_append_right _ (List.mem_append_left _ (List.mem_of_getElem? (i := 11) rfl))
theorem tt_263 : (.classLink "KeepHeapLaw" 10 "KeepHeapModel" : Cond) ∈ lw_tbl := List.mem_append_right _ (List.mem_append_right _ (List.mem_of_getElem? (i := 50) rfl))
theorem tt_264 : (.instantiable "KeepHeapModel" 8 : Cond) ∈ lw_tbl := List.mem_append_right _ (List.mem_append_right _ (List.mem_of_getElem? (i := 51) rfl))
theorem tt_265 : (cd_M_init : Cond) ∈ lw_tbl := List.mem_append_right _ (List.mem_append_right _ (List.mem_of_getElem? (i := 54) rfl))
theorem tt_266 : (.methodLink "KeepHeapLaw" 12 y_M_init : Cond) ∈ lw_tbl := List.mem_append_right _ (List.mem_append_right _ (List.mem_of_getElem? (i := 52) rfl))
theorem tt_267 : (.instanceMethod y_M_init : Cond) ∈ lw_tbl := List.mem_append_right _ (List.mem_append_right _ (List.mem_of_getElem? (i := 53) rfl))
theorem tt_268 : (cd_K_make : Cond) ∈ lw_tbl := List.mem_append_right _ (List.mem_append_left _ (List.mem_of_getElem? (i := 105) rfl))
theorem tt_269 : (.methodLink "KeepHeapLaw" 13 y_K_make : Cond) ∈ lw_tbl := List.mem_append_right _ (List.mem_append_left _ (List.mem_of_getElem? (i := 102) rfl))
theorem tt_270 : (.instanceMethod y_K_make : Cond) ∈ lw_tbl := List.mem_append_right _ (List.mem_append_left _ (List.mem_of_getElem? (i := 103) rfl))
theorem tt_271 : (.selects "KeepHeap" y_K_make y_K_make : Cond) ∈ lw_tbl := List.mem_append_right _ (List.mem_append_left _ (List.mem_of_getElem? (i := 104) rfl))
theorem tt_272 : (cd_M_make : Cond) ∈ lw_tbl := List.mem_append_right _ (List.mem_append_right _ (List.mem_of_getElem? (i := 123) rfl))
theorem tt_273 : (.methodLink "KeepHeapLaw" 17 y_M_make : Cond) ∈ lw_tbl := List.mem_append_right _ (List.mem_append_right _ (List.mem_of_getElem? (i := 120) rfl))
theorem tt_274 : (.instanceMethod y_M_make : Cond) ∈ lw_tbl := List.mem_append_right _ (List.mem_append_right _ (List.mem_of_getElem? (i := 121) rfl))
theorem tt_275 : (.selects "KeepHeapModel" y_M_make y_M_make : Cond) ∈ lw_tbl := List.mem_append_right _ (List.mem_append_right _ (List.mem_of_getElem? (i := 122) rfl))
theorem tt_276 : (cd_K_set : Cond) ∈ lw_tbl := List.mem_append_right _ (List.mem_append_left _ (List.mem_of_getElem? (i := 109) rfl))
theorem tt_277 : (.methodLink "KeepHeapLaw" 18 y_K_set : Cond) ∈ lw_tbl := List.mem_append_right _ (List.mem_append_left _ (List.mem_of_getElem? (i := 106) rfl))
theorem tt_278 : (.instanceMethod y_K_set : Cond) ∈ lw_tbl := List.mem_append_right _ (List.mem_append_left _ (List.mem_of_getElem? (i := 107) rfl))
theorem tt_279 : (.selects "KeepHeap" y_K_set y_K_set : Cond) ∈ lw_tbl := List.mem_append_right _ (List.mem_append_left _ (List.mem_of_getElem? (i := 108) rfl))
theorem tt_280 : (cd_M_set : Cond) ∈ lw_tbl := List.mem_append_right _ (List.mem_append_right _ (List.mem_of_getElem? (i := 127) rfl))
theorem tt_281 : (.methodLink "KeepHeapLaw" 22 y_M_set : Cond) ∈ lw_tbl := List.mem_append_right _ (List.mem_append_right _ (List.mem_of_getElem? (i := 124) rfl))
theorem tt_282 : (.instanceMethod y_M_set : Cond) ∈ lw_tbl := List.mem_append_right _ (List.mem_append_right _ (List.mem_of_getElem? (i := 125) rfl))
theorem tt_283 : (.selects "KeepHeapModel" y_M_set y_M_set : Cond) ∈ lw_tbl := List.mem_append_right _ (List.mem_append_right _ (List.mem_of_getElem? (i := 126) rfl))
theorem tt_284 : (cd_K_get : Cond) ∈ lw_tbl := List.mem_append_right _ (List.mem_append_left _ (List.mem_of_getElem? (i := 171) rfl))
theorem tt_285 : (.methodLink "KeepHeapLaw" 23 y_K_get : Cond) ∈ lw_tbl := List.mem_append_right _ (List.mem_append_left _ (List.mem_of_getElem? (i := 168) rfl))
theorem tt_286 : (.instanceMethod y_K_get : Cond) ∈ lw_tbl := List.mem_append_right _ (List.mem_append_left _ (List.mem_of_getElem? (i := 169) rfl))
theorem tt_287 : (.selects "KeepHeap" y_K_get y_K_get : Cond) ∈ lw_tbl := List.mem_append_right _ (List.mem_append_left _ (List.mem_of_getElem? (i := 170) rfl))
theorem tt_288 : (cd_M_get : Cond) ∈ lw_tbl := List.mem_append_right _ (List.mem_append_right _ (List.mem_of_getElem? (i := 156) rfl))
theorem tt_289 : (.methodLink "KeepHeapLaw" 27 y_M_get : Cond) ∈ lw_tbl := List.mem_append_right _ (List.mem_append_right _ (List.mem_of_getElem? (i := 153) rfl))
theorem tt_290 : (.instanceMethod y_M_get : Cond) ∈ lw_tbl := List.mem_append_right _ (List.mem_append_right _ (List.mem_of_getElem? (i := 154) rfl))
theorem tt_291 : (.selects "KeepHeapModel" y_M_get y_M_get : Cond) ∈ lw_tbl := List.mem_append_right _ (List.mem_append_right _ (List.mem_of_getElem? (i := 155) rfl))
theorem tt_292 : (cd_K_push : Cond) ∈ lw_tbl := List.mem_append_right _ (List.mem_append_left _ (List.mem_of_getElem? (i := 179) rfl))
theorem tt_293 : (.methodLink "KeepHeapLaw" 28 y_K_push : Cond) ∈ lw_tbl := List.mem_append_right _ (List.mem_append_left _ (List.mem_of_getElem? (i := 176) rfl))
theorem tt_294 : (.instanceMethod y_K_push : Cond) ∈ lw_tbl := List.mem_append_right _ (List.mem_append_left _ (List.mem_of_getElem? (i := 177) rfl))
theorem tt_295 : (.selects "KeepHeap" y_K_push y_K_push : Cond) ∈ lw_tbl := List.mem_append_right _ (List.mem_append_left _ (List.mem_of_getElem? (i := 178) rfl))
theorem tt_296 : (cd_M_push : Cond) ∈ lw_tbl := List.mem_append_right _ (List.mem_append_right _ (List.mem_of_getElem? (i := 161) rfl))
theorem tt_297 : (.methodLink "KeepHeapLaw" 32 y_M_push : Cond) ∈ lw_tbl := List.mem_append_right _ (List.mem_append_right _ (List.mem_of_getElem? (i := 158) rfl))
theorem tt_298 : (.instanceMethod y_M_push : Cond) ∈ lw_tbl := List.mem_append_right _ (List.mem_append_right _ (List.mem_of_getElem? (i := 159) rfl))
theorem tt_299 : (.selects "KeepHeapModel" y_M_push y_M_push : Cond) ∈ lw_tbl := List.mem_append_right _ (List.mem_append_right _ (List.mem_of_getElem? (i := 160) rfl))
theorem tt_300 : (cd_K_pop : Cond) ∈ lw_tbl := List.mem_append_right _ (List.mem_append_left _ (List.mem_of_getElem? (i := 184) rfl))
theorem tt_301 : (.methodLink "KeepHeapLaw" 33 y_K_pop : Cond) ∈ lw_tbl := List.mem_append_right _ (List.mem_append_left _ (List.mem_of_getElem? (i := 181) rfl))
theorem tt_302 : (.instanceMethod y_K_pop : Cond) ∈ lw_tbl := List.mem_append_right _ (List.mem_append_left _ (List.mem_of_getElem? (i := 182) rfl))
theorem tt_303 : (.selects "KeepHeap" y_K_pop y_K_pop : Cond) ∈ lw_tbl := List.mem_append_right _ (List.mem_append_left _ (List.mem_of_getElem? (i := 183) rfl))
theorem tt_304 : (cd_M_pop : Cond) ∈ lw_tbl := List.mem_append_right _ (List.mem_append_right _ (List.mem_of_getElem? (i := 165) rfl))
theorem tt_305 : (.methodLink "KeepHeapLaw" 37 y_M_pop : Cond) ∈ lw_tbl := List.mem_append_right _ (List.mem_append_right _ (List.mem_of_getElem? (i := 162) rfl))
theorem tt_306 : (.instanceMethod y_M_pop : Cond) ∈ lw_tbl := List.mem_append_right _ (List.mem_append_right _ (List.mem_of_getElem? (i := 163) rfl))
theorem tt_307 : (.selects "KeepHeapModel" y_M_pop y_M_pop : Cond) ∈ lw_tbl := List.mem_append_right _ (List.mem_append_right _ (List.mem_of_getElem? (i := 164) rfl))
theorem tt_308 : (cd_K_put : Cond) ∈ lw_tbl := List.mem_append_right _ (List.mem_append_left _ (List.mem_of_getElem? (i := 193) rfl))
theorem tt_309 : (.methodLink "KeepHeapLaw" 38 y_K_put : Cond) ∈ lw_tbl := List.mem_append_right _ (List.mem_append_left _ (List.mem_of_getElem? (i := 190) rfl))
theorem tt_310 : (.instanceMethod y_K_put : Cond) ∈ lw_tbl := List.mem_append_right _ (List.mem_append_left _ (List.mem_of_getElem? (i := 191) rfl))
theorem tt_311 : (.selects "KeepHeap" y_K_put y_K_put : Cond) ∈ lw_tbl := List.mem_append_right _ (List.mem_append_left _ (List.mem_of_getElem? (i := 192) rfl))
theorem tt_312 : (cd_M_put : Cond) ∈ lw_tbl := List.mem_append_right _ (List.mem_append_right _ (List.mem_of_getElem? (i := 169) rfl))
theorem tt_313 : (.methodLink "KeepHeapLaw" 41 y_M_put : Cond) ∈ lw_tbl := List.mem_append_right _ (List.mem_append_right _ (List.mem_of_getElem? (i := 166) rfl))
theorem tt_314 : (.instanceMethod y_M_put : Cond) ∈ lw_tbl := List.mem_append_right _ (List.mem_append_right _ (List.mem_of_getElem? (i := 167) rfl))
theorem tt_315 : (.selects "KeepHeapModel" y_M_put y_M_put : Cond) ∈ lw_tbl := List.mem_append_right _ (List.mem_append_right _ (List.mem_of_getElem? (i := 168) rfl))
theorem tt_316 : (cd_K_item : Cond) ∈ lw_tbl := List.mem_append_right _ (List.mem_append_left _ (List.mem_of_getElem? (i := 198) rfl))
theorem tt_317 : (.methodLink "KeepHeapLaw" 42 y_K_item : Cond) ∈ lw_tbl := List.mem_append_right _ (List.mem_append_left _ (List.mem_of_getElem? (i := 195) rfl))
theorem tt_318 : (.instanceMethod y_K_item : Cond) ∈ lw_tbl := List.mem_append_right _ (List.mem_append_left _ (List.mem_of_getElem? (i := 196) rfl))
theorem tt_319 : (.selects "KeepHeap" y_K_item y_K_item : Cond) ∈ lw_tbl := List.mem_append_right _ (List.mem_append_left _ (List.mem_of_getElem? (i := 197) rfl))
theorem tt_320 : (cd_M_item : Cond) ∈ lw_tbl := List.mem_append_right _ (List.mem_append_right _ (List.mem_of_getElem? (i := 173) rfl))
theorem tt_321 : (.methodLink "KeepHeapLaw" 45 y_M_item : Cond) ∈ lw_tbl := List.mem_append_right _ (List.mem_append_right _ (List.mem_of_getElem? (i := 170) rfl))
theorem tt_322 : (.instanceMethod y_M_item : Cond) ∈ lw_tbl := List.mem_append_right _ (List.mem_append_right _ (List.mem_of_getElem? (i := 171) rfl))
theorem tt_323 : (.selects "KeepHeapModel" y_M_item y_M_item : Cond) ∈ lw_tbl := List.mem_append_right _ (List.mem_append_right _ (List.mem_of_getElem? (i := 172) rfl))
theorem tt_324 : (cd_K_root : Cond) ∈ lw_tbl := List.mem_append_right _ (List.mem_append_left _ (List.mem_of_getElem? (i := 202) rfl))
theorem tt_325 : (.methodLink "KeepHeapLaw" 46 y_K_root : Cond) ∈ lw_tbl := List.mem_append_right _ (List.mem_append_left _ (List.mem_of_getElem? (i := 199) rfl))
theorem tt_326 : (.instanceMethod y_K_root : Cond) ∈ lw_tbl := List.mem_append_right _ (List.mem_append_left _ (List.mem_of_getElem? (i := 200) rfl))
theorem tt_327 : (.selects "KeepHeap" y_K_root y_K_root : Cond) ∈ lw_tbl := List.mem_append_right _ (List.mem_append_left _ (List.mem_of_getElem? (i := 201) rfl))
theorem tt_328 : (cd_M_root : Cond) ∈ lw_tbl := List.mem_append_right _ (List.mem_append_right _ (List.mem_of_getElem? (i := 177) rfl))
theorem tt_329 : (.methodLink "KeepHeapLaw" 49 y_M_root : Cond) ∈ lw_tbl := List.mem_append_right _ (List.mem_append_right _ (List.mem_of_getElem? (i := 174) rfl))
theorem tt_330 : (.instanceMethod y_M_root : Cond) ∈ lw_tbl := List.mem_append_right _ (List.mem_append_right _ (List.mem_of_getElem? (i := 175) rfl))
theorem tt_331 : (.selects "KeepHeapModel" y_M_root y_M_root : Cond) ∈ lw_tbl := List.mem_append_right _ (List.mem_append_right _ (List.mem_of_getElem? (i := 176) rfl))
theorem tt_332 : (cd_K_rooted : Cond) ∈ lw_tbl := List.mem_append_right _ (List.mem_append_left _ (List.mem_of_getElem? (i := 210) rfl))
theorem tt_333 : (.methodLink "KeepHeapLaw" 50 y_K_rooted : Cond) ∈ lw_tbl := List.mem_append_right _ (List.mem_append_left _ (List.mem_of_getElem? (i := 207) rfl))
theorem tt_334 : (.instanceMethod y_K_rooted : Cond) ∈ lw_tbl := List.mem_append_right _ (List.mem_append_left _ (List.mem_of_getElem? (i := 208) rfl))
theorem tt_335 : (.selects "KeepHeap" y_K_rooted y_K_rooted : Cond) ∈ lw_tbl := List.mem_append_right _ (List.mem_append_left _ (List.mem_of_getElem? (i := 209) rfl))
theorem tt_336 : (cd_M_rooted : Cond) ∈ lw_tbl := List.mem_append_right _ (List.mem_append_right _ (List.mem_of_getElem? (i := 185) rfl))
theorem tt_337 : (.methodLink "KeepHeapLaw" 53 y_M_rooted : Cond) ∈ lw_tbl := List.mem_append_right _ (List.mem_append_right _ (List.mem_of_getElem? (i := 182) rfl))
theorem tt_338 : (.instanceMethod y_M_rooted : Cond) ∈ lw_tbl := List.mem_append_right _ (List.mem_append_right _ (List.mem_of_getElem? (i := 183) rfl))
theorem tt_339 : (.selects "KeepHeapModel" y_M_rooted y_M_rooted : Cond) ∈ lw_tbl := List.mem_append_right _ (List.mem_append_right _ (List.mem_of_getElem? (i := 184) rfl))
theorem tt_340 : (cd_K_commit : Cond) ∈ lw_tbl := List.mem_append_right _ (List.mem_append_left _ (List.mem_of_getElem? (i := 214) rfl))
theorem tt_341 : (.methodLink "KeepHeapLaw" 54 y_K_commit : Cond) ∈ lw_tbl := List.mem_append_right _ (List.mem_append_left _ (List.mem_of_getElem? (i := 211) rfl))
theorem tt_342 : (.instanceMethod y_K_commit : Cond) ∈ lw_tbl := List.mem_append_right _ (List.mem_append_left _ (List.mem_of_getElem? (i := 212) rfl))
theorem tt_343 : (.selects "KeepHeap" y_K_commit y_K_commit : Cond) ∈ lw_tbl := List.mem_append_right _ (List.mem_append_left _ (List.mem_of_getElem? (i := 213) rfl))
theorem tt_344 : (cd_M_commit : Cond) ∈ lw_tbl := List.mem_append_right _ (List.mem_append_right _ (List.mem_of_getElem? (i := 189) rfl))
theorem tt_345 : (.methodLink "KeepHeapLaw" 58 y_M_commit : Cond) ∈ lw_tbl := List.mem_append_right _ (List.mem_append_right _ (List.mem_of_getElem? (i := 186) rfl))
theorem tt_346 : (.instanceMethod y_M_commit : Cond) ∈ lw_tbl := List.mem_append_right _ (List.mem_append_right _ (List.mem_of_getElem? (i := 187) rfl))
theorem tt_347 : (.selects "KeepHeapModel" y_M_commit y_M_commit : Cond) ∈ lw_tbl := List.mem_append_right _ (List.mem_append_right _ (List.mem_of_getElem? (i := 188) rfl))
theorem tt_348 : (cd_K_undo : Cond) ∈ lw_tbl := List.mem_append_right _ (List.mem_append_left _ (List.mem_of_getElem? (i := 239) rfl))
theorem tt_349 : (.methodLink "KeepHeapLaw" 59 y_K_undo : Cond) ∈ lw_tbl := List.mem_append_right _ (List.mem_append_left _ (List.mem_of_getElem? (i := 236) rfl))
theorem tt_350 : (.instanceMethod y_K_undo : Cond) ∈ lw_tbl := List.mem_append_right _ (List.mem_append_left _ (List.mem_of_getElem? (i := 237) rfl))
theorem tt_351 : (.selects "KeepHeap" y_K_undo y_K_undo : Cond) ∈ lw_tbl := List.mem_append_right _ (List.mem_append_left _ (List.mem_of_getElem? (i := 238) rfl))
theorem tt_352 : (cd_M_undo : Cond) ∈ lw_tbl := List.mem_append_right _ (List.mem_append_right _ (List.mem_of_getElem? (i := 211) rfl))
theorem tt_353 : (.methodLink "KeepHeapLaw" 62 y_M_undo : Cond) ∈ lw_tbl := List.mem_append_right _ (List.mem_append_right _ (List.mem_of_getElem? (i := 208) rfl))
theorem tt_354 : (.instanceMethod y_M_undo : Cond) ∈ lw_tbl := List.mem_append_right _ (List.mem_append_right _ (List.mem_of_getElem? (i := 209) rfl))
theorem tt_355 : (.selects "KeepHeapModel" y_M_undo y_M_undo : Cond) ∈ lw_tbl := List.mem_append_right _ (List.mem_append_right _ (List.mem_of_getElem? (i := 210) rfl))
theorem tt_356 : (cd_K_sweep : Cond) ∈ lw_tbl := List.mem_append_right _ (List.mem_append_right _ (List.mem_of_getElem? (i := 3) rfl))
theorem tt_357 : (.methodLink "KeepHeapLaw" 63 y_K_sweep : Cond) ∈ lw_tbl := List.mem_append_right _ (List.mem_append_right _ (List.mem_of_getElem? (i := 0) rfl))
theorem tt_358 : (.instanceMethod y_K_sweep : Cond) ∈ lw_tbl := List.mem_append_right _ (List.mem_append_right _ (List.mem_of_getElem? (i := 1) rfl))
theorem tt_359 : (.selects "KeepHeap" y_K_sweep y_K_sweep : Cond) ∈ lw_tbl := List.mem_append_right _ (List.mem_append_right _ (List.mem_of_getElem? (i := 2) rfl))
theorem tt_360 : (cd_M_sweep : Cond) ∈ lw_tbl := List.mem_append_right _ (List.mem_append_right _ (List.mem_of_getElem? (i := 215) rfl))
theorem tt_361 : (.methodLink "KeepHeapLaw" 66 y_M_sweep : Cond) ∈ lw_tbl := List.mem_append_right _ (List.mem_append_right _ (List.mem_of_getElem? (i := 212) rfl))
theorem tt_362 : (.instanceMethod y_M_sweep : Cond) ∈ lw_tbl := List.mem_append_right _ (List.mem_append_right _ (List.mem_of_getElem? (i := 213) rfl))
theorem tt_363 : (.selects "KeepHeapModel" y_M_sweep y_M_sweep : Cond) ∈ lw_tbl := List.mem_append_right _ (List.mem_append_right _ (List.mem_of_getElem? (i := 214) rfl))
theorem tt_364 : (cd_K_sync : Cond) ∈ lw_tbl := List.mem_append_right _ (List.mem_append_right _ (List.mem_of_getElem? (i := 25) rfl))
theorem tt_365 : (.methodLink "KeepHeapLaw" 67 y_K_sync : Cond) ∈ lw_tbl := List.mem_append_right _ (List.mem_append_right _ (List.mem_of_getElem? (i := 22) rfl))
theorem tt_366 : (.instanceMethod y_K_sync : Cond) ∈ lw_tbl := List.mem_append_right _ (List.mem_append_right _ (List.mem_of_getElem? (i := 23) rfl))
theorem tt_367 : (.selects "KeepHeap" y_K_sync y_K_sync : Cond) ∈ lw_tbl := List.mem_append_right _ (List.mem_append_right _ (List.mem_of_getElem? (i := 24) rfl))
theorem tt_368 : (cd_M_sync : Cond) ∈ lw_tbl := List.mem_append_right _ (List.mem_append_right _ (List.mem_of_getElem? (i := 223) rfl))
theorem tt_369 : (.methodLink "KeepHeapLaw" 70 y_M_sync : Cond) ∈ lw_tbl := List.mem_append_right _ (List.mem_append_right _ (List.mem_of_getElem? (i := 220) rfl))
theorem tt_370 : (.instanceMethod y_M_sync : Cond) ∈ lw_tbl := List.mem_append_right _ (List.mem_append_right _ (List.mem_of_getElem? (i := 221) rfl))
theorem tt_371 : (.selects "KeepHeapModel" y_M_sync y_M_sync : Cond) ∈ lw_tbl := List.mem_append_right _ (List.mem_append_right _ (List.mem_of_getElem? (i := 222) rfl))
theorem tt_372 : (cd_K_crash : Cond) ∈ lw_tbl := List.mem_append_right _ (List.mem_append_right _ (List.mem_of_getElem? (i := 29) rfl))
theorem tt_373 : (.methodLink "KeepHeapLaw" 71 y_K_crash : Cond) ∈ lw_tbl := List.mem_append_right _ (List.mem_append_right _ (List.mem_of_getElem? (i := 26) rfl))
theorem tt_374 : (.instanceMethod y_K_crash : Cond) ∈ lw_tbl := List.mem_append_right _ (List.mem_append_right _ (List.mem_of_getElem? (i := 27) rfl))
theorem tt_375 : (.selects "KeepHeap" y_K_crash y_K_crash : Cond) ∈ lw_tbl := List.mem_append_right _ (List.mem_append_right _ (List.mem_of_getElem? (i := 28) rfl))
theorem tt_376 : (cd_M_crash : Cond) ∈ lw_tbl := List.mem_append_right _ (List.mem_append_right _ (List.mem_of_getElem? (i := 227) rfl))
theorem tt_377 : (.methodLink "KeepHeapLaw" 75 y_M_crash : Cond) ∈ lw_tbl := List.mem_append_right _ (List.mem_append_right _ (List.mem_of_getElem? (i := 224) rfl))
theorem tt_378 : (.instanceMethod y_M_crash : Cond) ∈ lw_tbl := List.mem_append_right _ (List.mem_append_right _ (List.mem_of_getElem? (i := 225) rfl))
theorem tt_379 : (.selects "KeepHeapModel" y_M_crash y_M_crash : Cond) ∈ lw_tbl := List.mem_append_right _ (List.mem_append_right _ (List.mem_of_getElem? (i := 226) rfl))
theorem tt_380 : (cd_K_kind : Cond) ∈ lw_tbl := List.mem_append_right _ (List.mem_append_right _ (List.mem_of_getElem? (i := 37) rfl))
theorem tt_381 : (.methodLink "KeepHeapLaw" 76 y_K_kind : Cond) ∈ lw_tbl := List.mem_append_right _ (List.mem_append_right _ (List.mem_of_getElem? (i := 34) rfl))
theorem tt_382 : (.instanceMethod y_K_kind : Cond) ∈ lw_tbl := List.mem_append_right _ (List.mem_append_right _ (List.mem_of_getElem? (i := 35) rfl))
theorem tt_383 : (.selects "KeepHeap" y_K_kind y_K_kind : Cond) ∈ lw_tbl := List.mem_append_right _ (List.mem_append_right _ (List.mem_of_getElem? (i := 36) rfl))
theorem tt_384 : (cd_M_kind : Cond) ∈ lw_tbl := List.mem_append_right _ (List.mem_append_right _ (List.mem_of_getElem? (i := 231) rfl))
theorem tt_385 : (.methodLink "KeepHeapLaw" 79 y_M_kind : Cond) ∈ lw_tbl := List.mem_append_right _ (List.mem_append_right _ (List.mem_of_getElem? (i := 228) rfl))
theorem tt_386 : (.instanceMethod y_M_kind : Cond) ∈ lw_tbl := List.mem_append_right _ (List.mem_append_right _ (List.mem_of_getElem? (i := 229) rfl))
theorem tt_387 : (.selects "KeepHeapModel" y_M_kind y_M_kind : Cond) ∈ lw_tbl := List.mem_append_right _ (List.mem_append_right _ (List.mem_of_getElem? (i := 230) rfl))
theorem tt_388 : (cd_K_size : Cond) ∈ lw_tbl := List.mem_append_right _ (List.mem_append_right _ (List.mem_of_getElem? (i := 41) rfl))
theorem tt_389 : (.methodLink "KeepHeapLaw" 80 y_K_size : Cond) ∈ lw_tbl := List.mem_append_right _ (List.mem_append_right _ (List.mem_of_getElem? (i := 38) rfl))
theorem tt_390 : (.instanceMethod y_K_size : Cond) ∈ lw_tbl := List.mem_append_right _ (List.mem_append_right _ (List.mem_of_getElem? (i := 39) rfl))
theorem tt_391 : (.selects "KeepHeap" y_K_size y_K_size : Cond) ∈ lw_tbl := List.mem_append_right _ (List.mem_append_right _ (List.mem_of_getElem? (i := 40) rfl))
theorem tt_392 : (cd_M_size : Cond) ∈ lw_tbl := List.mem_append_right _ (List.mem_append_right _ (List.mem_of_getElem? (i := 235) rfl))
theorem tt_393 : (.methodLink "KeepHeapLaw" 83 y_M_size : Cond) ∈ lw_tbl := List.mem_append_right _ (List.mem_append_right _ (List.mem_of_getElem? (i := 232) rfl))
theorem tt_394 : (.instanceMethod y_M_size : Cond) ∈ lw_tbl := List.mem_append_right _ (List.mem_append_right _ (List.mem_of_getElem? (i := 233) rfl))
theorem tt_395 : (.selects "KeepHeapModel" y_M_size y_M_size : Cond) ∈ lw_tbl := List.mem_append_right _ (List.mem_append_right _ (List.mem_of_getElem? (i := 234) rfl))
theorem tt_396 : (cd_K_count : Cond) ∈ lw_tbl := List.mem_append_right _ (List.mem_append_right _ (List.mem_of_getElem? (i := 45) rfl))
theorem tt_397 : (.methodLink "KeepHeapLaw" 84 y_K_count : Cond) ∈ lw_tbl := List.mem_append_right _ (List.mem_append_right _ (List.mem_of_getElem? (i := 42) rfl))
theorem tt_398 : (.instanceMethod y_K_count : Cond) ∈ lw_tbl := List.mem_append_right _ (List.mem_append_right _ (List.mem_of_getElem? (i := 43) rfl))
theorem tt_399 : (.selects "KeepHeap" y_K_count y_K_count : Cond) ∈ lw_tbl := List.mem_append_right _ (List.mem_append_right _ (List.mem_of_getElem? (i := 44) rfl))
theorem tt_400 : (cd_M_count : Cond) ∈ lw_tbl := List.mem_append_right _ (List.mem_append_right _ (List.mem_of_getElem? (i := 239) rfl))
theorem tt_401 : (.methodLink "KeepHeapLaw" 87 y_M_count : Cond) ∈ lw_tbl := List.mem_append_right _ (List.mem_append_right _ (List.mem_of_getElem? (i := 236) rfl))
theorem tt_402 : (.instanceMethod y_M_count : Cond) ∈ lw_tbl := List.mem_append_right _ (List.mem_append_right _ (List.mem_of_getElem? (i := 237) rfl))
theorem tt_403 : (.selects "KeepHeapModel" y_M_count y_M_count : Cond) ∈ lw_tbl := List.mem_append_right _ (List.mem_append_right _ (List.mem_of_getElem? (i := 238) rfl))
def AQ_0 : List Cond := [.methodLink "KeepHeap$Reach" 3 Lib.objectInit, .instanceMethod Lib.objectInit, .code Lib.objectInit ⟨#[0xb1]⟩ 1 none, .arrayClass (newarray.typeOf .boolean), .fieldLink "KeepHeap$Reach" 9 "KeepHeap$Reach" "reached" "[Z", .arrayClass (newarray.typeOf .int), .fieldLink "KeepHeap$Reach" 15 "KeepHeap$Reach" "queue" "[I", .fieldLink "KeepHeap$Reach" 19 "KeepHeap$Reach" "found" "I", .methodLink "KeepHeap$Slots" 3 Lib.objectInit, .fieldLink "KeepHeap$Slots" 9 "KeepHeap$Slots" "used" "I", .fieldLink "KeepHeap$Slots" 15 "KeepHeap$Slots" "form" "I", .fieldLink "KeepHeap$Slots" 18 "KeepHeap$Slots" "names" "[I", .arrayClass (newarray.typeOf .long), .fieldLink "KeepHeap$Slots" 22 "KeepHeap$Slots" "values" "[J", .methodLink "KeepHeap$State" 3 Lib.objectInit, .classLink "KeepHeap$State" 9 "KeepHeap$Slots", .fieldLink "KeepHeap$State" 11 "KeepHeap$State" "objects" "[LKeepHeap$Slots;", .fieldLink "KeepHeap$State" 17 "KeepHeap$State" "roots" "LKeepHeap$Slots;", .methodLink "KeepHeap" 3 Lib.objectInit, .classLink "KeepHeap" 9 "KeepHeap$State"]
theorem ar_0 : ∀ w ∈ AQ_0, w ∈ lw_tbl := List.forall_mem_cons.mpr ⟨tt_0, List.forall_mem_cons.mpr ⟨tt_1, List.forall_mem_cons.mpr ⟨tt_2, List.forall_mem_cons.mpr ⟨tt_3, List.forall_mem_cons.mpr ⟨tt_4, List.forall_mem_cons.mpr ⟨tt_5, List.forall_mem_cons.mpr ⟨tt_6, List.forall_mem_cons.mpr ⟨tt_7, List.forall_mem_cons.mpr ⟨tt_8, List.forall_mem_cons.mpr ⟨tt_9, List.forall_mem_cons.mpr ⟨tt_10, List.forall_mem_cons.mpr ⟨tt_11, List.forall_mem_cons.mpr ⟨tt_12, List.forall_mem_cons.mpr ⟨tt_13, List.forall_mem_cons.mpr ⟨tt_14, List.forall_mem_cons.mpr ⟨tt_15, List.forall_mem_cons.mpr ⟨tt_16, List.forall_mem_cons.mpr ⟨tt_17, List.forall_mem_cons.mpr ⟨tt_18, List.forall_mem_cons.mpr ⟨tt_19, fun _ h => absurd h List.not_mem_nil⟩⟩⟩⟩⟩⟩⟩⟩⟩⟩⟩⟩⟩⟩⟩⟩⟩⟩⟩⟩
def AQ_1 : List Cond := [.fieldLink "KeepHeap" 11 "KeepHeap" "ring" "[LKeepHeap$State;", .fieldLink "KeepHeap" 15 "KeepHeap" "ringBytes" "[I", .classLink "KeepHeap" 19 "KeepHeap$Reach", .instantiable "KeepHeap$Reach" 3, .initialized "KeepHeap$Reach", cd_R_init, .instanceMethod y_R_init, .fieldLink "KeepHeap" 22 "KeepHeap" "reach" "LKeepHeap$Reach;", .fieldLink "KeepHeap" 26 "KeepHeap" "safeAt" "I", .fieldLink "KeepHeap" 30 "KeepHeap" "waiting" "I", .fieldLink "KeepHeap" 33 "KeepHeap" "logBytes" "I", .classLink "KeepHeap" 36 "KeepHeap$Slots", .instantiable "KeepHeap$Slots" 4, .initialized "KeepHeap$Slots", cd_S_init, .methodLink "KeepHeap" 38 y_S_init, .instanceMethod y_S_init, .instantiable "KeepHeap$State" 2, .initialized "KeepHeap$State", cd_T_init]
theorem ar_1 : ∀ w ∈ AQ_1, w ∈ lw_tbl := List.forall_mem_cons.mpr ⟨tt_20, List.forall_mem_cons.mpr ⟨tt_21, List.forall_mem_cons.mpr ⟨tt_22, List.forall_mem_cons.mpr ⟨tt_23, List.forall_mem_cons.mpr ⟨tt_24, List.forall_mem_cons.mpr ⟨tt_25, List.forall_mem_cons.mpr ⟨tt_26, List.forall_mem_cons.mpr ⟨tt_27, List.forall_mem_cons.mpr ⟨tt_28, List.forall_mem_cons.mpr ⟨tt_29, List.forall_mem_cons.mpr ⟨tt_30, List.forall_mem_cons.mpr ⟨tt_31, List.forall_mem_cons.mpr ⟨tt_32, List.forall_mem_cons.mpr ⟨tt_33, List.forall_mem_cons.mpr ⟨tt_34, List.forall_mem_cons.mpr ⟨tt_35, List.forall_mem_cons.mpr ⟨tt_36, List.forall_mem_cons.mpr ⟨tt_37, List.forall_mem_cons.mpr ⟨tt_38, List.forall_mem_cons.mpr ⟨tt_39, fun _ h => absurd h List.not_mem_nil⟩⟩⟩⟩⟩⟩⟩⟩⟩⟩⟩⟩⟩⟩⟩⟩⟩⟩⟩⟩
def AQ_2 : List Cond := [.methodLink "KeepHeap" 41 y_T_init, .instanceMethod y_T_init, .fieldLink "KeepHeap" 44 "KeepHeap" "now" "LKeepHeap$State;", .methodLink "KeepHeapModel$State" 3 Lib.objectInit, .fieldLink "KeepHeapModel$State" 9 "KeepHeapModel$State" "kind" "[I", .fieldLink "KeepHeapModel$State" 15 "KeepHeapModel$State" "size" "[I", .fieldLink "KeepHeapModel$State" 18 "KeepHeapModel$State" "name" "[I", .fieldLink "KeepHeapModel$State" 21 "KeepHeapModel$State" "root" "[I", .fieldLink "KeepHeapModel$State" 24 "KeepHeapModel$State" "slot" "[J", .fieldLink "KeepHeapModel$State" 28 "KeepHeapModel$State" "value" "[J", .methodLink "KeepHeapModel" 1 Lib.objectInit, .classLink "KeepHeapModel" 7 "KeepHeapModel$State", .instantiable "KeepHeapModel$State" 8, .initialized "KeepHeapModel$State", cd_N_init, .instanceMethod y_N_init, .fieldLink "KeepHeapModel" 10 "KeepHeapModel" "now" "LKeepHeapModel$State;", .fieldLink "KeepHeapModel" 16 "KeepHeapModel" "kept" "LKeepHeapModel$State;", .fieldLink "KeepHeapModel" 19 "KeepHeapModel" "safe" "LKeepHeapModel$State;", .fieldLink "KeepHeapModel" 22 "KeepHeapModel" "waiting" "[LKeepHeapModel$State;"]
theorem ar_2 : ∀ w ∈ AQ_2, w ∈ lw_tbl := List.forall_mem_cons.mpr ⟨tt_40, List.forall_mem_cons.mpr ⟨tt_41, List.forall_mem_cons.mpr ⟨tt_42, List.forall_mem_cons.mpr ⟨tt_43, List.forall_mem_cons.mpr ⟨tt_44, List.forall_mem_cons.mpr ⟨tt_45, List.forall_mem_cons.mpr ⟨tt_46, List.forall_mem_cons.mpr ⟨tt_47, List.forall_mem_cons.mpr ⟨tt_48, List.forall_mem_cons.mpr ⟨tt_49, List.forall_mem_cons.mpr ⟨tt_50, List.forall_mem_cons.mpr ⟨tt_51, List.forall_mem_cons.mpr ⟨tt_52, List.forall_mem_cons.mpr ⟨tt_53, List.forall_mem_cons.mpr ⟨tt_54, List.forall_mem_cons.mpr ⟨tt_55, List.forall_mem_cons.mpr ⟨tt_56, List.forall_mem_cons.mpr ⟨tt_57, List.forall_mem_cons.mpr ⟨tt_58, List.forall_mem_cons.mpr ⟨tt_59, fun _ h => absurd h List.not_mem_nil⟩⟩⟩⟩⟩⟩⟩⟩⟩⟩⟩⟩⟩⟩⟩⟩⟩⟩⟩⟩
def AQ_3 : List Cond := [.fieldLink "KeepHeapModel" 26 "KeepHeapModel" "reached" "[Z", .fieldLink "KeepHeapModel" 30 "KeepHeapModel" "path" "[I", .fieldLink "KeepHeap" 48 "KeepHeap$State" "objects" "[LKeepHeap$Slots;", .fieldLink "KeepHeapModel" 40 "KeepHeapModel$State" "kind" "[I", .fieldLink "KeepHeapModel" 51 "KeepHeapModel$State" "size" "[I", .constantLong "KeepHeap" 132 1099511627776, cd_T_has, .methodLink "KeepHeap" 134 y_T_has, .instanceMethod y_T_has, .selects "KeepHeap$State" y_T_has y_T_has, .constantLong "KeepHeap" 60 (-1099511627776), .constantLong "KeepHeap" 137 1099511627777, .methodLink "KeepHeap$State" 21 y_T_has, .fieldLink "KeepHeap$State" 25 "KeepHeap$Slots" "form" "I", cd_K_ringIndex, .methodLink "KeepHeap" 116 y_K_ringIndex, .instanceMethod y_K_ringIndex, .selects "KeepHeap" y_K_ringIndex y_K_ringIndex, .initialized "KeepHeap", .classLink "KeepHeap$Slots" 10 "KeepHeap$Slots"]
theorem ar_3 : ∀ w ∈ AQ_3, w ∈ lw_tbl := List.forall_mem_cons.mpr ⟨tt_60, List.forall_mem_cons.mpr ⟨tt_61, List.forall_mem_cons.mpr ⟨tt_62, List.forall_mem_cons.mpr ⟨tt_63, List.forall_mem_cons.mpr ⟨tt_64, List.forall_mem_cons.mpr ⟨tt_65, List.forall_mem_cons.mpr ⟨tt_66, List.forall_mem_cons.mpr ⟨tt_67, List.forall_mem_cons.mpr ⟨tt_68, List.forall_mem_cons.mpr ⟨tt_69, List.forall_mem_cons.mpr ⟨tt_70, List.forall_mem_cons.mpr ⟨tt_71, List.forall_mem_cons.mpr ⟨tt_72, List.forall_mem_cons.mpr ⟨tt_73, List.forall_mem_cons.mpr ⟨tt_74, List.forall_mem_cons.mpr ⟨tt_75, List.forall_mem_cons.mpr ⟨tt_76, List.forall_mem_cons.mpr ⟨tt_77, List.forall_mem_cons.mpr ⟨tt_78, List.forall_mem_cons.mpr ⟨tt_79, fun _ h => absurd h List.not_mem_nil⟩⟩⟩⟩⟩⟩⟩⟩⟩⟩⟩⟩⟩⟩⟩⟩⟩⟩⟩⟩
def AQ_4 : List Cond := [.methodLink "KeepHeap$Slots" 26 y_S_init, .methodLink "KeepHeap$Slots" 29 arraycopyName, .native arraycopyName, .static arraycopyName, .initialized "java/lang/System", cd_T_find, .methodLink "KeepHeap" 66 y_T_find, .instanceMethod y_T_find, .selects "KeepHeap$State" y_T_find y_T_find, cd_K_kept, .methodLink "KeepHeap" 104 y_K_kept, .instanceMethod y_K_kept, .selects "KeepHeap" y_K_kept y_K_kept, cd_S_twin, .methodLink "KeepHeap" 139 y_S_twin, .instanceMethod y_S_twin, .selects "KeepHeap$Slots" y_S_twin y_S_twin, cd_S_holds, .methodLink "KeepHeap$Slots" 49 y_S_holds, .instanceMethod y_S_holds]
theorem ar_4 : ∀ w ∈ AQ_4, w ∈ lw_tbl := List.forall_mem_cons.mpr ⟨tt_80, List.forall_mem_cons.mpr ⟨tt_81, List.forall_mem_cons.mpr ⟨tt_82, List.forall_mem_cons.mpr ⟨tt_83, List.forall_mem_cons.mpr ⟨tt_84, List.forall_mem_cons.mpr ⟨tt_85, List.forall_mem_cons.mpr ⟨tt_86, List.forall_mem_cons.mpr ⟨tt_87, List.forall_mem_cons.mpr ⟨tt_88, List.forall_mem_cons.mpr ⟨tt_89, List.forall_mem_cons.mpr ⟨tt_90, List.forall_mem_cons.mpr ⟨tt_91, List.forall_mem_cons.mpr ⟨tt_92, List.forall_mem_cons.mpr ⟨tt_93, List.forall_mem_cons.mpr ⟨tt_94, List.forall_mem_cons.mpr ⟨tt_95, List.forall_mem_cons.mpr ⟨tt_96, List.forall_mem_cons.mpr ⟨tt_97, List.forall_mem_cons.mpr ⟨tt_98, List.forall_mem_cons.mpr ⟨tt_99, fun _ h => absurd h List.not_mem_nil⟩⟩⟩⟩⟩⟩⟩⟩⟩⟩⟩⟩⟩⟩⟩⟩⟩⟩⟩⟩
def AQ_5 : List Cond := [.selects "KeepHeap$Slots" y_S_holds y_S_holds, cd_S_placeOf, .methodLink "KeepHeap$Slots" 35 y_S_placeOf, .instanceMethod y_S_placeOf, .selects "KeepHeap$Slots" y_S_placeOf y_S_placeOf, .constantLong "KeepHeap$Slots" 39 1099511627776, cd_S_append, .methodLink "KeepHeap$Slots" 45 y_S_append, .instanceMethod y_S_append, .selects "KeepHeap$Slots" y_S_append y_S_append, cd_S_removeAt, .methodLink "KeepHeap$Slots" 41 y_S_removeAt, .instanceMethod y_S_removeAt, .selects "KeepHeap$Slots" y_S_removeAt y_S_removeAt, cd_K_valueOf, .methodLink "KeepHeap" 52 y_K_valueOf, .instanceMethod y_K_valueOf, .selects "KeepHeap" y_K_valueOf y_K_valueOf, cd_K_own, .methodLink "KeepHeap" 56 y_K_own]
theorem ar_5 : ∀ w ∈ AQ_5, w ∈ lw_tbl := List.forall_mem_cons.mpr ⟨tt_100, List.forall_mem_cons.mpr ⟨tt_101, List.forall_mem_cons.mpr ⟨tt_102, List.forall_mem_cons.mpr ⟨tt_103, List.forall_mem_cons.mpr ⟨tt_104, List.forall_mem_cons.mpr ⟨tt_105, List.forall_mem_cons.mpr ⟨tt_106, List.forall_mem_cons.mpr ⟨tt_107, List.forall_mem_cons.mpr ⟨tt_108, List.forall_mem_cons.mpr ⟨tt_109, List.forall_mem_cons.mpr ⟨tt_110, List.forall_mem_cons.mpr ⟨tt_111, List.forall_mem_cons.mpr ⟨tt_112, List.forall_mem_cons.mpr ⟨tt_113, List.forall_mem_cons.mpr ⟨tt_114, List.forall_mem_cons.mpr ⟨tt_115, List.forall_mem_cons.mpr ⟨tt_116, List.forall_mem_cons.mpr ⟨tt_117, List.forall_mem_cons.mpr ⟨tt_118, List.forall_mem_cons.mpr ⟨tt_119, fun _ h => absurd h List.not_mem_nil⟩⟩⟩⟩⟩⟩⟩⟩⟩⟩⟩⟩⟩⟩⟩⟩⟩⟩⟩⟩
def AQ_6 : List Cond := [.instanceMethod y_K_own, .selects "KeepHeap" y_K_own y_K_own, cd_S_assign, .methodLink "KeepHeap" 62 y_S_assign, .instanceMethod y_S_assign, .selects "KeepHeap$Slots" y_S_assign y_S_assign, .constantLong "KeepHeapModel" 34 99, cd_M_in, .methodLink "KeepHeapModel" 36 y_M_in, .static y_M_in, .initialized "KeepHeapModel", cd_M_isThere, .methodLink "KeepHeapModel" 43 y_M_isThere, .instanceMethod y_M_isThere, .selects "KeepHeapModel" y_M_isThere y_M_isThere, .constantLong "KeepHeapModel" 49 1099511627777, .constantLong "KeepHeapModel" 47 1099511627776, cd_M_is, .methodLink "KeepHeapModel" 54 y_M_is, .instanceMethod y_M_is]
theorem ar_6 : ∀ w ∈ AQ_6, w ∈ lw_tbl := List.forall_mem_cons.mpr ⟨tt_120, List.forall_mem_cons.mpr ⟨tt_121, List.forall_mem_cons.mpr ⟨tt_122, List.forall_mem_cons.mpr ⟨tt_123, List.forall_mem_cons.mpr ⟨tt_124, List.forall_mem_cons.mpr ⟨tt_125, List.forall_mem_cons.mpr ⟨tt_126, List.forall_mem_cons.mpr ⟨tt_127, List.forall_mem_cons.mpr ⟨tt_128, List.forall_mem_cons.mpr ⟨tt_129, List.forall_mem_cons.mpr ⟨tt_130, List.forall_mem_cons.mpr ⟨tt_131, List.forall_mem_cons.mpr ⟨tt_132, List.forall_mem_cons.mpr ⟨tt_133, List.forall_mem_cons.mpr ⟨tt_134, List.forall_mem_cons.mpr ⟨tt_135, List.forall_mem_cons.mpr ⟨tt_136, List.forall_mem_cons.mpr ⟨tt_137, List.forall_mem_cons.mpr ⟨tt_138, List.forall_mem_cons.mpr ⟨tt_139, fun _ h => absurd h List.not_mem_nil⟩⟩⟩⟩⟩⟩⟩⟩⟩⟩⟩⟩⟩⟩⟩⟩⟩⟩⟩⟩
def AQ_7 : List Cond := [.selects "KeepHeapModel" y_M_is y_M_is, cd_M_isValue, .methodLink "KeepHeapModel" 58 y_M_isValue, .instanceMethod y_M_isValue, .selects "KeepHeapModel" y_M_isValue y_M_isValue, cd_N_findField, .methodLink "KeepHeapModel" 61 y_N_findField, .instanceMethod y_N_findField, .selects "KeepHeapModel$State" y_N_findField y_N_findField, .fieldLink "KeepHeapModel" 68 "KeepHeapModel$State" "slot" "[J", cd_M_value, .methodLink "KeepHeapModel" 72 y_M_value, .static y_M_value, .fieldLink "KeepHeapModel" 65 "KeepHeapModel$State" "name" "[I", cd_S_named, .methodLink "KeepHeap" 69 y_S_named, .instanceMethod y_S_named, .selects "KeepHeap$Slots" y_S_named y_S_named, .constantLong "KeepHeapModel" 76 (-1099511627776), .methodLink "KeepHeap" 73 y_S_append]
theorem ar_7 : ∀ w ∈ AQ_7, w ∈ lw_tbl := List.forall_mem_cons.mpr ⟨tt_140, List.forall_mem_cons.mpr ⟨tt_141, List.forall_mem_cons.mpr ⟨tt_142, List.forall_mem_cons.mpr ⟨tt_143, List.forall_mem_cons.mpr ⟨tt_144, List.forall_mem_cons.mpr ⟨tt_145, List.forall_mem_cons.mpr ⟨tt_146, List.forall_mem_cons.mpr ⟨tt_147, List.forall_mem_cons.mpr ⟨tt_148, List.forall_mem_cons.mpr ⟨tt_149, List.forall_mem_cons.mpr ⟨tt_150, List.forall_mem_cons.mpr ⟨tt_151, List.forall_mem_cons.mpr ⟨tt_152, List.forall_mem_cons.mpr ⟨tt_153, List.forall_mem_cons.mpr ⟨tt_154, List.forall_mem_cons.mpr ⟨tt_155, List.forall_mem_cons.mpr ⟨tt_156, List.forall_mem_cons.mpr ⟨tt_157, List.forall_mem_cons.mpr ⟨tt_158, List.forall_mem_cons.mpr ⟨tt_159, fun _ h => absurd h List.not_mem_nil⟩⟩⟩⟩⟩⟩⟩⟩⟩⟩⟩⟩⟩⟩⟩⟩⟩⟩⟩⟩
def AQ_8 : List Cond := [.constantLong "KeepHeap$Slots" 53 (-1099511627776), cd_S_takeLast, .methodLink "KeepHeap" 76 y_S_takeLast, .instanceMethod y_S_takeLast, .selects "KeepHeap$Slots" y_S_takeLast y_S_takeLast, .methodLink "KeepHeap" 80 y_S_holds, .fieldLink "KeepHeap" 84 "KeepHeap$Slots" "values" "[J", .fieldLink "KeepHeap" 92 "KeepHeap$State" "roots" "LKeepHeap$Slots;", cd_K_ownRoots, .methodLink "KeepHeap" 88 y_K_ownRoots, .instanceMethod y_K_ownRoots, .selects "KeepHeap" y_K_ownRoots y_K_ownRoots, .fieldLink "KeepHeapModel$State" 37 "KeepHeapModel$State" "roots" "I", cd_N_findRoot, .methodLink "KeepHeapModel" 78 y_N_findRoot, .instanceMethod y_N_findRoot, .selects "KeepHeapModel$State" y_N_findRoot y_N_findRoot, .fieldLink "KeepHeapModel" 89 "KeepHeapModel$State" "value" "[J", .fieldLink "KeepHeapModel" 82 "KeepHeapModel$State" "roots" "I", .fieldLink "KeepHeapModel" 86 "KeepHeapModel$State" "root" "[I"]
theorem ar_8 : ∀ w ∈ AQ_8, w ∈ lw_tbl := List.forall_mem_cons.mpr ⟨tt_160, List.forall_mem_cons.mpr ⟨tt_161, List.forall_mem_cons.mpr ⟨tt_162, List.forall_mem_cons.mpr ⟨tt_163, List.forall_mem_cons.mpr ⟨tt_164, List.forall_mem_cons.mpr ⟨tt_165, List.forall_mem_cons.mpr ⟨tt_166, List.forall_mem_cons.mpr ⟨tt_167, List.forall_mem_cons.mpr ⟨tt_168, List.forall_mem_cons.mpr ⟨tt_169, List.forall_mem_cons.mpr ⟨tt_170, List.forall_mem_cons.mpr ⟨tt_171, List.forall_mem_cons.mpr ⟨tt_172, List.forall_mem_cons.mpr ⟨tt_173, List.forall_mem_cons.mpr ⟨tt_174, List.forall_mem_cons.mpr ⟨tt_175, List.forall_mem_cons.mpr ⟨tt_176, List.forall_mem_cons.mpr ⟨tt_177, List.forall_mem_cons.mpr ⟨tt_178, List.forall_mem_cons.mpr ⟨tt_179, fun _ h => absurd h List.not_mem_nil⟩⟩⟩⟩⟩⟩⟩⟩⟩⟩⟩⟩⟩⟩⟩⟩⟩⟩⟩⟩
def AQ_9 : List Cond := [.methodLink "KeepHeap$Slots" 55 y_S_named, cd_S_namesChangedFrom, .methodLink "KeepHeap" 146 y_S_namesChangedFrom, .instanceMethod y_S_namesChangedFrom, .selects "KeepHeap$Slots" y_S_namesChangedFrom y_S_namesChangedFrom, cd_S_sameAs, .methodLink "KeepHeap" 142 y_S_sameAs, .instanceMethod y_S_sameAs, .selects "KeepHeap$Slots" y_S_sameAs y_S_sameAs, cd_T_become, .methodLink "KeepHeap" 108 y_T_become, .instanceMethod y_T_become, .selects "KeepHeap$State" y_T_become y_T_become, cd_K_changedBytes, .methodLink "KeepHeap" 96 y_K_changedBytes, .instanceMethod y_K_changedBytes, .selects "KeepHeap" y_K_changedBytes y_K_changedBytes, cd_K_keepNow, .methodLink "KeepHeap" 100 y_K_keepNow, .instanceMethod y_K_keepNow]
theorem ar_9 : ∀ w ∈ AQ_9, w ∈ lw_tbl := List.forall_mem_cons.mpr ⟨tt_180, List.forall_mem_cons.mpr ⟨tt_181, List.forall_mem_cons.mpr ⟨tt_182, List.forall_mem_cons.mpr ⟨tt_183, List.forall_mem_cons.mpr ⟨tt_184, List.forall_mem_cons.mpr ⟨tt_185, List.forall_mem_cons.mpr ⟨tt_186, List.forall_mem_cons.mpr ⟨tt_187, List.forall_mem_cons.mpr ⟨tt_188, List.forall_mem_cons.mpr ⟨tt_189, List.forall_mem_cons.mpr ⟨tt_190, List.forall_mem_cons.mpr ⟨tt_191, List.forall_mem_cons.mpr ⟨tt_192, List.forall_mem_cons.mpr ⟨tt_193, List.forall_mem_cons.mpr ⟨tt_194, List.forall_mem_cons.mpr ⟨tt_195, List.forall_mem_cons.mpr ⟨tt_196, List.forall_mem_cons.mpr ⟨tt_197, List.forall_mem_cons.mpr ⟨tt_198, List.forall_mem_cons.mpr ⟨tt_199, fun _ h => absurd h List.not_mem_nil⟩⟩⟩⟩⟩⟩⟩⟩⟩⟩⟩⟩⟩⟩⟩⟩⟩⟩⟩⟩
def AQ_10 : List Cond := [.selects "KeepHeap" y_K_keepNow y_K_keepNow, cd_N_isSame, .methodLink "KeepHeapModel$State" 41 y_N_isSame, .instanceMethod y_N_isSame, .selects "KeepHeapModel$State" y_N_isSame y_N_isSame, .methodLink "KeepHeapModel$State" 45 y_N_findRoot, .methodLink "KeepHeapModel$State" 31 arraycopyName, cd_N_copy, .methodLink "KeepHeapModel" 91 y_N_copy, .instanceMethod y_N_copy, .selects "KeepHeapModel$State" y_N_copy y_N_copy, .fieldLink "KeepHeapModel" 95 "KeepHeapModel" "logged" "I", .fieldLink "KeepHeapModel" 98 "KeepHeapModel" "waits" "I", .fieldLink "KeepHeapModel" 101 "KeepHeapModel$State" "bytes" "I", cd_N_bytesBehind, .methodLink "KeepHeapModel" 104 y_N_bytesBehind, .instanceMethod y_N_bytesBehind, .selects "KeepHeapModel$State" y_N_bytesBehind y_N_bytesBehind, cd_M_keep, .methodLink "KeepHeapModel" 108 y_M_keep]
theorem ar_10 : ∀ w ∈ AQ_10, w ∈ lw_tbl := List.forall_mem_cons.mpr ⟨tt_200, List.forall_mem_cons.mpr ⟨tt_201, List.forall_mem_cons.mpr ⟨tt_202, List.forall_mem_cons.mpr ⟨tt_203, List.forall_mem_cons.mpr ⟨tt_204, List.forall_mem_cons.mpr ⟨tt_205, List.forall_mem_cons.mpr ⟨tt_206, List.forall_mem_cons.mpr ⟨tt_207, List.forall_mem_cons.mpr ⟨tt_208, List.forall_mem_cons.mpr ⟨tt_209, List.forall_mem_cons.mpr ⟨tt_210, List.forall_mem_cons.mpr ⟨tt_211, List.forall_mem_cons.mpr ⟨tt_212, List.forall_mem_cons.mpr ⟨tt_213, List.forall_mem_cons.mpr ⟨tt_214, List.forall_mem_cons.mpr ⟨tt_215, List.forall_mem_cons.mpr ⟨tt_216, List.forall_mem_cons.mpr ⟨tt_217, List.forall_mem_cons.mpr ⟨tt_218, List.forall_mem_cons.mpr ⟨tt_219, fun _ h => absurd h List.not_mem_nil⟩⟩⟩⟩⟩⟩⟩⟩⟩⟩⟩⟩⟩⟩⟩⟩⟩⟩⟩⟩
def AQ_11 : List Cond := [.instanceMethod y_M_keep, .selects "KeepHeapModel" y_M_keep y_M_keep, .fieldLink "KeepHeap$Reach" 41 "KeepHeap$Slots" "used" "I", .fieldLink "KeepHeap$Reach" 46 "KeepHeap$Slots" "values" "[J", .constantLong "KeepHeap$Reach" 50 1099511627777, .constantLong "KeepHeap$Reach" 52 100, cd_R_enqueue, .methodLink "KeepHeap$Reach" 54 y_R_enqueue, .instanceMethod y_R_enqueue, .selects "KeepHeap$Reach" y_R_enqueue y_R_enqueue, .fieldLink "KeepHeap$Reach" 33 "KeepHeap$State" "roots" "LKeepHeap$Slots;", cd_R_enqueueAll, .methodLink "KeepHeap$Reach" 37 y_R_enqueueAll, .instanceMethod y_R_enqueueAll, .selects "KeepHeap$Reach" y_R_enqueueAll y_R_enqueueAll, .fieldLink "KeepHeap$Reach" 27 "KeepHeap$State" "objects" "[LKeepHeap$Slots;", cd_R_walk, .methodLink "KeepHeap$Reach" 23 y_R_walk, .instanceMethod y_R_walk, .selects "KeepHeap$Reach" y_R_walk y_R_walk]
theorem ar_11 : ∀ w ∈ AQ_11, w ∈ lw_tbl := List.forall_mem_cons.mpr ⟨tt_220, List.forall_mem_cons.mpr ⟨tt_221, List.forall_mem_cons.mpr ⟨tt_222, List.forall_mem_cons.mpr ⟨tt_223, List.forall_mem_cons.mpr ⟨tt_224, List.forall_mem_cons.mpr ⟨tt_225, List.forall_mem_cons.mpr ⟨tt_226, List.forall_mem_cons.mpr ⟨tt_227, List.forall_mem_cons.mpr ⟨tt_228, List.forall_mem_cons.mpr ⟨tt_229, List.forall_mem_cons.mpr ⟨tt_230, List.forall_mem_cons.mpr ⟨tt_231, List.forall_mem_cons.mpr ⟨tt_232, List.forall_mem_cons.mpr ⟨tt_233, List.forall_mem_cons.mpr ⟨tt_234, List.forall_mem_cons.mpr ⟨tt_235, List.forall_mem_cons.mpr ⟨tt_236, List.forall_mem_cons.mpr ⟨tt_237, List.forall_mem_cons.mpr ⟨tt_238, List.forall_mem_cons.mpr ⟨tt_239, fun _ h => absurd h List.not_mem_nil⟩⟩⟩⟩⟩⟩⟩⟩⟩⟩⟩⟩⟩⟩⟩⟩⟩⟩⟩⟩
def AQ_12 : List Cond := [cd_R_dropUnreached, .methodLink "KeepHeap" 112 y_R_dropUnreached, .instanceMethod y_R_dropUnreached, .selects "KeepHeap$Reach" y_R_dropUnreached y_R_dropUnreached, cd_M_reach, .methodLink "KeepHeapModel" 112 y_M_reach, .instanceMethod y_M_reach, .selects "KeepHeapModel" y_M_reach y_M_reach, cd_K_entriesWithin, .methodLink "KeepHeap" 120 y_K_entriesWithin, .instanceMethod y_K_entriesWithin, .selects "KeepHeap" y_K_entriesWithin y_K_entriesWithin, .fieldLink "KeepHeap" 123 "KeepHeap$Slots" "form" "I", .fieldLink "KeepHeap" 126 "KeepHeap$Slots" "used" "I", cd_T_objectsThere, .methodLink "KeepHeap" 129 y_T_objectsThere, .instanceMethod y_T_objectsThere, .selects "KeepHeap$State" y_T_objectsThere y_T_objectsThere, .classLink "KeepHeapLaw" 7 "KeepHeap", .instantiable "KeepHeap" 7]
theorem ar_12 : ∀ w ∈ AQ_12, w ∈ lw_tbl := List.forall_mem_cons.mpr ⟨tt_240, List.forall_mem_cons.mpr ⟨tt_241, List.forall_mem_cons.mpr ⟨tt_242, List.forall_mem_cons.mpr ⟨tt_243, List.forall_mem_cons.mpr ⟨tt_244, List.forall_mem_cons.mpr ⟨tt_245, List.forall_mem_cons.mpr ⟨tt_246, List.forall_mem_cons.mpr ⟨tt_247, List.forall_mem_cons.mpr ⟨tt_248, List.forall_mem_cons.mpr ⟨tt_249, List.forall_mem_cons.mpr ⟨tt_250, List.forall_mem_cons.mpr ⟨tt_251, List.forall_mem_cons.mpr ⟨tt_252, List.forall_mem_cons.mpr ⟨tt_253, List.forall_mem_cons.mpr ⟨tt_254, List.forall_mem_cons.mpr ⟨tt_255, List.forall_mem_cons.mpr ⟨tt_256, List.forall_mem_cons.mpr ⟨tt_257, List.forall_mem_cons.mpr ⟨tt_258, List.forall_mem_cons.mpr ⟨tt_259, fun _ h => absurd h List.not_mem_nil⟩⟩⟩⟩⟩⟩⟩⟩⟩⟩⟩⟩⟩⟩⟩⟩⟩⟩⟩⟩
def AQ_13 : List Cond := [cd_K_init, .methodLink "KeepHeapLaw" 9 y_K_init, .instanceMethod y_K_init, .classLink "KeepHeapLaw" 10 "KeepHeapModel", .instantiable "KeepHeapModel" 8, cd_M_init, .methodLink "KeepHeapLaw" 12 y_M_init, .instanceMethod y_M_init, cd_K_make, .methodLink "KeepHeapLaw" 13 y_K_make, .instanceMethod y_K_make, .selects "KeepHeap" y_K_make y_K_make, cd_M_make, .methodLink "KeepHeapLaw" 17 y_M_make, .instanceMethod y_M_make, .selects "KeepHeapModel" y_M_make y_M_make, cd_K_set, .methodLink "KeepHeapLaw" 18 y_K_set, .instanceMethod y_K_set, .selects "KeepHeap" y_K_set y_K_set]
theorem ar_13 : ∀ w ∈ AQ_13, w ∈ lw_tbl := List.forall_mem_cons.mpr ⟨tt_260, List.forall_mem_cons.mpr ⟨tt_261, List.forall_mem_cons.mpr ⟨tt_262, List.forall_mem_cons.mpr ⟨tt_263, List.forall_mem_cons.mpr ⟨tt_264, List.forall_mem_cons.mpr ⟨tt_265, List.forall_mem_cons.mpr ⟨tt_266, List.forall_mem_cons.mpr ⟨tt_267, List.forall_mem_cons.mpr ⟨tt_268, List.forall_mem_cons.mpr ⟨tt_269, List.forall_mem_cons.mpr ⟨tt_270, List.forall_mem_cons.mpr ⟨tt_271, List.forall_mem_cons.mpr ⟨tt_272, List.forall_mem_cons.mpr ⟨tt_273, List.forall_mem_cons.mpr ⟨tt_274, List.forall_mem_cons.mpr ⟨tt_275, List.forall_mem_cons.mpr ⟨tt_276, List.forall_mem_cons.mpr ⟨tt_277, List.forall_mem_cons.mpr ⟨tt_278, List.forall_mem_cons.mpr ⟨tt_279, fun _ h => absurd h List.not_mem_nil⟩⟩⟩⟩⟩⟩⟩⟩⟩⟩⟩⟩⟩⟩⟩⟩⟩⟩⟩⟩
def AQ_14 : List Cond := [cd_M_set, .methodLink "KeepHeapLaw" 22 y_M_set, .instanceMethod y_M_set, .selects "KeepHeapModel" y_M_set y_M_set, cd_K_get, .methodLink "KeepHeapLaw" 23 y_K_get, .instanceMethod y_K_get, .selects "KeepHeap" y_K_get y_K_get, cd_M_get, .methodLink "KeepHeapLaw" 27 y_M_get, .instanceMethod y_M_get, .selects "KeepHeapModel" y_M_get y_M_get, cd_K_push, .methodLink "KeepHeapLaw" 28 y_K_push, .instanceMethod y_K_push, .selects "KeepHeap" y_K_push y_K_push, cd_M_push, .methodLink "KeepHeapLaw" 32 y_M_push, .instanceMethod y_M_push, .selects "KeepHeapModel" y_M_push y_M_push]
theorem ar_14 : ∀ w ∈ AQ_14, w ∈ lw_tbl := List.forall_mem_cons.mpr ⟨tt_280, List.forall_mem_cons.mpr ⟨tt_281, List.forall_mem_cons.mpr ⟨tt_282, List.forall_mem_cons.mpr ⟨tt_283, List.forall_mem_cons.mpr ⟨tt_284, List.forall_mem_cons.mpr ⟨tt_285, List.forall_mem_cons.mpr ⟨tt_286, List.forall_mem_cons.mpr ⟨tt_287, List.forall_mem_cons.mpr ⟨tt_288, List.forall_mem_cons.mpr ⟨tt_289, List.forall_mem_cons.mpr ⟨tt_290, List.forall_mem_cons.mpr ⟨tt_291, List.forall_mem_cons.mpr ⟨tt_292, List.forall_mem_cons.mpr ⟨tt_293, List.forall_mem_cons.mpr ⟨tt_294, List.forall_mem_cons.mpr ⟨tt_295, List.forall_mem_cons.mpr ⟨tt_296, List.forall_mem_cons.mpr ⟨tt_297, List.forall_mem_cons.mpr ⟨tt_298, List.forall_mem_cons.mpr ⟨tt_299, fun _ h => absurd h List.not_mem_nil⟩⟩⟩⟩⟩⟩⟩⟩⟩⟩⟩⟩⟩⟩⟩⟩⟩⟩⟩⟩
def AQ_15 : List Cond := [cd_K_pop, .methodLink "KeepHeapLaw" 33 y_K_pop, .instanceMethod y_K_pop, .selects "KeepHeap" y_K_pop y_K_pop, cd_M_pop, .methodLink "KeepHeapLaw" 37 y_M_pop, .instanceMethod y_M_pop, .selects "KeepHeapModel" y_M_pop y_M_pop, cd_K_put, .methodLink "KeepHeapLaw" 38 y_K_put, .instanceMethod y_K_put, .selects "KeepHeap" y_K_put y_K_put, cd_M_put, .methodLink "KeepHeapLaw" 41 y_M_put, .instanceMethod y_M_put, .selects "KeepHeapModel" y_M_put y_M_put, cd_K_item, .methodLink "KeepHeapLaw" 42 y_K_item, .instanceMethod y_K_item, .selects "KeepHeap" y_K_item y_K_item]
theorem ar_15 : ∀ w ∈ AQ_15, w ∈ lw_tbl := List.forall_mem_cons.mpr ⟨tt_300, List.forall_mem_cons.mpr ⟨tt_301, List.forall_mem_cons.mpr ⟨tt_302, List.forall_mem_cons.mpr ⟨tt_303, List.forall_mem_cons.mpr ⟨tt_304, List.forall_mem_cons.mpr ⟨tt_305, List.forall_mem_cons.mpr ⟨tt_306, List.forall_mem_cons.mpr ⟨tt_307, List.forall_mem_cons.mpr ⟨tt_308, List.forall_mem_cons.mpr ⟨tt_309, List.forall_mem_cons.mpr ⟨tt_310, List.forall_mem_cons.mpr ⟨tt_311, List.forall_mem_cons.mpr ⟨tt_312, List.forall_mem_cons.mpr ⟨tt_313, List.forall_mem_cons.mpr ⟨tt_314, List.forall_mem_cons.mpr ⟨tt_315, List.forall_mem_cons.mpr ⟨tt_316, List.forall_mem_cons.mpr ⟨tt_317, List.forall_mem_cons.mpr ⟨tt_318, List.forall_mem_cons.mpr ⟨tt_319, fun _ h => absurd h List.not_mem_nil⟩⟩⟩⟩⟩⟩⟩⟩⟩⟩⟩⟩⟩⟩⟩⟩⟩⟩⟩⟩
def AQ_16 : List Cond := [cd_M_item, .methodLink "KeepHeapLaw" 45 y_M_item, .instanceMethod y_M_item, .selects "KeepHeapModel" y_M_item y_M_item, cd_K_root, .methodLink "KeepHeapLaw" 46 y_K_root, .instanceMethod y_K_root, .selects "KeepHeap" y_K_root y_K_root, cd_M_root, .methodLink "KeepHeapLaw" 49 y_M_root, .instanceMethod y_M_root, .selects "KeepHeapModel" y_M_root y_M_root, cd_K_rooted, .methodLink "KeepHeapLaw" 50 y_K_rooted, .instanceMethod y_K_rooted, .selects "KeepHeap" y_K_rooted y_K_rooted, cd_M_rooted, .methodLink "KeepHeapLaw" 53 y_M_rooted, .instanceMethod y_M_rooted, .selects "KeepHeapModel" y_M_rooted y_M_rooted]
theorem ar_16 : ∀ w ∈ AQ_16, w ∈ lw_tbl := List.forall_mem_cons.mpr ⟨tt_320, List.forall_mem_cons.mpr ⟨tt_321, List.forall_mem_cons.mpr ⟨tt_322, List.forall_mem_cons.mpr ⟨tt_323, List.forall_mem_cons.mpr ⟨tt_324, List.forall_mem_cons.mpr ⟨tt_325, List.forall_mem_cons.mpr ⟨tt_326, List.forall_mem_cons.mpr ⟨tt_327, List.forall_mem_cons.mpr ⟨tt_328, List.forall_mem_cons.mpr ⟨tt_329, List.forall_mem_cons.mpr ⟨tt_330, List.forall_mem_cons.mpr ⟨tt_331, List.forall_mem_cons.mpr ⟨tt_332, List.forall_mem_cons.mpr ⟨tt_333, List.forall_mem_cons.mpr ⟨tt_334, List.forall_mem_cons.mpr ⟨tt_335, List.forall_mem_cons.mpr ⟨tt_336, List.forall_mem_cons.mpr ⟨tt_337, List.forall_mem_cons.mpr ⟨tt_338, List.forall_mem_cons.mpr ⟨tt_339, fun _ h => absurd h List.not_mem_nil⟩⟩⟩⟩⟩⟩⟩⟩⟩⟩⟩⟩⟩⟩⟩⟩⟩⟩⟩⟩
def AQ_17 : List Cond := [cd_K_commit, .methodLink "KeepHeapLaw" 54 y_K_commit, .instanceMethod y_K_commit, .selects "KeepHeap" y_K_commit y_K_commit, cd_M_commit, .methodLink "KeepHeapLaw" 58 y_M_commit, .instanceMethod y_M_commit, .selects "KeepHeapModel" y_M_commit y_M_commit, cd_K_undo, .methodLink "KeepHeapLaw" 59 y_K_undo, .instanceMethod y_K_undo, .selects "KeepHeap" y_K_undo y_K_undo, cd_M_undo, .methodLink "KeepHeapLaw" 62 y_M_undo, .instanceMethod y_M_undo, .selects "KeepHeapModel" y_M_undo y_M_undo, cd_K_sweep, .methodLink "KeepHeapLaw" 63 y_K_sweep, .instanceMethod y_K_sweep, .selects "KeepHeap" y_K_sweep y_K_sweep]
theorem ar_17 : ∀ w ∈ AQ_17, w ∈ lw_tbl := List.forall_mem_cons.mpr ⟨tt_340, List.forall_mem_cons.mpr ⟨tt_341, List.forall_mem_cons.mpr ⟨tt_342, List.forall_mem_cons.mpr ⟨tt_343, List.forall_mem_cons.mpr ⟨tt_344, List.forall_mem_cons.mpr ⟨tt_345, List.forall_mem_cons.mpr ⟨tt_346, List.forall_mem_cons.mpr ⟨tt_347, List.forall_mem_cons.mpr ⟨tt_348, List.forall_mem_cons.mpr ⟨tt_349, List.forall_mem_cons.mpr ⟨tt_350, List.forall_mem_cons.mpr ⟨tt_351, List.forall_mem_cons.mpr ⟨tt_352, List.forall_mem_cons.mpr ⟨tt_353, List.forall_mem_cons.mpr ⟨tt_354, List.forall_mem_cons.mpr ⟨tt_355, List.forall_mem_cons.mpr ⟨tt_356, List.forall_mem_cons.mpr ⟨tt_357, List.forall_mem_cons.mpr ⟨tt_358, List.forall_mem_cons.mpr ⟨tt_359, fun _ h => absurd h List.not_mem_nil⟩⟩⟩⟩⟩⟩⟩⟩⟩⟩⟩⟩⟩⟩⟩⟩⟩⟩⟩⟩
def AQ_18 : List Cond := [cd_M_sweep, .methodLink "KeepHeapLaw" 66 y_M_sweep, .instanceMethod y_M_sweep, .selects "KeepHeapModel" y_M_sweep y_M_sweep, cd_K_sync, .methodLink "KeepHeapLaw" 67 y_K_sync, .instanceMethod y_K_sync, .selects "KeepHeap" y_K_sync y_K_sync, cd_M_sync, .methodLink "KeepHeapLaw" 70 y_M_sync, .instanceMethod y_M_sync, .selects "KeepHeapModel" y_M_sync y_M_sync, cd_K_crash, .methodLink "KeepHeapLaw" 71 y_K_crash, .instanceMethod y_K_crash, .selects "KeepHeap" y_K_crash y_K_crash, cd_M_crash, .methodLink "KeepHeapLaw" 75 y_M_crash, .instanceMethod y_M_crash, .selects "KeepHeapModel" y_M_crash y_M_crash]
theorem ar_18 : ∀ w ∈ AQ_18, w ∈ lw_tbl := List.forall_mem_cons.mpr ⟨tt_360, List.forall_mem_cons.mpr ⟨tt_361, List.forall_mem_cons.mpr ⟨tt_362, List.forall_mem_cons.mpr ⟨tt_363, List.forall_mem_cons.mpr ⟨tt_364, List.forall_mem_cons.mpr ⟨tt_365, List.forall_mem_cons.mpr ⟨tt_366, List.forall_mem_cons.mpr ⟨tt_367, List.forall_mem_cons.mpr ⟨tt_368, List.forall_mem_cons.mpr ⟨tt_369, List.forall_mem_cons.mpr ⟨tt_370, List.forall_mem_cons.mpr ⟨tt_371, List.forall_mem_cons.mpr ⟨tt_372, List.forall_mem_cons.mpr ⟨tt_373, List.forall_mem_cons.mpr ⟨tt_374, List.forall_mem_cons.mpr ⟨tt_375, List.forall_mem_cons.mpr ⟨tt_376, List.forall_mem_cons.mpr ⟨tt_377, List.forall_mem_cons.mpr ⟨tt_378, List.forall_mem_cons.mpr ⟨tt_379, fun _ h => absurd h List.not_mem_nil⟩⟩⟩⟩⟩⟩⟩⟩⟩⟩⟩⟩⟩⟩⟩⟩⟩⟩⟩⟩
def AQ_19 : List Cond := [cd_K_kind, .methodLink "KeepHeapLaw" 76 y_K_kind, .instanceMethod y_K_kind, .selects "KeepHeap" y_K_kind y_K_kind, cd_M_kind, .methodLink "KeepHeapLaw" 79 y_M_kind, .instanceMethod y_M_kind, .selects "KeepHeapModel" y_M_kind y_M_kind, cd_K_size, .methodLink "KeepHeapLaw" 80 y_K_size, .instanceMethod y_K_size, .selects "KeepHeap" y_K_size y_K_size, cd_M_size, .methodLink "KeepHeapLaw" 83 y_M_size, .instanceMethod y_M_size, .selects "KeepHeapModel" y_M_size y_M_size, cd_K_count, .methodLink "KeepHeapLaw" 84 y_K_count, .instanceMethod y_K_count, .selects "KeepHeap" y_K_count y_K_count]
theorem ar_19 : ∀ w ∈ AQ_19, w ∈ lw_tbl := List.forall_mem_cons.mpr ⟨tt_380, List.forall_mem_cons.mpr ⟨tt_381, List.forall_mem_cons.mpr ⟨tt_382, List.forall_mem_cons.mpr ⟨tt_383, List.forall_mem_cons.mpr ⟨tt_384, List.forall_mem_cons.mpr ⟨tt_385, List.forall_mem_cons.mpr ⟨tt_386, List.forall_mem_cons.mpr ⟨tt_387, List.forall_mem_cons.mpr ⟨tt_388, List.forall_mem_cons.mpr ⟨tt_389, List.forall_mem_cons.mpr ⟨tt_390, List.forall_mem_cons.mpr ⟨tt_391, List.forall_mem_cons.mpr ⟨tt_392, List.forall_mem_cons.mpr ⟨tt_393, List.forall_mem_cons.mpr ⟨tt_394, List.forall_mem_cons.mpr ⟨tt_395, List.forall_mem_cons.mpr ⟨tt_396, List.forall_mem_cons.mpr ⟨tt_397, List.forall_mem_cons.mpr ⟨tt_398, List.forall_mem_cons.mpr ⟨tt_399, fun _ h => absurd h List.not_mem_nil⟩⟩⟩⟩⟩⟩⟩⟩⟩⟩⟩⟩⟩⟩⟩⟩⟩⟩⟩⟩
def AQ_20 : List Cond := [cd_M_count, .methodLink "KeepHeapLaw" 87 y_M_count, .instanceMethod y_M_count, .selects "KeepHeapModel" y_M_count y_M_count]
theorem ar_20 : ∀ w ∈ AQ_20, w ∈ lw_tbl := List.forall_mem_cons.mpr ⟨tt_400, List.forall_mem_cons.mpr ⟨tt_401, List.forall_mem_cons.mpr ⟨tt_402, List.forall_mem_cons.mpr ⟨tt_403, fun _ h => absurd h List.not_mem_nil⟩⟩⟩⟩
set_option maxRecDepth 100000 in
theorem aq_eq : AL0 = AQ_0 ++ (AQ_1 ++ (AQ_2 ++ (AQ_3 ++ (AQ_4 ++ (AQ_5 ++ (AQ_6 ++ (AQ_7 ++ (AQ_8 ++ (AQ_9 ++ (AQ_10 ++ (AQ_11 ++ (AQ_12 ++ (AQ_13 ++ (AQ_14 ++ (AQ_15 ++ (AQ_16 ++ (AQ_17 ++ (AQ_18 ++ (AQ_19 ++ (AQ_20)))))))))))))))))))) := rfl
theorem al0_in : ∀ w ∈ AL0, w ∈ lw_tbl := by
  rw [aq_eq]
  exact List.forall_mem_append.mpr ⟨ar_0, List.forall_mem_append.mpr ⟨ar_1, List.forall_mem_append.mpr ⟨ar_2, List.forall_mem_append.mpr ⟨ar_3, List.forall_mem_append.mpr ⟨ar_4, List.forall_mem_append.mpr ⟨ar_5, List.forall_mem_append.mpr ⟨ar_6, List.forall_mem_append.mpr ⟨ar_7, List.forall_mem_append.mpr ⟨ar_8, List.forall_mem_append.mpr ⟨ar_9, List.forall_mem_append.mpr ⟨ar_10, List.forall_mem_append.mpr ⟨ar_11, List.forall_mem_append.mpr ⟨ar_12, List.forall_mem_append.mpr ⟨ar_13, List.forall_mem_append.mpr ⟨ar_14, List.forall_mem_append.mpr ⟨ar_15, List.forall_mem_append.mpr ⟨ar_16, List.forall_mem_append.mpr ⟨ar_17, List.forall_mem_append.mpr ⟨ar_18, List.forall_mem_append.mpr ⟨ar_19, ar_20⟩⟩⟩⟩⟩⟩⟩⟩⟩⟩⟩⟩⟩⟩⟩⟩⟩⟩⟩⟩
theorem inT_0 : ∀ w ∈ u_ws "KeepHeap" F_0 7, w ∈ lw_tbl := by decide +kernel
theorem inT_1 : ∀ w ∈ u_ws "KeepHeap$Slots" F_1 4, w ∈ lw_tbl := by decide +kernel
theorem inT_2 : ∀ w ∈ u_ws "KeepHeap$State" F_2 2, w ∈ lw_tbl := by decide +kernel
theorem inT_3 : ∀ w ∈ u_ws "KeepHeap$Reach" F_3 3, w ∈ lw_tbl := by decide +kernel
theorem inT_4 : ∀ w ∈ u_ws "KeepHeapModel" F_4 8, w ∈ lw_tbl := by decide +kernel
theorem inT_5 : ∀ w ∈ u_ws "KeepHeapModel$State" F_5 8, w ∈ lw_tbl := by decide +kernel
theorem al_in : ∀ w ∈ ALL, w ∈ lw_tbl := List.forall_mem_append.mpr ⟨al0_in, List.forall_mem_append.mpr ⟨inT_0, List.forall_mem_append.mpr ⟨inT_1, List.forall_mem_append.mpr ⟨inT_2, List.forall_mem_append.mpr ⟨inT_3, List.forall_mem_append.mpr ⟨inT_4, inT_5⟩⟩⟩⟩⟩⟩
theorem cL_in : cL ∈ lw_tbl := by decide +kernel
theorem nz_0 : Cond.methodLinkNest "KeepHeap" 21 y_R_init "KeepHeap" ∈ lw_tbl := by decide +kernel
theorem nz_1 : Cond.methodLinkNest "KeepHeapModel" 9 y_N_init "KeepHeapModel" ∈ lw_tbl := by decide +kernel
theorem ao_0 : Cond.arrayOver (.object "KeepHeap$Slots") ∈ lw_tbl := by decide +kernel
theorem ao_1 : Cond.arrayOver (.object "KeepHeap$State") ∈ lw_tbl := by decide +kernel
theorem ao_2 : Cond.arrayOver (.object "KeepHeapModel$State") ∈ lw_tbl := by decide +kernel
theorem ac_0 : Cond.arrayClass .int ∈ lw_tbl := by decide +kernel
theorem ac_1 : Cond.arrayClass .long ∈ lw_tbl := by decide +kernel
theorem ac_2 : Cond.arrayClass .boolean ∈ lw_tbl := by decide +kernel
theorem is_0 : Cond.instantiable "KeepHeap" 7 ∈ lw_tbl := by decide +kernel
theorem is_1 : Cond.instantiable "KeepHeap$Slots" 4 ∈ lw_tbl := by decide +kernel
theorem is_2 : Cond.instantiable "KeepHeap$State" 2 ∈ lw_tbl := by decide +kernel
theorem is_3 : Cond.instantiable "KeepHeap$Reach" 3 ∈ lw_tbl := by decide +kernel
theorem is_4 : Cond.instantiable "KeepHeapModel" 8 ∈ lw_tbl := by decide +kernel
theorem is_5 : Cond.instantiable "KeepHeapModel$State" 8 ∈ lw_tbl := by decide +kernel
theorem st_prim {ty : FieldType} {s : State} {args : Array Value} (h : (Cond.arrayClass ty).before args s = true) (hp : ∀ cB : ClassId, va_RA s cB ty = (s.vm.findClass ("[" ++ ty.toString) = some cB)) : ∃ cA : ClassId, ArrOfT s cA ty ∧ va_RA s cA ty := by
  obtain ⟨cA, kA, comp, hfind, hk, hkind⟩ := Cond.arrayClass_spec h
  exact ⟨cA, fun n z => ⟨fun k h => (by cases h), kA, hk, comp, hkind⟩, by rw [hp]; exact hfind⟩
theorem st_over {C : String} {s : State} {args : Array Value} (h : (Cond.arrayOver (.object C)).before args s = true) : ∃ cA : ClassId, ArrOfT s cA (.object C) ∧ va_RA s cA (.object C) := by
  obtain ⟨comp, c, k, h1, h2, h3, h4, h5⟩ := Cond.arrayOver_spec h
  exact ⟨c, fun n z => ⟨fun k h => (by cases h), k, h3, comp, h4⟩, k, comp, h3, h4, h1, h5⟩
theorem st_K {args : Array Value} {s : State} (hts : ∀ w ∈ lw_tbl, w.before args s = true) : ∃ (D : va_G) (dA : Nat → ClassId), mw_K D CL (TY dA) ZZ s := by
  obtain ⟨c0, i0, K0⟩ := u_known hts inT_0 (hts _ is_0)
  obtain ⟨c1, i1, K1⟩ := u_known hts inT_1 (hts _ is_1)
  obtain ⟨c2, i2, K2⟩ := u_known hts inT_2 (hts _ is_2)
  obtain ⟨c3, i3, K3⟩ := u_known hts inT_3 (hts _ is_3)
  obtain ⟨c4, i4, K4⟩ := u_known hts inT_4 (hts _ is_4)
  obtain ⟨c5, i5, K5⟩ := u_known hts inT_5 (hts _ is_5)
  obtain ⟨d0, A0⟩ := st_prim (hts _ ac_0) (fun _ => rfl)
  obtain ⟨d1, A1⟩ := st_prim (hts _ ac_1) (fun _ => rfl)
  obtain ⟨d2, A2⟩ := st_prim (hts _ ac_2) (fun _ => rfl)
  obtain ⟨d3, A3⟩ := st_over (hts _ ao_0)
  obtain ⟨d4, A4⟩ := st_over (hts _ ao_1)
  obtain ⟨d5, A5⟩ := st_over (hts _ ao_2)
  refine ⟨(fun c => match c with | 0 => c0 | 1 => c1 | 2 => c2 | 3 => c3 | 4 => c4 | _ => c5, fun c => match c with | 0 => i0 | 1 => i1 | 2 => i2 | 3 => i3 | 4 => i4 | _ => i5), fun t => match t with | 0 => d0 | 1 => d1 | 2 => d2 | 3 => d3 | 4 => d4 | _ => d5, ⟨?_, ?_⟩, ?_, ?_⟩
  · intro c q hq
    have hc : c < 6 := (List.getElem?_eq_some_iff.mp hq).1
    rcases (show c = 0 ∨ c = 1 ∨ c = 2 ∨ c = 3 ∨ c = 4 ∨ c = 5 by omega) with rfl | rfl | rfl | rfl | rfl | rfl <;> cases hq
    · exact K0
    · exact K1
    · exact K2
    · exact K3
    · exact K4
    · exact K5
  · intro c q hq
    have hc : c < 6 := (List.getElem?_eq_some_iff.mp hq).1
    rcases (show c = 0 ∨ c = 1 ∨ c = 2 ∨ c = 3 ∨ c = 4 ∨ c = 5 by omega) with rfl | rfl | rfl | rfl | rfl | rfl <;> cases hq
    · exact A0
    · exact A1
    · exact A2
    · exact A3
    · exact A4
    · exact A5
  · intro z hz
    rcases List.mem_cons.mp hz with rfl | hz
    · exact va_Nw.of rfl (hts _ nz_0)
    · rcases List.mem_cons.mp hz with rfl | hz
      · exact va_Nw.of rfl (hts _ nz_1)
      · cases hz
  · intro C hC
    rcases List.mem_cons.mp hC with rfl | hC
    · exact va_AO.of (hts _ ao_0)
    · rcases List.mem_cons.mp hC with rfl | hC
      · exact va_AO.of (hts _ ao_1)
      · rcases List.mem_cons.mp hC with rfl | hC
        · exact va_AO.of (hts _ ao_2)
        · cases hC
theorem st_start {p : Program} {e : Env} {s : State} {m : MethodId} {below : List Frame} {meth : Method} {c : Code} (l : Launch) {b L : Nat} {xs : Nat → Int32} (C0 : lw_At p s m meth c b L xs) (S1 : mc_S) (hrun : f_L_law L xs (fun _ => none, s.heap.size) = some (1, S1)) : W p l e room_1 s m #[Value.ref b] below meth c s.heap [] 0 0 (lw_Z below #[Value.ref b] s) (entryFrame m ([Value.ref b] : List Value).toArray 4) := by
  obtain ⟨hx, hb, hr, hml, hown, hts, hX, hbl, hlk, -⟩ := C0
  obtain ⟨D, dA, hK⟩ := st_K hts
  have hl := lv_entry [Value.ref b] (n := 4) (Nat.le_of_ble_eq_true rfl)
  rw [lg_entry_eq]
  generalize (lg_sl [Value.ref b] ++ List.replicate (4 - (lg_sl [Value.ref b]).length) Slot.unset).toArray = ls at hl ⊢
  refine c_L_law l D dA (fun q => s.heap.size ≤ q) L xs b hX hbl (Nat.not_le.mpr hbl) (fun _ h => h) ⟨hx, hb, hml, hown, fun w hw => ?_⟩ hr hlk trivial hK (1, S1) rfl _ hrun ls hl ⟨fun a x h => (by cases h), rfl, fun a x h => (by cases h), fun q h => h, va_S.rf⟩
  rcases List.mem_cons.mp hw with rfl | hw
  · exact hts _ cL_in
  · exact hts _ (al_in w hw)
