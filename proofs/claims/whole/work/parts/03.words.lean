/-! each word of the tables that a call may hand on, by its place -/
theorem ws_0 : Cond.selects "PlaceMoves" ⟨"PlaceMoves", "needPlace", "(I)V"⟩ ⟨"PlaceMoves", "needPlace", "(I)V"⟩ ∈ WG := wg (i := 0) (by decide +kernel) rfl
theorem ws_1 : Cond.selects "java/lang/Throwable" ⟨"java/lang/Throwable", "fillInStackTrace", "(I)Ljava/lang/Throwable;"⟩ ⟨"java/lang/Throwable", "fillInStackTrace", "(I)Ljava/lang/Throwable;"⟩ ∈ WG := wg (i := 1) (by decide +kernel) rfl
theorem ws_2 : Cond.selects "PlaceMoves" ⟨"PlaceMoves", "needObject", "(I)V"⟩ ⟨"PlaceMoves", "needObject", "(I)V"⟩ ∈ WG := wg (i := 2) (by decide +kernel) rfl
theorem ws_3 : Cond.selects "PlaceMoves" ⟨"PlaceMoves", "needPerson", "(I)V"⟩ ⟨"PlaceMoves", "needPerson", "(I)V"⟩ ∈ WG := wg (i := 3) (by decide +kernel) rfl
theorem ws_4 : Cond.selects "PlaceMoves" ⟨"PlaceMoves", "needKeysOf", "(III)V"⟩ ⟨"PlaceMoves", "needKeysOf", "(III)V"⟩ ∈ WG := wg (i := 4) (by decide +kernel) rfl
theorem ws_5 : Cond.selects "PlaceMoves" ⟨"PlaceMoves", "placeAt", "(II)I"⟩ ⟨"PlaceMoves", "placeAt", "(II)I"⟩ ∈ WG := wg (i := 5) (by decide +kernel) rfl
theorem ws_6 : Cond.selects "PlaceMoves" ⟨"PlaceMoves", "isBarred", "(III)Z"⟩ ⟨"PlaceMoves", "isBarred", "(III)Z"⟩ ∈ WG := wg (i := 6) (by decide +kernel) rfl
theorem ws_7 : Cond.selects "PlaceMoves" ⟨"PlaceMoves", "comesByRow", "(IIII)Z"⟩ ⟨"PlaceMoves", "comesByRow", "(IIII)Z"⟩ ∈ WG := wg (i := 7) (by decide +kernel) rfl
theorem ws_8 : Cond.selects "PlaceMoves" ⟨"PlaceMoves", "loadsHold", "(III)Z"⟩ ⟨"PlaceMoves", "loadsHold", "(III)Z"⟩ ∈ WG := wg (i := 8) (by decide +kernel) rfl
theorem ws_9 : Cond.selects "PlaceMoves" ⟨"PlaceMoves", "loadsHoldAt", "(II)Z"⟩ ⟨"PlaceMoves", "loadsHoldAt", "(II)Z"⟩ ∈ WG := wg (i := 9) (by decide +kernel) rfl
theorem ws_10 : Cond.selects "PlaceMoves" ⟨"PlaceMoves", "weighAt", "(I)V"⟩ ⟨"PlaceMoves", "weighAt", "(I)V"⟩ ∈ WG := wg (i := 10) (by decide +kernel) rfl
theorem ws_11 : Cond.selects "PlaceMoves" ⟨"PlaceMoves", "weightOf", "(I)I"⟩ ⟨"PlaceMoves", "weightOf", "(I)I"⟩ ∈ WG := wg (i := 11) (by decide +kernel) rfl
theorem ws_12 : Cond.selects "PlaceMoves" ⟨"PlaceMoves", "isWithin", "(III)Z"⟩ ⟨"PlaceMoves", "isWithin", "(III)Z"⟩ ∈ WG := wg (i := 12) (by decide +kernel) rfl
theorem ws_13 : Cond.selects "PlaceMoves" ⟨"PlaceMoves", "standsSince", "(II)I"⟩ ⟨"PlaceMoves", "standsSince", "(II)I"⟩ ∈ WG := wg (i := 13) (by decide +kernel) rfl
theorem ws_14 : Cond.selects "PlaceMoves" ⟨"PlaceMoves", "fits", "(II)Z"⟩ ⟨"PlaceMoves", "fits", "(II)Z"⟩ ∈ WG := wg (i := 14) (by decide +kernel) rfl
theorem ws_15 : Cond.selects "PlaceMoves" ⟨"PlaceMoves", "fittingDoors", "(I)J"⟩ ⟨"PlaceMoves", "fittingDoors", "(I)J"⟩ ∈ WG := wg (i := 15) (by decide +kernel) rfl
theorem ws_16 : Cond.selects "PlaceMoves" ⟨"PlaceMoves", "doorsBetween", "(IIJ)I"⟩ ⟨"PlaceMoves", "doorsBetween", "(IIJ)I"⟩ ∈ WG := wg (i := 16) (by decide +kernel) rfl
theorem ws_17 : Cond.selects "PlaceMovesModel" ⟨"PlaceMovesModel", "isPlace", "(I)Z"⟩ ⟨"PlaceMovesModel", "isPlace", "(I)Z"⟩ ∈ WG := wg (i := 17) (by decide +kernel) rfl
theorem ws_18 : Cond.selects "PlaceMovesModel" ⟨"PlaceMovesModel", "goes", "(ZZZ)Z"⟩ ⟨"PlaceMovesModel", "goes", "(ZZZ)Z"⟩ ∈ WG := wg (i := 18) (by decide +kernel) rfl
theorem ws_19 : Cond.selects "PlaceMovesModel" ⟨"PlaceMovesModel", "isObject", "(I)Z"⟩ ⟨"PlaceMovesModel", "isObject", "(I)Z"⟩ ∈ WG := wg (i := 19) (by decide +kernel) rfl
theorem ws_20 : Cond.selects "PlaceMovesModel" ⟨"PlaceMovesModel", "mayOpen", "(III)Z"⟩ ⟨"PlaceMovesModel", "mayOpen", "(III)Z"⟩ ∈ WG := wg (i := 20) (by decide +kernel) rfl
theorem ws_21 : Cond.selects "PlaceMovesModel" ⟨"PlaceMovesModel", "at", "(II)I"⟩ ⟨"PlaceMovesModel", "at", "(II)I"⟩ ∈ WG := wg (i := 21) (by decide +kernel) rfl
theorem ws_22 : Cond.selects "PlaceMovesModel" ⟨"PlaceMovesModel", "rowAt", "(II)I"⟩ ⟨"PlaceMovesModel", "rowAt", "(II)I"⟩ ∈ WG := wg (i := 22) (by decide +kernel) rfl
theorem ws_23 : Cond.selects "PlaceMovesModel" ⟨"PlaceMovesModel", "barred", "(III)Z"⟩ ⟨"PlaceMovesModel", "barred", "(III)Z"⟩ ∈ WG := wg (i := 23) (by decide +kernel) rfl
theorem ws_24 : Cond.selects "PlaceMovesModel" ⟨"PlaceMovesModel", "lies", "(II)Z"⟩ ⟨"PlaceMovesModel", "lies", "(II)Z"⟩ ∈ WG := wg (i := 24) (by decide +kernel) rfl
theorem ws_25 : Cond.selects "PlaceMovesModel" ⟨"PlaceMovesModel", "mayCome", "(III)Z"⟩ ⟨"PlaceMovesModel", "mayCome", "(III)Z"⟩ ∈ WG := wg (i := 25) (by decide +kernel) rfl
theorem ws_26 : Cond.selects "PlaceMovesModel" ⟨"PlaceMovesModel", "bears", "(II)Z"⟩ ⟨"PlaceMovesModel", "bears", "(II)Z"⟩ ∈ WG := wg (i := 26) (by decide +kernel) rfl
theorem ws_27 : Cond.selects "PlaceMovesModel" ⟨"PlaceMovesModel", "weight", "(II)I"⟩ ⟨"PlaceMovesModel", "weight", "(II)I"⟩ ∈ WG := wg (i := 27) (by decide +kernel) rfl
theorem ws_28 : Cond.selects "PlaceMovesModel" ⟨"PlaceMovesModel", "isPlanned", "(III)Z"⟩ ⟨"PlaceMovesModel", "isPlanned", "(III)Z"⟩ ∈ WG := wg (i := 28) (by decide +kernel) rfl
theorem ws_29 : Cond.selects "PlaceMovesModel" ⟨"PlaceMovesModel", "row", "(IIII)V"⟩ ⟨"PlaceMovesModel", "row", "(IIII)V"⟩ ∈ WG := wg (i := 29) (by decide +kernel) rfl
theorem ws_30 : Cond.selects "PlaceMovesModel" ⟨"PlaceMovesModel", "holds", "(III)Z"⟩ ⟨"PlaceMovesModel", "holds", "(III)Z"⟩ ∈ WG := wg (i := 30) (by decide +kernel) rfl
theorem ws_31 : Cond.selects "PlaceMovesModel" ⟨"PlaceMovesModel", "fits", "(II)Z"⟩ ⟨"PlaceMovesModel", "fits", "(II)Z"⟩ ∈ WG := wg (i := 31) (by decide +kernel) rfl
theorem ws_32 : Cond.selects "PlaceMovesModel" ⟨"PlaceMovesModel", "size", "(II)I"⟩ ⟨"PlaceMovesModel", "size", "(II)I"⟩ ∈ WG := wg (i := 32) (by decide +kernel) rfl
theorem ws_33 : Cond.selects "PlaceMovesModel" ⟨"PlaceMovesModel", "through", "(II)Z"⟩ ⟨"PlaceMovesModel", "through", "(II)Z"⟩ ∈ WG := wg (i := 33) (by decide +kernel) rfl
theorem w_0 : Cond.initialized "PlaceMovesLaw" ∈ WG := wg (i := 34) (by decide +kernel) rfl
theorem w_1 : Cond.initialized "PlaceMoves" ∈ WG := wg (i := 35) (by decide +kernel) rfl
theorem w_2 : Cond.initialized "PlaceMoves$Places" ∈ WG := wg (i := 36) (by decide +kernel) rfl
theorem w_3 : Cond.initialized "PlaceMoves$Things" ∈ WG := wg (i := 37) (by decide +kernel) rfl
theorem w_4 : Cond.initialized "PlaceMoves$Rows" ∈ WG := wg (i := 38) (by decide +kernel) rfl
theorem w_5 : Cond.initialized "PlaceMoves$Doors" ∈ WG := wg (i := 39) (by decide +kernel) rfl
theorem w_6 : Cond.initialized "PlaceMoves$Plans" ∈ WG := wg (i := 40) (by decide +kernel) rfl
theorem w_7 : Cond.initialized "PlaceMoves$QuietTimes" ∈ WG := wg (i := 41) (by decide +kernel) rfl
theorem w_8 : Cond.initialized "PlaceMovesModel" ∈ WG := wg (i := 42) (by decide +kernel) rfl
theorem w_9 : Cond.initialized "java/lang/Throwable" ∈ WG := wg (i := 43) (by decide +kernel) rfl
theorem w_10 : Cond.initialized "java/lang/Exception" ∈ WG := wg (i := 44) (by decide +kernel) rfl
theorem w_11 : Cond.initialized "java/lang/RuntimeException" ∈ WG := wg (i := 45) (by decide +kernel) rfl
theorem w_12 : Cond.initialized "java/util/NoSuchElementException" ∈ WG := wg (i := 46) (by decide +kernel) rfl
theorem w_13 : Cond.initialized "java/lang/IllegalArgumentException" ∈ WG := wg (i := 47) (by decide +kernel) rfl
theorem w_14 : Cond.initialized "java/lang/IllegalStateException" ∈ WG := wg (i := 48) (by decide +kernel) rfl
theorem w_15 : Cond.initialized "java/lang/Math" ∈ WG := wg (i := 49) (by decide +kernel) rfl
theorem w_16 : Cond.classLink "PlaceMovesLaw" 8 "PlaceMoves" ∈ WG := wg (i := 50) (by decide +kernel) rfl
theorem w_17 : Cond.instantiable "PlaceMoves" 9 ∈ WG := wg (i := 51) (by decide +kernel) rfl
theorem w_18 : Cond.methodLink "PlaceMovesLaw" 78 ⟨"PlaceMoves", "<init>", "()V"⟩ ∈ WG := wg (i := 52) (by decide +kernel) rfl
theorem w_19 : Cond.instanceMethod ⟨"PlaceMoves", "<init>", "()V"⟩ ∈ WG := wg (i := 53) (by decide +kernel) rfl
set_option maxRecDepth 100000 in
theorem w_20 : Cond.code ⟨"PlaceMoves", "<init>", "()V"⟩ prog_1_method_1_code 1 none ∈ WG := wg (i := 54) rfl rfl
theorem w_21 : Cond.methodLink "PlaceMoves" 1 ⟨"java/lang/Object", "<init>", "()V"⟩ ∈ WG := wg (i := 55) (by decide +kernel) rfl
theorem w_22 : Cond.instanceMethod ⟨"java/lang/Object", "<init>", "()V"⟩ ∈ WG := wg (i := 56) (by decide +kernel) rfl
set_option maxRecDepth 100000 in
theorem w_23 : Cond.code ⟨"java/lang/Object", "<init>", "()V"⟩ object_method_1_code 1 none ∈ WG := wg (i := 57) rfl rfl
theorem w_24 : Cond.classLink "PlaceMoves" 7 "PlaceMoves$Places" ∈ WG := wg (i := 58) (by decide +kernel) rfl
theorem w_25 : Cond.instantiable "PlaceMoves$Places" 3 ∈ WG := wg (i := 59) (by decide +kernel) rfl
theorem w_27 : Cond.instanceMethod ⟨"PlaceMoves$Places", "<init>", "()V"⟩ ∈ WG := wg (i := 61) (by decide +kernel) rfl
set_option maxRecDepth 100000 in
theorem w_28 : Cond.code ⟨"PlaceMoves$Places", "<init>", "()V"⟩ prog_3_method_1_code 1 none ∈ WG := wg (i := 62) rfl rfl
theorem w_29 : Cond.methodLink "PlaceMoves$Places" 3 ⟨"java/lang/Object", "<init>", "()V"⟩ ∈ WG := wg (i := 63) (by decide +kernel) rfl
theorem w_30 : Cond.fieldLink "PlaceMoves$Places" 9 "PlaceMoves$Places" "load" "[I" ∈ WG := wg (i := 64) (by decide +kernel) rfl
theorem w_32 : Cond.fieldLink "PlaceMoves$Places" 15 "PlaceMoves$Places" "around" "[I" ∈ WG := wg (i := 66) (by decide +kernel) rfl
theorem w_33 : Cond.fieldLink "PlaceMoves$Places" 18 "PlaceMoves$Places" "size" "I" ∈ WG := wg (i := 67) (by decide +kernel) rfl
theorem w_35 : Cond.laysFinal "PlaceMoves$Places" "PlaceMoves$Places" "load" "[I" ∈ WG := wg (i := 69) (by decide +kernel) rfl
theorem w_37 : Cond.laysFinal "PlaceMoves$Places" "PlaceMoves$Places" "around" "[I" ∈ WG := wg (i := 71) (by decide +kernel) rfl
theorem w_39 : Cond.lays "PlaceMoves$Places" "PlaceMoves$Places" "size" "I" ∈ WG := wg (i := 73) (by decide +kernel) rfl
theorem w_41 : Cond.superclass "PlaceMoves$Places" "java/lang/Object" ∈ WG := wg (i := 75) (by decide +kernel) rfl
theorem w_42 : Cond.arrayClass FieldType.int ∈ WG := wg (i := 76) (by decide +kernel) rfl
theorem w_43 : Cond.classLink "PlaceMoves" 16 "PlaceMoves$Things" ∈ WG := wg (i := 77) (by decide +kernel) rfl
theorem w_44 : Cond.instantiable "PlaceMoves$Things" 7 ∈ WG := wg (i := 78) (by decide +kernel) rfl
theorem w_46 : Cond.instanceMethod ⟨"PlaceMoves$Things", "<init>", "()V"⟩ ∈ WG := wg (i := 80) (by decide +kernel) rfl
set_option maxRecDepth 100000 in
theorem w_47 : Cond.code ⟨"PlaceMoves$Things", "<init>", "()V"⟩ prog_7_method_1_code 1 none ∈ WG := wg (i := 81) rfl rfl
theorem w_48 : Cond.methodLink "PlaceMoves$Things" 3 ⟨"java/lang/Object", "<init>", "()V"⟩ ∈ WG := wg (i := 82) (by decide +kernel) rfl
theorem w_49 : Cond.fieldLink "PlaceMoves$Things" 9 "PlaceMoves$Things" "least" "[I" ∈ WG := wg (i := 83) (by decide +kernel) rfl
theorem w_51 : Cond.fieldLink "PlaceMoves$Things" 15 "PlaceMoves$Things" "middle" "[I" ∈ WG := wg (i := 85) (by decide +kernel) rfl
theorem w_53 : Cond.fieldLink "PlaceMoves$Things" 18 "PlaceMoves$Things" "greatest" "[I" ∈ WG := wg (i := 87) (by decide +kernel) rfl
theorem w_55 : Cond.fieldLink "PlaceMoves$Things" 21 "PlaceMoves$Things" "grams" "[I" ∈ WG := wg (i := 89) (by decide +kernel) rfl
theorem w_57 : Cond.fieldLink "PlaceMoves$Things" 24 "PlaceMoves$Things" "keysNeeded" "[I" ∈ WG := wg (i := 91) (by decide +kernel) rfl
theorem w_59 : Cond.fieldLink "PlaceMoves$Things" 27 "PlaceMoves$Things" "isBox" "[Z" ∈ WG := wg (i := 93) (by decide +kernel) rfl
theorem w_61 : Cond.fieldLink "PlaceMoves$Things" 31 "PlaceMoves$Things" "size" "I" ∈ WG := wg (i := 95) (by decide +kernel) rfl
theorem w_63 : Cond.laysFinal "PlaceMoves$Things" "PlaceMoves$Things" "least" "[I" ∈ WG := wg (i := 97) (by decide +kernel) rfl
theorem w_65 : Cond.laysFinal "PlaceMoves$Things" "PlaceMoves$Things" "middle" "[I" ∈ WG := wg (i := 99) (by decide +kernel) rfl
theorem w_67 : Cond.laysFinal "PlaceMoves$Things" "PlaceMoves$Things" "greatest" "[I" ∈ WG := wg (i := 101) (by decide +kernel) rfl
theorem w_69 : Cond.laysFinal "PlaceMoves$Things" "PlaceMoves$Things" "grams" "[I" ∈ WG := wg (i := 103) (by decide +kernel) rfl
theorem w_71 : Cond.laysFinal "PlaceMoves$Things" "PlaceMoves$Things" "keysNeeded" "[I" ∈ WG := wg (i := 105) (by decide +kernel) rfl
theorem w_73 : Cond.laysFinal "PlaceMoves$Things" "PlaceMoves$Things" "isBox" "[Z" ∈ WG := wg (i := 107) (by decide +kernel) rfl
theorem w_75 : Cond.lays "PlaceMoves$Things" "PlaceMoves$Things" "size" "I" ∈ WG := wg (i := 109) (by decide +kernel) rfl
theorem w_77 : Cond.superclass "PlaceMoves$Things" "java/lang/Object" ∈ WG := wg (i := 111) (by decide +kernel) rfl
theorem w_78 : Cond.arrayClass FieldType.boolean ∈ WG := wg (i := 112) (by decide +kernel) rfl
theorem w_79 : Cond.classLink "PlaceMoves" 23 "PlaceMoves$Rows" ∈ WG := wg (i := 113) (by decide +kernel) rfl
theorem w_80 : Cond.instantiable "PlaceMoves$Rows" 5 ∈ WG := wg (i := 114) (by decide +kernel) rfl
theorem w_82 : Cond.instanceMethod ⟨"PlaceMoves$Rows", "<init>", "()V"⟩ ∈ WG := wg (i := 116) (by decide +kernel) rfl
set_option maxRecDepth 100000 in
theorem w_83 : Cond.code ⟨"PlaceMoves$Rows", "<init>", "()V"⟩ prog_6_method_1_code 1 none ∈ WG := wg (i := 117) rfl rfl
theorem w_84 : Cond.methodLink "PlaceMoves$Rows" 3 ⟨"java/lang/Object", "<init>", "()V"⟩ ∈ WG := wg (i := 118) (by decide +kernel) rfl
theorem w_85 : Cond.fieldLink "PlaceMoves$Rows" 9 "PlaceMoves$Rows" "size" "[I" ∈ WG := wg (i := 119) (by decide +kernel) rfl
theorem w_87 : Cond.fieldLink "PlaceMoves$Rows" 15 "PlaceMoves$Rows" "hour" "[I" ∈ WG := wg (i := 121) (by decide +kernel) rfl
theorem w_89 : Cond.fieldLink "PlaceMoves$Rows" 18 "PlaceMoves$Rows" "kind" "[I" ∈ WG := wg (i := 123) (by decide +kernel) rfl
theorem w_91 : Cond.fieldLink "PlaceMoves$Rows" 21 "PlaceMoves$Rows" "target" "[I" ∈ WG := wg (i := 125) (by decide +kernel) rfl
theorem w_93 : Cond.fieldLink "PlaceMoves$Rows" 24 "PlaceMoves$Rows" "total" "I" ∈ WG := wg (i := 127) (by decide +kernel) rfl
theorem w_95 : Cond.laysFinal "PlaceMoves$Rows" "PlaceMoves$Rows" "size" "[I" ∈ WG := wg (i := 129) (by decide +kernel) rfl
theorem w_97 : Cond.laysFinal "PlaceMoves$Rows" "PlaceMoves$Rows" "hour" "[I" ∈ WG := wg (i := 131) (by decide +kernel) rfl
theorem w_99 : Cond.laysFinal "PlaceMoves$Rows" "PlaceMoves$Rows" "kind" "[I" ∈ WG := wg (i := 133) (by decide +kernel) rfl
theorem w_101 : Cond.laysFinal "PlaceMoves$Rows" "PlaceMoves$Rows" "target" "[I" ∈ WG := wg (i := 135) (by decide +kernel) rfl
theorem w_103 : Cond.lays "PlaceMoves$Rows" "PlaceMoves$Rows" "total" "I" ∈ WG := wg (i := 137) (by decide +kernel) rfl
theorem w_105 : Cond.superclass "PlaceMoves$Rows" "java/lang/Object" ∈ WG := wg (i := 139) (by decide +kernel) rfl
theorem w_106 : Cond.classLink "PlaceMoves" 30 "PlaceMoves$Doors" ∈ WG := wg (i := 140) (by decide +kernel) rfl
theorem w_107 : Cond.instantiable "PlaceMoves$Doors" 5 ∈ WG := wg (i := 141) (by decide +kernel) rfl
theorem w_109 : Cond.instanceMethod ⟨"PlaceMoves$Doors", "<init>", "()V"⟩ ∈ WG := wg (i := 143) (by decide +kernel) rfl
set_option maxRecDepth 100000 in
theorem w_110 : Cond.code ⟨"PlaceMoves$Doors", "<init>", "()V"⟩ prog_2_method_1_code 1 none ∈ WG := wg (i := 144) rfl rfl
theorem w_111 : Cond.methodLink "PlaceMoves$Doors" 3 ⟨"java/lang/Object", "<init>", "()V"⟩ ∈ WG := wg (i := 145) (by decide +kernel) rfl
theorem w_112 : Cond.fieldLink "PlaceMoves$Doors" 9 "PlaceMoves$Doors" "one" "[I" ∈ WG := wg (i := 146) (by decide +kernel) rfl
theorem w_113 : Cond.fieldLink "PlaceMoves$Doors" 15 "PlaceMoves$Doors" "other" "[I" ∈ WG := wg (i := 147) (by decide +kernel) rfl
theorem w_114 : Cond.fieldLink "PlaceMoves$Doors" 18 "PlaceMoves$Doors" "wide" "[I" ∈ WG := wg (i := 148) (by decide +kernel) rfl
theorem w_115 : Cond.fieldLink "PlaceMoves$Doors" 21 "PlaceMoves$Doors" "narrow" "[I" ∈ WG := wg (i := 149) (by decide +kernel) rfl
theorem w_116 : Cond.fieldLink "PlaceMoves$Doors" 24 "PlaceMoves$Doors" "size" "I" ∈ WG := wg (i := 150) (by decide +kernel) rfl
theorem w_118 : Cond.laysFinal "PlaceMoves$Doors" "PlaceMoves$Doors" "one" "[I" ∈ WG := wg (i := 152) (by decide +kernel) rfl
theorem w_120 : Cond.laysFinal "PlaceMoves$Doors" "PlaceMoves$Doors" "other" "[I" ∈ WG := wg (i := 154) (by decide +kernel) rfl
theorem w_122 : Cond.laysFinal "PlaceMoves$Doors" "PlaceMoves$Doors" "wide" "[I" ∈ WG := wg (i := 156) (by decide +kernel) rfl
theorem w_124 : Cond.laysFinal "PlaceMoves$Doors" "PlaceMoves$Doors" "narrow" "[I" ∈ WG := wg (i := 158) (by decide +kernel) rfl
theorem w_126 : Cond.lays "PlaceMoves$Doors" "PlaceMoves$Doors" "size" "I" ∈ WG := wg (i := 160) (by decide +kernel) rfl
theorem w_128 : Cond.superclass "PlaceMoves$Doors" "java/lang/Object" ∈ WG := wg (i := 162) (by decide +kernel) rfl
theorem w_129 : Cond.classLink "PlaceMoves" 37 "PlaceMoves$Plans" ∈ WG := wg (i := 163) (by decide +kernel) rfl
theorem w_130 : Cond.instantiable "PlaceMoves$Plans" 5 ∈ WG := wg (i := 164) (by decide +kernel) rfl
theorem w_132 : Cond.instanceMethod ⟨"PlaceMoves$Plans", "<init>", "()V"⟩ ∈ WG := wg (i := 166) (by decide +kernel) rfl
set_option maxRecDepth 100000 in
theorem w_133 : Cond.code ⟨"PlaceMoves$Plans", "<init>", "()V"⟩ prog_4_method_1_code 1 none ∈ WG := wg (i := 167) rfl rfl
theorem w_134 : Cond.methodLink "PlaceMoves$Plans" 3 ⟨"java/lang/Object", "<init>", "()V"⟩ ∈ WG := wg (i := 168) (by decide +kernel) rfl
theorem w_135 : Cond.fieldLink "PlaceMoves$Plans" 9 "PlaceMoves$Plans" "object" "[I" ∈ WG := wg (i := 169) (by decide +kernel) rfl
theorem w_137 : Cond.fieldLink "PlaceMoves$Plans" 15 "PlaceMoves$Plans" "place" "[I" ∈ WG := wg (i := 171) (by decide +kernel) rfl
theorem w_139 : Cond.fieldLink "PlaceMoves$Plans" 18 "PlaceMoves$Plans" "from" "[I" ∈ WG := wg (i := 173) (by decide +kernel) rfl
theorem w_141 : Cond.fieldLink "PlaceMoves$Plans" 21 "PlaceMoves$Plans" "to" "[I" ∈ WG := wg (i := 175) (by decide +kernel) rfl
theorem w_142 : Cond.fieldLink "PlaceMoves$Plans" 24 "PlaceMoves$Plans" "size" "I" ∈ WG := wg (i := 176) (by decide +kernel) rfl
theorem w_144 : Cond.laysFinal "PlaceMoves$Plans" "PlaceMoves$Plans" "object" "[I" ∈ WG := wg (i := 178) (by decide +kernel) rfl
theorem w_146 : Cond.laysFinal "PlaceMoves$Plans" "PlaceMoves$Plans" "place" "[I" ∈ WG := wg (i := 180) (by decide +kernel) rfl
theorem w_148 : Cond.laysFinal "PlaceMoves$Plans" "PlaceMoves$Plans" "from" "[I" ∈ WG := wg (i := 182) (by decide +kernel) rfl
theorem w_150 : Cond.laysFinal "PlaceMoves$Plans" "PlaceMoves$Plans" "to" "[I" ∈ WG := wg (i := 184) (by decide +kernel) rfl
theorem w_152 : Cond.lays "PlaceMoves$Plans" "PlaceMoves$Plans" "size" "I" ∈ WG := wg (i := 186) (by decide +kernel) rfl
theorem w_154 : Cond.superclass "PlaceMoves$Plans" "java/lang/Object" ∈ WG := wg (i := 188) (by decide +kernel) rfl
theorem w_155 : Cond.classLink "PlaceMoves" 44 "PlaceMoves$QuietTimes" ∈ WG := wg (i := 189) (by decide +kernel) rfl
theorem w_156 : Cond.instantiable "PlaceMoves$QuietTimes" 4 ∈ WG := wg (i := 190) (by decide +kernel) rfl
theorem w_158 : Cond.instanceMethod ⟨"PlaceMoves$QuietTimes", "<init>", "()V"⟩ ∈ WG := wg (i := 192) (by decide +kernel) rfl
set_option maxRecDepth 100000 in
theorem w_159 : Cond.code ⟨"PlaceMoves$QuietTimes", "<init>", "()V"⟩ prog_5_method_1_code 1 none ∈ WG := wg (i := 193) rfl rfl
theorem w_160 : Cond.methodLink "PlaceMoves$QuietTimes" 3 ⟨"java/lang/Object", "<init>", "()V"⟩ ∈ WG := wg (i := 194) (by decide +kernel) rfl
theorem w_161 : Cond.fieldLink "PlaceMoves$QuietTimes" 9 "PlaceMoves$QuietTimes" "place" "[I" ∈ WG := wg (i := 195) (by decide +kernel) rfl
theorem w_163 : Cond.fieldLink "PlaceMoves$QuietTimes" 15 "PlaceMoves$QuietTimes" "from" "[I" ∈ WG := wg (i := 197) (by decide +kernel) rfl
theorem w_164 : Cond.fieldLink "PlaceMoves$QuietTimes" 18 "PlaceMoves$QuietTimes" "to" "[I" ∈ WG := wg (i := 198) (by decide +kernel) rfl
theorem w_165 : Cond.fieldLink "PlaceMoves$QuietTimes" 21 "PlaceMoves$QuietTimes" "size" "I" ∈ WG := wg (i := 199) (by decide +kernel) rfl
theorem w_167 : Cond.laysFinal "PlaceMoves$QuietTimes" "PlaceMoves$QuietTimes" "place" "[I" ∈ WG := wg (i := 201) (by decide +kernel) rfl
theorem w_169 : Cond.laysFinal "PlaceMoves$QuietTimes" "PlaceMoves$QuietTimes" "from" "[I" ∈ WG := wg (i := 203) (by decide +kernel) rfl
theorem w_171 : Cond.laysFinal "PlaceMoves$QuietTimes" "PlaceMoves$QuietTimes" "to" "[I" ∈ WG := wg (i := 205) (by decide +kernel) rfl
theorem w_173 : Cond.lays "PlaceMoves$QuietTimes" "PlaceMoves$QuietTimes" "size" "I" ∈ WG := wg (i := 207) (by decide +kernel) rfl
theorem w_175 : Cond.superclass "PlaceMoves$QuietTimes" "java/lang/Object" ∈ WG := wg (i := 209) (by decide +kernel) rfl
theorem w_176 : Cond.fieldLink "PlaceMoves" 10 "PlaceMoves" "places" "LPlaceMoves$Places;" ∈ WG := wg (i := 210) (by decide +kernel) rfl
theorem w_177 : Cond.fieldLink "PlaceMoves" 19 "PlaceMoves" "things" "LPlaceMoves$Things;" ∈ WG := wg (i := 211) (by decide +kernel) rfl
theorem w_178 : Cond.fieldLink "PlaceMoves" 26 "PlaceMoves" "rows" "LPlaceMoves$Rows;" ∈ WG := wg (i := 212) (by decide +kernel) rfl
theorem w_179 : Cond.fieldLink "PlaceMoves" 33 "PlaceMoves" "doors" "LPlaceMoves$Doors;" ∈ WG := wg (i := 213) (by decide +kernel) rfl
theorem w_180 : Cond.fieldLink "PlaceMoves" 40 "PlaceMoves" "plans" "LPlaceMoves$Plans;" ∈ WG := wg (i := 214) (by decide +kernel) rfl
theorem w_181 : Cond.fieldLink "PlaceMoves" 47 "PlaceMoves" "quietTimes" "LPlaceMoves$QuietTimes;" ∈ WG := wg (i := 215) (by decide +kernel) rfl
theorem w_182 : Cond.fieldLink "PlaceMoves" 51 "PlaceMoves" "hasKey" "[Z" ∈ WG := wg (i := 216) (by decide +kernel) rfl
theorem w_183 : Cond.fieldLink "PlaceMoves" 55 "PlaceMoves" "burdened" "[I" ∈ WG := wg (i := 217) (by decide +kernel) rfl
theorem w_184 : Cond.fieldLink "PlaceMoves" 59 "PlaceMoves" "present" "I" ∈ WG := wg (i := 218) (by decide +kernel) rfl
theorem w_185 : Cond.laysFinal "PlaceMoves" "PlaceMoves" "places" "LPlaceMoves$Places;" ∈ WG := wg (i := 219) (by decide +kernel) rfl
theorem w_187 : Cond.laysFinal "PlaceMoves" "PlaceMoves" "things" "LPlaceMoves$Things;" ∈ WG := wg (i := 221) (by decide +kernel) rfl
theorem w_189 : Cond.laysFinal "PlaceMoves" "PlaceMoves" "rows" "LPlaceMoves$Rows;" ∈ WG := wg (i := 223) (by decide +kernel) rfl
theorem w_191 : Cond.laysFinal "PlaceMoves" "PlaceMoves" "doors" "LPlaceMoves$Doors;" ∈ WG := wg (i := 225) (by decide +kernel) rfl
theorem w_193 : Cond.laysFinal "PlaceMoves" "PlaceMoves" "plans" "LPlaceMoves$Plans;" ∈ WG := wg (i := 227) (by decide +kernel) rfl
theorem w_195 : Cond.laysFinal "PlaceMoves" "PlaceMoves" "quietTimes" "LPlaceMoves$QuietTimes;" ∈ WG := wg (i := 229) (by decide +kernel) rfl
theorem w_197 : Cond.laysFinal "PlaceMoves" "PlaceMoves" "hasKey" "[Z" ∈ WG := wg (i := 231) (by decide +kernel) rfl
theorem w_199 : Cond.laysFinal "PlaceMoves" "PlaceMoves" "burdened" "[I" ∈ WG := wg (i := 233) (by decide +kernel) rfl
theorem w_201 : Cond.lays "PlaceMoves" "PlaceMoves" "present" "I" ∈ WG := wg (i := 235) (by decide +kernel) rfl
theorem w_203 : Cond.superclass "PlaceMoves" "java/lang/Object" ∈ WG := wg (i := 237) (by decide +kernel) rfl
theorem w_204 : Cond.methodLink "PlaceMovesLaw" 82 ⟨"PlaceMovesLaw", "place", "(LPlaceMoves;II[J)I"⟩ ∈ WG := wg (i := 238) (by decide +kernel) rfl
theorem w_205 : Cond.static ⟨"PlaceMovesLaw", "place", "(LPlaceMoves;II[J)I"⟩ ∈ WG := wg (i := 239) (by decide +kernel) rfl
theorem w_207 : Cond.classLink "PlaceMovesLaw" 13 "java/util/NoSuchElementException" ∈ WG := wg (i := 241) (by decide +kernel) rfl
theorem w_208 : Cond.classLink "PlaceMovesLaw" 15 "java/lang/IllegalArgumentException" ∈ WG := wg (i := 242) (by decide +kernel) rfl
theorem w_209 : Cond.classLink "PlaceMovesLaw" 17 "java/lang/IllegalStateException" ∈ WG := wg (i := 243) (by decide +kernel) rfl
theorem w_210 : Cond.methodLink "PlaceMovesLaw" 7 ⟨"PlaceMoves", "place", "(II)I"⟩ ∈ WG := wg (i := 244) (by decide +kernel) rfl
theorem w_211 : Cond.instanceMethod ⟨"PlaceMoves", "place", "(II)I"⟩ ∈ WG := wg (i := 245) (by decide +kernel) rfl
theorem w_212 : Cond.selects "PlaceMoves" ⟨"PlaceMoves", "place", "(II)I"⟩ ⟨"PlaceMoves", "place", "(II)I"⟩ ∈ WG := wg (i := 246) (by decide +kernel) rfl
set_option maxRecDepth 100000 in
theorem w_213 : Cond.code ⟨"PlaceMoves", "place", "(II)I"⟩ prog_1_method_2_code 3 (some FieldType.int) ∈ WG := wg (i := 247) rfl rfl
theorem w_214 : Cond.methodLink "PlaceMoves" 63 ⟨"PlaceMoves", "needPlace", "(I)V"⟩ ∈ WG := wg (i := 248) (by decide +kernel) rfl
theorem w_216 : Cond.instanceMethod ⟨"PlaceMoves", "needPlace", "(I)V"⟩ ∈ WG := wg (i := 250) (by decide +kernel) rfl
set_option maxRecDepth 100000 in
theorem w_217 : Cond.code ⟨"PlaceMoves", "needPlace", "(I)V"⟩ prog_1_method_20_code 2 none ∈ WG := wg (i := 251) rfl rfl
theorem w_218 : Cond.methodLink "PlaceMoves" 132 ⟨"PlaceMoves", "needKnown", "(II)V"⟩ ∈ WG := wg (i := 252) (by decide +kernel) rfl
theorem w_219 : Cond.static ⟨"PlaceMoves", "needKnown", "(II)V"⟩ ∈ WG := wg (i := 253) (by decide +kernel) rfl
set_option maxRecDepth 100000 in
theorem w_220 : Cond.code ⟨"PlaceMoves", "needKnown", "(II)V"⟩ prog_1_method_23_code 2 none ∈ WG := wg (i := 254) rfl rfl
theorem w_221 : Cond.classLink "PlaceMoves" 191 "java/util/NoSuchElementException" ∈ WG := wg (i := 255) (by decide +kernel) rfl
theorem w_222 : Cond.instantiable "java/util/NoSuchElementException" 6 ∈ WG := wg (i := 256) (by decide +kernel) rfl
theorem w_230 : Cond.selects "java/util/NoSuchElementException" ⟨"java/lang/Throwable", "fillInStackTrace", "(I)Ljava/lang/Throwable;"⟩ ⟨"java/lang/Throwable", "fillInStackTrace", "(I)Ljava/lang/Throwable;"⟩ ∈ WG := wg (i := 264) (by decide +kernel) rfl
theorem w_231 : Cond.selects "java/util/NoSuchElementException" ⟨"java/lang/Throwable", "fillInStackTrace", "()Ljava/lang/Throwable;"⟩ ⟨"java/lang/Throwable", "fillInStackTrace", "()Ljava/lang/Throwable;"⟩ ∈ WG := wg (i := 265) (by decide +kernel) rfl
theorem w_232 : Cond.lays "java/util/NoSuchElementException" "java/lang/Throwable" "cause" "Ljava/lang/Throwable;" ∈ WG := wg (i := 266) (by decide +kernel) rfl
theorem w_233 : Cond.lays "java/lang/Throwable" "java/lang/Throwable" "cause" "Ljava/lang/Throwable;" ∈ WG := wg (i := 267) (by decide +kernel) rfl
theorem w_234 : Cond.lays "java/util/NoSuchElementException" "java/lang/Throwable" "stackTrace" "[Ljava/lang/StackTraceElement;" ∈ WG := wg (i := 268) (by decide +kernel) rfl
theorem w_235 : Cond.lays "java/lang/Throwable" "java/lang/Throwable" "stackTrace" "[Ljava/lang/StackTraceElement;" ∈ WG := wg (i := 269) (by decide +kernel) rfl
theorem w_236 : Cond.lays "java/util/NoSuchElementException" "java/lang/Throwable" "suppressedExceptions" "Ljava/util/List;" ∈ WG := wg (i := 270) (by decide +kernel) rfl
theorem w_237 : Cond.lays "java/lang/Throwable" "java/lang/Throwable" "suppressedExceptions" "Ljava/util/List;" ∈ WG := wg (i := 271) (by decide +kernel) rfl
theorem w_238 : Cond.lays "java/util/NoSuchElementException" "java/lang/Throwable" "detailMessage" "Ljava/lang/String;" ∈ WG := wg (i := 272) (by decide +kernel) rfl
theorem w_239 : Cond.lays "java/lang/Throwable" "java/lang/Throwable" "detailMessage" "Ljava/lang/String;" ∈ WG := wg (i := 273) (by decide +kernel) rfl
theorem w_240 : Cond.lays "java/util/NoSuchElementException" "java/lang/Throwable" "backtrace" "Ljava/lang/Object;" ∈ WG := wg (i := 274) (by decide +kernel) rfl
theorem w_241 : Cond.lays "java/lang/Throwable" "java/lang/Throwable" "backtrace" "Ljava/lang/Object;" ∈ WG := wg (i := 275) (by decide +kernel) rfl
theorem w_242 : Cond.fieldLink "java/lang/Throwable" 198 "java/lang/Throwable" "backtrace" "Ljava/lang/Object;" ∈ WG := wg (i := 276) (by decide +kernel) rfl
theorem w_243 : Cond.superclass "java/lang/Throwable" "java/lang/Object" ∈ WG := wg (i := 277) (by decide +kernel) rfl
theorem w_244 : Cond.instanceMethod ⟨"java/lang/Throwable", "<init>", "()V"⟩ ∈ WG := wg (i := 278) (by decide +kernel) rfl
set_option maxRecDepth 100000 in
theorem w_245 : Cond.code ⟨"java/lang/Throwable", "<init>", "()V"⟩ prog_16_method_1_code 1 none ∈ WG := wg (i := 279) rfl rfl
theorem w_246 : Cond.methodLink "java/lang/Throwable" 1 ⟨"java/lang/Object", "<init>", "()V"⟩ ∈ WG := wg (i := 280) (by decide +kernel) rfl
theorem w_247 : Cond.fieldLink "java/lang/Throwable" 13 "java/lang/Throwable" "UNASSIGNED_STACK" "[Ljava/lang/StackTraceElement;" ∈ WG := wg (i := 281) (by decide +kernel) rfl
theorem w_249 : Cond.fieldLink "java/lang/Throwable" 20 "java/lang/Throwable" "SUPPRESSED_SENTINEL" "Ljava/util/List;" ∈ WG := wg (i := 283) (by decide +kernel) rfl
theorem w_251 : Cond.methodLink "java/lang/Throwable" 27 ⟨"java/lang/Throwable", "fillInStackTrace", "()Ljava/lang/Throwable;"⟩ ∈ WG := wg (i := 285) (by decide +kernel) rfl
theorem w_252 : Cond.instanceMethod ⟨"java/lang/Throwable", "fillInStackTrace", "()Ljava/lang/Throwable;"⟩ ∈ WG := wg (i := 286) (by decide +kernel) rfl
theorem w_254 : Cond.selects "java/lang/IllegalArgumentException" ⟨"java/lang/Throwable", "fillInStackTrace", "()Ljava/lang/Throwable;"⟩ ⟨"java/lang/Throwable", "fillInStackTrace", "()Ljava/lang/Throwable;"⟩ ∈ WG := wg (i := 288) (by decide +kernel) rfl
theorem w_255 : Cond.selects "java/lang/IllegalStateException" ⟨"java/lang/Throwable", "fillInStackTrace", "()Ljava/lang/Throwable;"⟩ ⟨"java/lang/Throwable", "fillInStackTrace", "()Ljava/lang/Throwable;"⟩ ∈ WG := wg (i := 289) (by decide +kernel) rfl
set_option maxRecDepth 100000 in
theorem w_256 : Cond.codeSync ⟨"java/lang/Throwable", "fillInStackTrace", "()Ljava/lang/Throwable;"⟩ prog_16_method_18_code 1 (some (FieldType.object "java/lang/Throwable")) ∈ WG := wg (i := 290) rfl rfl
theorem w_257 : Cond.methodLink "java/lang/Throwable" 202 ⟨"java/lang/Throwable", "fillInStackTrace", "(I)Ljava/lang/Throwable;"⟩ ∈ WG := wg (i := 291) (by decide +kernel) rfl
theorem w_259 : Cond.instanceMethod ⟨"java/lang/Throwable", "fillInStackTrace", "(I)Ljava/lang/Throwable;"⟩ ∈ WG := wg (i := 293) (by decide +kernel) rfl
theorem w_260 : Cond.instantiable "java/lang/Throwable" 6 ∈ WG := wg (i := 294) (by decide +kernel) rfl
theorem w_261 : Cond.native ⟨"java/lang/Throwable", "fillInStackTrace", "(I)Ljava/lang/Throwable;"⟩ ∈ WG := wg (i := 295) (by decide +kernel) rfl
theorem w_263 : Cond.methodLink "PlaceMoves" 195 ⟨"java/util/NoSuchElementException", "<init>", "(Ljava/lang/String;)V"⟩ ∈ WG := wg (i := 297) (by decide +kernel) rfl
theorem w_264 : Cond.instanceMethod ⟨"java/util/NoSuchElementException", "<init>", "(Ljava/lang/String;)V"⟩ ∈ WG := wg (i := 298) (by decide +kernel) rfl
set_option maxRecDepth 100000 in
theorem w_265 : Cond.code ⟨"java/util/NoSuchElementException", "<init>", "(Ljava/lang/String;)V"⟩ prog_17_method_4_code 2 none ∈ WG := wg (i := 299) rfl rfl
theorem w_266 : Cond.methodLink "java/util/NoSuchElementException" 13 ⟨"java/lang/RuntimeException", "<init>", "(Ljava/lang/String;)V"⟩ ∈ WG := wg (i := 300) (by decide +kernel) rfl
theorem w_267 : Cond.instanceMethod ⟨"java/lang/RuntimeException", "<init>", "(Ljava/lang/String;)V"⟩ ∈ WG := wg (i := 301) (by decide +kernel) rfl
set_option maxRecDepth 100000 in
theorem w_268 : Cond.code ⟨"java/lang/RuntimeException", "<init>", "(Ljava/lang/String;)V"⟩ prog_14_method_2_code 2 none ∈ WG := wg (i := 302) rfl rfl
theorem w_269 : Cond.methodLink "java/lang/RuntimeException" 7 ⟨"java/lang/Exception", "<init>", "(Ljava/lang/String;)V"⟩ ∈ WG := wg (i := 303) (by decide +kernel) rfl
theorem w_270 : Cond.instanceMethod ⟨"java/lang/Exception", "<init>", "(Ljava/lang/String;)V"⟩ ∈ WG := wg (i := 304) (by decide +kernel) rfl
set_option maxRecDepth 100000 in
theorem w_271 : Cond.code ⟨"java/lang/Exception", "<init>", "(Ljava/lang/String;)V"⟩ prog_10_method_2_code 2 none ∈ WG := wg (i := 305) rfl rfl
theorem w_272 : Cond.methodLink "java/lang/Exception" 7 ⟨"java/lang/Throwable", "<init>", "(Ljava/lang/String;)V"⟩ ∈ WG := wg (i := 306) (by decide +kernel) rfl
theorem w_273 : Cond.instanceMethod ⟨"java/lang/Throwable", "<init>", "(Ljava/lang/String;)V"⟩ ∈ WG := wg (i := 307) (by decide +kernel) rfl
set_option maxRecDepth 100000 in
theorem w_274 : Cond.code ⟨"java/lang/Throwable", "<init>", "(Ljava/lang/String;)V"⟩ prog_16_method_2_code 2 none ∈ WG := wg (i := 308) rfl rfl
theorem w_275 : Cond.fieldLink "java/lang/Throwable" 198 "java/lang/Throwable" "backtrace" "Ljava/lang/Object;" ∈ WG := wg (i := 309) (by decide +kernel) rfl
theorem w_276 : Cond.fieldLink "java/lang/Throwable" 31 "java/lang/Throwable" "detailMessage" "Ljava/lang/String;" ∈ WG := wg (i := 310) (by decide +kernel) rfl
theorem w_277 : Cond.fieldLink "java/lang/Throwable" 7 "java/lang/Throwable" "cause" "Ljava/lang/Throwable;" ∈ WG := wg (i := 311) (by decide +kernel) rfl
theorem w_278 : Cond.fieldLink "java/lang/Throwable" 17 "java/lang/Throwable" "stackTrace" "[Ljava/lang/StackTraceElement;" ∈ WG := wg (i := 312) (by decide +kernel) rfl
theorem w_279 : Cond.fieldLink "java/lang/Throwable" 24 "java/lang/Throwable" "suppressedExceptions" "Ljava/util/List;" ∈ WG := wg (i := 313) (by decide +kernel) rfl
theorem w_284 : Cond.lays "java/util/NoSuchElementException" "java/lang/Throwable" "depth" "I" ∈ WG := wg (i := 318) (by decide +kernel) rfl
theorem w_287 : Cond.superclass "java/util/NoSuchElementException" "java/lang/RuntimeException" ∈ WG := wg (i := 321) (by decide +kernel) rfl
theorem w_288 : Cond.arrayClass FieldType.byte ∈ WG := wg (i := 322) (by decide +kernel) rfl
theorem w_289 : Cond.constant "PlaceMoves" 67 (1000000000) ∈ WG := wg (i := 323) (by decide +kernel) rfl
theorem w_290 : Cond.methodLink "PlaceMoves" 68 ⟨"PlaceMoves", "needRange", "(III)V"⟩ ∈ WG := wg (i := 324) (by decide +kernel) rfl
theorem w_291 : Cond.static ⟨"PlaceMoves", "needRange", "(III)V"⟩ ∈ WG := wg (i := 325) (by decide +kernel) rfl
set_option maxRecDepth 100000 in
theorem w_292 : Cond.code ⟨"PlaceMoves", "needRange", "(III)V"⟩ prog_1_method_24_code 3 none ∈ WG := wg (i := 326) rfl rfl
theorem w_293 : Cond.classLink "PlaceMoves" 144 "java/lang/IllegalArgumentException" ∈ WG := wg (i := 327) (by decide +kernel) rfl
theorem w_294 : Cond.instantiable "java/lang/IllegalArgumentException" 6 ∈ WG := wg (i := 328) (by decide +kernel) rfl
theorem w_296 : Cond.selects "java/lang/IllegalArgumentException" ⟨"java/lang/Throwable", "fillInStackTrace", "(I)Ljava/lang/Throwable;"⟩ ⟨"java/lang/Throwable", "fillInStackTrace", "(I)Ljava/lang/Throwable;"⟩ ∈ WG := wg (i := 330) (by decide +kernel) rfl
theorem w_297 : Cond.lays "java/lang/IllegalArgumentException" "java/lang/Throwable" "cause" "Ljava/lang/Throwable;" ∈ WG := wg (i := 331) (by decide +kernel) rfl
theorem w_298 : Cond.lays "java/lang/IllegalArgumentException" "java/lang/Throwable" "stackTrace" "[Ljava/lang/StackTraceElement;" ∈ WG := wg (i := 332) (by decide +kernel) rfl
theorem w_299 : Cond.lays "java/lang/IllegalArgumentException" "java/lang/Throwable" "suppressedExceptions" "Ljava/util/List;" ∈ WG := wg (i := 333) (by decide +kernel) rfl
theorem w_300 : Cond.lays "java/lang/IllegalArgumentException" "java/lang/Throwable" "detailMessage" "Ljava/lang/String;" ∈ WG := wg (i := 334) (by decide +kernel) rfl
theorem w_301 : Cond.lays "java/lang/IllegalArgumentException" "java/lang/Throwable" "backtrace" "Ljava/lang/Object;" ∈ WG := wg (i := 335) (by decide +kernel) rfl
theorem w_303 : Cond.methodLink "PlaceMoves" 148 ⟨"java/lang/IllegalArgumentException", "<init>", "(Ljava/lang/String;)V"⟩ ∈ WG := wg (i := 337) (by decide +kernel) rfl
theorem w_304 : Cond.instanceMethod ⟨"java/lang/IllegalArgumentException", "<init>", "(Ljava/lang/String;)V"⟩ ∈ WG := wg (i := 338) (by decide +kernel) rfl
set_option maxRecDepth 100000 in
theorem w_305 : Cond.code ⟨"java/lang/IllegalArgumentException", "<init>", "(Ljava/lang/String;)V"⟩ prog_11_method_2_code 2 none ∈ WG := wg (i := 339) rfl rfl
theorem w_306 : Cond.methodLink "java/lang/IllegalArgumentException" 7 ⟨"java/lang/RuntimeException", "<init>", "(Ljava/lang/String;)V"⟩ ∈ WG := wg (i := 340) (by decide +kernel) rfl
theorem w_307 : Cond.lays "java/lang/IllegalArgumentException" "java/lang/Throwable" "depth" "I" ∈ WG := wg (i := 341) (by decide +kernel) rfl
theorem w_308 : Cond.superclass "java/lang/IllegalArgumentException" "java/lang/RuntimeException" ∈ WG := wg (i := 342) (by decide +kernel) rfl
theorem w_309 : Cond.methodLink "PlaceMoves" 75 ⟨"PlaceMoves", "needRoom", "(II)V"⟩ ∈ WG := wg (i := 343) (by decide +kernel) rfl
theorem w_310 : Cond.static ⟨"PlaceMoves", "needRoom", "(II)V"⟩ ∈ WG := wg (i := 344) (by decide +kernel) rfl
set_option maxRecDepth 100000 in
theorem w_311 : Cond.code ⟨"PlaceMoves", "needRoom", "(II)V"⟩ prog_1_method_25_code 2 none ∈ WG := wg (i := 345) rfl rfl
theorem w_312 : Cond.classLink "PlaceMoves" 198 "java/lang/IllegalStateException" ∈ WG := wg (i := 346) (by decide +kernel) rfl
theorem w_313 : Cond.instantiable "java/lang/IllegalStateException" 6 ∈ WG := wg (i := 347) (by decide +kernel) rfl
theorem w_315 : Cond.selects "java/lang/IllegalStateException" ⟨"java/lang/Throwable", "fillInStackTrace", "(I)Ljava/lang/Throwable;"⟩ ⟨"java/lang/Throwable", "fillInStackTrace", "(I)Ljava/lang/Throwable;"⟩ ∈ WG := wg (i := 349) (by decide +kernel) rfl
theorem w_316 : Cond.lays "java/lang/IllegalStateException" "java/lang/Throwable" "cause" "Ljava/lang/Throwable;" ∈ WG := wg (i := 350) (by decide +kernel) rfl
theorem w_317 : Cond.lays "java/lang/IllegalStateException" "java/lang/Throwable" "stackTrace" "[Ljava/lang/StackTraceElement;" ∈ WG := wg (i := 351) (by decide +kernel) rfl
theorem w_318 : Cond.lays "java/lang/IllegalStateException" "java/lang/Throwable" "suppressedExceptions" "Ljava/util/List;" ∈ WG := wg (i := 352) (by decide +kernel) rfl
theorem w_319 : Cond.lays "java/lang/IllegalStateException" "java/lang/Throwable" "detailMessage" "Ljava/lang/String;" ∈ WG := wg (i := 353) (by decide +kernel) rfl
theorem w_320 : Cond.lays "java/lang/IllegalStateException" "java/lang/Throwable" "backtrace" "Ljava/lang/Object;" ∈ WG := wg (i := 354) (by decide +kernel) rfl
theorem w_322 : Cond.methodLink "PlaceMoves" 202 ⟨"java/lang/IllegalStateException", "<init>", "(Ljava/lang/String;)V"⟩ ∈ WG := wg (i := 356) (by decide +kernel) rfl
theorem w_323 : Cond.instanceMethod ⟨"java/lang/IllegalStateException", "<init>", "(Ljava/lang/String;)V"⟩ ∈ WG := wg (i := 357) (by decide +kernel) rfl
set_option maxRecDepth 100000 in
theorem w_324 : Cond.code ⟨"java/lang/IllegalStateException", "<init>", "(Ljava/lang/String;)V"⟩ prog_12_method_2_code 2 none ∈ WG := wg (i := 358) rfl rfl
theorem w_325 : Cond.methodLink "java/lang/IllegalStateException" 7 ⟨"java/lang/RuntimeException", "<init>", "(Ljava/lang/String;)V"⟩ ∈ WG := wg (i := 359) (by decide +kernel) rfl
theorem w_326 : Cond.lays "java/lang/IllegalStateException" "java/lang/Throwable" "depth" "I" ∈ WG := wg (i := 360) (by decide +kernel) rfl
theorem w_327 : Cond.superclass "java/lang/IllegalStateException" "java/lang/RuntimeException" ∈ WG := wg (i := 361) (by decide +kernel) rfl
theorem w_328 : Cond.methodLink "PlaceMoves" 79 ⟨"PlaceMoves$Places", "add", "(II)I"⟩ ∈ WG := wg (i := 362) (by decide +kernel) rfl
theorem w_329 : Cond.instanceMethod ⟨"PlaceMoves$Places", "add", "(II)I"⟩ ∈ WG := wg (i := 363) (by decide +kernel) rfl
theorem w_330 : Cond.selects "PlaceMoves$Places" ⟨"PlaceMoves$Places", "add", "(II)I"⟩ ⟨"PlaceMoves$Places", "add", "(II)I"⟩ ∈ WG := wg (i := 364) (by decide +kernel) rfl
set_option maxRecDepth 100000 in
theorem w_331 : Cond.code ⟨"PlaceMoves$Places", "add", "(II)I"⟩ prog_3_method_2_code 4 (some FieldType.int) ∈ WG := wg (i := 365) rfl rfl
theorem w_332 : Cond.methodLink "PlaceMoves$Places" 22 ⟨"PlaceMoves$Places", "around", "(I)I"⟩ ∈ WG := wg (i := 366) (by decide +kernel) rfl
theorem w_333 : Cond.instanceMethod ⟨"PlaceMoves$Places", "around", "(I)I"⟩ ∈ WG := wg (i := 367) (by decide +kernel) rfl
theorem w_334 : Cond.selects "PlaceMoves$Places" ⟨"PlaceMoves$Places", "around", "(I)I"⟩ ⟨"PlaceMoves$Places", "around", "(I)I"⟩ ∈ WG := wg (i := 368) (by decide +kernel) rfl
set_option maxRecDepth 100000 in
theorem w_335 : Cond.code ⟨"PlaceMoves$Places", "around", "(I)I"⟩ prog_3_method_3_code 2 (some FieldType.int) ∈ WG := wg (i := 369) rfl rfl
theorem w_336 : Cond.methodLink "PlaceMovesLaw" 92 ⟨"PlaceMovesLaw", "object", "(LPlaceMoves;IIII[J)I"⟩ ∈ WG := wg (i := 370) (by decide +kernel) rfl
theorem w_337 : Cond.static ⟨"PlaceMovesLaw", "object", "(LPlaceMoves;IIII[J)I"⟩ ∈ WG := wg (i := 371) (by decide +kernel) rfl
theorem w_339 : Cond.methodLink "PlaceMovesLaw" 19 ⟨"PlaceMoves", "object", "(IIII)I"⟩ ∈ WG := wg (i := 373) (by decide +kernel) rfl
theorem w_340 : Cond.instanceMethod ⟨"PlaceMoves", "object", "(IIII)I"⟩ ∈ WG := wg (i := 374) (by decide +kernel) rfl
theorem w_341 : Cond.selects "PlaceMoves" ⟨"PlaceMoves", "object", "(IIII)I"⟩ ⟨"PlaceMoves", "object", "(IIII)I"⟩ ∈ WG := wg (i := 375) (by decide +kernel) rfl
set_option maxRecDepth 100000 in
theorem w_342 : Cond.code ⟨"PlaceMoves", "object", "(IIII)I"⟩ prog_1_method_3_code 5 (some FieldType.int) ∈ WG := wg (i := 376) rfl rfl
theorem w_343 : Cond.constant "PlaceMoves" 83 (1000000) ∈ WG := wg (i := 377) (by decide +kernel) rfl
theorem w_344 : Cond.methodLink "PlaceMoves" 85 ⟨"PlaceMoves$Things", "add", "(IIII)I"⟩ ∈ WG := wg (i := 378) (by decide +kernel) rfl
theorem w_345 : Cond.instanceMethod ⟨"PlaceMoves$Things", "add", "(IIII)I"⟩ ∈ WG := wg (i := 379) (by decide +kernel) rfl
theorem w_346 : Cond.selects "PlaceMoves$Things" ⟨"PlaceMoves$Things", "add", "(IIII)I"⟩ ⟨"PlaceMoves$Things", "add", "(IIII)I"⟩ ∈ WG := wg (i := 380) (by decide +kernel) rfl
set_option maxRecDepth 100000 in
theorem w_347 : Cond.code ⟨"PlaceMoves$Things", "add", "(IIII)I"⟩ prog_7_method_2_code 6 (some FieldType.int) ∈ WG := wg (i := 381) rfl rfl
theorem w_348 : Cond.methodLink "PlaceMoves$Things" 35 ⟨"java/lang/Math", "min", "(II)I"⟩ ∈ WG := wg (i := 382) (by decide +kernel) rfl
theorem w_349 : Cond.static ⟨"java/lang/Math", "min", "(II)I"⟩ ∈ WG := wg (i := 383) (by decide +kernel) rfl
set_option maxRecDepth 100000 in
theorem w_350 : Cond.code ⟨"java/lang/Math", "min", "(II)I"⟩ prog_13_method_69_code 2 (some FieldType.int) ∈ WG := wg (i := 384) rfl rfl
theorem w_351 : Cond.methodLink "PlaceMoves$Things" 41 ⟨"java/lang/Math", "max", "(II)I"⟩ ∈ WG := wg (i := 385) (by decide +kernel) rfl
theorem w_352 : Cond.static ⟨"java/lang/Math", "max", "(II)I"⟩ ∈ WG := wg (i := 386) (by decide +kernel) rfl
set_option maxRecDepth 100000 in
theorem w_353 : Cond.code ⟨"java/lang/Math", "max", "(II)I"⟩ prog_13_method_65_code 2 (some FieldType.int) ∈ WG := wg (i := 387) rfl rfl
theorem w_354 : Cond.methodLink "PlaceMovesLaw" 96 ⟨"PlaceMovesLaw", "keys", "(LPlaceMoves;II[J)I"⟩ ∈ WG := wg (i := 388) (by decide +kernel) rfl
theorem w_355 : Cond.static ⟨"PlaceMovesLaw", "keys", "(LPlaceMoves;II[J)I"⟩ ∈ WG := wg (i := 389) (by decide +kernel) rfl
theorem w_357 : Cond.methodLink "PlaceMovesLaw" 23 ⟨"PlaceMoves", "keys", "(II)I"⟩ ∈ WG := wg (i := 391) (by decide +kernel) rfl
theorem w_358 : Cond.instanceMethod ⟨"PlaceMoves", "keys", "(II)I"⟩ ∈ WG := wg (i := 392) (by decide +kernel) rfl
theorem w_359 : Cond.selects "PlaceMoves" ⟨"PlaceMoves", "keys", "(II)I"⟩ ⟨"PlaceMoves", "keys", "(II)I"⟩ ∈ WG := wg (i := 393) (by decide +kernel) rfl
set_option maxRecDepth 100000 in
theorem w_360 : Cond.code ⟨"PlaceMoves", "keys", "(II)I"⟩ prog_1_method_4_code 4 (some FieldType.int) ∈ WG := wg (i := 394) rfl rfl
theorem w_361 : Cond.methodLink "PlaceMoves" 88 ⟨"PlaceMoves", "needObject", "(I)V"⟩ ∈ WG := wg (i := 395) (by decide +kernel) rfl
theorem w_363 : Cond.instanceMethod ⟨"PlaceMoves", "needObject", "(I)V"⟩ ∈ WG := wg (i := 397) (by decide +kernel) rfl
set_option maxRecDepth 100000 in
theorem w_364 : Cond.code ⟨"PlaceMoves", "needObject", "(I)V"⟩ prog_1_method_21_code 2 none ∈ WG := wg (i := 398) rfl rfl
theorem w_365 : Cond.methodLink "PlaceMovesLaw" 99 ⟨"PlaceMovesLaw", "key", "(LPlaceMoves;IZ[J)I"⟩ ∈ WG := wg (i := 399) (by decide +kernel) rfl
theorem w_366 : Cond.static ⟨"PlaceMovesLaw", "key", "(LPlaceMoves;IZ[J)I"⟩ ∈ WG := wg (i := 400) (by decide +kernel) rfl
theorem w_368 : Cond.methodLink "PlaceMovesLaw" 26 ⟨"PlaceMoves", "key", "(IZ)Z"⟩ ∈ WG := wg (i := 402) (by decide +kernel) rfl
theorem w_369 : Cond.instanceMethod ⟨"PlaceMoves", "key", "(IZ)Z"⟩ ∈ WG := wg (i := 403) (by decide +kernel) rfl
theorem w_370 : Cond.selects "PlaceMoves" ⟨"PlaceMoves", "key", "(IZ)Z"⟩ ⟨"PlaceMoves", "key", "(IZ)Z"⟩ ∈ WG := wg (i := 404) (by decide +kernel) rfl
set_option maxRecDepth 100000 in
theorem w_371 : Cond.code ⟨"PlaceMoves", "key", "(IZ)Z"⟩ prog_1_method_5_code 4 (some FieldType.boolean) ∈ WG := wg (i := 405) rfl rfl
theorem w_372 : Cond.methodLink "PlaceMoves" 94 ⟨"PlaceMoves", "needPerson", "(I)V"⟩ ∈ WG := wg (i := 406) (by decide +kernel) rfl
theorem w_374 : Cond.instanceMethod ⟨"PlaceMoves", "needPerson", "(I)V"⟩ ∈ WG := wg (i := 408) (by decide +kernel) rfl
set_option maxRecDepth 100000 in
theorem w_375 : Cond.code ⟨"PlaceMoves", "needPerson", "(I)V"⟩ prog_1_method_22_code 2 none ∈ WG := wg (i := 409) rfl rfl
theorem w_376 : Cond.methodLink "PlaceMovesLaw" 103 ⟨"PlaceMovesLaw", "box", "(LPlaceMoves;I[J)I"⟩ ∈ WG := wg (i := 410) (by decide +kernel) rfl
theorem w_377 : Cond.static ⟨"PlaceMovesLaw", "box", "(LPlaceMoves;I[J)I"⟩ ∈ WG := wg (i := 411) (by decide +kernel) rfl
theorem w_379 : Cond.methodLink "PlaceMovesLaw" 30 ⟨"PlaceMoves", "box", "(I)Z"⟩ ∈ WG := wg (i := 413) (by decide +kernel) rfl
theorem w_380 : Cond.instanceMethod ⟨"PlaceMoves", "box", "(I)Z"⟩ ∈ WG := wg (i := 414) (by decide +kernel) rfl
theorem w_381 : Cond.selects "PlaceMoves" ⟨"PlaceMoves", "box", "(I)Z"⟩ ⟨"PlaceMoves", "box", "(I)Z"⟩ ∈ WG := wg (i := 415) (by decide +kernel) rfl
set_option maxRecDepth 100000 in
theorem w_382 : Cond.code ⟨"PlaceMoves", "box", "(I)Z"⟩ prog_1_method_6_code 3 (some FieldType.boolean) ∈ WG := wg (i := 416) rfl rfl
theorem w_383 : Cond.methodLink "PlaceMovesLaw" 107 ⟨"PlaceMovesLaw", "move", "(LPlaceMoves;IIIII[J)I"⟩ ∈ WG := wg (i := 417) (by decide +kernel) rfl
theorem w_384 : Cond.static ⟨"PlaceMovesLaw", "move", "(LPlaceMoves;IIIII[J)I"⟩ ∈ WG := wg (i := 418) (by decide +kernel) rfl
theorem w_386 : Cond.methodLink "PlaceMovesLaw" 34 ⟨"PlaceMoves", "move", "(IIIII)I"⟩ ∈ WG := wg (i := 420) (by decide +kernel) rfl
theorem w_387 : Cond.instanceMethod ⟨"PlaceMoves", "move", "(IIIII)I"⟩ ∈ WG := wg (i := 421) (by decide +kernel) rfl
theorem w_388 : Cond.selects "PlaceMoves" ⟨"PlaceMoves", "move", "(IIIII)I"⟩ ⟨"PlaceMoves", "move", "(IIIII)I"⟩ ∈ WG := wg (i := 422) (by decide +kernel) rfl
set_option maxRecDepth 100000 in
theorem w_389 : Cond.code ⟨"PlaceMoves", "move", "(IIIII)I"⟩ prog_1_method_7_code 6 (some FieldType.int) ∈ WG := wg (i := 423) rfl rfl
theorem w_390 : Cond.methodLink "PlaceMoves" 102 ⟨"PlaceMoves", "needKeysOf", "(III)V"⟩ ∈ WG := wg (i := 424) (by decide +kernel) rfl
theorem w_392 : Cond.instanceMethod ⟨"PlaceMoves", "needKeysOf", "(III)V"⟩ ∈ WG := wg (i := 426) (by decide +kernel) rfl
set_option maxRecDepth 100000 in
theorem w_393 : Cond.code ⟨"PlaceMoves", "needKeysOf", "(III)V"⟩ prog_1_method_26_code 6 none ∈ WG := wg (i := 427) rfl rfl
theorem w_395 : Cond.methodLink "PlaceMoves" 105 ⟨"PlaceMoves", "placeAt", "(II)I"⟩ ∈ WG := wg (i := 429) (by decide +kernel) rfl
theorem w_397 : Cond.instanceMethod ⟨"PlaceMoves", "placeAt", "(II)I"⟩ ∈ WG := wg (i := 431) (by decide +kernel) rfl
set_option maxRecDepth 100000 in
theorem w_398 : Cond.code ⟨"PlaceMoves", "placeAt", "(II)I"⟩ prog_1_method_27_code 6 (some FieldType.int) ∈ WG := wg (i := 432) rfl rfl
theorem w_399 : Cond.methodLink "PlaceMoves" 123 ⟨"PlaceMoves$Rows", "held", "(II)I"⟩ ∈ WG := wg (i := 433) (by decide +kernel) rfl
theorem w_400 : Cond.instanceMethod ⟨"PlaceMoves$Rows", "held", "(II)I"⟩ ∈ WG := wg (i := 434) (by decide +kernel) rfl
theorem w_401 : Cond.selects "PlaceMoves$Rows" ⟨"PlaceMoves$Rows", "held", "(II)I"⟩ ⟨"PlaceMoves$Rows", "held", "(II)I"⟩ ∈ WG := wg (i := 435) (by decide +kernel) rfl
set_option maxRecDepth 100000 in
theorem w_402 : Cond.code ⟨"PlaceMoves$Rows", "held", "(II)I"⟩ prog_6_method_5_code 5 (some FieldType.int) ∈ WG := wg (i := 436) rfl rfl
theorem w_403 : Cond.methodLink "PlaceMoves$Rows" 28 ⟨"PlaceMoves$Rows", "index", "(II)I"⟩ ∈ WG := wg (i := 437) (by decide +kernel) rfl
theorem w_404 : Cond.static ⟨"PlaceMoves$Rows", "index", "(II)I"⟩ ∈ WG := wg (i := 438) (by decide +kernel) rfl
set_option maxRecDepth 100000 in
theorem w_405 : Cond.code ⟨"PlaceMoves$Rows", "index", "(II)I"⟩ prog_6_method_2_code 2 (some FieldType.int) ∈ WG := wg (i := 439) rfl rfl
theorem w_406 : Cond.methodLink "PlaceMoves" 108 ⟨"PlaceMoves", "isBarred", "(III)Z"⟩ ∈ WG := wg (i := 440) (by decide +kernel) rfl
theorem w_408 : Cond.instanceMethod ⟨"PlaceMoves", "isBarred", "(III)Z"⟩ ∈ WG := wg (i := 442) (by decide +kernel) rfl
set_option maxRecDepth 100000 in
theorem w_409 : Cond.code ⟨"PlaceMoves", "isBarred", "(III)Z"⟩ prog_1_method_30_code 6 (some FieldType.boolean) ∈ WG := wg (i := 443) rfl rfl
theorem w_410 : Cond.methodLink "PlaceMoves" 213 ⟨"PlaceMoves$QuietTimes", "covers", "(II)Z"⟩ ∈ WG := wg (i := 444) (by decide +kernel) rfl
theorem w_411 : Cond.instanceMethod ⟨"PlaceMoves$QuietTimes", "covers", "(II)Z"⟩ ∈ WG := wg (i := 445) (by decide +kernel) rfl
theorem w_412 : Cond.selects "PlaceMoves$QuietTimes" ⟨"PlaceMoves$QuietTimes", "covers", "(II)Z"⟩ ⟨"PlaceMoves$QuietTimes", "covers", "(II)Z"⟩ ∈ WG := wg (i := 446) (by decide +kernel) rfl
set_option maxRecDepth 100000 in
theorem w_413 : Cond.code ⟨"PlaceMoves$QuietTimes", "covers", "(II)Z"⟩ prog_5_method_3_code 3 (some FieldType.boolean) ∈ WG := wg (i := 447) rfl rfl
theorem w_414 : Cond.methodLink "PlaceMoves" 216 ⟨"PlaceMoves$Places", "liesIn", "(II)Z"⟩ ∈ WG := wg (i := 448) (by decide +kernel) rfl
theorem w_415 : Cond.instanceMethod ⟨"PlaceMoves$Places", "liesIn", "(II)Z"⟩ ∈ WG := wg (i := 449) (by decide +kernel) rfl
theorem w_416 : Cond.selects "PlaceMoves$Places" ⟨"PlaceMoves$Places", "liesIn", "(II)Z"⟩ ⟨"PlaceMoves$Places", "liesIn", "(II)Z"⟩ ∈ WG := wg (i := 450) (by decide +kernel) rfl
set_option maxRecDepth 100000 in
theorem w_417 : Cond.code ⟨"PlaceMoves$Places", "liesIn", "(II)Z"⟩ prog_3_method_4_code 3 (some FieldType.boolean) ∈ WG := wg (i := 451) rfl rfl
theorem w_418 : Cond.methodLink "PlaceMoves" 112 ⟨"PlaceMoves", "comesByRow", "(IIII)Z"⟩ ∈ WG := wg (i := 452) (by decide +kernel) rfl
theorem w_420 : Cond.instanceMethod ⟨"PlaceMoves", "comesByRow", "(IIII)Z"⟩ ∈ WG := wg (i := 454) (by decide +kernel) rfl
set_option maxRecDepth 100000 in
theorem w_421 : Cond.code ⟨"PlaceMoves", "comesByRow", "(IIII)Z"⟩ prog_1_method_31_code 6 (some FieldType.boolean) ∈ WG := wg (i := 455) rfl rfl
theorem w_422 : Cond.methodLink "PlaceMoves" 219 ⟨"PlaceMoves$Rows", "add", "(IIII)V"⟩ ∈ WG := wg (i := 456) (by decide +kernel) rfl
theorem w_423 : Cond.instanceMethod ⟨"PlaceMoves$Rows", "add", "(IIII)V"⟩ ∈ WG := wg (i := 457) (by decide +kernel) rfl
theorem w_424 : Cond.selects "PlaceMoves$Rows" ⟨"PlaceMoves$Rows", "add", "(IIII)V"⟩ ⟨"PlaceMoves$Rows", "add", "(IIII)V"⟩ ∈ WG := wg (i := 458) (by decide +kernel) rfl
set_option maxRecDepth 100000 in
theorem w_425 : Cond.code ⟨"PlaceMoves$Rows", "add", "(IIII)V"⟩ prog_6_method_3_code 6 none ∈ WG := wg (i := 459) rfl rfl
theorem w_426 : Cond.methodLink "PlaceMoves" 168 ⟨"PlaceMoves", "loadsHold", "(III)Z"⟩ ∈ WG := wg (i := 460) (by decide +kernel) rfl
theorem w_428 : Cond.instanceMethod ⟨"PlaceMoves", "loadsHold", "(III)Z"⟩ ∈ WG := wg (i := 462) (by decide +kernel) rfl
set_option maxRecDepth 100000 in
theorem w_429 : Cond.code ⟨"PlaceMoves", "loadsHold", "(III)Z"⟩ prog_1_method_32_code 6 (some FieldType.boolean) ∈ WG := wg (i := 463) rfl rfl
theorem w_430 : Cond.methodLink "PlaceMoves" 222 ⟨"PlaceMoves", "loadsHoldAt", "(II)Z"⟩ ∈ WG := wg (i := 464) (by decide +kernel) rfl
theorem w_432 : Cond.instanceMethod ⟨"PlaceMoves", "loadsHoldAt", "(II)Z"⟩ ∈ WG := wg (i := 466) (by decide +kernel) rfl
set_option maxRecDepth 100000 in
theorem w_433 : Cond.code ⟨"PlaceMoves", "loadsHoldAt", "(II)Z"⟩ prog_1_method_33_code 4 (some FieldType.boolean) ∈ WG := wg (i := 467) rfl rfl
theorem w_434 : Cond.methodLink "PlaceMoves" 174 ⟨"PlaceMoves", "weighAt", "(I)V"⟩ ∈ WG := wg (i := 468) (by decide +kernel) rfl
theorem w_436 : Cond.instanceMethod ⟨"PlaceMoves", "weighAt", "(I)V"⟩ ∈ WG := wg (i := 470) (by decide +kernel) rfl
set_option maxRecDepth 100000 in
theorem w_437 : Cond.code ⟨"PlaceMoves", "weighAt", "(I)V"⟩ prog_1_method_34_code 3 none ∈ WG := wg (i := 471) rfl rfl
theorem w_438 : Cond.methodLink "PlaceMoves" 231 ⟨"PlaceMoves$Places", "around", "(I)I"⟩ ∈ WG := wg (i := 472) (by decide +kernel) rfl
theorem w_439 : Cond.methodLink "PlaceMoves" 234 ⟨"PlaceMoves$Plans", "covers", "(II)Z"⟩ ∈ WG := wg (i := 473) (by decide +kernel) rfl
theorem w_440 : Cond.instanceMethod ⟨"PlaceMoves$Plans", "covers", "(II)Z"⟩ ∈ WG := wg (i := 474) (by decide +kernel) rfl
theorem w_441 : Cond.selects "PlaceMoves$Plans" ⟨"PlaceMoves$Plans", "covers", "(II)Z"⟩ ⟨"PlaceMoves$Plans", "covers", "(II)Z"⟩ ∈ WG := wg (i := 475) (by decide +kernel) rfl
set_option maxRecDepth 100000 in
theorem w_442 : Cond.code ⟨"PlaceMoves$Plans", "covers", "(II)Z"⟩ prog_4_method_4_code 3 (some FieldType.boolean) ∈ WG := wg (i := 476) rfl rfl
theorem w_443 : Cond.methodLink "PlaceMoves" 177 ⟨"PlaceMoves", "weightOf", "(I)I"⟩ ∈ WG := wg (i := 477) (by decide +kernel) rfl
theorem w_445 : Cond.instanceMethod ⟨"PlaceMoves", "weightOf", "(I)I"⟩ ∈ WG := wg (i := 479) (by decide +kernel) rfl
set_option maxRecDepth 100000 in
theorem w_446 : Cond.code ⟨"PlaceMoves", "weightOf", "(I)I"⟩ prog_1_method_35_code 4 (some FieldType.int) ∈ WG := wg (i := 480) rfl rfl
theorem w_447 : Cond.methodLink "PlaceMoves" 220 ⟨"PlaceMoves$Rows", "dropNewest", "(I)V"⟩ ∈ WG := wg (i := 481) (by decide +kernel) rfl
theorem w_448 : Cond.instanceMethod ⟨"PlaceMoves$Rows", "dropNewest", "(I)V"⟩ ∈ WG := wg (i := 482) (by decide +kernel) rfl
theorem w_449 : Cond.selects "PlaceMoves$Rows" ⟨"PlaceMoves$Rows", "dropNewest", "(I)V"⟩ ⟨"PlaceMoves$Rows", "dropNewest", "(I)V"⟩ ∈ WG := wg (i := 483) (by decide +kernel) rfl
set_option maxRecDepth 100000 in
theorem w_450 : Cond.code ⟨"PlaceMoves$Rows", "dropNewest", "(I)V"⟩ prog_6_method_4_code 2 none ∈ WG := wg (i := 484) rfl rfl
theorem w_451 : Cond.methodLink "PlaceMovesLaw" 111 ⟨"PlaceMovesLaw", "into", "(LPlaceMoves;III[J)I"⟩ ∈ WG := wg (i := 485) (by decide +kernel) rfl
theorem w_452 : Cond.static ⟨"PlaceMovesLaw", "into", "(LPlaceMoves;III[J)I"⟩ ∈ WG := wg (i := 486) (by decide +kernel) rfl
theorem w_454 : Cond.methodLink "PlaceMovesLaw" 38 ⟨"PlaceMoves", "into", "(III)I"⟩ ∈ WG := wg (i := 488) (by decide +kernel) rfl
theorem w_455 : Cond.instanceMethod ⟨"PlaceMoves", "into", "(III)I"⟩ ∈ WG := wg (i := 489) (by decide +kernel) rfl
theorem w_456 : Cond.selects "PlaceMoves" ⟨"PlaceMoves", "into", "(III)I"⟩ ⟨"PlaceMoves", "into", "(III)I"⟩ ∈ WG := wg (i := 490) (by decide +kernel) rfl
set_option maxRecDepth 100000 in
theorem w_457 : Cond.code ⟨"PlaceMoves", "into", "(III)I"⟩ prog_1_method_8_code 4 (some FieldType.int) ∈ WG := wg (i := 491) rfl rfl
theorem w_458 : Cond.methodLink "PlaceMoves" 116 ⟨"PlaceMoves", "isWithin", "(III)Z"⟩ ∈ WG := wg (i := 492) (by decide +kernel) rfl
theorem w_460 : Cond.instanceMethod ⟨"PlaceMoves", "isWithin", "(III)Z"⟩ ∈ WG := wg (i := 494) (by decide +kernel) rfl
set_option maxRecDepth 100000 in
theorem w_461 : Cond.code ⟨"PlaceMoves", "isWithin", "(III)Z"⟩ prog_1_method_29_code 7 (some FieldType.boolean) ∈ WG := wg (i := 495) rfl rfl
theorem w_462 : Cond.methodLink "PlaceMoves" 119 ⟨"PlaceMoves$Things", "isSmaller", "(II)Z"⟩ ∈ WG := wg (i := 496) (by decide +kernel) rfl
theorem w_463 : Cond.instanceMethod ⟨"PlaceMoves$Things", "isSmaller", "(II)Z"⟩ ∈ WG := wg (i := 497) (by decide +kernel) rfl
theorem w_464 : Cond.selects "PlaceMoves$Things" ⟨"PlaceMoves$Things", "isSmaller", "(II)Z"⟩ ⟨"PlaceMoves$Things", "isSmaller", "(II)Z"⟩ ∈ WG := wg (i := 498) (by decide +kernel) rfl
set_option maxRecDepth 100000 in
theorem w_465 : Cond.code ⟨"PlaceMoves$Things", "isSmaller", "(II)Z"⟩ prog_7_method_3_code 3 (some FieldType.boolean) ∈ WG := wg (i := 499) rfl rfl
theorem w_466 : Cond.methodLink "PlaceMovesLaw" 115 ⟨"PlaceMovesLaw", "lost", "(LPlaceMoves;II[J)I"⟩ ∈ WG := wg (i := 500) (by decide +kernel) rfl
theorem w_467 : Cond.static ⟨"PlaceMovesLaw", "lost", "(LPlaceMoves;II[J)I"⟩ ∈ WG := wg (i := 501) (by decide +kernel) rfl
theorem w_469 : Cond.methodLink "PlaceMovesLaw" 42 ⟨"PlaceMoves", "lost", "(II)Z"⟩ ∈ WG := wg (i := 503) (by decide +kernel) rfl
theorem w_470 : Cond.instanceMethod ⟨"PlaceMoves", "lost", "(II)Z"⟩ ∈ WG := wg (i := 504) (by decide +kernel) rfl
theorem w_471 : Cond.selects "PlaceMoves" ⟨"PlaceMoves", "lost", "(II)Z"⟩ ⟨"PlaceMoves", "lost", "(II)Z"⟩ ∈ WG := wg (i := 505) (by decide +kernel) rfl
set_option maxRecDepth 100000 in
theorem w_472 : Cond.code ⟨"PlaceMoves", "lost", "(II)Z"⟩ prog_1_method_9_code 4 (some FieldType.boolean) ∈ WG := wg (i := 506) rfl rfl
theorem w_473 : Cond.methodLink "PlaceMovesLaw" 118 ⟨"PlaceMovesLaw", "where", "(LPlaceMoves;II[J)I"⟩ ∈ WG := wg (i := 507) (by decide +kernel) rfl
theorem w_474 : Cond.static ⟨"PlaceMovesLaw", "where", "(LPlaceMoves;II[J)I"⟩ ∈ WG := wg (i := 508) (by decide +kernel) rfl
theorem w_476 : Cond.methodLink "PlaceMovesLaw" 46 ⟨"PlaceMoves", "where", "(II)I"⟩ ∈ WG := wg (i := 510) (by decide +kernel) rfl
theorem w_477 : Cond.instanceMethod ⟨"PlaceMoves", "where", "(II)I"⟩ ∈ WG := wg (i := 511) (by decide +kernel) rfl
theorem w_478 : Cond.selects "PlaceMoves" ⟨"PlaceMoves", "where", "(II)I"⟩ ⟨"PlaceMoves", "where", "(II)I"⟩ ∈ WG := wg (i := 512) (by decide +kernel) rfl
set_option maxRecDepth 100000 in
theorem w_479 : Cond.code ⟨"PlaceMoves", "where", "(II)I"⟩ prog_1_method_10_code 3 (some FieldType.int) ∈ WG := wg (i := 513) rfl rfl
theorem w_480 : Cond.methodLink "PlaceMovesLaw" 121 ⟨"PlaceMovesLaw", "last", "(LPlaceMoves;I[J)I"⟩ ∈ WG := wg (i := 514) (by decide +kernel) rfl
theorem w_481 : Cond.static ⟨"PlaceMovesLaw", "last", "(LPlaceMoves;I[J)I"⟩ ∈ WG := wg (i := 515) (by decide +kernel) rfl
theorem w_483 : Cond.methodLink "PlaceMovesLaw" 49 ⟨"PlaceMoves", "last", "(I)I"⟩ ∈ WG := wg (i := 517) (by decide +kernel) rfl
theorem w_484 : Cond.instanceMethod ⟨"PlaceMoves", "last", "(I)I"⟩ ∈ WG := wg (i := 518) (by decide +kernel) rfl
theorem w_485 : Cond.selects "PlaceMoves" ⟨"PlaceMoves", "last", "(I)I"⟩ ⟨"PlaceMoves", "last", "(I)I"⟩ ∈ WG := wg (i := 519) (by decide +kernel) rfl
set_option maxRecDepth 100000 in
theorem w_486 : Cond.code ⟨"PlaceMoves", "last", "(I)I"⟩ prog_1_method_11_code 5 (some FieldType.int) ∈ WG := wg (i := 520) rfl rfl
theorem w_487 : Cond.methodLink "PlaceMoves" 129 ⟨"PlaceMoves", "standsSince", "(II)I"⟩ ∈ WG := wg (i := 521) (by decide +kernel) rfl
theorem w_489 : Cond.instanceMethod ⟨"PlaceMoves", "standsSince", "(II)I"⟩ ∈ WG := wg (i := 523) (by decide +kernel) rfl
set_option maxRecDepth 100000 in
theorem w_490 : Cond.code ⟨"PlaceMoves", "standsSince", "(II)I"⟩ prog_1_method_28_code 7 (some FieldType.int) ∈ WG := wg (i := 524) rfl rfl
theorem w_491 : Cond.methodLink "PlaceMoves" 205 ⟨"java/lang/Math", "max", "(II)I"⟩ ∈ WG := wg (i := 525) (by decide +kernel) rfl
theorem w_492 : Cond.methodLink "PlaceMovesLaw" 124 ⟨"PlaceMovesLaw", "history", "(LPlaceMoves;III[J)I"⟩ ∈ WG := wg (i := 526) (by decide +kernel) rfl
theorem w_493 : Cond.static ⟨"PlaceMovesLaw", "history", "(LPlaceMoves;III[J)I"⟩ ∈ WG := wg (i := 527) (by decide +kernel) rfl
theorem w_495 : Cond.methodLink "PlaceMovesLaw" 53 ⟨"PlaceMoves", "history", "(III)I"⟩ ∈ WG := wg (i := 529) (by decide +kernel) rfl
theorem w_496 : Cond.instanceMethod ⟨"PlaceMoves", "history", "(III)I"⟩ ∈ WG := wg (i := 530) (by decide +kernel) rfl
theorem w_497 : Cond.selects "PlaceMoves" ⟨"PlaceMoves", "history", "(III)I"⟩ ⟨"PlaceMoves", "history", "(III)I"⟩ ∈ WG := wg (i := 531) (by decide +kernel) rfl
set_option maxRecDepth 100000 in
theorem w_498 : Cond.code ⟨"PlaceMoves", "history", "(III)I"⟩ prog_1_method_12_code 5 (some FieldType.int) ∈ WG := wg (i := 532) rfl rfl
theorem w_499 : Cond.methodLink "PlaceMoves" 135 ⟨"PlaceMoves$Rows", "index", "(II)I"⟩ ∈ WG := wg (i := 533) (by decide +kernel) rfl
theorem w_500 : Cond.methodLink "PlaceMovesLaw" 127 ⟨"PlaceMovesLaw", "door", "(LPlaceMoves;IIII[J)I"⟩ ∈ WG := wg (i := 534) (by decide +kernel) rfl
theorem w_501 : Cond.static ⟨"PlaceMovesLaw", "door", "(LPlaceMoves;IIII[J)I"⟩ ∈ WG := wg (i := 535) (by decide +kernel) rfl
theorem w_503 : Cond.methodLink "PlaceMovesLaw" 56 ⟨"PlaceMoves", "door", "(IIII)I"⟩ ∈ WG := wg (i := 537) (by decide +kernel) rfl
theorem w_504 : Cond.instanceMethod ⟨"PlaceMoves", "door", "(IIII)I"⟩ ∈ WG := wg (i := 538) (by decide +kernel) rfl
theorem w_505 : Cond.selects "PlaceMoves" ⟨"PlaceMoves", "door", "(IIII)I"⟩ ⟨"PlaceMoves", "door", "(IIII)I"⟩ ∈ WG := wg (i := 539) (by decide +kernel) rfl
set_option maxRecDepth 100000 in
theorem w_506 : Cond.code ⟨"PlaceMoves", "door", "(IIII)I"⟩ prog_1_method_13_code 5 (some FieldType.int) ∈ WG := wg (i := 540) rfl rfl
theorem w_508 : Cond.methodLink "PlaceMoves" 152 ⟨"PlaceMoves$Doors", "add", "(IIII)I"⟩ ∈ WG := wg (i := 542) (by decide +kernel) rfl
theorem w_509 : Cond.instanceMethod ⟨"PlaceMoves$Doors", "add", "(IIII)I"⟩ ∈ WG := wg (i := 543) (by decide +kernel) rfl
theorem w_510 : Cond.selects "PlaceMoves$Doors" ⟨"PlaceMoves$Doors", "add", "(IIII)I"⟩ ⟨"PlaceMoves$Doors", "add", "(IIII)I"⟩ ∈ WG := wg (i := 544) (by decide +kernel) rfl
set_option maxRecDepth 100000 in
theorem w_511 : Cond.code ⟨"PlaceMoves$Doors", "add", "(IIII)I"⟩ prog_2_method_2_code 6 (some FieldType.int) ∈ WG := wg (i := 545) rfl rfl
theorem w_512 : Cond.methodLink "PlaceMoves$Doors" 28 ⟨"java/lang/Math", "max", "(II)I"⟩ ∈ WG := wg (i := 546) (by decide +kernel) rfl
theorem w_513 : Cond.methodLink "PlaceMoves$Doors" 34 ⟨"java/lang/Math", "min", "(II)I"⟩ ∈ WG := wg (i := 547) (by decide +kernel) rfl
theorem w_514 : Cond.methodLink "PlaceMovesLaw" 130 ⟨"PlaceMovesLaw", "passes", "(LPlaceMoves;II[J)I"⟩ ∈ WG := wg (i := 548) (by decide +kernel) rfl
theorem w_515 : Cond.static ⟨"PlaceMovesLaw", "passes", "(LPlaceMoves;II[J)I"⟩ ∈ WG := wg (i := 549) (by decide +kernel) rfl
theorem w_517 : Cond.methodLink "PlaceMovesLaw" 59 ⟨"PlaceMoves", "passes", "(II)Z"⟩ ∈ WG := wg (i := 551) (by decide +kernel) rfl
theorem w_518 : Cond.instanceMethod ⟨"PlaceMoves", "passes", "(II)Z"⟩ ∈ WG := wg (i := 552) (by decide +kernel) rfl
theorem w_519 : Cond.selects "PlaceMoves" ⟨"PlaceMoves", "passes", "(II)Z"⟩ ⟨"PlaceMoves", "passes", "(II)Z"⟩ ∈ WG := wg (i := 553) (by decide +kernel) rfl
set_option maxRecDepth 100000 in
theorem w_520 : Cond.code ⟨"PlaceMoves", "passes", "(II)Z"⟩ prog_1_method_14_code 3 (some FieldType.boolean) ∈ WG := wg (i := 554) rfl rfl
theorem w_521 : Cond.methodLink "PlaceMoves" 153 ⟨"PlaceMoves", "fits", "(II)Z"⟩ ∈ WG := wg (i := 555) (by decide +kernel) rfl
theorem w_523 : Cond.instanceMethod ⟨"PlaceMoves", "fits", "(II)Z"⟩ ∈ WG := wg (i := 557) (by decide +kernel) rfl
set_option maxRecDepth 100000 in
theorem w_524 : Cond.code ⟨"PlaceMoves", "fits", "(II)Z"⟩ prog_1_method_36_code 6 (some FieldType.boolean) ∈ WG := wg (i := 558) rfl rfl
theorem w_525 : Cond.methodLink "PlaceMoves" 251 ⟨"PlaceMoves$Doors", "letsThrough", "(III)Z"⟩ ∈ WG := wg (i := 559) (by decide +kernel) rfl
theorem w_526 : Cond.instanceMethod ⟨"PlaceMoves$Doors", "letsThrough", "(III)Z"⟩ ∈ WG := wg (i := 560) (by decide +kernel) rfl
theorem w_527 : Cond.selects "PlaceMoves$Doors" ⟨"PlaceMoves$Doors", "letsThrough", "(III)Z"⟩ ⟨"PlaceMoves$Doors", "letsThrough", "(III)Z"⟩ ∈ WG := wg (i := 561) (by decide +kernel) rfl
set_option maxRecDepth 100000 in
theorem w_528 : Cond.code ⟨"PlaceMoves$Doors", "letsThrough", "(III)Z"⟩ prog_2_method_3_code 4 (some FieldType.boolean) ∈ WG := wg (i := 562) rfl rfl
theorem w_529 : Cond.methodLink "PlaceMoves$Doors" 37 ⟨"PlaceMoves$Doors", "goesTurned", "(JJJJ)Z"⟩ ∈ WG := wg (i := 563) (by decide +kernel) rfl
theorem w_530 : Cond.static ⟨"PlaceMoves$Doors", "goesTurned", "(JJJJ)Z"⟩ ∈ WG := wg (i := 564) (by decide +kernel) rfl
set_option maxRecDepth 100000 in
theorem w_531 : Cond.code ⟨"PlaceMoves$Doors", "goesTurned", "(JJJJ)Z"⟩ prog_2_method_4_code 14 (some FieldType.boolean) ∈ WG := wg (i := 565) rfl rfl
theorem w_532 : Cond.constantLong "PlaceMoves$Doors" 41 (2) ∈ WG := wg (i := 566) (by decide +kernel) rfl
theorem w_533 : Cond.methodLink "PlaceMovesLaw" 133 ⟨"PlaceMovesLaw", "way", "(LPlaceMoves;II[J)I"⟩ ∈ WG := wg (i := 567) (by decide +kernel) rfl
theorem w_534 : Cond.static ⟨"PlaceMovesLaw", "way", "(LPlaceMoves;II[J)I"⟩ ∈ WG := wg (i := 568) (by decide +kernel) rfl
theorem w_536 : Cond.methodLink "PlaceMovesLaw" 62 ⟨"PlaceMoves", "way", "(II)I"⟩ ∈ WG := wg (i := 570) (by decide +kernel) rfl
theorem w_537 : Cond.instanceMethod ⟨"PlaceMoves", "way", "(II)I"⟩ ∈ WG := wg (i := 571) (by decide +kernel) rfl
theorem w_538 : Cond.selects "PlaceMoves" ⟨"PlaceMoves", "way", "(II)I"⟩ ⟨"PlaceMoves", "way", "(II)I"⟩ ∈ WG := wg (i := 572) (by decide +kernel) rfl
set_option maxRecDepth 100000 in
theorem w_539 : Cond.code ⟨"PlaceMoves", "way", "(II)I"⟩ prog_1_method_15_code 4 (some FieldType.int) ∈ WG := wg (i := 573) rfl rfl
theorem w_540 : Cond.methodLink "PlaceMoves" 156 ⟨"PlaceMoves", "fittingDoors", "(I)J"⟩ ∈ WG := wg (i := 574) (by decide +kernel) rfl
theorem w_542 : Cond.instanceMethod ⟨"PlaceMoves", "fittingDoors", "(I)J"⟩ ∈ WG := wg (i := 576) (by decide +kernel) rfl
set_option maxRecDepth 100000 in
theorem w_543 : Cond.code ⟨"PlaceMoves", "fittingDoors", "(I)J"⟩ prog_1_method_37_code 5 (some FieldType.long) ∈ WG := wg (i := 577) rfl rfl
theorem w_544 : Cond.methodLink "PlaceMoves" 160 ⟨"PlaceMoves", "doorsBetween", "(IIJ)I"⟩ ∈ WG := wg (i := 578) (by decide +kernel) rfl
theorem w_546 : Cond.instanceMethod ⟨"PlaceMoves", "doorsBetween", "(IIJ)I"⟩ ∈ WG := wg (i := 580) (by decide +kernel) rfl
set_option maxRecDepth 100000 in
theorem w_547 : Cond.code ⟨"PlaceMoves", "doorsBetween", "(IIJ)I"⟩ prog_1_method_38_code 8 (some FieldType.int) ∈ WG := wg (i := 581) rfl rfl
theorem w_548 : Cond.methodLink "PlaceMoves" 254 ⟨"PlaceMoves$Doors", "spread", "(IJ)I"⟩ ∈ WG := wg (i := 582) (by decide +kernel) rfl
theorem w_549 : Cond.instanceMethod ⟨"PlaceMoves$Doors", "spread", "(IJ)I"⟩ ∈ WG := wg (i := 583) (by decide +kernel) rfl
theorem w_550 : Cond.selects "PlaceMoves$Doors" ⟨"PlaceMoves$Doors", "spread", "(IJ)I"⟩ ⟨"PlaceMoves$Doors", "spread", "(IJ)I"⟩ ∈ WG := wg (i := 584) (by decide +kernel) rfl
set_option maxRecDepth 100000 in
theorem w_551 : Cond.code ⟨"PlaceMoves$Doors", "spread", "(IJ)I"⟩ prog_2_method_5_code 7 (some FieldType.int) ∈ WG := wg (i := 585) rfl rfl
theorem w_552 : Cond.methodLink "PlaceMovesLaw" 136 ⟨"PlaceMovesLaw", "planned", "(LPlaceMoves;IIII[J)I"⟩ ∈ WG := wg (i := 586) (by decide +kernel) rfl
theorem w_553 : Cond.static ⟨"PlaceMovesLaw", "planned", "(LPlaceMoves;IIII[J)I"⟩ ∈ WG := wg (i := 587) (by decide +kernel) rfl
theorem w_555 : Cond.methodLink "PlaceMovesLaw" 65 ⟨"PlaceMoves", "planned", "(IIII)I"⟩ ∈ WG := wg (i := 589) (by decide +kernel) rfl
theorem w_556 : Cond.instanceMethod ⟨"PlaceMoves", "planned", "(IIII)I"⟩ ∈ WG := wg (i := 590) (by decide +kernel) rfl
theorem w_557 : Cond.selects "PlaceMoves" ⟨"PlaceMoves", "planned", "(IIII)I"⟩ ⟨"PlaceMoves", "planned", "(IIII)I"⟩ ∈ WG := wg (i := 591) (by decide +kernel) rfl
set_option maxRecDepth 100000 in
theorem w_558 : Cond.code ⟨"PlaceMoves", "planned", "(IIII)I"⟩ prog_1_method_16_code 5 (some FieldType.int) ∈ WG := wg (i := 592) rfl rfl
theorem w_559 : Cond.methodLink "PlaceMoves" 165 ⟨"PlaceMoves$Plans", "add", "(IIII)V"⟩ ∈ WG := wg (i := 593) (by decide +kernel) rfl
theorem w_560 : Cond.instanceMethod ⟨"PlaceMoves$Plans", "add", "(IIII)V"⟩ ∈ WG := wg (i := 594) (by decide +kernel) rfl
theorem w_561 : Cond.selects "PlaceMoves$Plans" ⟨"PlaceMoves$Plans", "add", "(IIII)V"⟩ ⟨"PlaceMoves$Plans", "add", "(IIII)V"⟩ ∈ WG := wg (i := 595) (by decide +kernel) rfl
set_option maxRecDepth 100000 in
theorem w_562 : Cond.code ⟨"PlaceMoves$Plans", "add", "(IIII)V"⟩ prog_4_method_2_code 5 none ∈ WG := wg (i := 596) rfl rfl
theorem w_563 : Cond.methodLink "PlaceMoves" 171 ⟨"PlaceMoves$Plans", "dropNewest", "()V"⟩ ∈ WG := wg (i := 597) (by decide +kernel) rfl
theorem w_564 : Cond.instanceMethod ⟨"PlaceMoves$Plans", "dropNewest", "()V"⟩ ∈ WG := wg (i := 598) (by decide +kernel) rfl
theorem w_565 : Cond.selects "PlaceMoves$Plans" ⟨"PlaceMoves$Plans", "dropNewest", "()V"⟩ ⟨"PlaceMoves$Plans", "dropNewest", "()V"⟩ ∈ WG := wg (i := 599) (by decide +kernel) rfl
set_option maxRecDepth 100000 in
theorem w_566 : Cond.code ⟨"PlaceMoves$Plans", "dropNewest", "()V"⟩ prog_4_method_3_code 1 none ∈ WG := wg (i := 600) rfl rfl
theorem w_567 : Cond.methodLink "PlaceMovesLaw" 139 ⟨"PlaceMovesLaw", "used", "(LPlaceMoves;II[J)I"⟩ ∈ WG := wg (i := 601) (by decide +kernel) rfl
theorem w_568 : Cond.static ⟨"PlaceMovesLaw", "used", "(LPlaceMoves;II[J)I"⟩ ∈ WG := wg (i := 602) (by decide +kernel) rfl
theorem w_570 : Cond.methodLink "PlaceMovesLaw" 68 ⟨"PlaceMoves", "used", "(II)I"⟩ ∈ WG := wg (i := 604) (by decide +kernel) rfl
theorem w_571 : Cond.instanceMethod ⟨"PlaceMoves", "used", "(II)I"⟩ ∈ WG := wg (i := 605) (by decide +kernel) rfl
theorem w_572 : Cond.selects "PlaceMoves" ⟨"PlaceMoves", "used", "(II)I"⟩ ⟨"PlaceMoves", "used", "(II)I"⟩ ∈ WG := wg (i := 606) (by decide +kernel) rfl
set_option maxRecDepth 100000 in
theorem w_573 : Cond.code ⟨"PlaceMoves", "used", "(II)I"⟩ prog_1_method_17_code 3 (some FieldType.int) ∈ WG := wg (i := 607) rfl rfl
theorem w_574 : Cond.methodLink "PlaceMovesLaw" 142 ⟨"PlaceMovesLaw", "quiet", "(LPlaceMoves;III)I"⟩ ∈ WG := wg (i := 608) (by decide +kernel) rfl
theorem w_575 : Cond.static ⟨"PlaceMovesLaw", "quiet", "(LPlaceMoves;III)I"⟩ ∈ WG := wg (i := 609) (by decide +kernel) rfl
theorem w_577 : Cond.methodLink "PlaceMovesLaw" 71 ⟨"PlaceMoves", "quiet", "(III)V"⟩ ∈ WG := wg (i := 611) (by decide +kernel) rfl
theorem w_578 : Cond.instanceMethod ⟨"PlaceMoves", "quiet", "(III)V"⟩ ∈ WG := wg (i := 612) (by decide +kernel) rfl
theorem w_579 : Cond.selects "PlaceMoves" ⟨"PlaceMoves", "quiet", "(III)V"⟩ ⟨"PlaceMoves", "quiet", "(III)V"⟩ ∈ WG := wg (i := 613) (by decide +kernel) rfl
set_option maxRecDepth 100000 in
theorem w_580 : Cond.code ⟨"PlaceMoves", "quiet", "(III)V"⟩ prog_1_method_18_code 4 none ∈ WG := wg (i := 614) rfl rfl
theorem w_582 : Cond.methodLink "PlaceMoves" 184 ⟨"PlaceMoves$QuietTimes", "add", "(III)V"⟩ ∈ WG := wg (i := 616) (by decide +kernel) rfl
theorem w_583 : Cond.instanceMethod ⟨"PlaceMoves$QuietTimes", "add", "(III)V"⟩ ∈ WG := wg (i := 617) (by decide +kernel) rfl
theorem w_584 : Cond.selects "PlaceMoves$QuietTimes" ⟨"PlaceMoves$QuietTimes", "add", "(III)V"⟩ ⟨"PlaceMoves$QuietTimes", "add", "(III)V"⟩ ∈ WG := wg (i := 618) (by decide +kernel) rfl
set_option maxRecDepth 100000 in
theorem w_585 : Cond.code ⟨"PlaceMoves$QuietTimes", "add", "(III)V"⟩ prog_5_method_2_code 4 none ∈ WG := wg (i := 619) rfl rfl
theorem w_586 : Cond.methodLink "PlaceMovesLaw" 146 ⟨"PlaceMovesLaw", "count", "(LPlaceMoves;I[J)I"⟩ ∈ WG := wg (i := 620) (by decide +kernel) rfl
theorem w_587 : Cond.static ⟨"PlaceMovesLaw", "count", "(LPlaceMoves;I[J)I"⟩ ∈ WG := wg (i := 621) (by decide +kernel) rfl
theorem w_589 : Cond.methodLink "PlaceMovesLaw" 75 ⟨"PlaceMoves", "count", "(I)I"⟩ ∈ WG := wg (i := 623) (by decide +kernel) rfl
theorem w_590 : Cond.instanceMethod ⟨"PlaceMoves", "count", "(I)I"⟩ ∈ WG := wg (i := 624) (by decide +kernel) rfl
theorem w_591 : Cond.selects "PlaceMoves" ⟨"PlaceMoves", "count", "(I)I"⟩ ⟨"PlaceMoves", "count", "(I)I"⟩ ∈ WG := wg (i := 625) (by decide +kernel) rfl
set_option maxRecDepth 100000 in
theorem w_592 : Cond.code ⟨"PlaceMoves", "count", "(I)I"⟩ prog_1_method_19_code 2 (some FieldType.int) ∈ WG := wg (i := 626) rfl rfl
theorem w_594 : Cond.classLink "PlaceMovesLaw" 79 "PlaceMovesModel" ∈ WG := wg (i := 628) (by decide +kernel) rfl
theorem w_595 : Cond.instantiable "PlaceMovesModel" 32 ∈ WG := wg (i := 629) (by decide +kernel) rfl
theorem w_596 : Cond.methodLink "PlaceMovesLaw" 81 ⟨"PlaceMovesModel", "<init>", "()V"⟩ ∈ WG := wg (i := 630) (by decide +kernel) rfl
theorem w_597 : Cond.instanceMethod ⟨"PlaceMovesModel", "<init>", "()V"⟩ ∈ WG := wg (i := 631) (by decide +kernel) rfl
set_option maxRecDepth 100000 in
theorem w_598 : Cond.code ⟨"PlaceMovesModel", "<init>", "()V"⟩ prog_9_method_1_code 1 none ∈ WG := wg (i := 632) rfl rfl
theorem w_599 : Cond.methodLink "PlaceMovesModel" 1 ⟨"java/lang/Object", "<init>", "()V"⟩ ∈ WG := wg (i := 633) (by decide +kernel) rfl
theorem w_600 : Cond.fieldLink "PlaceMovesModel" 84 "PlaceMovesModel" "thrown" "I" ∈ WG := wg (i := 634) (by decide +kernel) rfl
theorem w_601 : Cond.fieldLink "PlaceMovesModel" 145 "PlaceMovesModel" "present" "I" ∈ WG := wg (i := 635) (by decide +kernel) rfl
theorem w_602 : Cond.fieldLink "PlaceMovesModel" 87 "PlaceMovesModel" "places" "I" ∈ WG := wg (i := 636) (by decide +kernel) rfl
theorem w_603 : Cond.fieldLink "PlaceMovesModel" 7 "PlaceMovesModel" "insides" "[I" ∈ WG := wg (i := 637) (by decide +kernel) rfl
theorem w_604 : Cond.fieldLink "PlaceMovesModel" 13 "PlaceMovesModel" "loads" "[I" ∈ WG := wg (i := 638) (by decide +kernel) rfl
theorem w_605 : Cond.fieldLink "PlaceMovesModel" 90 "PlaceMovesModel" "objects" "I" ∈ WG := wg (i := 639) (by decide +kernel) rfl
theorem w_606 : Cond.fieldLink "PlaceMovesModel" 16 "PlaceMovesModel" "sizes" "[I" ∈ WG := wg (i := 640) (by decide +kernel) rfl
theorem w_607 : Cond.fieldLink "PlaceMovesModel" 19 "PlaceMovesModel" "grams" "[I" ∈ WG := wg (i := 641) (by decide +kernel) rfl
theorem w_608 : Cond.fieldLink "PlaceMovesModel" 22 "PlaceMovesModel" "needed" "[I" ∈ WG := wg (i := 642) (by decide +kernel) rfl
theorem w_609 : Cond.fieldLink "PlaceMovesModel" 25 "PlaceMovesModel" "boxes" "[Z" ∈ WG := wg (i := 643) (by decide +kernel) rfl
theorem w_610 : Cond.fieldLink "PlaceMovesModel" 29 "PlaceMovesModel" "keys" "[Z" ∈ WG := wg (i := 644) (by decide +kernel) rfl
theorem w_611 : Cond.fieldLink "PlaceMovesModel" 32 "PlaceMovesModel" "many" "[I" ∈ WG := wg (i := 645) (by decide +kernel) rfl
theorem w_612 : Cond.fieldLink "PlaceMovesModel" 35 "PlaceMovesModel" "hours" "[I" ∈ WG := wg (i := 646) (by decide +kernel) rfl
theorem w_613 : Cond.fieldLink "PlaceMovesModel" 38 "PlaceMovesModel" "kinds" "[I" ∈ WG := wg (i := 647) (by decide +kernel) rfl
theorem w_614 : Cond.fieldLink "PlaceMovesModel" 41 "PlaceMovesModel" "whats" "[I" ∈ WG := wg (i := 648) (by decide +kernel) rfl
theorem w_615 : Cond.fieldLink "PlaceMovesModel" 170 "PlaceMovesModel" "doors" "I" ∈ WG := wg (i := 649) (by decide +kernel) rfl
theorem w_616 : Cond.fieldLink "PlaceMovesModel" 44 "PlaceMovesModel" "firsts" "[I" ∈ WG := wg (i := 650) (by decide +kernel) rfl
theorem w_617 : Cond.fieldLink "PlaceMovesModel" 47 "PlaceMovesModel" "seconds" "[I" ∈ WG := wg (i := 651) (by decide +kernel) rfl
theorem w_618 : Cond.fieldLink "PlaceMovesModel" 50 "PlaceMovesModel" "widths" "[I" ∈ WG := wg (i := 652) (by decide +kernel) rfl
theorem w_619 : Cond.fieldLink "PlaceMovesModel" 53 "PlaceMovesModel" "heights" "[I" ∈ WG := wg (i := 653) (by decide +kernel) rfl
theorem w_620 : Cond.fieldLink "PlaceMovesModel" 56 "PlaceMovesModel" "far" "[I" ∈ WG := wg (i := 654) (by decide +kernel) rfl
theorem w_621 : Cond.fieldLink "PlaceMovesModel" 123 "PlaceMovesModel" "plans" "I" ∈ WG := wg (i := 655) (by decide +kernel) rfl
theorem w_622 : Cond.fieldLink "PlaceMovesModel" 59 "PlaceMovesModel" "planObjects" "[I" ∈ WG := wg (i := 656) (by decide +kernel) rfl
theorem w_623 : Cond.fieldLink "PlaceMovesModel" 62 "PlaceMovesModel" "planPlaces" "[I" ∈ WG := wg (i := 657) (by decide +kernel) rfl
theorem w_624 : Cond.fieldLink "PlaceMovesModel" 65 "PlaceMovesModel" "planFroms" "[I" ∈ WG := wg (i := 658) (by decide +kernel) rfl
theorem w_625 : Cond.fieldLink "PlaceMovesModel" 68 "PlaceMovesModel" "planTos" "[I" ∈ WG := wg (i := 659) (by decide +kernel) rfl
theorem w_626 : Cond.fieldLink "PlaceMovesModel" 142 "PlaceMovesModel" "quiets" "I" ∈ WG := wg (i := 660) (by decide +kernel) rfl
theorem w_627 : Cond.fieldLink "PlaceMovesModel" 71 "PlaceMovesModel" "quietPlaces" "[I" ∈ WG := wg (i := 661) (by decide +kernel) rfl
theorem w_628 : Cond.fieldLink "PlaceMovesModel" 74 "PlaceMovesModel" "quietFroms" "[I" ∈ WG := wg (i := 662) (by decide +kernel) rfl
theorem w_629 : Cond.fieldLink "PlaceMovesModel" 77 "PlaceMovesModel" "quietTos" "[I" ∈ WG := wg (i := 663) (by decide +kernel) rfl
theorem w_630 : Cond.fieldLink "PlaceMovesModel" 80 "PlaceMovesModel" "thought" "I" ∈ WG := wg (i := 664) (by decide +kernel) rfl
theorem w_631 : Cond.fieldLink "PlaceMovesModel" 116 "PlaceMovesModel" "thoughtPlace" "I" ∈ WG := wg (i := 665) (by decide +kernel) rfl
theorem w_632 : Cond.lays "PlaceMovesModel" "PlaceMovesModel" "thrown" "I" ∈ WG := wg (i := 666) (by decide +kernel) rfl
theorem w_634 : Cond.lays "PlaceMovesModel" "PlaceMovesModel" "present" "I" ∈ WG := wg (i := 668) (by decide +kernel) rfl
theorem w_636 : Cond.lays "PlaceMovesModel" "PlaceMovesModel" "places" "I" ∈ WG := wg (i := 670) (by decide +kernel) rfl
theorem w_638 : Cond.laysFinal "PlaceMovesModel" "PlaceMovesModel" "insides" "[I" ∈ WG := wg (i := 672) (by decide +kernel) rfl
theorem w_640 : Cond.laysFinal "PlaceMovesModel" "PlaceMovesModel" "loads" "[I" ∈ WG := wg (i := 674) (by decide +kernel) rfl
theorem w_642 : Cond.lays "PlaceMovesModel" "PlaceMovesModel" "objects" "I" ∈ WG := wg (i := 676) (by decide +kernel) rfl
theorem w_644 : Cond.laysFinal "PlaceMovesModel" "PlaceMovesModel" "sizes" "[I" ∈ WG := wg (i := 678) (by decide +kernel) rfl
theorem w_646 : Cond.laysFinal "PlaceMovesModel" "PlaceMovesModel" "grams" "[I" ∈ WG := wg (i := 680) (by decide +kernel) rfl
theorem w_648 : Cond.laysFinal "PlaceMovesModel" "PlaceMovesModel" "needed" "[I" ∈ WG := wg (i := 682) (by decide +kernel) rfl
theorem w_650 : Cond.laysFinal "PlaceMovesModel" "PlaceMovesModel" "boxes" "[Z" ∈ WG := wg (i := 684) (by decide +kernel) rfl
theorem w_652 : Cond.laysFinal "PlaceMovesModel" "PlaceMovesModel" "keys" "[Z" ∈ WG := wg (i := 686) (by decide +kernel) rfl
theorem w_654 : Cond.laysFinal "PlaceMovesModel" "PlaceMovesModel" "many" "[I" ∈ WG := wg (i := 688) (by decide +kernel) rfl
theorem w_656 : Cond.laysFinal "PlaceMovesModel" "PlaceMovesModel" "hours" "[I" ∈ WG := wg (i := 690) (by decide +kernel) rfl
theorem w_658 : Cond.laysFinal "PlaceMovesModel" "PlaceMovesModel" "kinds" "[I" ∈ WG := wg (i := 692) (by decide +kernel) rfl
theorem w_660 : Cond.laysFinal "PlaceMovesModel" "PlaceMovesModel" "whats" "[I" ∈ WG := wg (i := 694) (by decide +kernel) rfl
theorem w_662 : Cond.lays "PlaceMovesModel" "PlaceMovesModel" "doors" "I" ∈ WG := wg (i := 696) (by decide +kernel) rfl
theorem w_664 : Cond.laysFinal "PlaceMovesModel" "PlaceMovesModel" "firsts" "[I" ∈ WG := wg (i := 698) (by decide +kernel) rfl
theorem w_666 : Cond.laysFinal "PlaceMovesModel" "PlaceMovesModel" "seconds" "[I" ∈ WG := wg (i := 700) (by decide +kernel) rfl
theorem w_668 : Cond.laysFinal "PlaceMovesModel" "PlaceMovesModel" "widths" "[I" ∈ WG := wg (i := 702) (by decide +kernel) rfl
theorem w_670 : Cond.laysFinal "PlaceMovesModel" "PlaceMovesModel" "heights" "[I" ∈ WG := wg (i := 704) (by decide +kernel) rfl
theorem w_672 : Cond.laysFinal "PlaceMovesModel" "PlaceMovesModel" "far" "[I" ∈ WG := wg (i := 706) (by decide +kernel) rfl
theorem w_674 : Cond.lays "PlaceMovesModel" "PlaceMovesModel" "plans" "I" ∈ WG := wg (i := 708) (by decide +kernel) rfl
theorem w_676 : Cond.laysFinal "PlaceMovesModel" "PlaceMovesModel" "planObjects" "[I" ∈ WG := wg (i := 710) (by decide +kernel) rfl
theorem w_678 : Cond.laysFinal "PlaceMovesModel" "PlaceMovesModel" "planPlaces" "[I" ∈ WG := wg (i := 712) (by decide +kernel) rfl
theorem w_680 : Cond.laysFinal "PlaceMovesModel" "PlaceMovesModel" "planFroms" "[I" ∈ WG := wg (i := 714) (by decide +kernel) rfl
theorem w_682 : Cond.laysFinal "PlaceMovesModel" "PlaceMovesModel" "planTos" "[I" ∈ WG := wg (i := 716) (by decide +kernel) rfl
theorem w_684 : Cond.lays "PlaceMovesModel" "PlaceMovesModel" "quiets" "I" ∈ WG := wg (i := 718) (by decide +kernel) rfl
theorem w_686 : Cond.laysFinal "PlaceMovesModel" "PlaceMovesModel" "quietPlaces" "[I" ∈ WG := wg (i := 720) (by decide +kernel) rfl
theorem w_688 : Cond.laysFinal "PlaceMovesModel" "PlaceMovesModel" "quietFroms" "[I" ∈ WG := wg (i := 722) (by decide +kernel) rfl
theorem w_690 : Cond.laysFinal "PlaceMovesModel" "PlaceMovesModel" "quietTos" "[I" ∈ WG := wg (i := 724) (by decide +kernel) rfl
theorem w_692 : Cond.lays "PlaceMovesModel" "PlaceMovesModel" "thought" "I" ∈ WG := wg (i := 726) (by decide +kernel) rfl
theorem w_694 : Cond.lays "PlaceMovesModel" "PlaceMovesModel" "thoughtPlace" "I" ∈ WG := wg (i := 728) (by decide +kernel) rfl
theorem w_696 : Cond.superclass "PlaceMovesModel" "java/lang/Object" ∈ WG := wg (i := 730) (by decide +kernel) rfl
theorem w_697 : Cond.methodLink "PlaceMovesLaw" 88 ⟨"PlaceMovesModel", "thrown", "()I"⟩ ∈ WG := wg (i := 731) (by decide +kernel) rfl
theorem w_698 : Cond.instanceMethod ⟨"PlaceMovesModel", "thrown", "()I"⟩ ∈ WG := wg (i := 732) (by decide +kernel) rfl
theorem w_699 : Cond.selects "PlaceMovesModel" ⟨"PlaceMovesModel", "thrown", "()I"⟩ ⟨"PlaceMovesModel", "thrown", "()I"⟩ ∈ WG := wg (i := 733) (by decide +kernel) rfl
set_option maxRecDepth 100000 in
theorem w_700 : Cond.code ⟨"PlaceMovesModel", "thrown", "()I"⟩ prog_9_method_2_code 1 (some FieldType.int) ∈ WG := wg (i := 734) rfl rfl
theorem w_701 : Cond.methodLink "PlaceMovesLaw" 87 ⟨"PlaceMovesModel", "place", "(II)I"⟩ ∈ WG := wg (i := 735) (by decide +kernel) rfl
theorem w_702 : Cond.instanceMethod ⟨"PlaceMovesModel", "place", "(II)I"⟩ ∈ WG := wg (i := 736) (by decide +kernel) rfl
theorem w_703 : Cond.selects "PlaceMovesModel" ⟨"PlaceMovesModel", "place", "(II)I"⟩ ⟨"PlaceMovesModel", "place", "(II)I"⟩ ∈ WG := wg (i := 737) (by decide +kernel) rfl
set_option maxRecDepth 100000 in
theorem w_704 : Cond.code ⟨"PlaceMovesModel", "place", "(II)I"⟩ prog_9_method_8_code 3 (some FieldType.int) ∈ WG := wg (i := 738) rfl rfl
theorem w_705 : Cond.methodLink "PlaceMovesModel" 93 ⟨"PlaceMovesModel", "isPlace", "(I)Z"⟩ ∈ WG := wg (i := 739) (by decide +kernel) rfl
theorem w_707 : Cond.instanceMethod ⟨"PlaceMovesModel", "isPlace", "(I)Z"⟩ ∈ WG := wg (i := 741) (by decide +kernel) rfl
set_option maxRecDepth 100000 in
theorem w_708 : Cond.code ⟨"PlaceMovesModel", "isPlace", "(I)Z"⟩ prog_9_method_5_code 2 (some FieldType.boolean) ∈ WG := wg (i := 742) rfl rfl
theorem w_709 : Cond.constant "PlaceMovesModel" 97 (1000000000) ∈ WG := wg (i := 743) (by decide +kernel) rfl
theorem w_710 : Cond.methodLink "PlaceMovesModel" 98 ⟨"PlaceMovesModel", "within", "(III)Z"⟩ ∈ WG := wg (i := 744) (by decide +kernel) rfl
theorem w_711 : Cond.static ⟨"PlaceMovesModel", "within", "(III)Z"⟩ ∈ WG := wg (i := 745) (by decide +kernel) rfl
set_option maxRecDepth 100000 in
theorem w_712 : Cond.code ⟨"PlaceMovesModel", "within", "(III)Z"⟩ prog_9_method_4_code 3 (some FieldType.boolean) ∈ WG := wg (i := 746) rfl rfl
theorem w_713 : Cond.methodLink "PlaceMovesModel" 102 ⟨"PlaceMovesModel", "goes", "(ZZZ)Z"⟩ ∈ WG := wg (i := 747) (by decide +kernel) rfl
theorem w_715 : Cond.instanceMethod ⟨"PlaceMovesModel", "goes", "(ZZZ)Z"⟩ ∈ WG := wg (i := 749) (by decide +kernel) rfl
set_option maxRecDepth 100000 in
theorem w_716 : Cond.code ⟨"PlaceMovesModel", "goes", "(ZZZ)Z"⟩ prog_9_method_3_code 4 (some FieldType.boolean) ∈ WG := wg (i := 750) rfl rfl
theorem w_717 : Cond.methodLink "PlaceMovesLaw" 95 ⟨"PlaceMovesModel", "object", "(IIII)I"⟩ ∈ WG := wg (i := 751) (by decide +kernel) rfl
theorem w_718 : Cond.instanceMethod ⟨"PlaceMovesModel", "object", "(IIII)I"⟩ ∈ WG := wg (i := 752) (by decide +kernel) rfl
theorem w_719 : Cond.selects "PlaceMovesModel" ⟨"PlaceMovesModel", "object", "(IIII)I"⟩ ⟨"PlaceMovesModel", "object", "(IIII)I"⟩ ∈ WG := wg (i := 753) (by decide +kernel) rfl
set_option maxRecDepth 100000 in
theorem w_720 : Cond.code ⟨"PlaceMovesModel", "object", "(IIII)I"⟩ prog_9_method_10_code 5 (some FieldType.int) ∈ WG := wg (i := 754) rfl rfl
theorem w_721 : Cond.methodLink "PlaceMovesModel" 106 ⟨"PlaceMovesModel", "isSize", "(I)Z"⟩ ∈ WG := wg (i := 755) (by decide +kernel) rfl
theorem w_722 : Cond.static ⟨"PlaceMovesModel", "isSize", "(I)Z"⟩ ∈ WG := wg (i := 756) (by decide +kernel) rfl
set_option maxRecDepth 100000 in
theorem w_723 : Cond.code ⟨"PlaceMovesModel", "isSize", "(I)Z"⟩ prog_9_method_9_code 1 (some FieldType.boolean) ∈ WG := wg (i := 757) rfl rfl
theorem w_724 : Cond.constant "PlaceMovesModel" 109 (1000000) ∈ WG := wg (i := 758) (by decide +kernel) rfl
theorem w_725 : Cond.methodLink "PlaceMovesLaw" 98 ⟨"PlaceMovesModel", "keys", "(II)I"⟩ ∈ WG := wg (i := 759) (by decide +kernel) rfl
theorem w_726 : Cond.instanceMethod ⟨"PlaceMovesModel", "keys", "(II)I"⟩ ∈ WG := wg (i := 760) (by decide +kernel) rfl
theorem w_727 : Cond.selects "PlaceMovesModel" ⟨"PlaceMovesModel", "keys", "(II)I"⟩ ⟨"PlaceMovesModel", "keys", "(II)I"⟩ ∈ WG := wg (i := 761) (by decide +kernel) rfl
set_option maxRecDepth 100000 in
theorem w_728 : Cond.code ⟨"PlaceMovesModel", "keys", "(II)I"⟩ prog_9_method_11_code 4 (some FieldType.int) ∈ WG := wg (i := 762) rfl rfl
theorem w_729 : Cond.methodLink "PlaceMovesModel" 110 ⟨"PlaceMovesModel", "isObject", "(I)Z"⟩ ∈ WG := wg (i := 763) (by decide +kernel) rfl
theorem w_731 : Cond.instanceMethod ⟨"PlaceMovesModel", "isObject", "(I)Z"⟩ ∈ WG := wg (i := 765) (by decide +kernel) rfl
set_option maxRecDepth 100000 in
theorem w_732 : Cond.code ⟨"PlaceMovesModel", "isObject", "(I)Z"⟩ prog_9_method_6_code 2 (some FieldType.boolean) ∈ WG := wg (i := 766) rfl rfl
theorem w_733 : Cond.methodLink "PlaceMovesLaw" 102 ⟨"PlaceMovesModel", "key", "(IZ)Z"⟩ ∈ WG := wg (i := 767) (by decide +kernel) rfl
theorem w_734 : Cond.instanceMethod ⟨"PlaceMovesModel", "key", "(IZ)Z"⟩ ∈ WG := wg (i := 768) (by decide +kernel) rfl
theorem w_735 : Cond.selects "PlaceMovesModel" ⟨"PlaceMovesModel", "key", "(IZ)Z"⟩ ⟨"PlaceMovesModel", "key", "(IZ)Z"⟩ ∈ WG := wg (i := 769) (by decide +kernel) rfl
set_option maxRecDepth 100000 in
theorem w_736 : Cond.code ⟨"PlaceMovesModel", "key", "(IZ)Z"⟩ prog_9_method_12_code 4 (some FieldType.boolean) ∈ WG := wg (i := 770) rfl rfl
theorem w_737 : Cond.methodLink "PlaceMovesModel" 113 ⟨"PlaceMovesModel", "isPerson", "(I)Z"⟩ ∈ WG := wg (i := 771) (by decide +kernel) rfl
theorem w_738 : Cond.static ⟨"PlaceMovesModel", "isPerson", "(I)Z"⟩ ∈ WG := wg (i := 772) (by decide +kernel) rfl
set_option maxRecDepth 100000 in
theorem w_739 : Cond.code ⟨"PlaceMovesModel", "isPerson", "(I)Z"⟩ prog_9_method_7_code 1 (some FieldType.boolean) ∈ WG := wg (i := 773) rfl rfl
theorem w_740 : Cond.methodLink "PlaceMovesLaw" 106 ⟨"PlaceMovesModel", "box", "(I)Z"⟩ ∈ WG := wg (i := 774) (by decide +kernel) rfl
theorem w_741 : Cond.instanceMethod ⟨"PlaceMovesModel", "box", "(I)Z"⟩ ∈ WG := wg (i := 775) (by decide +kernel) rfl
theorem w_742 : Cond.selects "PlaceMovesModel" ⟨"PlaceMovesModel", "box", "(I)Z"⟩ ⟨"PlaceMovesModel", "box", "(I)Z"⟩ ∈ WG := wg (i := 776) (by decide +kernel) rfl
set_option maxRecDepth 100000 in
theorem w_743 : Cond.code ⟨"PlaceMovesModel", "box", "(I)Z"⟩ prog_9_method_13_code 3 (some FieldType.boolean) ∈ WG := wg (i := 777) rfl rfl
theorem w_744 : Cond.methodLink "PlaceMovesLaw" 110 ⟨"PlaceMovesModel", "move", "(IIIII)I"⟩ ∈ WG := wg (i := 778) (by decide +kernel) rfl
theorem w_745 : Cond.instanceMethod ⟨"PlaceMovesModel", "move", "(IIIII)I"⟩ ∈ WG := wg (i := 779) (by decide +kernel) rfl
theorem w_746 : Cond.selects "PlaceMovesModel" ⟨"PlaceMovesModel", "move", "(IIIII)I"⟩ ⟨"PlaceMovesModel", "move", "(IIIII)I"⟩ ∈ WG := wg (i := 780) (by decide +kernel) rfl
set_option maxRecDepth 100000 in
theorem w_747 : Cond.code ⟨"PlaceMovesModel", "move", "(IIIII)I"⟩ prog_9_method_24_code 7 (some FieldType.int) ∈ WG := wg (i := 781) rfl rfl
theorem w_748 : Cond.methodLink "PlaceMovesModel" 148 ⟨"PlaceMovesModel", "mayOpen", "(III)Z"⟩ ∈ WG := wg (i := 782) (by decide +kernel) rfl
theorem w_750 : Cond.instanceMethod ⟨"PlaceMovesModel", "mayOpen", "(III)Z"⟩ ∈ WG := wg (i := 784) (by decide +kernel) rfl
set_option maxRecDepth 100000 in
theorem w_751 : Cond.code ⟨"PlaceMovesModel", "mayOpen", "(III)Z"⟩ prog_9_method_23_code 4 (some FieldType.boolean) ∈ WG := wg (i := 785) rfl rfl
theorem w_752 : Cond.methodLink "PlaceMovesModel" 130 ⟨"PlaceMovesModel", "at", "(II)I"⟩ ∈ WG := wg (i := 786) (by decide +kernel) rfl
theorem w_754 : Cond.instanceMethod ⟨"PlaceMovesModel", "at", "(II)I"⟩ ∈ WG := wg (i := 788) (by decide +kernel) rfl
set_option maxRecDepth 100000 in
theorem w_755 : Cond.code ⟨"PlaceMovesModel", "at", "(II)I"⟩ prog_9_method_15_code 6 (some FieldType.int) ∈ WG := wg (i := 789) rfl rfl
theorem w_756 : Cond.methodLink "PlaceMovesModel" 119 ⟨"PlaceMovesModel", "rowAt", "(II)I"⟩ ∈ WG := wg (i := 790) (by decide +kernel) rfl
theorem w_758 : Cond.instanceMethod ⟨"PlaceMovesModel", "rowAt", "(II)I"⟩ ∈ WG := wg (i := 792) (by decide +kernel) rfl
set_option maxRecDepth 100000 in
theorem w_759 : Cond.code ⟨"PlaceMovesModel", "rowAt", "(II)I"⟩ prog_9_method_14_code 5 (some FieldType.int) ∈ WG := wg (i := 793) rfl rfl
theorem w_760 : Cond.methodLink "PlaceMovesModel" 151 ⟨"PlaceMovesModel", "barred", "(III)Z"⟩ ∈ WG := wg (i := 794) (by decide +kernel) rfl
theorem w_762 : Cond.instanceMethod ⟨"PlaceMovesModel", "barred", "(III)Z"⟩ ∈ WG := wg (i := 796) (by decide +kernel) rfl
set_option maxRecDepth 100000 in
theorem w_763 : Cond.code ⟨"PlaceMovesModel", "barred", "(III)Z"⟩ prog_9_method_21_code 5 (some FieldType.boolean) ∈ WG := wg (i := 797) rfl rfl
theorem w_764 : Cond.methodLink "PlaceMovesModel" 126 ⟨"PlaceMovesModel", "lies", "(II)Z"⟩ ∈ WG := wg (i := 798) (by decide +kernel) rfl
theorem w_766 : Cond.instanceMethod ⟨"PlaceMovesModel", "lies", "(II)Z"⟩ ∈ WG := wg (i := 800) (by decide +kernel) rfl
set_option maxRecDepth 100000 in
theorem w_767 : Cond.code ⟨"PlaceMovesModel", "lies", "(II)Z"⟩ prog_9_method_16_code 4 (some FieldType.boolean) ∈ WG := wg (i := 801) rfl rfl
theorem w_768 : Cond.methodLink "PlaceMovesModel" 154 ⟨"PlaceMovesModel", "mayCome", "(III)Z"⟩ ∈ WG := wg (i := 802) (by decide +kernel) rfl
theorem w_770 : Cond.instanceMethod ⟨"PlaceMovesModel", "mayCome", "(III)Z"⟩ ∈ WG := wg (i := 804) (by decide +kernel) rfl
set_option maxRecDepth 100000 in
theorem w_771 : Cond.code ⟨"PlaceMovesModel", "mayCome", "(III)Z"⟩ prog_9_method_20_code 6 (some FieldType.boolean) ∈ WG := wg (i := 805) rfl rfl
theorem w_772 : Cond.methodLink "PlaceMovesModel" 139 ⟨"PlaceMovesModel", "bears", "(II)Z"⟩ ∈ WG := wg (i := 806) (by decide +kernel) rfl
theorem w_774 : Cond.instanceMethod ⟨"PlaceMovesModel", "bears", "(II)Z"⟩ ∈ WG := wg (i := 808) (by decide +kernel) rfl
set_option maxRecDepth 100000 in
theorem w_775 : Cond.code ⟨"PlaceMovesModel", "bears", "(II)Z"⟩ prog_9_method_19_code 5 (some FieldType.boolean) ∈ WG := wg (i := 809) rfl rfl
theorem w_776 : Cond.methodLink "PlaceMovesModel" 136 ⟨"PlaceMovesModel", "weight", "(II)I"⟩ ∈ WG := wg (i := 810) (by decide +kernel) rfl
theorem w_778 : Cond.instanceMethod ⟨"PlaceMovesModel", "weight", "(II)I"⟩ ∈ WG := wg (i := 812) (by decide +kernel) rfl
set_option maxRecDepth 100000 in
theorem w_779 : Cond.code ⟨"PlaceMovesModel", "weight", "(II)I"⟩ prog_9_method_18_code 5 (some FieldType.int) ∈ WG := wg (i := 813) rfl rfl
theorem w_780 : Cond.methodLink "PlaceMovesModel" 133 ⟨"PlaceMovesModel", "isPlanned", "(III)Z"⟩ ∈ WG := wg (i := 814) (by decide +kernel) rfl
theorem w_782 : Cond.instanceMethod ⟨"PlaceMovesModel", "isPlanned", "(III)Z"⟩ ∈ WG := wg (i := 816) (by decide +kernel) rfl
set_option maxRecDepth 100000 in
theorem w_783 : Cond.code ⟨"PlaceMovesModel", "isPlanned", "(III)Z"⟩ prog_9_method_17_code 5 (some FieldType.boolean) ∈ WG := wg (i := 817) rfl rfl
theorem w_784 : Cond.methodLink "PlaceMovesModel" 157 ⟨"PlaceMovesModel", "row", "(IIII)V"⟩ ∈ WG := wg (i := 818) (by decide +kernel) rfl
theorem w_786 : Cond.instanceMethod ⟨"PlaceMovesModel", "row", "(IIII)V"⟩ ∈ WG := wg (i := 820) (by decide +kernel) rfl
set_option maxRecDepth 100000 in
theorem w_787 : Cond.code ⟨"PlaceMovesModel", "row", "(IIII)V"⟩ prog_9_method_22_code 6 none ∈ WG := wg (i := 821) rfl rfl
theorem w_788 : Cond.methodLink "PlaceMovesLaw" 114 ⟨"PlaceMovesModel", "into", "(III)I"⟩ ∈ WG := wg (i := 822) (by decide +kernel) rfl
theorem w_789 : Cond.instanceMethod ⟨"PlaceMovesModel", "into", "(III)I"⟩ ∈ WG := wg (i := 823) (by decide +kernel) rfl
theorem w_790 : Cond.selects "PlaceMovesModel" ⟨"PlaceMovesModel", "into", "(III)I"⟩ ⟨"PlaceMovesModel", "into", "(III)I"⟩ ∈ WG := wg (i := 824) (by decide +kernel) rfl
set_option maxRecDepth 100000 in
theorem w_791 : Cond.code ⟨"PlaceMovesModel", "into", "(III)I"⟩ prog_9_method_28_code 7 (some FieldType.int) ∈ WG := wg (i := 825) rfl rfl
theorem w_792 : Cond.methodLink "PlaceMovesModel" 164 ⟨"PlaceMovesModel", "holds", "(III)Z"⟩ ∈ WG := wg (i := 826) (by decide +kernel) rfl
theorem w_794 : Cond.instanceMethod ⟨"PlaceMovesModel", "holds", "(III)Z"⟩ ∈ WG := wg (i := 828) (by decide +kernel) rfl
set_option maxRecDepth 100000 in
theorem w_795 : Cond.code ⟨"PlaceMovesModel", "holds", "(III)Z"⟩ prog_9_method_25_code 7 (some FieldType.boolean) ∈ WG := wg (i := 829) rfl rfl
theorem w_796 : Cond.methodLink "PlaceMovesModel" 167 ⟨"PlaceMovesModel", "fits", "(II)Z"⟩ ∈ WG := wg (i := 830) (by decide +kernel) rfl
theorem w_798 : Cond.instanceMethod ⟨"PlaceMovesModel", "fits", "(II)Z"⟩ ∈ WG := wg (i := 832) (by decide +kernel) rfl
set_option maxRecDepth 100000 in
theorem w_799 : Cond.code ⟨"PlaceMovesModel", "fits", "(II)Z"⟩ prog_9_method_27_code 3 (some FieldType.boolean) ∈ WG := wg (i := 833) rfl rfl
theorem w_800 : Cond.methodLink "PlaceMovesModel" 161 ⟨"PlaceMovesModel", "size", "(II)I"⟩ ∈ WG := wg (i := 834) (by decide +kernel) rfl
theorem w_802 : Cond.instanceMethod ⟨"PlaceMovesModel", "size", "(II)I"⟩ ∈ WG := wg (i := 836) (by decide +kernel) rfl
set_option maxRecDepth 100000 in
theorem w_803 : Cond.code ⟨"PlaceMovesModel", "size", "(II)I"⟩ prog_9_method_26_code 8 (some FieldType.int) ∈ WG := wg (i := 837) rfl rfl
theorem w_804 : Cond.methodLink "PlaceMovesLaw" 117 ⟨"PlaceMovesModel", "lost", "(II)Z"⟩ ∈ WG := wg (i := 838) (by decide +kernel) rfl
theorem w_805 : Cond.instanceMethod ⟨"PlaceMovesModel", "lost", "(II)Z"⟩ ∈ WG := wg (i := 839) (by decide +kernel) rfl
theorem w_806 : Cond.selects "PlaceMovesModel" ⟨"PlaceMovesModel", "lost", "(II)Z"⟩ ⟨"PlaceMovesModel", "lost", "(II)Z"⟩ ∈ WG := wg (i := 840) (by decide +kernel) rfl
set_option maxRecDepth 100000 in
theorem w_807 : Cond.code ⟨"PlaceMovesModel", "lost", "(II)Z"⟩ prog_9_method_29_code 6 (some FieldType.boolean) ∈ WG := wg (i := 841) rfl rfl
theorem w_808 : Cond.methodLink "PlaceMovesLaw" 120 ⟨"PlaceMovesModel", "where", "(II)I"⟩ ∈ WG := wg (i := 842) (by decide +kernel) rfl
theorem w_809 : Cond.instanceMethod ⟨"PlaceMovesModel", "where", "(II)I"⟩ ∈ WG := wg (i := 843) (by decide +kernel) rfl
theorem w_810 : Cond.selects "PlaceMovesModel" ⟨"PlaceMovesModel", "where", "(II)I"⟩ ⟨"PlaceMovesModel", "where", "(II)I"⟩ ∈ WG := wg (i := 844) (by decide +kernel) rfl
set_option maxRecDepth 100000 in
theorem w_811 : Cond.code ⟨"PlaceMovesModel", "where", "(II)I"⟩ prog_9_method_30_code 3 (some FieldType.int) ∈ WG := wg (i := 845) rfl rfl
theorem w_812 : Cond.methodLink "PlaceMovesLaw" 123 ⟨"PlaceMovesModel", "last", "(I)I"⟩ ∈ WG := wg (i := 846) (by decide +kernel) rfl
theorem w_813 : Cond.instanceMethod ⟨"PlaceMovesModel", "last", "(I)I"⟩ ∈ WG := wg (i := 847) (by decide +kernel) rfl
theorem w_814 : Cond.selects "PlaceMovesModel" ⟨"PlaceMovesModel", "last", "(I)I"⟩ ⟨"PlaceMovesModel", "last", "(I)I"⟩ ∈ WG := wg (i := 848) (by decide +kernel) rfl
set_option maxRecDepth 100000 in
theorem w_815 : Cond.code ⟨"PlaceMovesModel", "last", "(I)I"⟩ prog_9_method_31_code 7 (some FieldType.int) ∈ WG := wg (i := 849) rfl rfl
theorem w_816 : Cond.methodLink "PlaceMovesLaw" 126 ⟨"PlaceMovesModel", "history", "(III)I"⟩ ∈ WG := wg (i := 850) (by decide +kernel) rfl
theorem w_817 : Cond.instanceMethod ⟨"PlaceMovesModel", "history", "(III)I"⟩ ∈ WG := wg (i := 851) (by decide +kernel) rfl
theorem w_818 : Cond.selects "PlaceMovesModel" ⟨"PlaceMovesModel", "history", "(III)I"⟩ ⟨"PlaceMovesModel", "history", "(III)I"⟩ ∈ WG := wg (i := 852) (by decide +kernel) rfl
set_option maxRecDepth 100000 in
theorem w_819 : Cond.code ⟨"PlaceMovesModel", "history", "(III)I"⟩ prog_9_method_32_code 5 (some FieldType.int) ∈ WG := wg (i := 853) rfl rfl
theorem w_820 : Cond.methodLink "PlaceMovesLaw" 129 ⟨"PlaceMovesModel", "door", "(IIII)I"⟩ ∈ WG := wg (i := 854) (by decide +kernel) rfl
theorem w_821 : Cond.instanceMethod ⟨"PlaceMovesModel", "door", "(IIII)I"⟩ ∈ WG := wg (i := 855) (by decide +kernel) rfl
theorem w_822 : Cond.selects "PlaceMovesModel" ⟨"PlaceMovesModel", "door", "(IIII)I"⟩ ⟨"PlaceMovesModel", "door", "(IIII)I"⟩ ∈ WG := wg (i := 856) (by decide +kernel) rfl
set_option maxRecDepth 100000 in
theorem w_823 : Cond.code ⟨"PlaceMovesModel", "door", "(IIII)I"⟩ prog_9_method_33_code 5 (some FieldType.int) ∈ WG := wg (i := 857) rfl rfl
theorem w_824 : Cond.methodLink "PlaceMovesLaw" 132 ⟨"PlaceMovesModel", "passes", "(II)Z"⟩ ∈ WG := wg (i := 858) (by decide +kernel) rfl
theorem w_825 : Cond.instanceMethod ⟨"PlaceMovesModel", "passes", "(II)Z"⟩ ∈ WG := wg (i := 859) (by decide +kernel) rfl
theorem w_826 : Cond.selects "PlaceMovesModel" ⟨"PlaceMovesModel", "passes", "(II)Z"⟩ ⟨"PlaceMovesModel", "passes", "(II)Z"⟩ ∈ WG := wg (i := 860) (by decide +kernel) rfl
set_option maxRecDepth 100000 in
theorem w_827 : Cond.code ⟨"PlaceMovesModel", "passes", "(II)Z"⟩ prog_9_method_36_code 3 (some FieldType.boolean) ∈ WG := wg (i := 861) rfl rfl
theorem w_828 : Cond.methodLink "PlaceMovesModel" 179 ⟨"PlaceMovesModel", "through", "(II)Z"⟩ ∈ WG := wg (i := 862) (by decide +kernel) rfl
theorem w_830 : Cond.instanceMethod ⟨"PlaceMovesModel", "through", "(II)Z"⟩ ∈ WG := wg (i := 864) (by decide +kernel) rfl
set_option maxRecDepth 100000 in
theorem w_831 : Cond.code ⟨"PlaceMovesModel", "through", "(II)Z"⟩ prog_9_method_35_code 6 (some FieldType.boolean) ∈ WG := wg (i := 865) rfl rfl
theorem w_832 : Cond.methodLink "PlaceMovesModel" 175 ⟨"PlaceMovesModel", "face", "(JJJJ)Z"⟩ ∈ WG := wg (i := 866) (by decide +kernel) rfl
theorem w_833 : Cond.static ⟨"PlaceMovesModel", "face", "(JJJJ)Z"⟩ ∈ WG := wg (i := 867) (by decide +kernel) rfl
set_option maxRecDepth 100000 in
theorem w_834 : Cond.code ⟨"PlaceMovesModel", "face", "(JJJJ)Z"⟩ prog_9_method_34_code 19 (some FieldType.boolean) ∈ WG := wg (i := 868) rfl rfl
theorem w_835 : Cond.constantLong "PlaceMovesModel" 173 (2) ∈ WG := wg (i := 869) (by decide +kernel) rfl
theorem w_836 : Cond.methodLink "PlaceMovesLaw" 135 ⟨"PlaceMovesModel", "way", "(II)I"⟩ ∈ WG := wg (i := 870) (by decide +kernel) rfl
theorem w_837 : Cond.instanceMethod ⟨"PlaceMovesModel", "way", "(II)I"⟩ ∈ WG := wg (i := 871) (by decide +kernel) rfl
theorem w_838 : Cond.selects "PlaceMovesModel" ⟨"PlaceMovesModel", "way", "(II)I"⟩ ⟨"PlaceMovesModel", "way", "(II)I"⟩ ∈ WG := wg (i := 872) (by decide +kernel) rfl
set_option maxRecDepth 100000 in
theorem w_839 : Cond.code ⟨"PlaceMovesModel", "way", "(II)I"⟩ prog_9_method_37_code 9 (some FieldType.int) ∈ WG := wg (i := 873) rfl rfl
theorem w_840 : Cond.methodLink "PlaceMovesLaw" 138 ⟨"PlaceMovesModel", "planned", "(IIII)I"⟩ ∈ WG := wg (i := 874) (by decide +kernel) rfl
theorem w_841 : Cond.instanceMethod ⟨"PlaceMovesModel", "planned", "(IIII)I"⟩ ∈ WG := wg (i := 875) (by decide +kernel) rfl
theorem w_842 : Cond.selects "PlaceMovesModel" ⟨"PlaceMovesModel", "planned", "(IIII)I"⟩ ⟨"PlaceMovesModel", "planned", "(IIII)I"⟩ ∈ WG := wg (i := 876) (by decide +kernel) rfl
set_option maxRecDepth 100000 in
theorem w_843 : Cond.code ⟨"PlaceMovesModel", "planned", "(IIII)I"⟩ prog_9_method_38_code 7 (some FieldType.int) ∈ WG := wg (i := 877) rfl rfl
theorem w_844 : Cond.methodLink "PlaceMovesLaw" 141 ⟨"PlaceMovesModel", "used", "(II)I"⟩ ∈ WG := wg (i := 878) (by decide +kernel) rfl
theorem w_845 : Cond.instanceMethod ⟨"PlaceMovesModel", "used", "(II)I"⟩ ∈ WG := wg (i := 879) (by decide +kernel) rfl
theorem w_846 : Cond.selects "PlaceMovesModel" ⟨"PlaceMovesModel", "used", "(II)I"⟩ ⟨"PlaceMovesModel", "used", "(II)I"⟩ ∈ WG := wg (i := 880) (by decide +kernel) rfl
set_option maxRecDepth 100000 in
theorem w_847 : Cond.code ⟨"PlaceMovesModel", "used", "(II)I"⟩ prog_9_method_39_code 3 (some FieldType.int) ∈ WG := wg (i := 881) rfl rfl
theorem w_848 : Cond.methodLink "PlaceMovesLaw" 145 ⟨"PlaceMovesModel", "quiet", "(III)V"⟩ ∈ WG := wg (i := 882) (by decide +kernel) rfl
theorem w_849 : Cond.instanceMethod ⟨"PlaceMovesModel", "quiet", "(III)V"⟩ ∈ WG := wg (i := 883) (by decide +kernel) rfl
theorem w_850 : Cond.selects "PlaceMovesModel" ⟨"PlaceMovesModel", "quiet", "(III)V"⟩ ⟨"PlaceMovesModel", "quiet", "(III)V"⟩ ∈ WG := wg (i := 884) (by decide +kernel) rfl
set_option maxRecDepth 100000 in
theorem w_851 : Cond.code ⟨"PlaceMovesModel", "quiet", "(III)V"⟩ prog_9_method_40_code 4 none ∈ WG := wg (i := 885) rfl rfl
theorem w_852 : Cond.methodLink "PlaceMovesLaw" 148 ⟨"PlaceMovesModel", "count", "(I)I"⟩ ∈ WG := wg (i := 886) (by decide +kernel) rfl
theorem w_853 : Cond.instanceMethod ⟨"PlaceMovesModel", "count", "(I)I"⟩ ∈ WG := wg (i := 887) (by decide +kernel) rfl
theorem w_854 : Cond.selects "PlaceMovesModel" ⟨"PlaceMovesModel", "count", "(I)I"⟩ ⟨"PlaceMovesModel", "count", "(I)I"⟩ ∈ WG := wg (i := 888) (by decide +kernel) rfl
set_option maxRecDepth 100000 in
theorem w_855 : Cond.code ⟨"PlaceMovesModel", "count", "(I)I"⟩ prog_9_method_41_code 4 (some FieldType.int) ∈ WG := wg (i := 889) rfl rfl
theorem w_856 : Cond.arrayClass FieldType.long ∈ WG := wg (i := 890) (by decide +kernel) rfl
