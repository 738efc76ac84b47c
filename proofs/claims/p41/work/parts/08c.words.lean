theorem mw_987 : Cond.castable "java/lang/ArithmeticException" "java/lang/ArithmeticException" ∈ NW := NWm (tb5 (List.mem_of_getElem? (i := 27) (by decide +kernel))) rfl
theorem mw_988 : Cond.selects "java/lang/ArithmeticException" ⟨"java/lang/Throwable", "fillInStackTrace", "(I)Ljava/lang/Throwable;"⟩ ⟨"java/lang/Throwable", "fillInStackTrace", "(I)Ljava/lang/Throwable;"⟩ ∈ LW := LWm (tb5 (List.mem_of_getElem? (i := 28) (by decide +kernel))) rfl
theorem mw_995 : Cond.methodLink RX9 343 ⟨"java/lang/ArithmeticException", "<init>", "(Ljava/lang/String;)V"⟩ ∈ LW := LWm (tb5 (List.mem_of_getElem? (i := 35) (by decide +kernel))) rfl
theorem mw_996 : Cond.instanceMethod ⟨"java/lang/ArithmeticException", "<init>", "(Ljava/lang/String;)V"⟩ ∈ LW := LWm (tb5 (List.mem_of_getElem? (i := 36) (by decide +kernel))) rfl
theorem mw_997 : Cond.code ⟨"java/lang/ArithmeticException", "<init>", "(Ljava/lang/String;)V"⟩ prog_16_method_2_code 2 none ∈ LW := LWm (tb5 (List.mem_of_getElem? (i := 37) (by decide +kernel))) rfl
theorem mw_998 : Cond.methodLink "java/lang/ArithmeticException" 7 ⟨"java/lang/RuntimeException", "<init>", "(Ljava/lang/String;)V"⟩ ∈ LW := LWm (tb5 (List.mem_of_getElem? (i := 38) (by decide +kernel))) rfl
theorem mw_1001 : Cond.methodLinkNest RX9 346 yX3_sumOfPitches RX9 ∈ NW := NWm (tb5 (List.mem_of_getElem? (i := 41) (by decide +kernel))) rfl
theorem mw_1003 : Cond.instanceMethod yX3_sumOfPitches ∈ LW := LWm (tb5 (List.mem_of_getElem? (i := 43) (by decide +kernel))) rfl
theorem mw_1004 : Cond.code yX3_sumOfPitches cX3_sumOfPitches 3 (some .int) ∈ LW := LWm (tb5 (List.mem_of_getElem? (i := 44) (by decide +kernel))) rfl
theorem mw_1005 : Cond.methodLink RL 250 yL_withPitch ∈ LW := LWm (tb5 (List.mem_of_getElem? (i := 45) (by decide +kernel))) rfl
theorem mw_1006 : Cond.static yL_withPitch ∈ LW := LWm (tb5 (List.mem_of_getElem? (i := 46) (by decide +kernel))) rfl
theorem mw_1007 : Cond.codeWith yL_withPitch cL_withPitch 3 (some .int) [(0, 5, 6, 14)] ∈ LW := LWm (tb5 (List.mem_of_getElem? (i := 47) rfl)) rfl
theorem mw_1008 : Cond.methodLink RL 74 yX9_withPitch ∈ LW := LWm (tb5 (List.mem_of_getElem? (i := 48) (by decide +kernel))) rfl
theorem mw_1009 : Cond.instanceMethod yX9_withPitch ∈ LW := LWm (tb5 (List.mem_of_getElem? (i := 49) (by decide +kernel))) rfl
theorem mw_1010 : Cond.selects RX9 yX9_withPitch yX9_withPitch ∈ LW := LWm (tb5 (List.mem_of_getElem? (i := 50) (by decide +kernel))) rfl
theorem mw_1011 : Cond.code yX9_withPitch cX9_withPitch 2 (some .int) ∈ LW := LWm (tb5 (List.mem_of_getElem? (i := 51) (by decide +kernel))) rfl
theorem mw_1012 : Cond.methodLinkNest RX9 231 yX3_dropsAt RX9 ∈ NW := NWm (tb5 (List.mem_of_getElem? (i := 52) (by decide +kernel))) rfl
theorem mw_1014 : Cond.instanceMethod yX3_dropsAt ∈ LW := LWm (tb5 (List.mem_of_getElem? (i := 54) (by decide +kernel))) rfl
theorem mw_1015 : Cond.code yX3_dropsAt cX3_dropsAt 4 (some .int) ∈ LW := LWm (tb5 (List.mem_of_getElem? (i := 55) (by decide +kernel))) rfl
theorem mw_1016 : Cond.methodLink RL 252 yX9_filledShare ∈ LW := LWm (tb5 (List.mem_of_getElem? (i := 56) (by decide +kernel))) rfl
theorem mw_1017 : Cond.instanceMethod yX9_filledShare ∈ LW := LWm (tb5 (List.mem_of_getElem? (i := 57) (by decide +kernel))) rfl
theorem mw_1018 : Cond.selects RX9 yX9_filledShare yX9_filledShare ∈ LW := LWm (tb5 (List.mem_of_getElem? (i := 58) (by decide +kernel))) rfl
theorem mw_1019 : Cond.code yX9_filledShare cX9_filledShare 2 (some .float) ∈ LW := LWm (tb5 (List.mem_of_getElem? (i := 59) (by decide +kernel))) rfl
theorem mw_1021 : Cond.methodLink RL 192 yL_ranks ∈ LW := LWm (tb5 (List.mem_of_getElem? (i := 61) (by decide +kernel))) rfl
theorem mw_1022 : Cond.static yL_ranks ∈ LW := LWm (tb5 (List.mem_of_getElem? (i := 62) (by decide +kernel))) rfl
theorem mw_1023 : Cond.code yL_ranks cL_ranks 9 (some .boolean) ∈ LW := LWm (tb5 (List.mem_of_getElem? (i := 63) rfl)) rfl
theorem mw_1024 : Cond.methodLink RL 256 yL_loudest ∈ LW := LWm (tb5 (List.mem_of_getElem? (i := 64) (by decide +kernel))) rfl
theorem mw_1025 : Cond.static yL_loudest ∈ LW := LWm (tb5 (List.mem_of_getElem? (i := 65) (by decide +kernel))) rfl
theorem mw_1026 : Cond.codeWith yL_loudest cL_loudest 3 (some .int) [(0, 5, 6, 59)] ∈ LW := LWm (tb5 (List.mem_of_getElem? (i := 66) rfl)) rfl
theorem mw_1027 : Cond.methodLink RL 77 yX9_loudest ∈ LW := LWm (tb5 (List.mem_of_getElem? (i := 67) (by decide +kernel))) rfl
theorem mw_1028 : Cond.instanceMethod yX9_loudest ∈ LW := LWm (tb5 (List.mem_of_getElem? (i := 68) (by decide +kernel))) rfl
theorem mw_1029 : Cond.selects RX9 yX9_loudest yX9_loudest ∈ LW := LWm (tb5 (List.mem_of_getElem? (i := 69) (by decide +kernel))) rfl
theorem mw_1030 : Cond.code yX9_loudest cX9_loudest 2 (some .int) ∈ LW := LWm (tb5 (List.mem_of_getElem? (i := 70) (by decide +kernel))) rfl
theorem mw_1031 : Cond.methodLinkNest RX9 234 yX7_tinAt RX9 ∈ NW := NWm (tb5 (List.mem_of_getElem? (i := 71) (by decide +kernel))) rfl
theorem mw_1033 : Cond.instanceMethod yX7_tinAt ∈ LW := LWm (tb5 (List.mem_of_getElem? (i := 73) (by decide +kernel))) rfl
theorem mw_1034 : Cond.code yX7_tinAt cX7_tinAt 3 (some .int) ∈ LW := LWm (tb5 (List.mem_of_getElem? (i := 74) (by decide +kernel))) rfl
theorem mw_1035 : Cond.methodLink RX7 15 yX7_placeOfTin ∈ LW := LWm (tb5 (List.mem_of_getElem? (i := 75) (by decide +kernel))) rfl
theorem mw_1037 : Cond.instanceMethod yX7_placeOfTin ∈ LW := LWm (tb5 (List.mem_of_getElem? (i := 77) (by decide +kernel))) rfl
theorem mw_1038 : Cond.code yX7_placeOfTin cX7_placeOfTin 4 (some .int) ∈ LW := LWm (tb5 (List.mem_of_getElem? (i := 78) (by decide +kernel))) rfl
theorem mw_1039 : Cond.methodLink RX7 19 yX7_isTinAhead ∈ LW := LWm (tb5 (List.mem_of_getElem? (i := 79) (by decide +kernel))) rfl
theorem mw_1041 : Cond.instanceMethod yX7_isTinAhead ∈ LW := LWm (tb5 (List.mem_of_getElem? (i := 81) (by decide +kernel))) rfl
theorem mw_1042 : Cond.code yX7_isTinAhead cX7_isTinAhead 5 (some .boolean) ∈ LW := LWm (tb5 (List.mem_of_getElem? (i := 82) (by decide +kernel))) rfl
theorem mw_1043 : Cond.methodLinkNest RX7 23 yX5_beatsOfTin RX9 ∈ NW := NWm (tb5 (List.mem_of_getElem? (i := 83) (by decide +kernel))) rfl
theorem mw_1044 : Cond.methodLinkNest RX7 28 yX5_keyOf RX9 ∈ NW := NWm (tb5 (List.mem_of_getElem? (i := 84) (by decide +kernel))) rfl
theorem mw_1045 : Cond.methodLink RL 258 yL_highest ∈ LW := LWm (tb5 (List.mem_of_getElem? (i := 85) (by decide +kernel))) rfl
theorem mw_1046 : Cond.static yL_highest ∈ LW := LWm (tb5 (List.mem_of_getElem? (i := 86) (by decide +kernel))) rfl
theorem mw_1047 : Cond.codeWith yL_highest cL_highest 3 (some .int) [(0, 5, 6, 59)] ∈ LW := LWm (tb5 (List.mem_of_getElem? (i := 87) rfl)) rfl
theorem mw_1048 : Cond.methodLink RL 80 yX9_highest ∈ LW := LWm (tb5 (List.mem_of_getElem? (i := 88) (by decide +kernel))) rfl
theorem mw_1049 : Cond.instanceMethod yX9_highest ∈ LW := LWm (tb5 (List.mem_of_getElem? (i := 89) (by decide +kernel))) rfl
theorem mw_1050 : Cond.selects RX9 yX9_highest yX9_highest ∈ LW := LWm (tb5 (List.mem_of_getElem? (i := 90) (by decide +kernel))) rfl
theorem mw_1051 : Cond.code yX9_highest cX9_highest 2 (some .int) ∈ LW := LWm (tb5 (List.mem_of_getElem? (i := 91) (by decide +kernel))) rfl
theorem mw_1052 : Cond.methodLinkNest RX9 237 yX7_dropAt RX9 ∈ NW := NWm (tb5 (List.mem_of_getElem? (i := 92) (by decide +kernel))) rfl
theorem mw_1054 : Cond.instanceMethod yX7_dropAt ∈ LW := LWm (tb5 (List.mem_of_getElem? (i := 94) (by decide +kernel))) rfl
theorem mw_1055 : Cond.code yX7_dropAt cX7_dropAt 3 (some .int) ∈ LW := LWm (tb5 (List.mem_of_getElem? (i := 95) (by decide +kernel))) rfl
theorem mw_1056 : Cond.methodLinkNest RX7 31 yX5_countOfSounds RX9 ∈ NW := NWm (tb5 (List.mem_of_getElem? (i := 96) (by decide +kernel))) rfl
theorem mw_1057 : Cond.methodLinkNest RX7 35 yX5_isRest RX9 ∈ NW := NWm (tb5 (List.mem_of_getElem? (i := 97) (by decide +kernel))) rfl
theorem mw_1058 : Cond.methodLink RX7 39 yX7_placeOfDrop ∈ LW := LWm (tb5 (List.mem_of_getElem? (i := 98) (by decide +kernel))) rfl
theorem mw_1060 : Cond.instanceMethod yX7_placeOfDrop ∈ LW := LWm (tb5 (List.mem_of_getElem? (i := 100) (by decide +kernel))) rfl
theorem mw_1061 : Cond.code yX7_placeOfDrop cX7_placeOfDrop 4 (some .int) ∈ LW := LWm (tb5 (List.mem_of_getElem? (i := 101) (by decide +kernel))) rfl
theorem mw_1062 : Cond.methodLink RX7 42 yX7_isDropAhead ∈ LW := LWm (tb5 (List.mem_of_getElem? (i := 102) (by decide +kernel))) rfl
theorem mw_1064 : Cond.instanceMethod yX7_isDropAhead ∈ LW := LWm (tb5 (List.mem_of_getElem? (i := 104) (by decide +kernel))) rfl
theorem mw_1065 : Cond.code yX7_isDropAhead cX7_isDropAhead 5 (some .boolean) ∈ LW := LWm (tb5 (List.mem_of_getElem? (i := 105) (by decide +kernel))) rfl
theorem mw_1066 : Cond.methodLinkNest RX7 45 yX5_pitchOf RX9 ∈ NW := NWm (tb5 (List.mem_of_getElem? (i := 106) (by decide +kernel))) rfl
theorem mw_1067 : Cond.methodLinkNest RX7 48 yX5_beatsOf RX9 ∈ NW := NWm (tb5 (List.mem_of_getElem? (i := 107) (by decide +kernel))) rfl
theorem mw_1068 : Cond.methodLink RL 195 yL_lines ∈ LW := LWm (tb5 (List.mem_of_getElem? (i := 108) (by decide +kernel))) rfl
theorem mw_1069 : Cond.static yL_lines ∈ LW := LWm (tb5 (List.mem_of_getElem? (i := 109) (by decide +kernel))) rfl
theorem mw_1070 : Cond.code yL_lines cL_lines 5 (some .boolean) ∈ LW := LWm (tb5 (List.mem_of_getElem? (i := 110) rfl)) rfl
theorem mw_1072 : Cond.classLink RL 264 RJ4 ∈ LW := LWm (tb5 (List.mem_of_getElem? (i := 112) (by decide +kernel))) rfl
theorem mw_1073 : Cond.instantiable RJ4 4 ∈ LW := LWm (tb5 (List.mem_of_getElem? (i := 113) (by decide +kernel))) rfl
theorem mw_1074 : Cond.methodLink RL 266 yJ4_init_da8c8 ∈ LW := LWm (tb5 (List.mem_of_getElem? (i := 114) (by decide +kernel))) rfl
theorem mw_1075 : Cond.instanceMethod yJ4_init_da8c8 ∈ LW := LWm (tb5 (List.mem_of_getElem? (i := 115) (by decide +kernel))) rfl
theorem mw_1076 : Cond.code yJ4_init_da8c8 cJ4_init_da8c8 1 none ∈ LW := LWm (tb5 (List.mem_of_getElem? (i := 116) (by decide +kernel))) rfl
theorem mw_1077 : Cond.methodLink RJ4 1 yJ5_init_d00df ∈ LW := LWm (tb5 (List.mem_of_getElem? (i := 117) (by decide +kernel))) rfl
theorem mw_1078 : Cond.instanceMethod yJ5_init_d00df ∈ LW := LWm (tb5 (List.mem_of_getElem? (i := 118) (by decide +kernel))) rfl
theorem mw_1079 : Cond.code yJ5_init_d00df cJ5_init_d00df 2 none ∈ LW := LWm (tb5 (List.mem_of_getElem? (i := 119) (by decide +kernel))) rfl
theorem mw_1080 : Cond.methodLink RJ5 3 ⟨"java/lang/Object", "<init>", "()V"⟩ ∈ LW := LWm (tb5 (List.mem_of_getElem? (i := 120) (by decide +kernel))) rfl
theorem mw_1081 : Cond.fieldLink RJ5 18 "java/lang/String" "COMPACT_STRINGS" "Z" ∈ LW := LWm (tb5 (List.mem_of_getElem? (i := 121) (by decide +kernel))) rfl
theorem mw_1083 : Cond.methodLink RJ5 26 yJ2_newBytesFor_77867 ∈ LW := LWm (tb5 (List.mem_of_getElem? (i := 123) (by decide +kernel))) rfl
theorem mw_1084 : Cond.static yJ2_newBytesFor_77867 ∈ LW := LWm (tb5 (List.mem_of_getElem? (i := 124) (by decide +kernel))) rfl
theorem mw_1085 : Cond.code yJ2_newBytesFor_77867 cJ2_newBytesFor_77867 1 (some (.array .byte)) ∈ LW := LWm (tb5 (List.mem_of_getElem? (i := 125) (by decide +kernel))) rfl
theorem mw_1086 : Cond.methodLink RJ2 11 yJ2_newBytesLength_0f7a4 ∈ LW := LWm (tb5 (List.mem_of_getElem? (i := 126) (by decide +kernel))) rfl
theorem mw_1087 : Cond.static yJ2_newBytesLength_0f7a4 ∈ LW := LWm (tb5 (List.mem_of_getElem? (i := 127) (by decide +kernel))) rfl
theorem mw_1088 : Cond.code yJ2_newBytesLength_0f7a4 cJ2_newBytesLength_0f7a4 1 (some .int) ∈ LW := LWm (tb5 (List.mem_of_getElem? (i := 128) (by decide +kernel))) rfl
theorem mw_1090 : Cond.fieldLink RJ5 15 "java/lang/AbstractStringBuilder" "value" "[B" ∈ LW := LWm (tb5 (List.mem_of_getElem? (i := 130) (by decide +kernel))) rfl
theorem mw_1091 : Cond.fieldLink RJ5 22 "java/lang/AbstractStringBuilder" "coder" "B" ∈ LW := LWm (tb5 (List.mem_of_getElem? (i := 131) (by decide +kernel))) rfl
theorem mw_1092 : Cond.fieldLink RJ0 1048 "java/lang/AbstractStringBuilder" "maybeLatin1" "Z" ∈ LW := LWm (tb5 (List.mem_of_getElem? (i := 132) (by decide +kernel))) rfl
theorem mw_1093 : Cond.fieldLink RJ5 79 "java/lang/AbstractStringBuilder" "count" "I" ∈ LW := LWm (tb5 (List.mem_of_getElem? (i := 133) (by decide +kernel))) rfl
theorem mw_1103 : Cond.methodLink RL 267 yJ4_append_15ec4 ∈ LW := LWm (tb5 (List.mem_of_getElem? (i := 143) (by decide +kernel))) rfl
theorem mw_1104 : Cond.instanceMethod yJ4_append_15ec4 ∈ LW := LWm (tb5 (List.mem_of_getElem? (i := 144) (by decide +kernel))) rfl
theorem mw_1105 : Cond.selects RJ4 yJ4_append_15ec4 yJ4_append_15ec4 ∈ LW := LWm (tb5 (List.mem_of_getElem? (i := 145) (by decide +kernel))) rfl
theorem mw_1106 : Cond.code yJ4_append_15ec4 cJ4_append_15ec4 2 (some (.object "java/lang/StringBuilder")) ∈ LW := LWm (tb5 (List.mem_of_getElem? (i := 146) (by decide +kernel))) rfl
theorem mw_1107 : Cond.methodLink RJ4 29 yJ5_append_cf1ce ∈ LW := LWm (tb5 (List.mem_of_getElem? (i := 147) (by decide +kernel))) rfl
theorem mw_1108 : Cond.instanceMethod yJ5_append_cf1ce ∈ LW := LWm (tb5 (List.mem_of_getElem? (i := 148) (by decide +kernel))) rfl
theorem mw_1109 : Cond.code yJ5_append_cf1ce cJ5_append_cf1ce 3 (some (.object "java/lang/AbstractStringBuilder")) ∈ LW := LWm (tb5 (List.mem_of_getElem? (i := 149) (by decide +kernel))) rfl
theorem mw_1110 : Cond.methodLink RJ5 204 yJ5_appendNull_278bc ∈ LW := LWm (tb5 (List.mem_of_getElem? (i := 150) (by decide +kernel))) rfl
theorem mw_1112 : Cond.instanceMethod yJ5_appendNull_278bc ∈ LW := LWm (tb5 (List.mem_of_getElem? (i := 152) (by decide +kernel))) rfl
theorem mw_1113 : Cond.code yJ5_appendNull_278bc cJ5_appendNull_278bc 3 (some (.object "java/lang/AbstractStringBuilder")) ∈ LW := LWm (tb5 (List.mem_of_getElem? (i := 153) (by decide +kernel))) rfl
theorem mw_1114 : Cond.methodLink RJ5 100 yJ5_ensureCapacityInternal_d00df ∈ LW := LWm (tb5 (List.mem_of_getElem? (i := 154) (by decide +kernel))) rfl
theorem mw_1116 : Cond.instanceMethod yJ5_ensureCapacityInternal_d00df ∈ LW := LWm (tb5 (List.mem_of_getElem? (i := 156) (by decide +kernel))) rfl
theorem mw_1117 : Cond.code yJ5_ensureCapacityInternal_d00df cJ5_ensureCapacityInternal_d00df 3 none ∈ LW := LWm (tb5 (List.mem_of_getElem? (i := 157) (by decide +kernel))) rfl
theorem mw_1118 : Cond.methodLink RJ5 104 yJ5_newCapacity_0f7a4 ∈ LW := LWm (tb5 (List.mem_of_getElem? (i := 158) (by decide +kernel))) rfl
theorem mw_1120 : Cond.instanceMethod yJ5_newCapacity_0f7a4 ∈ LW := LWm (tb5 (List.mem_of_getElem? (i := 160) (by decide +kernel))) rfl
theorem mw_1121 : Cond.code yJ5_newCapacity_0f7a4 cJ5_newCapacity_0f7a4 6 (some .int) ∈ LW := LWm (tb5 (List.mem_of_getElem? (i := 161) (by decide +kernel))) rfl
theorem mw_1122 : Cond.methodLink RJ5 114 yJ8_newLength_cabcc ∈ LW := LWm (tb5 (List.mem_of_getElem? (i := 162) (by decide +kernel))) rfl
theorem mw_1123 : Cond.static yJ8_newLength_cabcc ∈ LW := LWm (tb5 (List.mem_of_getElem? (i := 163) (by decide +kernel))) rfl
theorem mw_1124 : Cond.code yJ8_newLength_cabcc cJ8_newLength_cabcc 4 (some .int) ∈ LW := LWm (tb5 (List.mem_of_getElem? (i := 164) (by decide +kernel))) rfl
theorem mw_1125 : Cond.methodLink RJ8 194 yJ9_max_7cf53 ∈ LW := LWm (tb5 (List.mem_of_getElem? (i := 165) (by decide +kernel))) rfl
theorem mw_1127 : Cond.methodLink RJ8 201 yJ8_hugeLength_7cf53 ∈ LW := LWm (tb5 (List.mem_of_getElem? (i := 167) (by decide +kernel))) rfl
theorem mw_1128 : Cond.static yJ8_hugeLength_7cf53 ∈ LW := LWm (tb5 (List.mem_of_getElem? (i := 168) (by decide +kernel))) rfl
theorem mw_1129 : Cond.code yJ8_hugeLength_7cf53 cJ8_hugeLength_7cf53 3 (some .int) ∈ LW := LWm (tb5 (List.mem_of_getElem? (i := 169) (by decide +kernel))) rfl
theorem mw_1131 : Cond.methodLink RJ5 108 yJ7_copyOf_9075b ∈ LW := LWm (tb5 (List.mem_of_getElem? (i := 171) (by decide +kernel))) rfl
theorem mw_1132 : Cond.static yJ7_copyOf_9075b ∈ LW := LWm (tb5 (List.mem_of_getElem? (i := 172) (by decide +kernel))) rfl
theorem mw_1133 : Cond.code yJ7_copyOf_9075b cJ7_copyOf_9075b 3 (some (.array .byte)) ∈ LW := LWm (tb5 (List.mem_of_getElem? (i := 173) (by decide +kernel))) rfl
theorem mw_1134 : Cond.methodLink RJ7 310 ⟨"[B", "clone", "()Ljava/lang/Object;"⟩ ∈ LW := LWm (tb5 (List.mem_of_getElem? (i := 174) (by decide +kernel))) rfl
theorem mw_1137 : Cond.instanceMethod ⟨"java/lang/Object", "clone", "()Ljava/lang/Object;"⟩ ∈ LW := LWm (tb5 (List.mem_of_getElem? (i := 177) (by decide +kernel))) rfl
theorem mw_1138 : Cond.selects "[B" ⟨"[B", "clone", "()Ljava/lang/Object;"⟩ ⟨"java/lang/Object", "clone", "()Ljava/lang/Object;"⟩ ∈ LW := LWm (tb5 (List.mem_of_getElem? (i := 178) (by decide +kernel))) rfl
theorem mw_1139 : Cond.castable "[B" "java/lang/Cloneable" ∈ NW := NWm (tb5 (List.mem_of_getElem? (i := 179) (by decide +kernel))) rfl
theorem mw_1140 : Cond.classLink RJ7 311 "[B" ∈ LW := LWm (tb5 (List.mem_of_getElem? (i := 180) (by decide +kernel))) rfl
theorem mw_1141 : Cond.methodLink RJ7 304 yJ9_min_7cf53 ∈ LW := LWm (tb5 (List.mem_of_getElem? (i := 181) (by decide +kernel))) rfl
theorem mw_1142 : Cond.methodLink RJ7 150 ⟨"java/lang/System", "arraycopy", "(Ljava/lang/Object;ILjava/lang/Object;II)V"⟩ ∈ LW := LWm (tb5 (List.mem_of_getElem? (i := 182) (by decide +kernel))) rfl
theorem mw_1143 : Cond.static ⟨"java/lang/System", "arraycopy", "(Ljava/lang/Object;ILjava/lang/Object;II)V"⟩ ∈ LW := LWm (tb5 (List.mem_of_getElem? (i := 183) (by decide +kernel))) rfl
theorem mw_1145 : Cond.methodLink RJ5 83 yJ5_isLatin1_aae02 ∈ LW := LWm (tb5 (List.mem_of_getElem? (i := 185) (by decide +kernel))) rfl
theorem mw_1146 : Cond.instanceMethod yJ5_isLatin1_aae02 ∈ LW := LWm (tb5 (List.mem_of_getElem? (i := 186) (by decide +kernel))) rfl
theorem mw_1148 : Cond.selects RJ4 yJ5_isLatin1_aae02 yJ5_isLatin1_aae02 ∈ LW := LWm (tb5 (List.mem_of_getElem? (i := 188) (by decide +kernel))) rfl
theorem mw_1149 : Cond.code yJ5_isLatin1_aae02 cJ5_isLatin1_aae02 1 (some .boolean) ∈ LW := LWm (tb5 (List.mem_of_getElem? (i := 189) (by decide +kernel))) rfl
theorem mw_1150 : Cond.methodLink RJ5 226 yJ2_putCharsAt_cd4e5 ∈ LW := LWm (tb5 (List.mem_of_getElem? (i := 190) (by decide +kernel))) rfl
theorem mw_1151 : Cond.static yJ2_putCharsAt_cd4e5 ∈ LW := LWm (tb5 (List.mem_of_getElem? (i := 191) (by decide +kernel))) rfl
theorem mw_1152 : Cond.code yJ2_putCharsAt_cd4e5 cJ2_putCharsAt_cd4e5 7 (some .int) ∈ LW := LWm (tb5 (List.mem_of_getElem? (i := 192) (by decide +kernel))) rfl
theorem mw_1153 : Cond.methodLink RJ2 96 yJ2_checkBoundsBeginEnd_d044e ∈ LW := LWm (tb5 (List.mem_of_getElem? (i := 193) (by decide +kernel))) rfl
theorem mw_1154 : Cond.static yJ2_checkBoundsBeginEnd_d044e ∈ LW := LWm (tb5 (List.mem_of_getElem? (i := 194) (by decide +kernel))) rfl
theorem mw_1155 : Cond.code yJ2_checkBoundsBeginEnd_d044e cJ2_checkBoundsBeginEnd_d044e 3 none ∈ LW := LWm (tb5 (List.mem_of_getElem? (i := 195) (by decide +kernel))) rfl
theorem mw_1156 : Cond.methodLink RJ2 48 yJ2_length_9d52b ∈ LW := LWm (tb5 (List.mem_of_getElem? (i := 196) (by decide +kernel))) rfl
theorem mw_1157 : Cond.static yJ2_length_9d52b ∈ LW := LWm (tb5 (List.mem_of_getElem? (i := 197) (by decide +kernel))) rfl
theorem mw_1158 : Cond.code yJ2_length_9d52b cJ2_length_9d52b 1 (some .int) ∈ LW := LWm (tb5 (List.mem_of_getElem? (i := 198) (by decide +kernel))) rfl
theorem mw_1159 : Cond.methodLink RJ2 241 yJ0_checkBoundsBeginEnd_23922 ∈ LW := LWm (tb5 (List.mem_of_getElem? (i := 199) (by decide +kernel))) rfl
theorem mw_1160 : Cond.static yJ0_checkBoundsBeginEnd_23922 ∈ LW := LWm (tb5 (List.mem_of_getElem? (i := 200) (by decide +kernel))) rfl
theorem mw_1161 : Cond.code yJ0_checkBoundsBeginEnd_23922 cJ0_checkBoundsBeginEnd_23922 3 none ∈ LW := LWm (tb5 (List.mem_of_getElem? (i := 201) (by decide +kernel))) rfl
theorem mw_1162 : Cond.fieldLink RJ0 1053 "jdk/internal/util/Preconditions" "SIOOBE_FORMATTER" "Ljava/util/function/BiFunction;" ∈ LW := LWm (tb5 (List.mem_of_getElem? (i := 202) (by decide +kernel))) rfl
theorem mw_1164 : Cond.methodLink RJ0 1062 yJ3_checkFromToIndex_8c36e ∈ LW := LWm (tb5 (List.mem_of_getElem? (i := 204) (by decide +kernel))) rfl
theorem mw_1165 : Cond.static yJ3_checkFromToIndex_8c36e ∈ LW := LWm (tb5 (List.mem_of_getElem? (i := 205) (by decide +kernel))) rfl
theorem mw_1166 : Cond.code yJ3_checkFromToIndex_8c36e cJ3_checkFromToIndex_8c36e 4 (some .int) ∈ LW := LWm (tb5 (List.mem_of_getElem? (i := 206) (by decide +kernel))) rfl
theorem mw_1167 : Cond.methodLink RJ2 111 yJ2_putChar_b72d1 ∈ LW := LWm (tb5 (List.mem_of_getElem? (i := 207) (by decide +kernel))) rfl
theorem mw_1168 : Cond.static yJ2_putChar_b72d1 ∈ LW := LWm (tb5 (List.mem_of_getElem? (i := 208) (by decide +kernel))) rfl
theorem mw_1169 : Cond.code yJ2_putChar_b72d1 cJ2_putChar_b72d1 3 none ∈ LW := LWm (tb5 (List.mem_of_getElem? (i := 209) (by decide +kernel))) rfl
theorem mw_1170 : Cond.fieldLink RJ2 44 "java/lang/StringUTF16" "$assertionsDisabled" "Z" ∈ LW := LWm (tb5 (List.mem_of_getElem? (i := 210) (by decide +kernel))) rfl
theorem mw_1172 : Cond.fieldLink RJ2 59 "java/lang/StringUTF16" "HI_BYTE_SHIFT" "I" ∈ LW := LWm (tb5 (List.mem_of_getElem? (i := 212) (by decide +kernel))) rfl
theorem mw_1174 : Cond.fieldLink RJ2 63 "java/lang/StringUTF16" "LO_BYTE_SHIFT" "I" ∈ LW := LWm (tb5 (List.mem_of_getElem? (i := 214) (by decide +kernel))) rfl
theorem mw_1176 : Cond.methodLink RJ5 32 yJ0_length_8abf5 ∈ LW := LWm (tb5 (List.mem_of_getElem? (i := 216) (by decide +kernel))) rfl
theorem mw_1177 : Cond.instanceMethod yJ0_length_8abf5 ∈ LW := LWm (tb5 (List.mem_of_getElem? (i := 217) (by decide +kernel))) rfl
theorem mw_1178 : Cond.selects RJ0 yJ0_length_8abf5 yJ0_length_8abf5 ∈ LW := LWm (tb5 (List.mem_of_getElem? (i := 218) (by decide +kernel))) rfl
theorem mw_1179 : Cond.code yJ0_length_8abf5 cJ0_length_8abf5 1 (some .int) ∈ LW := LWm (tb5 (List.mem_of_getElem? (i := 219) (by decide +kernel))) rfl
theorem mw_1180 : Cond.methodLink RJ0 335 yJ0_coder_7d493 ∈ LW := LWm (tb5 (List.mem_of_getElem? (i := 220) (by decide +kernel))) rfl
theorem mw_1181 : Cond.instanceMethod yJ0_coder_7d493 ∈ LW := LWm (tb5 (List.mem_of_getElem? (i := 221) (by decide +kernel))) rfl
theorem mw_1182 : Cond.selects RJ0 yJ0_coder_7d493 yJ0_coder_7d493 ∈ LW := LWm (tb5 (List.mem_of_getElem? (i := 222) (by decide +kernel))) rfl
theorem mw_1183 : Cond.code yJ0_coder_7d493 cJ0_coder_7d493 1 (some .byte) ∈ LW := LWm (tb5 (List.mem_of_getElem? (i := 223) (by decide +kernel))) rfl
theorem mw_1184 : Cond.fieldLink RJ0 38 "java/lang/String" "COMPACT_STRINGS" "Z" ∈ LW := LWm (tb5 (List.mem_of_getElem? (i := 224) (by decide +kernel))) rfl
theorem mw_1185 : Cond.methodLink RJ5 208 yJ5_putStringAt_47b60 ∈ LW := LWm (tb5 (List.mem_of_getElem? (i := 225) (by decide +kernel))) rfl
theorem mw_1187 : Cond.instanceMethod yJ5_putStringAt_47b60 ∈ LW := LWm (tb5 (List.mem_of_getElem? (i := 227) (by decide +kernel))) rfl
theorem mw_1188 : Cond.code yJ5_putStringAt_47b60 cJ5_putStringAt_47b60 3 none ∈ LW := LWm (tb5 (List.mem_of_getElem? (i := 228) (by decide +kernel))) rfl
theorem mw_1189 : Cond.methodLink RJ5 397 yJ5_inflateIfNeededFor_a7421 ∈ LW := LWm (tb5 (List.mem_of_getElem? (i := 229) (by decide +kernel))) rfl
theorem mw_1191 : Cond.instanceMethod yJ5_inflateIfNeededFor_a7421 ∈ LW := LWm (tb5 (List.mem_of_getElem? (i := 231) (by decide +kernel))) rfl
theorem mw_1192 : Cond.code yJ5_inflateIfNeededFor_a7421 cJ5_inflateIfNeededFor_a7421 2 none ∈ LW := LWm (tb5 (List.mem_of_getElem? (i := 232) (by decide +kernel))) rfl
theorem mw_1193 : Cond.methodLink RJ5 40 yJ0_coder_7d493 ∈ LW := LWm (tb5 (List.mem_of_getElem? (i := 233) (by decide +kernel))) rfl
theorem mw_1194 : Cond.methodLink RJ5 195 yJ5_inflate_da8c8 ∈ LW := LWm (tb5 (List.mem_of_getElem? (i := 234) (by decide +kernel))) rfl
theorem mw_1196 : Cond.instanceMethod yJ5_inflate_da8c8 ∈ LW := LWm (tb5 (List.mem_of_getElem? (i := 236) (by decide +kernel))) rfl
theorem mw_1197 : Cond.code yJ5_inflate_da8c8 cJ5_inflate_da8c8 2 none ∈ LW := LWm (tb5 (List.mem_of_getElem? (i := 237) (by decide +kernel))) rfl
theorem mw_1198 : Cond.methodLink RJ5 125 yJ1_inflate_0e8fd ∈ LW := LWm (tb5 (List.mem_of_getElem? (i := 238) (by decide +kernel))) rfl
theorem mw_1199 : Cond.static yJ1_inflate_0e8fd ∈ LW := LWm (tb5 (List.mem_of_getElem? (i := 239) (by decide +kernel))) rfl
theorem mw_1200 : Cond.code yJ1_inflate_0e8fd cJ1_inflate_0e8fd 5 none ∈ LW := LWm (tb6 (List.mem_of_getElem? (i := 0) (by decide +kernel))) rfl
theorem mw_1201 : Cond.methodLink RJ1 240 yJ2_inflate_0e8fd ∈ LW := LWm (tb6 (List.mem_of_getElem? (i := 1) (by decide +kernel))) rfl
theorem mw_1202 : Cond.static yJ2_inflate_0e8fd ∈ LW := LWm (tb6 (List.mem_of_getElem? (i := 2) (by decide +kernel))) rfl
theorem mw_1203 : Cond.code yJ2_inflate_0e8fd cJ2_inflate_0e8fd 6 none ∈ LW := LWm (tb6 (List.mem_of_getElem? (i := 3) (by decide +kernel))) rfl
theorem mw_1204 : Cond.methodLink RJ2 173 yJ2_checkBoundsOffCount_d044e ∈ LW := LWm (tb6 (List.mem_of_getElem? (i := 4) (by decide +kernel))) rfl
theorem mw_1205 : Cond.static yJ2_checkBoundsOffCount_d044e ∈ LW := LWm (tb6 (List.mem_of_getElem? (i := 5) (by decide +kernel))) rfl
theorem mw_1206 : Cond.code yJ2_checkBoundsOffCount_d044e cJ2_checkBoundsOffCount_d044e 3 none ∈ LW := LWm (tb6 (List.mem_of_getElem? (i := 6) (by decide +kernel))) rfl
theorem mw_1207 : Cond.methodLink RJ2 419 yJ0_checkBoundsOffCount_cabcc ∈ LW := LWm (tb6 (List.mem_of_getElem? (i := 7) (by decide +kernel))) rfl
theorem mw_1208 : Cond.static yJ0_checkBoundsOffCount_cabcc ∈ LW := LWm (tb6 (List.mem_of_getElem? (i := 8) (by decide +kernel))) rfl
theorem mw_1209 : Cond.code yJ0_checkBoundsOffCount_cabcc cJ0_checkBoundsOffCount_cabcc 3 (some .int) ∈ LW := LWm (tb6 (List.mem_of_getElem? (i := 9) (by decide +kernel))) rfl
theorem mw_1210 : Cond.methodLink RJ0 1065 yJ3_checkFromIndexSize_8c36e ∈ LW := LWm (tb6 (List.mem_of_getElem? (i := 10) (by decide +kernel))) rfl
theorem mw_1211 : Cond.static yJ3_checkFromIndexSize_8c36e ∈ LW := LWm (tb6 (List.mem_of_getElem? (i := 11) (by decide +kernel))) rfl
theorem mw_1212 : Cond.code yJ3_checkFromIndexSize_8c36e cJ3_checkFromIndexSize_8c36e 4 (some .int) ∈ LW := LWm (tb6 (List.mem_of_getElem? (i := 12) (by decide +kernel))) rfl
theorem mw_1213 : Cond.methodLink RJ5 399 yJ0_getBytes_840e7 ∈ LW := LWm (tb6 (List.mem_of_getElem? (i := 13) (by decide +kernel))) rfl
theorem mw_1214 : Cond.instanceMethod yJ0_getBytes_840e7 ∈ LW := LWm (tb6 (List.mem_of_getElem? (i := 14) (by decide +kernel))) rfl
theorem mw_1215 : Cond.selects RJ0 yJ0_getBytes_840e7 yJ0_getBytes_840e7 ∈ LW := LWm (tb6 (List.mem_of_getElem? (i := 15) (by decide +kernel))) rfl
theorem mw_1216 : Cond.code yJ0_getBytes_840e7 cJ0_getBytes_840e7 4 none ∈ LW := LWm (tb6 (List.mem_of_getElem? (i := 16) (by decide +kernel))) rfl
theorem mw_1217 : Cond.methodLink RJ0 212 ⟨"java/lang/System", "arraycopy", "(Ljava/lang/Object;ILjava/lang/Object;II)V"⟩ ∈ LW := LWm (tb6 (List.mem_of_getElem? (i := 17) (by decide +kernel))) rfl
theorem mw_1218 : Cond.methodLink RJ0 106 yJ1_inflate_0e8fd ∈ LW := LWm (tb6 (List.mem_of_getElem? (i := 18) (by decide +kernel))) rfl
theorem mw_1220 : Cond.methodLink RL 272 yJ4_append_cf468 ∈ LW := LWm (tb6 (List.mem_of_getElem? (i := 20) (by decide +kernel))) rfl
theorem mw_1221 : Cond.instanceMethod yJ4_append_cf468 ∈ LW := LWm (tb6 (List.mem_of_getElem? (i := 21) (by decide +kernel))) rfl
theorem mw_1222 : Cond.selects RJ4 yJ4_append_cf468 yJ4_append_cf468 ∈ LW := LWm (tb6 (List.mem_of_getElem? (i := 22) (by decide +kernel))) rfl
theorem mw_1223 : Cond.code yJ4_append_cf468 cJ4_append_cf468 2 (some (.object "java/lang/StringBuilder")) ∈ LW := LWm (tb6 (List.mem_of_getElem? (i := 23) (by decide +kernel))) rfl
theorem mw_1224 : Cond.methodLink RJ4 50 yJ5_append_3fe6f ∈ LW := LWm (tb6 (List.mem_of_getElem? (i := 24) (by decide +kernel))) rfl
theorem mw_1225 : Cond.instanceMethod yJ5_append_3fe6f ∈ LW := LWm (tb6 (List.mem_of_getElem? (i := 25) (by decide +kernel))) rfl
theorem mw_1226 : Cond.code yJ5_append_3fe6f cJ5_append_3fe6f 2 (some (.object "java/lang/AbstractStringBuilder")) ∈ LW := LWm (tb6 (List.mem_of_getElem? (i := 26) (by decide +kernel))) rfl
theorem mw_1227 : Cond.methodLink RJ5 191 yJ1_canEncode_fc78d ∈ LW := LWm (tb6 (List.mem_of_getElem? (i := 27) (by decide +kernel))) rfl
theorem mw_1228 : Cond.static yJ1_canEncode_fc78d ∈ LW := LWm (tb6 (List.mem_of_getElem? (i := 28) (by decide +kernel))) rfl
theorem mw_1229 : Cond.code yJ1_canEncode_fc78d cJ1_canEncode_fc78d 1 (some .boolean) ∈ LW := LWm (tb6 (List.mem_of_getElem? (i := 29) (by decide +kernel))) rfl
theorem mw_1230 : Cond.methodLink RJ5 197 yJ2_putCharSB_b72d1 ∈ LW := LWm (tb6 (List.mem_of_getElem? (i := 30) (by decide +kernel))) rfl
theorem mw_1231 : Cond.static yJ2_putCharSB_b72d1 ∈ LW := LWm (tb6 (List.mem_of_getElem? (i := 31) (by decide +kernel))) rfl
theorem mw_1232 : Cond.code yJ2_putCharSB_b72d1 cJ2_putCharSB_b72d1 3 none ∈ LW := LWm (tb6 (List.mem_of_getElem? (i := 32) (by decide +kernel))) rfl
theorem mw_1233 : Cond.methodLink RJ2 67 yJ2_checkIndex_2214a ∈ LW := LWm (tb6 (List.mem_of_getElem? (i := 33) (by decide +kernel))) rfl
theorem mw_1234 : Cond.static yJ2_checkIndex_2214a ∈ LW := LWm (tb6 (List.mem_of_getElem? (i := 34) (by decide +kernel))) rfl
theorem mw_1235 : Cond.code yJ2_checkIndex_2214a cJ2_checkIndex_2214a 2 none ∈ LW := LWm (tb6 (List.mem_of_getElem? (i := 35) (by decide +kernel))) rfl
theorem mw_1236 : Cond.methodLink RJ2 414 yJ0_checkIndex_df160 ∈ LW := LWm (tb6 (List.mem_of_getElem? (i := 36) (by decide +kernel))) rfl
theorem mw_1237 : Cond.static yJ0_checkIndex_df160 ∈ LW := LWm (tb6 (List.mem_of_getElem? (i := 37) (by decide +kernel))) rfl
theorem mw_1238 : Cond.code yJ0_checkIndex_df160 cJ0_checkIndex_df160 2 none ∈ LW := LWm (tb6 (List.mem_of_getElem? (i := 38) (by decide +kernel))) rfl
theorem mw_1239 : Cond.methodLink RJ0 1059 yJ3_checkIndex_8e157 ∈ LW := LWm (tb6 (List.mem_of_getElem? (i := 39) (by decide +kernel))) rfl
theorem mw_1240 : Cond.static yJ3_checkIndex_8e157 ∈ LW := LWm (tb6 (List.mem_of_getElem? (i := 40) (by decide +kernel))) rfl
theorem mw_1241 : Cond.code yJ3_checkIndex_8e157 cJ3_checkIndex_8e157 3 (some .int) ∈ LW := LWm (tb6 (List.mem_of_getElem? (i := 41) (by decide +kernel))) rfl
theorem mw_1242 : Cond.methodLink RL 275 yJ4_append_bf812 ∈ LW := LWm (tb6 (List.mem_of_getElem? (i := 42) (by decide +kernel))) rfl
theorem mw_1243 : Cond.instanceMethod yJ4_append_bf812 ∈ LW := LWm (tb6 (List.mem_of_getElem? (i := 43) (by decide +kernel))) rfl
theorem mw_1244 : Cond.selects RJ4 yJ4_append_bf812 yJ4_append_bf812 ∈ LW := LWm (tb6 (List.mem_of_getElem? (i := 44) (by decide +kernel))) rfl
theorem mw_1245 : Cond.code yJ4_append_bf812 cJ4_append_bf812 2 (some (.object "java/lang/StringBuilder")) ∈ LW := LWm (tb6 (List.mem_of_getElem? (i := 45) (by decide +kernel))) rfl
theorem mw_1246 : Cond.methodLink RJ4 53 yJ5_append_c97b9 ∈ LW := LWm (tb6 (List.mem_of_getElem? (i := 46) (by decide +kernel))) rfl
theorem mw_1247 : Cond.instanceMethod yJ5_append_c97b9 ∈ LW := LWm (tb6 (List.mem_of_getElem? (i := 47) (by decide +kernel))) rfl
theorem mw_1248 : Cond.code yJ5_append_c97b9 cJ5_append_c97b9 4 (some (.object "java/lang/AbstractStringBuilder")) ∈ LW := LWm (tb6 (List.mem_of_getElem? (i := 48) (by decide +kernel))) rfl
theorem mw_1249 : Cond.methodLink RJ5 245 yJ6_stringSize_0f7a4 ∈ LW := LWm (tb6 (List.mem_of_getElem? (i := 49) (by decide +kernel))) rfl
theorem mw_1250 : Cond.static yJ6_stringSize_0f7a4 ∈ LW := LWm (tb6 (List.mem_of_getElem? (i := 50) (by decide +kernel))) rfl
theorem mw_1251 : Cond.code yJ6_stringSize_0f7a4 cJ6_stringSize_0f7a4 4 (some .int) ∈ LW := LWm (tb6 (List.mem_of_getElem? (i := 51) (by decide +kernel))) rfl
theorem mw_1252 : Cond.methodLink RJ5 248 yJ6_getChars_ba4f3 ∈ LW := LWm (tb6 (List.mem_of_getElem? (i := 52) (by decide +kernel))) rfl
theorem mw_1253 : Cond.static yJ6_getChars_ba4f3 ∈ LW := LWm (tb6 (List.mem_of_getElem? (i := 53) (by decide +kernel))) rfl
theorem mw_1254 : Cond.code yJ6_getChars_ba4f3 cJ6_getChars_ba4f3 7 (some .int) ∈ LW := LWm (tb6 (List.mem_of_getElem? (i := 54) (by decide +kernel))) rfl
theorem mw_1255 : Cond.fieldLink RJ6 83 "java/lang/Integer" "DigitOnes" "[B" ∈ LW := LWm (tb6 (List.mem_of_getElem? (i := 55) (by decide +kernel))) rfl
theorem mw_1257 : Cond.fieldLink RJ6 87 "java/lang/Integer" "DigitTens" "[B" ∈ LW := LWm (tb6 (List.mem_of_getElem? (i := 57) (by decide +kernel))) rfl
theorem mw_1259 : Cond.methodLink RJ5 251 yJ2_getChars_46870 ∈ LW := LWm (tb6 (List.mem_of_getElem? (i := 59) (by decide +kernel))) rfl
theorem mw_1260 : Cond.static yJ2_getChars_46870 ∈ LW := LWm (tb6 (List.mem_of_getElem? (i := 60) (by decide +kernel))) rfl
theorem mw_1261 : Cond.code yJ2_getChars_46870 cJ2_getChars_46870 5 (some .int) ∈ LW := LWm (tb6 (List.mem_of_getElem? (i := 61) (by decide +kernel))) rfl
theorem mw_1262 : Cond.methodLink RJ2 393 yJ2_getChars_ba4f3 ∈ LW := LWm (tb6 (List.mem_of_getElem? (i := 62) (by decide +kernel))) rfl
theorem mw_1263 : Cond.static yJ2_getChars_ba4f3 ∈ LW := LWm (tb6 (List.mem_of_getElem? (i := 63) (by decide +kernel))) rfl
theorem mw_1264 : Cond.code yJ2_getChars_ba4f3 cJ2_getChars_ba4f3 7 (some .int) ∈ LW := LWm (tb6 (List.mem_of_getElem? (i := 64) (by decide +kernel))) rfl
theorem mw_1265 : Cond.fieldLink RJ2 403 "java/lang/Integer" "DigitOnes" "[B" ∈ LW := LWm (tb6 (List.mem_of_getElem? (i := 65) (by decide +kernel))) rfl
theorem mw_1266 : Cond.fieldLink RJ2 407 "java/lang/Integer" "DigitTens" "[B" ∈ LW := LWm (tb6 (List.mem_of_getElem? (i := 66) (by decide +kernel))) rfl
theorem mw_1268 : Cond.methodLink RL 280 yJ4_toString_0e30d ∈ LW := LWm (tb6 (List.mem_of_getElem? (i := 68) (by decide +kernel))) rfl
theorem mw_1269 : Cond.instanceMethod yJ4_toString_0e30d ∈ LW := LWm (tb6 (List.mem_of_getElem? (i := 69) (by decide +kernel))) rfl
theorem mw_1270 : Cond.selects RJ4 yJ4_toString_0e30d yJ4_toString_0e30d ∈ LW := LWm (tb6 (List.mem_of_getElem? (i := 70) (by decide +kernel))) rfl
theorem mw_1271 : Cond.code yJ4_toString_0e30d cJ4_toString_0e30d 1 (some (.object "java/lang/String")) ∈ LW := LWm (tb6 (List.mem_of_getElem? (i := 71) (by decide +kernel))) rfl
theorem mw_1272 : Cond.classLink RJ4 18 RJ0 ∈ LW := LWm (tb6 (List.mem_of_getElem? (i := 72) (by decide +kernel))) rfl
theorem mw_1273 : Cond.methodLink RJ4 137 yJ0_init_81219 ∈ LW := LWm (tb6 (List.mem_of_getElem? (i := 73) (by decide +kernel))) rfl
theorem mw_1274 : Cond.instanceMethod yJ0_init_81219 ∈ LW := LWm (tb6 (List.mem_of_getElem? (i := 74) (by decide +kernel))) rfl
theorem mw_1275 : Cond.code yJ0_init_81219 cJ0_init_81219 2 none ∈ LW := LWm (tb6 (List.mem_of_getElem? (i := 75) (by decide +kernel))) rfl
theorem mw_1276 : Cond.methodLink RJ0 489 yJ0_init_db425 ∈ LW := LWm (tb6 (List.mem_of_getElem? (i := 76) (by decide +kernel))) rfl
theorem mw_1277 : Cond.instanceMethod yJ0_init_db425 ∈ LW := LWm (tb6 (List.mem_of_getElem? (i := 77) (by decide +kernel))) rfl
theorem mw_1278 : Cond.code yJ0_init_db425 cJ0_init_db425 5 none ∈ LW := LWm (tb6 (List.mem_of_getElem? (i := 78) (by decide +kernel))) rfl
theorem mw_1279 : Cond.methodLink RJ0 1 ⟨"java/lang/Object", "<init>", "()V"⟩ ∈ LW := LWm (tb6 (List.mem_of_getElem? (i := 79) (by decide +kernel))) rfl
theorem mw_1280 : Cond.methodLink RJ0 552 yJ5_getValue_6d5f1 ∈ LW := LWm (tb6 (List.mem_of_getElem? (i := 80) (by decide +kernel))) rfl
theorem mw_1281 : Cond.instanceMethod yJ5_getValue_6d5f1 ∈ LW := LWm (tb6 (List.mem_of_getElem? (i := 81) (by decide +kernel))) rfl
theorem mw_1283 : Cond.selects RJ4 yJ5_getValue_6d5f1 yJ5_getValue_6d5f1 ∈ LW := LWm (tb6 (List.mem_of_getElem? (i := 83) (by decide +kernel))) rfl
theorem mw_1284 : Cond.code yJ5_getValue_6d5f1 cJ5_getValue_6d5f1 1 (some (.array .byte)) ∈ LW := LWm (tb6 (List.mem_of_getElem? (i := 84) (by decide +kernel))) rfl
theorem mw_1285 : Cond.methodLink RJ0 549 yJ5_length_8abf5 ∈ LW := LWm (tb6 (List.mem_of_getElem? (i := 85) (by decide +kernel))) rfl
theorem mw_1286 : Cond.instanceMethod yJ5_length_8abf5 ∈ LW := LWm (tb6 (List.mem_of_getElem? (i := 86) (by decide +kernel))) rfl
theorem mw_1288 : Cond.selects RJ4 yJ5_length_8abf5 yJ4_length_8abf5 ∈ LW := LWm (tb6 (List.mem_of_getElem? (i := 88) (by decide +kernel))) rfl
theorem mw_1289 : Cond.instanceMethod yJ4_length_8abf5 ∈ LW := LWm (tb6 (List.mem_of_getElem? (i := 89) (by decide +kernel))) rfl
theorem mw_1290 : Cond.code yJ4_length_8abf5 cJ4_length_8abf5 1 (some .int) ∈ LW := LWm (tb6 (List.mem_of_getElem? (i := 90) (by decide +kernel))) rfl
theorem mw_1291 : Cond.methodLink RJ4 343 yJ5_length_8abf5 ∈ LW := LWm (tb6 (List.mem_of_getElem? (i := 91) (by decide +kernel))) rfl
theorem mw_1292 : Cond.code yJ5_length_8abf5 cJ5_length_8abf5 1 (some .int) ∈ LW := LWm (tb6 (List.mem_of_getElem? (i := 92) (by decide +kernel))) rfl
theorem mw_1293 : Cond.methodLink RJ0 1047 yJ5_isLatin1_aae02 ∈ LW := LWm (tb6 (List.mem_of_getElem? (i := 93) (by decide +kernel))) rfl
theorem mw_1294 : Cond.methodLink RJ0 54 yJ7_copyOfRange_39247 ∈ LW := LWm (tb6 (List.mem_of_getElem? (i := 94) (by decide +kernel))) rfl
theorem mw_1295 : Cond.static yJ7_copyOfRange_39247 ∈ LW := LWm (tb6 (List.mem_of_getElem? (i := 95) (by decide +kernel))) rfl
theorem mw_1296 : Cond.code yJ7_copyOfRange_39247 cJ7_copyOfRange_39247 3 (some (.array .byte)) ∈ LW := LWm (tb6 (List.mem_of_getElem? (i := 96) (by decide +kernel))) rfl
theorem mw_1297 : Cond.methodLink RJ7 339 yJ7_copyOfRangeByte_39247 ∈ LW := LWm (tb6 (List.mem_of_getElem? (i := 97) (by decide +kernel))) rfl
theorem mw_1298 : Cond.static yJ7_copyOfRangeByte_39247 ∈ LW := LWm (tb6 (List.mem_of_getElem? (i := 98) (by decide +kernel))) rfl
theorem mw_1299 : Cond.code yJ7_copyOfRangeByte_39247 cJ7_copyOfRangeByte_39247 5 (some (.array .byte)) ∈ LW := LWm (tb6 (List.mem_of_getElem? (i := 99) (by decide +kernel))) rfl
theorem mw_1300 : Cond.methodLink RJ7 343 yJ7_checkLength_df160 ∈ LW := LWm (tb6 (List.mem_of_getElem? (i := 100) (by decide +kernel))) rfl
theorem mw_1301 : Cond.static yJ7_checkLength_df160 ∈ LW := LWm (tb6 (List.mem_of_getElem? (i := 101) (by decide +kernel))) rfl
theorem mw_1302 : Cond.code yJ7_checkLength_df160 cJ7_checkLength_df160 2 none ∈ LW := LWm (tb6 (List.mem_of_getElem? (i := 102) (by decide +kernel))) rfl
theorem mw_1303 : Cond.classLink RJ7 43 "java/lang/IllegalArgumentException" ∈ LW := LWm (tb6 (List.mem_of_getElem? (i := 103) (by decide +kernel))) rfl
theorem mw_1304 : Cond.classLink RJ7 45 RJ4 ∈ LW := LWm (tb6 (List.mem_of_getElem? (i := 104) (by decide +kernel))) rfl
theorem mw_1305 : Cond.methodLink RJ7 47 yJ4_init_da8c8 ∈ LW := LWm (tb6 (List.mem_of_getElem? (i := 105) (by decide +kernel))) rfl
theorem mw_1306 : Cond.methodLink RJ7 54 yJ4_append_bf812 ∈ LW := LWm (tb6 (List.mem_of_getElem? (i := 106) (by decide +kernel))) rfl
theorem mw_1308 : Cond.methodLink RJ7 50 yJ4_append_15ec4 ∈ LW := LWm (tb6 (List.mem_of_getElem? (i := 108) (by decide +kernel))) rfl
theorem mw_1309 : Cond.methodLink RJ7 61 yJ4_toString_0e30d ∈ LW := LWm (tb6 (List.mem_of_getElem? (i := 109) (by decide +kernel))) rfl
theorem mw_1310 : Cond.methodLink RJ7 65 ⟨"java/lang/IllegalArgumentException", "<init>", "(Ljava/lang/String;)V"⟩ ∈ LW := LWm (tb6 (List.mem_of_getElem? (i := 110) (by decide +kernel))) rfl
theorem mw_1311 : Cond.methodLink RJ0 1051 yJ2_compress_39247 ∈ LW := LWm (tb6 (List.mem_of_getElem? (i := 111) (by decide +kernel))) rfl
theorem mw_1312 : Cond.static yJ2_compress_39247 ∈ LW := LWm (tb6 (List.mem_of_getElem? (i := 112) (by decide +kernel))) rfl
theorem mw_1313 : Cond.code yJ2_compress_39247 cJ2_compress_39247 6 (some (.array .byte)) ∈ LW := LWm (tb6 (List.mem_of_getElem? (i := 113) (by decide +kernel))) rfl
theorem mw_1314 : Cond.methodLink RJ2 123 yJ2_compress_5af95 ∈ LW := LWm (tb6 (List.mem_of_getElem? (i := 114) (by decide +kernel))) rfl
theorem mw_1315 : Cond.static yJ2_compress_5af95 ∈ LW := LWm (tb6 (List.mem_of_getElem? (i := 115) (by decide +kernel))) rfl
theorem mw_1316 : Cond.code yJ2_compress_5af95 cJ2_compress_5af95 7 (some .int) ∈ LW := LWm (tb6 (List.mem_of_getElem? (i := 116) (by decide +kernel))) rfl
theorem mw_1317 : Cond.methodLink RJ2 71 yJ2_getChar_3b067 ∈ LW := LWm (tb6 (List.mem_of_getElem? (i := 117) (by decide +kernel))) rfl
theorem mw_1318 : Cond.static yJ2_getChar_3b067 ∈ LW := LWm (tb6 (List.mem_of_getElem? (i := 118) (by decide +kernel))) rfl
theorem mw_1319 : Cond.code yJ2_getChar_3b067 cJ2_getChar_3b067 2 (some .char) ∈ LW := LWm (tb6 (List.mem_of_getElem? (i := 119) (by decide +kernel))) rfl
theorem mw_1320 : Cond.methodLink RJ2 126 yJ7_copyOfRange_39247 ∈ LW := LWm (tb6 (List.mem_of_getElem? (i := 120) (by decide +kernel))) rfl
theorem mw_1321 : Cond.methodLink RJ0 47 yJ2_coderFromArrayLen_85cad ∈ LW := LWm (tb6 (List.mem_of_getElem? (i := 121) (by decide +kernel))) rfl
theorem mw_1322 : Cond.static yJ2_coderFromArrayLen_85cad ∈ LW := LWm (tb6 (List.mem_of_getElem? (i := 122) (by decide +kernel))) rfl
theorem mw_1323 : Cond.code yJ2_coderFromArrayLen_85cad cJ2_coderFromArrayLen_85cad 2 (some .byte) ∈ LW := LWm (tb6 (List.mem_of_getElem? (i := 123) (by decide +kernel))) rfl
theorem mw_1324 : Cond.fieldLink RJ0 9 "java/lang/String" "value" "[B" ∈ LW := LWm (tb6 (List.mem_of_getElem? (i := 124) (by decide +kernel))) rfl
theorem mw_1325 : Cond.fieldLink RJ0 15 "java/lang/String" "coder" "B" ∈ LW := LWm (tb6 (List.mem_of_getElem? (i := 125) (by decide +kernel))) rfl
theorem mw_1331 : Cond.methodLink RL 284 yL_line ∈ LW := LWm (tb6 (List.mem_of_getElem? (i := 131) (by decide +kernel))) rfl
theorem mw_1332 : Cond.static yL_line ∈ LW := LWm (tb6 (List.mem_of_getElem? (i := 132) (by decide +kernel))) rfl
theorem mw_1333 : Cond.codeWith yL_line cL_line 3 (some .int) [(0, 5, 6, 22)] ∈ LW := LWm (tb6 (List.mem_of_getElem? (i := 133) rfl)) rfl
theorem mw_1334 : Cond.methodLink RL 83 yX9_line ∈ LW := LWm (tb6 (List.mem_of_getElem? (i := 134) (by decide +kernel))) rfl
theorem mw_1335 : Cond.instanceMethod yX9_line ∈ LW := LWm (tb6 (List.mem_of_getElem? (i := 135) (by decide +kernel))) rfl
theorem mw_1336 : Cond.selects RX9 yX9_line yX9_line ∈ LW := LWm (tb6 (List.mem_of_getElem? (i := 136) (by decide +kernel))) rfl
theorem mw_1337 : Cond.code yX9_line cX9_line 2 (some .int) ∈ LW := LWm (tb6 (List.mem_of_getElem? (i := 137) (by decide +kernel))) rfl
theorem mw_1338 : Cond.methodLinkNest RX9 240 yX2_writeBar RX9 ∈ NW := NWm (tb6 (List.mem_of_getElem? (i := 138) (by decide +kernel))) rfl
theorem mw_1340 : Cond.instanceMethod yX2_writeBar ∈ LW := LWm (tb6 (List.mem_of_getElem? (i := 140) (by decide +kernel))) rfl
theorem mw_1341 : Cond.code yX2_writeBar cX2_writeBar 3 (some .int) ∈ LW := LWm (tb6 (List.mem_of_getElem? (i := 141) (by decide +kernel))) rfl
theorem mw_1342 : Cond.methodLinkNest RX2 27 yX5_countOfSounds RX9 ∈ NW := NWm (tb6 (List.mem_of_getElem? (i := 142) (by decide +kernel))) rfl
theorem mw_1343 : Cond.methodLinkNest RX2 33 yX5_overlap RX9 ∈ NW := NWm (tb6 (List.mem_of_getElem? (i := 143) (by decide +kernel))) rfl
theorem mw_1344 : Cond.methodLink RX2 37 yX2_addPart ∈ LW := LWm (tb6 (List.mem_of_getElem? (i := 144) (by decide +kernel))) rfl
theorem mw_1346 : Cond.instanceMethod yX2_addPart ∈ LW := LWm (tb6 (List.mem_of_getElem? (i := 146) (by decide +kernel))) rfl
theorem mw_1347 : Cond.code yX2_addPart cX2_addPart 3 none ∈ LW := LWm (tb6 (List.mem_of_getElem? (i := 147) (by decide +kernel))) rfl
theorem mw_1348 : Cond.methodLinkNest RX2 56 yX5_isTied RX9 ∈ NW := NWm (tb6 (List.mem_of_getElem? (i := 148) (by decide +kernel))) rfl
theorem mw_1349 : Cond.methodLink RX2 41 yX2_addSign ∈ LW := LWm (tb6 (List.mem_of_getElem? (i := 149) (by decide +kernel))) rfl
theorem mw_1351 : Cond.instanceMethod yX2_addSign ∈ LW := LWm (tb6 (List.mem_of_getElem? (i := 151) (by decide +kernel))) rfl
theorem mw_1352 : Cond.code yX2_addSign cX2_addSign 2 none ∈ LW := LWm (tb6 (List.mem_of_getElem? (i := 152) (by decide +kernel))) rfl
theorem mw_1353 : Cond.methodLinkNest RX2 60 yX5_isRest RX9 ∈ NW := NWm (tb6 (List.mem_of_getElem? (i := 153) (by decide +kernel))) rfl
theorem mw_1354 : Cond.methodLinkNest RX2 64 yX5_pitchOf RX9 ∈ NW := NWm (tb6 (List.mem_of_getElem? (i := 154) (by decide +kernel))) rfl
theorem mw_1355 : Cond.methodLink RX2 52 yX2_addNumber ∈ LW := LWm (tb6 (List.mem_of_getElem? (i := 155) (by decide +kernel))) rfl
theorem mw_1357 : Cond.instanceMethod yX2_addNumber ∈ LW := LWm (tb6 (List.mem_of_getElem? (i := 157) (by decide +kernel))) rfl
theorem mw_1358 : Cond.code yX2_addNumber cX2_addNumber 2 none ∈ LW := LWm (tb6 (List.mem_of_getElem? (i := 158) (by decide +kernel))) rfl
theorem mw_1359 : Cond.methodLinkNest RX2 45 yX5_sizeOf RX9 ∈ NW := NWm (tb6 (List.mem_of_getElem? (i := 159) (by decide +kernel))) rfl
theorem mw_1360 : Cond.methodLinkNest RX2 49 yX5_filledOfBar RX9 ∈ NW := NWm (tb6 (List.mem_of_getElem? (i := 160) (by decide +kernel))) rfl
theorem mw_1362 : Cond.methodLink RL 288 yL_spells ∈ LW := LWm (tb6 (List.mem_of_getElem? (i := 162) (by decide +kernel))) rfl
theorem mw_1363 : Cond.static yL_spells ∈ LW := LWm (tb6 (List.mem_of_getElem? (i := 163) (by decide +kernel))) rfl
theorem mw_1364 : Cond.code yL_spells cL_spells 5 (some .boolean) ∈ LW := LWm (tb6 (List.mem_of_getElem? (i := 164) rfl)) rfl
theorem mw_1365 : Cond.methodLink RL 109 yJ0_length_8abf5 ∈ LW := LWm (tb6 (List.mem_of_getElem? (i := 165) (by decide +kernel))) rfl
theorem mw_1366 : Cond.methodLink RL 260 yL_character ∈ LW := LWm (tb6 (List.mem_of_getElem? (i := 166) (by decide +kernel))) rfl
theorem mw_1367 : Cond.static yL_character ∈ LW := LWm (tb6 (List.mem_of_getElem? (i := 167) (by decide +kernel))) rfl
theorem mw_1368 : Cond.codeWith yL_character cL_character 3 (some .int) [(0, 5, 6, 22)] ∈ LW := LWm (tb6 (List.mem_of_getElem? (i := 168) rfl)) rfl
theorem mw_1369 : Cond.methodLink RL 89 yX9_character ∈ LW := LWm (tb6 (List.mem_of_getElem? (i := 169) (by decide +kernel))) rfl
theorem mw_1370 : Cond.instanceMethod yX9_character ∈ LW := LWm (tb6 (List.mem_of_getElem? (i := 170) (by decide +kernel))) rfl
theorem mw_1371 : Cond.selects RX9 yX9_character yX9_character ∈ LW := LWm (tb6 (List.mem_of_getElem? (i := 171) (by decide +kernel))) rfl
theorem mw_1372 : Cond.code yX9_character cX9_character 2 (some .char) ∈ LW := LWm (tb6 (List.mem_of_getElem? (i := 172) (by decide +kernel))) rfl
theorem mw_1373 : Cond.methodLinkNest RX9 246 yX2_hasSign RX9 ∈ NW := NWm (tb6 (List.mem_of_getElem? (i := 173) (by decide +kernel))) rfl
theorem mw_1375 : Cond.instanceMethod yX2_hasSign ∈ LW := LWm (tb6 (List.mem_of_getElem? (i := 175) (by decide +kernel))) rfl
theorem mw_1376 : Cond.code yX2_hasSign cX2_hasSign 2 (some .boolean) ∈ LW := LWm (tb6 (List.mem_of_getElem? (i := 176) (by decide +kernel))) rfl
theorem mw_1377 : Cond.methodLinkNest RX2 23 yX9_isWithin RX9 ∈ NW := NWm (tb6 (List.mem_of_getElem? (i := 177) (by decide +kernel))) rfl
theorem mw_1378 : Cond.methodLinkNest RX9 249 yX2_signAt RX9 ∈ NW := NWm (tb6 (List.mem_of_getElem? (i := 178) (by decide +kernel))) rfl
theorem mw_1380 : Cond.instanceMethod yX2_signAt ∈ LW := LWm (tb6 (List.mem_of_getElem? (i := 180) (by decide +kernel))) rfl
theorem mw_1381 : Cond.code yX2_signAt cX2_signAt 2 (some .char) ∈ LW := LWm (tb6 (List.mem_of_getElem? (i := 181) (by decide +kernel))) rfl
theorem mw_1382 : Cond.methodLink RL 114 yJ0_charAt_5068e ∈ LW := LWm (tb6 (List.mem_of_getElem? (i := 182) (by decide +kernel))) rfl
theorem mw_1383 : Cond.instanceMethod yJ0_charAt_5068e ∈ LW := LWm (tb6 (List.mem_of_getElem? (i := 183) (by decide +kernel))) rfl
theorem mw_1384 : Cond.selects RJ0 yJ0_charAt_5068e yJ0_charAt_5068e ∈ LW := LWm (tb6 (List.mem_of_getElem? (i := 184) (by decide +kernel))) rfl
theorem mw_1385 : Cond.code yJ0_charAt_5068e cJ0_charAt_5068e 2 (some .char) ∈ LW := LWm (tb6 (List.mem_of_getElem? (i := 185) (by decide +kernel))) rfl
theorem mw_1386 : Cond.methodLink RJ0 492 yJ0_isLatin1_aae02 ∈ LW := LWm (tb6 (List.mem_of_getElem? (i := 186) (by decide +kernel))) rfl
theorem mw_1387 : Cond.instanceMethod yJ0_isLatin1_aae02 ∈ LW := LWm (tb6 (List.mem_of_getElem? (i := 187) (by decide +kernel))) rfl
theorem mw_1388 : Cond.selects RJ0 yJ0_isLatin1_aae02 yJ0_isLatin1_aae02 ∈ LW := LWm (tb6 (List.mem_of_getElem? (i := 188) (by decide +kernel))) rfl
theorem mw_1389 : Cond.code yJ0_isLatin1_aae02 cJ0_isLatin1_aae02 1 (some .boolean) ∈ LW := LWm (tb6 (List.mem_of_getElem? (i := 189) (by decide +kernel))) rfl
theorem mw_1390 : Cond.methodLink RJ0 495 yJ1_charAt_3b067 ∈ LW := LWm (tb6 (List.mem_of_getElem? (i := 190) (by decide +kernel))) rfl
theorem mw_1391 : Cond.static yJ1_charAt_3b067 ∈ LW := LWm (tb6 (List.mem_of_getElem? (i := 191) (by decide +kernel))) rfl
theorem mw_1392 : Cond.code yJ1_charAt_3b067 cJ1_charAt_3b067 2 (some .char) ∈ LW := LWm (tb6 (List.mem_of_getElem? (i := 192) (by decide +kernel))) rfl
theorem mw_1393 : Cond.methodLink RJ1 9 yJ0_checkIndex_df160 ∈ LW := LWm (tb6 (List.mem_of_getElem? (i := 193) (by decide +kernel))) rfl
theorem mw_1394 : Cond.methodLink RJ0 498 yJ2_charAt_3b067 ∈ LW := LWm (tb6 (List.mem_of_getElem? (i := 194) (by decide +kernel))) rfl
theorem mw_1395 : Cond.static yJ2_charAt_3b067 ∈ LW := LWm (tb6 (List.mem_of_getElem? (i := 195) (by decide +kernel))) rfl
theorem mw_1396 : Cond.code yJ2_charAt_3b067 cJ2_charAt_3b067 2 (some .char) ∈ LW := LWm (tb6 (List.mem_of_getElem? (i := 196) (by decide +kernel))) rfl
theorem mw_1397 : Cond.methodLink RL 292 yL_tinLine ∈ LW := LWm (tb6 (List.mem_of_getElem? (i := 197) (by decide +kernel))) rfl
theorem mw_1398 : Cond.static yL_tinLine ∈ LW := LWm (tb6 (List.mem_of_getElem? (i := 198) (by decide +kernel))) rfl
theorem mw_1399 : Cond.codeWith yL_tinLine cL_tinLine 3 (some .int) [(0, 5, 6, 22)] ∈ LW := LWm (tb6 (List.mem_of_getElem? (i := 199) rfl)) rfl
theorem mw_1400 : Cond.methodLink RL 86 yX9_tinLine ∈ LW := LWm (tb6 (List.mem_of_getElem? (i := 200) (by decide +kernel))) rfl
theorem mw_1401 : Cond.instanceMethod yX9_tinLine ∈ LW := LWm (tb6 (List.mem_of_getElem? (i := 201) (by decide +kernel))) rfl
theorem mw_1402 : Cond.selects RX9 yX9_tinLine yX9_tinLine ∈ LW := LWm (tb6 (List.mem_of_getElem? (i := 202) (by decide +kernel))) rfl
theorem mw_1403 : Cond.code yX9_tinLine cX9_tinLine 2 (some .int) ∈ LW := LWm (tb6 (List.mem_of_getElem? (i := 203) (by decide +kernel))) rfl
theorem mw_1404 : Cond.methodLinkNest RX9 243 yX2_writeTin RX9 ∈ NW := NWm (tb6 (List.mem_of_getElem? (i := 204) (by decide +kernel))) rfl
theorem mw_1406 : Cond.instanceMethod yX2_writeTin ∈ LW := LWm (tb6 (List.mem_of_getElem? (i := 206) (by decide +kernel))) rfl
theorem mw_1407 : Cond.code yX2_writeTin cX2_writeTin 2 (some .int) ∈ LW := LWm (tb6 (List.mem_of_getElem? (i := 207) (by decide +kernel))) rfl
theorem mw_1408 : Cond.methodLinkNest RX2 67 yX5_keyOf RX9 ∈ NW := NWm (tb6 (List.mem_of_getElem? (i := 208) (by decide +kernel))) rfl
theorem mw_1409 : Cond.methodLinkNest RX2 70 yX5_leakOf RX9 ∈ NW := NWm (tb6 (List.mem_of_getElem? (i := 209) (by decide +kernel))) rfl
theorem mw_1411 : Cond.methodLink RL 198 yL_undone ∈ LW := LWm (tb6 (List.mem_of_getElem? (i := 211) (by decide +kernel))) rfl
theorem mw_1412 : Cond.static yL_undone ∈ LW := LWm (tb6 (List.mem_of_getElem? (i := 212) (by decide +kernel))) rfl
theorem mw_1413 : Cond.code yL_undone cL_undone 8 (some .boolean) ∈ LW := LWm (tb6 (List.mem_of_getElem? (i := 213) rfl)) rfl
theorem mw_1414 : Cond.methodLink RL 306 yL_sum ∈ LW := LWm (tb6 (List.mem_of_getElem? (i := 214) (by decide +kernel))) rfl
theorem mw_1415 : Cond.static yL_sum ∈ LW := LWm (tb6 (List.mem_of_getElem? (i := 215) (by decide +kernel))) rfl
theorem mw_1416 : Cond.code yL_sum cL_sum 4 (some .long) ∈ LW := LWm (tb6 (List.mem_of_getElem? (i := 216) rfl)) rfl
theorem mw_1422 : Cond.methodLink RL 310 yL_lift ∈ LW := LWm (tb6 (List.mem_of_getElem? (i := 222) (by decide +kernel))) rfl
theorem mw_1423 : Cond.static yL_lift ∈ LW := LWm (tb6 (List.mem_of_getElem? (i := 223) (by decide +kernel))) rfl
theorem mw_1424 : Cond.codeWith yL_lift cL_lift 2 (some .int) [(0, 4, 5, 16)] ∈ LW := LWm (tb6 (List.mem_of_getElem? (i := 224) rfl)) rfl
theorem mw_1425 : Cond.methodLink RL 34 yX9_lift ∈ LW := LWm (tb6 (List.mem_of_getElem? (i := 225) (by decide +kernel))) rfl
theorem mw_1426 : Cond.instanceMethod yX9_lift ∈ LW := LWm (tb6 (List.mem_of_getElem? (i := 226) (by decide +kernel))) rfl
theorem mw_1427 : Cond.selects RX9 yX9_lift yX9_lift ∈ LW := LWm (tb6 (List.mem_of_getElem? (i := 227) (by decide +kernel))) rfl
