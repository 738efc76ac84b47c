theorem mw_0 : Cond.initialized RL ∈ LW := LWm (tb1 (List.mem_of_getElem? (i := 0) (by decide +kernel))) rfl
theorem mw_1 : Cond.initialized RX9 ∈ LW := LWm (tb1 (List.mem_of_getElem? (i := 1) (by decide +kernel))) rfl
theorem mw_2 : Cond.initialized RX5 ∈ LW := LWm (tb1 (List.mem_of_getElem? (i := 2) (by decide +kernel))) rfl
theorem mw_3 : Cond.initialized RX1 ∈ LW := LWm (tb1 (List.mem_of_getElem? (i := 3) (by decide +kernel))) rfl
theorem mw_4 : Cond.initialized RX6 ∈ LW := LWm (tb1 (List.mem_of_getElem? (i := 4) (by decide +kernel))) rfl
theorem mw_5 : Cond.initialized RX3 ∈ LW := LWm (tb1 (List.mem_of_getElem? (i := 5) (by decide +kernel))) rfl
theorem mw_6 : Cond.initialized RX7 ∈ LW := LWm (tb1 (List.mem_of_getElem? (i := 6) (by decide +kernel))) rfl
theorem mw_7 : Cond.initialized RX2 ∈ LW := LWm (tb1 (List.mem_of_getElem? (i := 7) (by decide +kernel))) rfl
theorem mw_8 : Cond.initialized RX8 ∈ LW := LWm (tb1 (List.mem_of_getElem? (i := 8) (by decide +kernel))) rfl
theorem mw_9 : Cond.initialized RX0 ∈ LW := LWm (tb1 (List.mem_of_getElem? (i := 9) (by decide +kernel))) rfl
theorem mw_10 : Cond.initialized RJx29ce0 ∈ LW := LWm (tb1 (List.mem_of_getElem? (i := 10) (by decide +kernel))) rfl
theorem mw_11 : Cond.initialized RX4 ∈ LW := LWm (tb1 (List.mem_of_getElem? (i := 11) (by decide +kernel))) rfl
theorem mw_12 : Cond.initialized "java/lang/Throwable" ∈ LW := LWm (tb1 (List.mem_of_getElem? (i := 12) (by decide +kernel))) rfl
theorem mw_13 : Cond.initialized "java/lang/Exception" ∈ LW := LWm (tb1 (List.mem_of_getElem? (i := 13) (by decide +kernel))) rfl
theorem mw_14 : Cond.initialized "java/lang/RuntimeException" ∈ LW := LWm (tb1 (List.mem_of_getElem? (i := 14) (by decide +kernel))) rfl
theorem mw_15 : Cond.initialized "java/lang/IndexOutOfBoundsException" ∈ LW := LWm (tb1 (List.mem_of_getElem? (i := 15) (by decide +kernel))) rfl
theorem mw_16 : Cond.initialized "java/lang/IllegalArgumentException" ∈ LW := LWm (tb1 (List.mem_of_getElem? (i := 16) (by decide +kernel))) rfl
theorem mw_17 : Cond.initialized "java/lang/UnsupportedOperationException" ∈ LW := LWm (tb1 (List.mem_of_getElem? (i := 17) (by decide +kernel))) rfl
theorem mw_18 : Cond.initialized RJ9 ∈ LW := LWm (tb1 (List.mem_of_getElem? (i := 18) (by decide +kernel))) rfl
theorem mw_19 : Cond.initialized RJx00060 ∈ LW := LWm (tb1 (List.mem_of_getElem? (i := 19) (by decide +kernel))) rfl
theorem mw_20 : Cond.initialized RJ0 ∈ LW := LWm (tb1 (List.mem_of_getElem? (i := 20) (by decide +kernel))) rfl
theorem mw_21 : Cond.initialized "java/util/NoSuchElementException" ∈ LW := LWm (tb1 (List.mem_of_getElem? (i := 21) (by decide +kernel))) rfl
theorem mw_22 : Cond.initialized "java/lang/ArithmeticException" ∈ LW := LWm (tb1 (List.mem_of_getElem? (i := 22) (by decide +kernel))) rfl
theorem mw_23 : Cond.initialized RJ5 ∈ LW := LWm (tb1 (List.mem_of_getElem? (i := 23) (by decide +kernel))) rfl
theorem mw_24 : Cond.initialized RJ4 ∈ LW := LWm (tb1 (List.mem_of_getElem? (i := 24) (by decide +kernel))) rfl
theorem mw_25 : Cond.initialized RJ2 ∈ LW := LWm (tb1 (List.mem_of_getElem? (i := 25) (by decide +kernel))) rfl
theorem mw_26 : Cond.initialized RJ8 ∈ LW := LWm (tb1 (List.mem_of_getElem? (i := 26) (by decide +kernel))) rfl
theorem mw_27 : Cond.initialized RJ7 ∈ LW := LWm (tb1 (List.mem_of_getElem? (i := 27) (by decide +kernel))) rfl
theorem mw_28 : Cond.initialized RJ10 ∈ LW := LWm (tb1 (List.mem_of_getElem? (i := 28) (by decide +kernel))) rfl
theorem mw_29 : Cond.initialized RJ3 ∈ LW := LWm (tb1 (List.mem_of_getElem? (i := 29) (by decide +kernel))) rfl
theorem mw_30 : Cond.initialized RJ1 ∈ LW := LWm (tb1 (List.mem_of_getElem? (i := 30) (by decide +kernel))) rfl
theorem mw_31 : Cond.initialized RJxd2413 ∈ LW := LWm (tb1 (List.mem_of_getElem? (i := 31) (by decide +kernel))) rfl
theorem mw_32 : Cond.initialized RJ6 ∈ LW := LWm (tb1 (List.mem_of_getElem? (i := 32) (by decide +kernel))) rfl
theorem mw_33 : Cond.initialized "java/lang/IllegalStateException" ∈ LW := LWm (tb1 (List.mem_of_getElem? (i := 33) (by decide +kernel))) rfl
theorem mw_34 : Cond.methodLink RL 178 yL_drawn ∈ LW := LWm (tb1 (List.mem_of_getElem? (i := 34) (by decide +kernel))) rfl
theorem mw_35 : Cond.static yL_drawn ∈ LW := LWm (tb1 (List.mem_of_getElem? (i := 35) (by decide +kernel))) rfl
theorem mw_36 : Cond.code yL_drawn cL_drawn 7 (some (.object "TinRoofScore")) ∈ LW := LWm (tb1 (List.mem_of_getElem? (i := 36) (by decide +kernel))) rfl
theorem mw_37 : Cond.classLink RL 9 RX9 ∈ LW := LWm (tb1 (List.mem_of_getElem? (i := 37) (by decide +kernel))) rfl
theorem mw_38 : Cond.instantiable RX9 11 ∈ LW := LWm (tb1 (List.mem_of_getElem? (i := 38) (by decide +kernel))) rfl
theorem mw_39 : Cond.methodLink RL 126 yX9_init ∈ LW := LWm (tb1 (List.mem_of_getElem? (i := 39) (by decide +kernel))) rfl
theorem mw_40 : Cond.instanceMethod yX9_init ∈ LW := LWm (tb1 (List.mem_of_getElem? (i := 40) (by decide +kernel))) rfl
theorem mw_41 : Cond.code yX9_init cX9_init 1 none ∈ LW := LWm (tb1 (List.mem_of_getElem? (i := 41) (by decide +kernel))) rfl
theorem mw_42 : Cond.methodLink RX9 1 ⟨"java/lang/Object", "<init>", "()V"⟩ ∈ LW := LWm (tb1 (List.mem_of_getElem? (i := 42) (by decide +kernel))) rfl
theorem mw_43 : Cond.instanceMethod ⟨"java/lang/Object", "<init>", "()V"⟩ ∈ LW := LWm (tb1 (List.mem_of_getElem? (i := 43) (by decide +kernel))) rfl
theorem mw_44 : Cond.code ⟨"java/lang/Object", "<init>", "()V"⟩ object_method_1_code 1 none ∈ LW := LWm (tb1 (List.mem_of_getElem? (i := 44) (by decide +kernel))) rfl
theorem mw_45 : Cond.classLink RX9 7 RX5 ∈ LW := LWm (tb1 (List.mem_of_getElem? (i := 45) (by decide +kernel))) rfl
theorem mw_46 : Cond.instantiable RX5 11 ∈ LW := LWm (tb1 (List.mem_of_getElem? (i := 46) (by decide +kernel))) rfl
theorem mw_47 : Cond.methodLinkNest RX9 9 yX5_init RX9 ∈ NW := NWm (tb1 (List.mem_of_getElem? (i := 47) (by decide +kernel))) rfl
theorem mw_48 : Cond.instanceMethod yX5_init ∈ LW := LWm (tb1 (List.mem_of_getElem? (i := 48) (by decide +kernel))) rfl
theorem mw_49 : Cond.code yX5_init cX5_init 1 none ∈ LW := LWm (tb1 (List.mem_of_getElem? (i := 49) (by decide +kernel))) rfl
theorem mw_50 : Cond.methodLink RX5 3 ⟨"java/lang/Object", "<init>", "()V"⟩ ∈ LW := LWm (tb1 (List.mem_of_getElem? (i := 50) (by decide +kernel))) rfl
theorem mw_51 : Cond.fieldLink RX5 9 "TinRoofScore$Print" "sizes" "[I" ∈ LW := LWm (tb1 (List.mem_of_getElem? (i := 51) (by decide +kernel))) rfl
theorem mw_52 : Cond.fieldLink RX5 15 "TinRoofScore$Print" "keys" "[I" ∈ LW := LWm (tb1 (List.mem_of_getElem? (i := 52) (by decide +kernel))) rfl
theorem mw_53 : Cond.fieldLink RX5 18 "TinRoofScore$Print" "leaks" "[I" ∈ LW := LWm (tb1 (List.mem_of_getElem? (i := 53) (by decide +kernel))) rfl
theorem mw_54 : Cond.fieldLink RX5 21 "TinRoofScore$Print" "tins" "[I" ∈ LW := LWm (tb1 (List.mem_of_getElem? (i := 54) (by decide +kernel))) rfl
theorem mw_55 : Cond.fieldLink RX5 24 "TinRoofScore$Print" "heights" "[I" ∈ LW := LWm (tb1 (List.mem_of_getElem? (i := 55) (by decide +kernel))) rfl
theorem mw_56 : Cond.fieldLink RX5 27 "TinRoofScore$Print" "lengths" "[I" ∈ LW := LWm (tb1 (List.mem_of_getElem? (i := 56) (by decide +kernel))) rfl
theorem mw_57 : Cond.fieldLink RX5 30 "TinRoofScore$Print" "bars" "I" ∈ LW := LWm (tb1 (List.mem_of_getElem? (i := 57) (by decide +kernel))) rfl
theorem mw_58 : Cond.fieldLink RX5 34 "TinRoofScore$Print" "sounds" "I" ∈ LW := LWm (tb1 (List.mem_of_getElem? (i := 58) (by decide +kernel))) rfl
theorem mw_59 : Cond.fieldLink RX5 37 "TinRoofScore$Print" "farthest" "I" ∈ LW := LWm (tb1 (List.mem_of_getElem? (i := 59) (by decide +kernel))) rfl
theorem mw_60 : Cond.fieldLink RX5 40 "TinRoofScore$Print" "soundsSet" "I" ∈ LW := LWm (tb1 (List.mem_of_getElem? (i := 60) (by decide +kernel))) rfl
theorem mw_61 : Cond.fieldLink RX5 43 "TinRoofScore$Print" "soundsTaken" "I" ∈ LW := LWm (tb1 (List.mem_of_getElem? (i := 61) (by decide +kernel))) rfl
theorem mw_85 : Cond.arrayClass .int ∈ LW := LWm (tb1 (List.mem_of_getElem? (i := 85) (by decide +kernel))) rfl
theorem mw_86 : Cond.classLink RX9 22 RX1 ∈ LW := LWm (tb1 (List.mem_of_getElem? (i := 86) (by decide +kernel))) rfl
theorem mw_87 : Cond.instantiable RX1 3 ∈ LW := LWm (tb1 (List.mem_of_getElem? (i := 87) (by decide +kernel))) rfl
theorem mw_88 : Cond.methodLinkNest RX9 24 yX1_init RX9 ∈ NW := NWm (tb1 (List.mem_of_getElem? (i := 88) (by decide +kernel))) rfl
theorem mw_89 : Cond.instanceMethod yX1_init ∈ LW := LWm (tb1 (List.mem_of_getElem? (i := 89) (by decide +kernel))) rfl
theorem mw_90 : Cond.code yX1_init cX1_init 2 none ∈ LW := LWm (tb1 (List.mem_of_getElem? (i := 90) (by decide +kernel))) rfl
theorem mw_91 : Cond.methodLink RX1 3 ⟨"java/lang/Object", "<init>", "()V"⟩ ∈ LW := LWm (tb1 (List.mem_of_getElem? (i := 91) (by decide +kernel))) rfl
theorem mw_92 : Cond.fieldLink RX1 18 "TinRoofScore$Judge" "print" "LTinRoofScore$Print;" ∈ LW := LWm (tb1 (List.mem_of_getElem? (i := 92) (by decide +kernel))) rfl
theorem mw_93 : Cond.fieldLink RX1 9 "TinRoofScore$Judge" "reason" "I" ∈ LW := LWm (tb1 (List.mem_of_getElem? (i := 93) (by decide +kernel))) rfl
theorem mw_94 : Cond.fieldLink RX1 15 "TinRoofScore$Judge" "detail" "I" ∈ LW := LWm (tb1 (List.mem_of_getElem? (i := 94) (by decide +kernel))) rfl
theorem mw_102 : Cond.classLink RX9 31 RX6 ∈ LW := LWm (tb1 (List.mem_of_getElem? (i := 102) (by decide +kernel))) rfl
theorem mw_103 : Cond.instantiable RX6 1 ∈ LW := LWm (tb1 (List.mem_of_getElem? (i := 103) (by decide +kernel))) rfl
theorem mw_104 : Cond.methodLinkNest RX9 33 yX6_init RX9 ∈ NW := NWm (tb1 (List.mem_of_getElem? (i := 104) (by decide +kernel))) rfl
theorem mw_105 : Cond.instanceMethod yX6_init ∈ LW := LWm (tb1 (List.mem_of_getElem? (i := 105) (by decide +kernel))) rfl
theorem mw_106 : Cond.code yX6_init cX6_init 2 none ∈ LW := LWm (tb1 (List.mem_of_getElem? (i := 106) (by decide +kernel))) rfl
theorem mw_107 : Cond.methodLink RX6 3 ⟨"java/lang/Object", "<init>", "()V"⟩ ∈ LW := LWm (tb1 (List.mem_of_getElem? (i := 107) (by decide +kernel))) rfl
theorem mw_108 : Cond.fieldLink RX6 9 "TinRoofScore$Proof" "print" "LTinRoofScore$Print;" ∈ LW := LWm (tb1 (List.mem_of_getElem? (i := 108) (by decide +kernel))) rfl
theorem mw_112 : Cond.classLink RX9 38 RX3 ∈ LW := LWm (tb1 (List.mem_of_getElem? (i := 112) (by decide +kernel))) rfl
theorem mw_113 : Cond.instantiable RX3 1 ∈ LW := LWm (tb1 (List.mem_of_getElem? (i := 113) (by decide +kernel))) rfl
theorem mw_114 : Cond.methodLinkNest RX9 40 yX3_init RX9 ∈ NW := NWm (tb1 (List.mem_of_getElem? (i := 114) (by decide +kernel))) rfl
theorem mw_115 : Cond.instanceMethod yX3_init ∈ LW := LWm (tb1 (List.mem_of_getElem? (i := 115) (by decide +kernel))) rfl
theorem mw_116 : Cond.code yX3_init cX3_init 2 none ∈ LW := LWm (tb1 (List.mem_of_getElem? (i := 116) (by decide +kernel))) rfl
theorem mw_117 : Cond.methodLink RX3 3 ⟨"java/lang/Object", "<init>", "()V"⟩ ∈ LW := LWm (tb1 (List.mem_of_getElem? (i := 117) (by decide +kernel))) rfl
theorem mw_118 : Cond.fieldLink RX3 9 "TinRoofScore$Melody" "print" "LTinRoofScore$Print;" ∈ LW := LWm (tb1 (List.mem_of_getElem? (i := 118) (by decide +kernel))) rfl
theorem mw_122 : Cond.classLink RX9 45 RX7 ∈ LW := LWm (tb1 (List.mem_of_getElem? (i := 122) (by decide +kernel))) rfl
theorem mw_123 : Cond.instantiable RX7 1 ∈ LW := LWm (tb1 (List.mem_of_getElem? (i := 123) (by decide +kernel))) rfl
theorem mw_124 : Cond.methodLinkNest RX9 47 yX7_init RX9 ∈ NW := NWm (tb1 (List.mem_of_getElem? (i := 124) (by decide +kernel))) rfl
theorem mw_125 : Cond.instanceMethod yX7_init ∈ LW := LWm (tb1 (List.mem_of_getElem? (i := 125) (by decide +kernel))) rfl
theorem mw_126 : Cond.code yX7_init cX7_init 2 none ∈ LW := LWm (tb1 (List.mem_of_getElem? (i := 126) (by decide +kernel))) rfl
theorem mw_127 : Cond.methodLink RX7 3 ⟨"java/lang/Object", "<init>", "()V"⟩ ∈ LW := LWm (tb1 (List.mem_of_getElem? (i := 127) (by decide +kernel))) rfl
theorem mw_128 : Cond.fieldLink RX7 9 "TinRoofScore$Ranking" "print" "LTinRoofScore$Print;" ∈ LW := LWm (tb1 (List.mem_of_getElem? (i := 128) (by decide +kernel))) rfl
theorem mw_132 : Cond.classLink RX9 52 RX2 ∈ LW := LWm (tb1 (List.mem_of_getElem? (i := 132) (by decide +kernel))) rfl
theorem mw_133 : Cond.instantiable RX2 3 ∈ LW := LWm (tb1 (List.mem_of_getElem? (i := 133) (by decide +kernel))) rfl
theorem mw_134 : Cond.methodLinkNest RX9 54 yX2_init RX9 ∈ NW := NWm (tb1 (List.mem_of_getElem? (i := 134) (by decide +kernel))) rfl
theorem mw_135 : Cond.instanceMethod yX2_init ∈ LW := LWm (tb1 (List.mem_of_getElem? (i := 135) (by decide +kernel))) rfl
theorem mw_136 : Cond.code yX2_init cX2_init 2 none ∈ LW := LWm (tb1 (List.mem_of_getElem? (i := 136) (by decide +kernel))) rfl
theorem mw_137 : Cond.methodLink RX2 3 ⟨"java/lang/Object", "<init>", "()V"⟩ ∈ LW := LWm (tb1 (List.mem_of_getElem? (i := 137) (by decide +kernel))) rfl
theorem mw_138 : Cond.fieldLink RX2 19 "TinRoofScore$Line" "print" "LTinRoofScore$Print;" ∈ LW := LWm (tb1 (List.mem_of_getElem? (i := 138) (by decide +kernel))) rfl
theorem mw_139 : Cond.fieldLink RX2 9 "TinRoofScore$Line" "signs" "[C" ∈ LW := LWm (tb1 (List.mem_of_getElem? (i := 139) (by decide +kernel))) rfl
theorem mw_140 : Cond.fieldLink RX2 15 "TinRoofScore$Line" "length" "I" ∈ LW := LWm (tb1 (List.mem_of_getElem? (i := 140) (by decide +kernel))) rfl
theorem mw_148 : Cond.arrayClass .char ∈ LW := LWm (tb1 (List.mem_of_getElem? (i := 148) (by decide +kernel))) rfl
theorem mw_149 : Cond.classLink RX9 59 RX8 ∈ LW := LWm (tb1 (List.mem_of_getElem? (i := 149) (by decide +kernel))) rfl
theorem mw_150 : Cond.instantiable RX8 7 ∈ LW := LWm (tb1 (List.mem_of_getElem? (i := 150) (by decide +kernel))) rfl
theorem mw_151 : Cond.methodLinkNest RX9 61 yX8_init RX9 ∈ NW := NWm (tb1 (List.mem_of_getElem? (i := 151) (by decide +kernel))) rfl
theorem mw_152 : Cond.instanceMethod yX8_init ∈ LW := LWm (tb1 (List.mem_of_getElem? (i := 152) (by decide +kernel))) rfl
theorem mw_153 : Cond.code yX8_init cX8_init 1 none ∈ LW := LWm (tb1 (List.mem_of_getElem? (i := 153) (by decide +kernel))) rfl
theorem mw_154 : Cond.methodLink RX8 3 ⟨"java/lang/Object", "<init>", "()V"⟩ ∈ LW := LWm (tb1 (List.mem_of_getElem? (i := 154) (by decide +kernel))) rfl
theorem mw_155 : Cond.classLink RX8 15 RX4 ∈ LW := LWm (tb1 (List.mem_of_getElem? (i := 155) (by decide +kernel))) rfl
theorem mw_157 : Cond.fieldLink RX8 9 "TinRoofScore$Text" "signs" "[C" ∈ LW := LWm (tb1 (List.mem_of_getElem? (i := 157) (by decide +kernel))) rfl
theorem mw_158 : Cond.fieldLink RX8 17 "TinRoofScore$Text" "orders" "[LTinRoofScore$Order;" ∈ LW := LWm (tb1 (List.mem_of_getElem? (i := 158) (by decide +kernel))) rfl
theorem mw_159 : Cond.fieldLink RX8 21 "TinRoofScore$Text" "numbers" "[I" ∈ LW := LWm (tb1 (List.mem_of_getElem? (i := 159) (by decide +kernel))) rfl
theorem mw_160 : Cond.fieldLink RX8 25 "TinRoofScore$Text" "length" "I" ∈ LW := LWm (tb1 (List.mem_of_getElem? (i := 160) (by decide +kernel))) rfl
theorem mw_161 : Cond.fieldLink RX8 29 "TinRoofScore$Text" "position" "I" ∈ LW := LWm (tb1 (List.mem_of_getElem? (i := 161) (by decide +kernel))) rfl
theorem mw_162 : Cond.fieldLink RX8 32 "TinRoofScore$Text" "count" "I" ∈ LW := LWm (tb1 (List.mem_of_getElem? (i := 162) (by decide +kernel))) rfl
theorem mw_163 : Cond.fieldLink RX8 35 "TinRoofScore$Text" "error" "I" ∈ LW := LWm (tb1 (List.mem_of_getElem? (i := 163) (by decide +kernel))) rfl
theorem mw_179 : Cond.classLink RX9 66 RX0 ∈ LW := LWm (tb1 (List.mem_of_getElem? (i := 179) (by decide +kernel))) rfl
theorem mw_180 : Cond.instantiable RX0 3 ∈ LW := LWm (tb1 (List.mem_of_getElem? (i := 180) (by decide +kernel))) rfl
theorem mw_181 : Cond.methodLinkNest RX9 68 yX0_init RX9 ∈ NW := NWm (tb1 (List.mem_of_getElem? (i := 181) (by decide +kernel))) rfl
theorem mw_182 : Cond.instanceMethod yX0_init ∈ LW := LWm (tb1 (List.mem_of_getElem? (i := 182) (by decide +kernel))) rfl
theorem mw_183 : Cond.code yX0_init cX0_init 2 none ∈ LW := LWm (tb1 (List.mem_of_getElem? (i := 183) (by decide +kernel))) rfl
theorem mw_184 : Cond.methodLink RX0 3 ⟨"java/lang/Object", "<init>", "()V"⟩ ∈ LW := LWm (tb1 (List.mem_of_getElem? (i := 184) (by decide +kernel))) rfl
theorem mw_185 : Cond.classLink RX0 9 RX5 ∈ LW := LWm (tb1 (List.mem_of_getElem? (i := 185) (by decide +kernel))) rfl
theorem mw_187 : Cond.methodLinkNest RX0 24 yX5_init RX9 ∈ NW := NWm (tb1 (List.mem_of_getElem? (i := 187) (by decide +kernel))) rfl
theorem mw_188 : Cond.fieldLink RX0 11 "TinRoofScore$History" "pages" "[LTinRoofScore$Print;" ∈ LW := LWm (tb1 (List.mem_of_getElem? (i := 188) (by decide +kernel))) rfl
theorem mw_189 : Cond.fieldLink RX0 17 "TinRoofScore$History" "next" "I" ∈ LW := LWm (tb1 (List.mem_of_getElem? (i := 189) (by decide +kernel))) rfl
theorem mw_190 : Cond.fieldLink RX0 21 "TinRoofScore$History" "count" "I" ∈ LW := LWm (tb1 (List.mem_of_getElem? (i := 190) (by decide +kernel))) rfl
theorem mw_198 : Cond.fieldLink RX9 10 "TinRoofScore" "print" "LTinRoofScore$Print;" ∈ LW := LWm (tb1 (List.mem_of_getElem? (i := 198) (by decide +kernel))) rfl
theorem mw_199 : Cond.fieldLink RX9 16 "TinRoofScore" "saved" "LTinRoofScore$Print;" ∈ LW := LWm (tb1 (List.mem_of_getElem? (i := 199) (by decide +kernel))) rfl
theorem mw_200 : Cond.fieldLink RX9 19 "TinRoofScore" "beforeText" "LTinRoofScore$Print;" ∈ LW := LWm (tb1 (List.mem_of_getElem? (i := 200) (by decide +kernel))) rfl
theorem mw_201 : Cond.fieldLink RX9 27 "TinRoofScore" "judge" "LTinRoofScore$Judge;" ∈ LW := LWm (tb1 (List.mem_of_getElem? (i := 201) (by decide +kernel))) rfl
theorem mw_202 : Cond.fieldLink RX9 34 "TinRoofScore" "proof" "LTinRoofScore$Proof;" ∈ LW := LWm (tb1 (List.mem_of_getElem? (i := 202) (by decide +kernel))) rfl
theorem mw_203 : Cond.fieldLink RX9 41 "TinRoofScore" "melody" "LTinRoofScore$Melody;" ∈ LW := LWm (tb1 (List.mem_of_getElem? (i := 203) (by decide +kernel))) rfl
theorem mw_204 : Cond.fieldLink RX9 48 "TinRoofScore" "ranking" "LTinRoofScore$Ranking;" ∈ LW := LWm (tb1 (List.mem_of_getElem? (i := 204) (by decide +kernel))) rfl
theorem mw_205 : Cond.fieldLink RX9 55 "TinRoofScore" "written" "LTinRoofScore$Line;" ∈ LW := LWm (tb1 (List.mem_of_getElem? (i := 205) (by decide +kernel))) rfl
theorem mw_206 : Cond.fieldLink RX9 62 "TinRoofScore" "text" "LTinRoofScore$Text;" ∈ LW := LWm (tb1 (List.mem_of_getElem? (i := 206) (by decide +kernel))) rfl
theorem mw_207 : Cond.fieldLink RX9 69 "TinRoofScore" "history" "LTinRoofScore$History;" ∈ LW := LWm (tb1 (List.mem_of_getElem? (i := 207) (by decide +kernel))) rfl
theorem mw_208 : Cond.fieldLink RX9 73 "TinRoofScore" "isSaved" "Z" ∈ LW := LWm (tb1 (List.mem_of_getElem? (i := 208) (by decide +kernel))) rfl
theorem mw_232 : Cond.methodLink RL 127 yL_cell ∈ LW := LWm (tb1 (List.mem_of_getElem? (i := 232) (by decide +kernel))) rfl
theorem mw_233 : Cond.static yL_cell ∈ LW := LWm (tb1 (List.mem_of_getElem? (i := 233) (by decide +kernel))) rfl
theorem mw_234 : Cond.code yL_cell cL_cell 2 (some .int) ∈ LW := LWm (tb1 (List.mem_of_getElem? (i := 234) (by decide +kernel))) rfl
theorem mw_236 : Cond.methodLink RL 131 yL_bar ∈ LW := LWm (tb1 (List.mem_of_getElem? (i := 236) (by decide +kernel))) rfl
theorem mw_237 : Cond.static yL_bar ∈ LW := LWm (tb1 (List.mem_of_getElem? (i := 237) (by decide +kernel))) rfl
theorem mw_238 : Cond.codeWith yL_bar cL_bar 3 (some .int) [(0, 5, 6, 14), (0, 5, 9, 16)] ∈ LW := LWm (tb1 (List.mem_of_getElem? (i := 238) (by decide +kernel))) rfl
theorem mw_239 : Cond.classLink RL 14 "java/lang/IllegalArgumentException" ∈ LW := LWm (tb1 (List.mem_of_getElem? (i := 239) (by decide +kernel))) rfl
theorem mw_240 : Cond.classLink RL 16 "java/lang/UnsupportedOperationException" ∈ LW := LWm (tb2 (List.mem_of_getElem? (i := 0) (by decide +kernel))) rfl
theorem mw_241 : Cond.methodLink RL 8 yX9_bar ∈ LW := LWm (tb2 (List.mem_of_getElem? (i := 1) (by decide +kernel))) rfl
theorem mw_242 : Cond.instanceMethod yX9_bar ∈ LW := LWm (tb2 (List.mem_of_getElem? (i := 2) (by decide +kernel))) rfl
theorem mw_243 : Cond.selects RX9 yX9_bar yX9_bar ∈ LW := LWm (tb2 (List.mem_of_getElem? (i := 3) (by decide +kernel))) rfl
theorem mw_244 : Cond.code yX9_bar cX9_bar 2 (some .int) ∈ LW := LWm (tb2 (List.mem_of_getElem? (i := 4) (by decide +kernel))) rfl
theorem mw_245 : Cond.fieldLink RX9 77 "TinRoofScore$Order" "BAR" "LTinRoofScore$Order;" ∈ LW := LWm (tb2 (List.mem_of_getElem? (i := 5) (by decide +kernel))) rfl
theorem mw_247 : Cond.methodLink RX9 83 yX9_change ∈ LW := LWm (tb2 (List.mem_of_getElem? (i := 7) (by decide +kernel))) rfl
theorem mw_249 : Cond.instanceMethod yX9_change ∈ LW := LWm (tb2 (List.mem_of_getElem? (i := 9) (by decide +kernel))) rfl
theorem mw_250 : Cond.code yX9_change cX9_change 6 (some .int) ∈ LW := LWm (tb2 (List.mem_of_getElem? (i := 10) (by decide +kernel))) rfl
theorem mw_251 : Cond.methodLinkNest RX9 357 yX1_verdict RX9 ∈ NW := NWm (tb2 (List.mem_of_getElem? (i := 11) (by decide +kernel))) rfl
theorem mw_253 : Cond.instanceMethod yX1_verdict ∈ LW := LWm (tb2 (List.mem_of_getElem? (i := 13) (by decide +kernel))) rfl
theorem mw_254 : Cond.code yX1_verdict cX1_verdict 5 (some .int) ∈ LW := LWm (tb2 (List.mem_of_getElem? (i := 14) (by decide +kernel))) rfl
theorem mw_255 : Cond.fieldLink RX1 22 "TinRoofScore$Order" "BAR" "LTinRoofScore$Order;" ∈ LW := LWm (tb2 (List.mem_of_getElem? (i := 15) (by decide +kernel))) rfl
theorem mw_256 : Cond.methodLink RX1 28 yX1_verdictOnBar ∈ LW := LWm (tb2 (List.mem_of_getElem? (i := 16) (by decide +kernel))) rfl
theorem mw_258 : Cond.instanceMethod yX1_verdictOnBar ∈ LW := LWm (tb2 (List.mem_of_getElem? (i := 18) (by decide +kernel))) rfl
theorem mw_259 : Cond.code yX1_verdictOnBar cX1_verdictOnBar 2 (some .int) ∈ LW := LWm (tb2 (List.mem_of_getElem? (i := 19) (by decide +kernel))) rfl
theorem mw_260 : Cond.methodLinkNest RX1 89 yX9_isWithin RX9 ∈ NW := NWm (tb2 (List.mem_of_getElem? (i := 20) (by decide +kernel))) rfl
theorem mw_261 : Cond.static yX9_isWithin ∈ LW := LWm (tb2 (List.mem_of_getElem? (i := 21) (by decide +kernel))) rfl
theorem mw_262 : Cond.code yX9_isWithin cX9_isWithin 3 (some .boolean) ∈ LW := LWm (tb2 (List.mem_of_getElem? (i := 22) (by decide +kernel))) rfl
theorem mw_263 : Cond.methodLinkNest RX1 70 yX5_countOfBars RX9 ∈ NW := NWm (tb2 (List.mem_of_getElem? (i := 23) (by decide +kernel))) rfl
theorem mw_265 : Cond.instanceMethod yX5_countOfBars ∈ LW := LWm (tb2 (List.mem_of_getElem? (i := 25) (by decide +kernel))) rfl
theorem mw_266 : Cond.code yX5_countOfBars cX5_countOfBars 1 (some .int) ∈ LW := LWm (tb2 (List.mem_of_getElem? (i := 26) (by decide +kernel))) rfl
theorem mw_267 : Cond.methodLink RX1 73 yX1_refuse ∈ LW := LWm (tb2 (List.mem_of_getElem? (i := 27) (by decide +kernel))) rfl
theorem mw_269 : Cond.instanceMethod yX1_refuse ∈ LW := LWm (tb2 (List.mem_of_getElem? (i := 29) (by decide +kernel))) rfl
theorem mw_270 : Cond.code yX1_refuse cX1_refuse 3 (some .int) ∈ LW := LWm (tb2 (List.mem_of_getElem? (i := 30) (by decide +kernel))) rfl
theorem mw_271 : Cond.fieldLink RX1 32 "TinRoofScore$Order" "KEY" "LTinRoofScore$Order;" ∈ LW := LWm (tb2 (List.mem_of_getElem? (i := 31) (by decide +kernel))) rfl
theorem mw_273 : Cond.methodLinkNest RX1 35 yX5_keyOf RX9 ∈ NW := NWm (tb2 (List.mem_of_getElem? (i := 33) (by decide +kernel))) rfl
theorem mw_275 : Cond.instanceMethod yX5_keyOf ∈ LW := LWm (tb2 (List.mem_of_getElem? (i := 35) (by decide +kernel))) rfl
theorem mw_276 : Cond.code yX5_keyOf cX5_keyOf 2 (some .int) ∈ LW := LWm (tb2 (List.mem_of_getElem? (i := 36) (by decide +kernel))) rfl
theorem mw_277 : Cond.methodLinkNest RX5 54 yX9_cell RX9 ∈ NW := NWm (tb2 (List.mem_of_getElem? (i := 37) (by decide +kernel))) rfl
theorem mw_278 : Cond.static yX9_cell ∈ LW := LWm (tb2 (List.mem_of_getElem? (i := 38) (by decide +kernel))) rfl
theorem mw_279 : Cond.code yX9_cell cX9_cell 2 (some .int) ∈ LW := LWm (tb2 (List.mem_of_getElem? (i := 39) (by decide +kernel))) rfl
theorem mw_280 : Cond.methodLink RX1 40 yX1_verdictOnTin ∈ LW := LWm (tb2 (List.mem_of_getElem? (i := 40) (by decide +kernel))) rfl
theorem mw_282 : Cond.instanceMethod yX1_verdictOnTin ∈ LW := LWm (tb2 (List.mem_of_getElem? (i := 42) (by decide +kernel))) rfl
theorem mw_283 : Cond.code yX1_verdictOnTin cX1_verdictOnTin 5 (some .int) ∈ LW := LWm (tb2 (List.mem_of_getElem? (i := 43) (by decide +kernel))) rfl
theorem mw_284 : Cond.methodLinkNest RX1 93 yX9_isTin RX9 ∈ NW := NWm (tb2 (List.mem_of_getElem? (i := 44) (by decide +kernel))) rfl
theorem mw_285 : Cond.static yX9_isTin ∈ LW := LWm (tb2 (List.mem_of_getElem? (i := 45) (by decide +kernel))) rfl
theorem mw_286 : Cond.code yX9_isTin cX9_isTin 1 (some .boolean) ∈ LW := LWm (tb2 (List.mem_of_getElem? (i := 46) (by decide +kernel))) rfl
theorem mw_287 : Cond.methodLink RX9 116 yX9_isWithin ∈ LW := LWm (tb2 (List.mem_of_getElem? (i := 47) (by decide +kernel))) rfl
theorem mw_288 : Cond.fieldLink RX1 44 "TinRoofScore$Order" "LEAK" "LTinRoofScore$Order;" ∈ LW := LWm (tb2 (List.mem_of_getElem? (i := 48) (by decide +kernel))) rfl
theorem mw_290 : Cond.methodLinkNest RX1 47 yX5_leakOf RX9 ∈ NW := NWm (tb2 (List.mem_of_getElem? (i := 50) (by decide +kernel))) rfl
theorem mw_292 : Cond.instanceMethod yX5_leakOf ∈ LW := LWm (tb2 (List.mem_of_getElem? (i := 52) (by decide +kernel))) rfl
theorem mw_293 : Cond.code yX5_leakOf cX5_leakOf 2 (some .int) ∈ LW := LWm (tb2 (List.mem_of_getElem? (i := 53) (by decide +kernel))) rfl
theorem mw_294 : Cond.fieldLink RX1 50 "TinRoofScore$Order" "DROP" "LTinRoofScore$Order;" ∈ LW := LWm (tb2 (List.mem_of_getElem? (i := 54) (by decide +kernel))) rfl
theorem mw_296 : Cond.methodLink RX1 53 yX1_verdictOnDrop ∈ LW := LWm (tb2 (List.mem_of_getElem? (i := 56) (by decide +kernel))) rfl
theorem mw_298 : Cond.instanceMethod yX1_verdictOnDrop ∈ LW := LWm (tb2 (List.mem_of_getElem? (i := 58) (by decide +kernel))) rfl
theorem mw_299 : Cond.code yX1_verdictOnDrop cX1_verdictOnDrop 4 (some .int) ∈ LW := LWm (tb2 (List.mem_of_getElem? (i := 59) (by decide +kernel))) rfl
theorem mw_300 : Cond.methodLink RX1 97 yX1_verdictOnRoom ∈ LW := LWm (tb2 (List.mem_of_getElem? (i := 60) (by decide +kernel))) rfl
theorem mw_302 : Cond.instanceMethod yX1_verdictOnRoom ∈ LW := LWm (tb2 (List.mem_of_getElem? (i := 62) (by decide +kernel))) rfl
theorem mw_303 : Cond.code yX1_verdictOnRoom cX1_verdictOnRoom 3 (some .int) ∈ LW := LWm (tb2 (List.mem_of_getElem? (i := 63) (by decide +kernel))) rfl
theorem mw_304 : Cond.methodLinkNest RX1 66 yX5_countOfSounds RX9 ∈ NW := NWm (tb2 (List.mem_of_getElem? (i := 64) (by decide +kernel))) rfl
theorem mw_306 : Cond.instanceMethod yX5_countOfSounds ∈ LW := LWm (tb2 (List.mem_of_getElem? (i := 66) (by decide +kernel))) rfl
theorem mw_307 : Cond.code yX5_countOfSounds cX5_countOfSounds 1 (some .int) ∈ LW := LWm (tb2 (List.mem_of_getElem? (i := 67) (by decide +kernel))) rfl
theorem mw_308 : Cond.methodLinkNest RX1 100 yX5_freeBeats RX9 ∈ NW := NWm (tb2 (List.mem_of_getElem? (i := 68) (by decide +kernel))) rfl
theorem mw_310 : Cond.instanceMethod yX5_freeBeats ∈ LW := LWm (tb2 (List.mem_of_getElem? (i := 70) (by decide +kernel))) rfl
theorem mw_311 : Cond.code yX5_freeBeats cX5_freeBeats 1 (some .int) ∈ LW := LWm (tb2 (List.mem_of_getElem? (i := 71) (by decide +kernel))) rfl
theorem mw_312 : Cond.methodLink RX5 66 yX5_startOfBar ∈ LW := LWm (tb2 (List.mem_of_getElem? (i := 72) (by decide +kernel))) rfl
theorem mw_314 : Cond.instanceMethod yX5_startOfBar ∈ LW := LWm (tb2 (List.mem_of_getElem? (i := 74) (by decide +kernel))) rfl
theorem mw_315 : Cond.code yX5_startOfBar cX5_startOfBar 4 (some .int) ∈ LW := LWm (tb2 (List.mem_of_getElem? (i := 75) (by decide +kernel))) rfl
theorem mw_316 : Cond.methodLink RX5 70 yX5_startOfSound ∈ LW := LWm (tb2 (List.mem_of_getElem? (i := 76) (by decide +kernel))) rfl
theorem mw_318 : Cond.instanceMethod yX5_startOfSound ∈ LW := LWm (tb2 (List.mem_of_getElem? (i := 78) (by decide +kernel))) rfl
theorem mw_319 : Cond.code yX5_startOfSound cX5_startOfSound 4 (some .int) ∈ LW := LWm (tb2 (List.mem_of_getElem? (i := 79) (by decide +kernel))) rfl
theorem mw_320 : Cond.fieldLink RX1 57 "TinRoofScore$Order" "REST" "LTinRoofScore$Order;" ∈ LW := LWm (tb2 (List.mem_of_getElem? (i := 80) (by decide +kernel))) rfl
theorem mw_322 : Cond.methodLink RX1 60 yX1_verdictOnRest ∈ LW := LWm (tb2 (List.mem_of_getElem? (i := 82) (by decide +kernel))) rfl
theorem mw_324 : Cond.instanceMethod yX1_verdictOnRest ∈ LW := LWm (tb2 (List.mem_of_getElem? (i := 84) (by decide +kernel))) rfl
theorem mw_325 : Cond.code yX1_verdictOnRest cX1_verdictOnRest 2 (some .int) ∈ LW := LWm (tb2 (List.mem_of_getElem? (i := 85) (by decide +kernel))) rfl
theorem mw_326 : Cond.fieldLink RX1 63 "TinRoofScore$Order" "LIFT" "LTinRoofScore$Order;" ∈ LW := LWm (tb2 (List.mem_of_getElem? (i := 86) (by decide +kernel))) rfl
theorem mw_328 : Cond.fieldLink RX1 77 "TinRoofScore$Order" "LIMIT" "LTinRoofScore$Order;" ∈ LW := LWm (tb2 (List.mem_of_getElem? (i := 88) (by decide +kernel))) rfl
theorem mw_330 : Cond.methodLink RX1 80 yX1_verdictOnLimit ∈ LW := LWm (tb2 (List.mem_of_getElem? (i := 90) (by decide +kernel))) rfl
theorem mw_332 : Cond.instanceMethod yX1_verdictOnLimit ∈ LW := LWm (tb2 (List.mem_of_getElem? (i := 92) (by decide +kernel))) rfl
theorem mw_333 : Cond.code yX1_verdictOnLimit cX1_verdictOnLimit 2 (some .int) ∈ LW := LWm (tb2 (List.mem_of_getElem? (i := 93) (by decide +kernel))) rfl
theorem mw_334 : Cond.methodLinkNest RX1 103 yX5_limitNow RX9 ∈ NW := NWm (tb2 (List.mem_of_getElem? (i := 94) (by decide +kernel))) rfl
theorem mw_336 : Cond.instanceMethod yX5_limitNow ∈ LW := LWm (tb2 (List.mem_of_getElem? (i := 96) (by decide +kernel))) rfl
theorem mw_337 : Cond.code yX5_limitNow cX5_limitNow 1 (some .int) ∈ LW := LWm (tb2 (List.mem_of_getElem? (i := 97) (by decide +kernel))) rfl
theorem mw_338 : Cond.fieldLink RX1 83 "TinRoofScore$Order" "TUNE" "LTinRoofScore$Order;" ∈ LW := LWm (tb2 (List.mem_of_getElem? (i := 98) (by decide +kernel))) rfl
theorem mw_340 : Cond.methodLink RX1 86 yX1_verdictOnTune ∈ LW := LWm (tb2 (List.mem_of_getElem? (i := 100) (by decide +kernel))) rfl
theorem mw_342 : Cond.instanceMethod yX1_verdictOnTune ∈ LW := LWm (tb2 (List.mem_of_getElem? (i := 102) (by decide +kernel))) rfl
theorem mw_343 : Cond.code yX1_verdictOnTune cX1_verdictOnTune 3 (some .int) ∈ LW := LWm (tb2 (List.mem_of_getElem? (i := 103) (by decide +kernel))) rfl
theorem mw_344 : Cond.methodLinkNest RX1 106 yX5_hasSound RX9 ∈ NW := NWm (tb2 (List.mem_of_getElem? (i := 104) (by decide +kernel))) rfl
theorem mw_346 : Cond.instanceMethod yX5_hasSound ∈ LW := LWm (tb2 (List.mem_of_getElem? (i := 106) (by decide +kernel))) rfl
theorem mw_347 : Cond.code yX5_hasSound cX5_hasSound 2 (some .boolean) ∈ LW := LWm (tb2 (List.mem_of_getElem? (i := 107) (by decide +kernel))) rfl
theorem mw_348 : Cond.methodLinkNest RX5 58 yX9_isWithin RX9 ∈ NW := NWm (tb2 (List.mem_of_getElem? (i := 108) (by decide +kernel))) rfl
theorem mw_349 : Cond.methodLinkNest RX1 109 yX5_isRest RX9 ∈ NW := NWm (tb2 (List.mem_of_getElem? (i := 109) (by decide +kernel))) rfl
theorem mw_351 : Cond.instanceMethod yX5_isRest ∈ LW := LWm (tb2 (List.mem_of_getElem? (i := 111) (by decide +kernel))) rfl
theorem mw_352 : Cond.code yX5_isRest cX5_isRest 2 (some .boolean) ∈ LW := LWm (tb2 (List.mem_of_getElem? (i := 112) (by decide +kernel))) rfl
theorem mw_353 : Cond.methodLinkNest RX1 112 yX5_beatsOf RX9 ∈ NW := NWm (tb2 (List.mem_of_getElem? (i := 113) (by decide +kernel))) rfl
theorem mw_355 : Cond.instanceMethod yX5_beatsOf ∈ LW := LWm (tb2 (List.mem_of_getElem? (i := 115) (by decide +kernel))) rfl
theorem mw_356 : Cond.code yX5_beatsOf cX5_beatsOf 2 (some .int) ∈ LW := LWm (tb2 (List.mem_of_getElem? (i := 116) (by decide +kernel))) rfl
theorem mw_357 : Cond.methodLinkNest RX1 115 yX5_heightOf RX9 ∈ NW := NWm (tb2 (List.mem_of_getElem? (i := 117) (by decide +kernel))) rfl
theorem mw_359 : Cond.instanceMethod yX5_heightOf ∈ LW := LWm (tb2 (List.mem_of_getElem? (i := 119) (by decide +kernel))) rfl
theorem mw_360 : Cond.code yX5_heightOf cX5_heightOf 2 (some .int) ∈ LW := LWm (tb2 (List.mem_of_getElem? (i := 120) (by decide +kernel))) rfl
theorem mw_361 : Cond.methodLink RX9 112 yX9_needPlace ∈ LW := LWm (tb2 (List.mem_of_getElem? (i := 121) (by decide +kernel))) rfl
theorem mw_362 : Cond.static yX9_needPlace ∈ LW := LWm (tb2 (List.mem_of_getElem? (i := 122) (by decide +kernel))) rfl
theorem mw_363 : Cond.code yX9_needPlace cX9_needPlace 1 none ∈ LW := LWm (tb2 (List.mem_of_getElem? (i := 123) (by decide +kernel))) rfl
theorem mw_364 : Cond.classLink RX9 370 "java/lang/IndexOutOfBoundsException" ∈ LW := LWm (tb2 (List.mem_of_getElem? (i := 124) (by decide +kernel))) rfl
theorem mw_365 : Cond.instantiable "java/lang/IndexOutOfBoundsException" 6 ∈ LW := LWm (tb2 (List.mem_of_getElem? (i := 125) (by decide +kernel))) rfl
theorem mw_366 : Cond.castable "java/lang/IndexOutOfBoundsException" "java/lang/IndexOutOfBoundsException" ∈ NW := NWm (tb2 (List.mem_of_getElem? (i := 126) (by decide +kernel))) rfl
theorem mw_367 : Cond.declares ⟨"java/lang/RuntimeException", "<init>", "()V"⟩ ∈ NW := NWm (tb2 (List.mem_of_getElem? (i := 127) (by decide +kernel))) rfl
theorem mw_368 : Cond.declares ⟨"java/lang/RuntimeException", "<init>", "(Ljava/lang/String;)V"⟩ ∈ NW := NWm (tb2 (List.mem_of_getElem? (i := 128) (by decide +kernel))) rfl
theorem mw_369 : Cond.declares ⟨"java/lang/Exception", "<init>", "()V"⟩ ∈ NW := NWm (tb2 (List.mem_of_getElem? (i := 129) (by decide +kernel))) rfl
theorem mw_370 : Cond.declares ⟨"java/lang/Exception", "<init>", "(Ljava/lang/String;)V"⟩ ∈ NW := NWm (tb2 (List.mem_of_getElem? (i := 130) (by decide +kernel))) rfl
theorem mw_371 : Cond.declares ⟨"java/lang/Throwable", "<init>", "()V"⟩ ∈ NW := NWm (tb2 (List.mem_of_getElem? (i := 131) (by decide +kernel))) rfl
theorem mw_372 : Cond.declares ⟨"java/lang/Throwable", "<init>", "(Ljava/lang/String;)V"⟩ ∈ NW := NWm (tb2 (List.mem_of_getElem? (i := 132) (by decide +kernel))) rfl
theorem mw_373 : Cond.selects "java/lang/IndexOutOfBoundsException" ⟨"java/lang/Throwable", "fillInStackTrace", "(I)Ljava/lang/Throwable;"⟩ ⟨"java/lang/Throwable", "fillInStackTrace", "(I)Ljava/lang/Throwable;"⟩ ∈ LW := LWm (tb2 (List.mem_of_getElem? (i := 133) (by decide +kernel))) rfl
theorem mw_374 : Cond.selects "java/lang/IndexOutOfBoundsException" ⟨"java/lang/Throwable", "fillInStackTrace", "()Ljava/lang/Throwable;"⟩ ⟨"java/lang/Throwable", "fillInStackTrace", "()Ljava/lang/Throwable;"⟩ ∈ LW := LWm (tb2 (List.mem_of_getElem? (i := 134) (by decide +kernel))) rfl
theorem mw_385 : Cond.fieldLink "java/lang/Throwable" 198 "java/lang/Throwable" "backtrace" "Ljava/lang/Object;" ∈ LW := LWm (tb2 (List.mem_of_getElem? (i := 145) (by decide +kernel))) rfl
theorem mw_387 : Cond.instanceMethod ⟨"java/lang/Throwable", "<init>", "()V"⟩ ∈ LW := LWm (tb2 (List.mem_of_getElem? (i := 147) (by decide +kernel))) rfl
theorem mw_388 : Cond.code ⟨"java/lang/Throwable", "<init>", "()V"⟩ prog_35_method_1_code 1 none ∈ LW := LWm (tb2 (List.mem_of_getElem? (i := 148) (by decide +kernel))) rfl
theorem mw_389 : Cond.methodLink "java/lang/Throwable" 1 ⟨"java/lang/Object", "<init>", "()V"⟩ ∈ LW := LWm (tb2 (List.mem_of_getElem? (i := 149) (by decide +kernel))) rfl
theorem mw_390 : Cond.fieldLink "java/lang/Throwable" 13 "java/lang/Throwable" "UNASSIGNED_STACK" "[Ljava/lang/StackTraceElement;" ∈ LW := LWm (tb2 (List.mem_of_getElem? (i := 150) (by decide +kernel))) rfl
theorem mw_392 : Cond.fieldLink "java/lang/Throwable" 20 "java/lang/Throwable" "SUPPRESSED_SENTINEL" "Ljava/util/List;" ∈ LW := LWm (tb2 (List.mem_of_getElem? (i := 152) (by decide +kernel))) rfl
theorem mw_394 : Cond.methodLink "java/lang/Throwable" 27 ⟨"java/lang/Throwable", "fillInStackTrace", "()Ljava/lang/Throwable;"⟩ ∈ LW := LWm (tb2 (List.mem_of_getElem? (i := 154) (by decide +kernel))) rfl
theorem mw_395 : Cond.instanceMethod ⟨"java/lang/Throwable", "fillInStackTrace", "()Ljava/lang/Throwable;"⟩ ∈ LW := LWm (tb2 (List.mem_of_getElem? (i := 155) (by decide +kernel))) rfl
theorem mw_397 : Cond.selects "java/lang/ArithmeticException" ⟨"java/lang/Throwable", "fillInStackTrace", "()Ljava/lang/Throwable;"⟩ ⟨"java/lang/Throwable", "fillInStackTrace", "()Ljava/lang/Throwable;"⟩ ∈ LW := LWm (tb2 (List.mem_of_getElem? (i := 157) (by decide +kernel))) rfl
theorem mw_398 : Cond.selects RJx00060 ⟨"java/lang/Throwable", "fillInStackTrace", "()Ljava/lang/Throwable;"⟩ ⟨"java/lang/Throwable", "fillInStackTrace", "()Ljava/lang/Throwable;"⟩ ∈ LW := LWm (tb2 (List.mem_of_getElem? (i := 158) (by decide +kernel))) rfl
theorem mw_399 : Cond.selects "java/lang/IllegalArgumentException" ⟨"java/lang/Throwable", "fillInStackTrace", "()Ljava/lang/Throwable;"⟩ ⟨"java/lang/Throwable", "fillInStackTrace", "()Ljava/lang/Throwable;"⟩ ∈ LW := LWm (tb2 (List.mem_of_getElem? (i := 159) (by decide +kernel))) rfl
theorem mw_400 : Cond.selects "java/lang/IllegalStateException" ⟨"java/lang/Throwable", "fillInStackTrace", "()Ljava/lang/Throwable;"⟩ ⟨"java/lang/Throwable", "fillInStackTrace", "()Ljava/lang/Throwable;"⟩ ∈ LW := LWm (tb2 (List.mem_of_getElem? (i := 160) (by decide +kernel))) rfl
theorem mw_401 : Cond.selects "java/lang/UnsupportedOperationException" ⟨"java/lang/Throwable", "fillInStackTrace", "()Ljava/lang/Throwable;"⟩ ⟨"java/lang/Throwable", "fillInStackTrace", "()Ljava/lang/Throwable;"⟩ ∈ LW := LWm (tb2 (List.mem_of_getElem? (i := 161) (by decide +kernel))) rfl
theorem mw_402 : Cond.selects "java/util/NoSuchElementException" ⟨"java/lang/Throwable", "fillInStackTrace", "()Ljava/lang/Throwable;"⟩ ⟨"java/lang/Throwable", "fillInStackTrace", "()Ljava/lang/Throwable;"⟩ ∈ LW := LWm (tb2 (List.mem_of_getElem? (i := 162) (by decide +kernel))) rfl
theorem mw_404 : Cond.methodLink "java/lang/Throwable" 202 ⟨"java/lang/Throwable", "fillInStackTrace", "(I)Ljava/lang/Throwable;"⟩ ∈ LW := LWm (tb2 (List.mem_of_getElem? (i := 164) (by decide +kernel))) rfl
theorem mw_406 : Cond.instanceMethod ⟨"java/lang/Throwable", "fillInStackTrace", "(I)Ljava/lang/Throwable;"⟩ ∈ LW := LWm (tb2 (List.mem_of_getElem? (i := 166) (by decide +kernel))) rfl
theorem mw_407 : Cond.instantiable "java/lang/Throwable" 6 ∈ LW := LWm (tb2 (List.mem_of_getElem? (i := 167) (by decide +kernel))) rfl
theorem mw_410 : Cond.methodLink RX9 374 ⟨"java/lang/IndexOutOfBoundsException", "<init>", "(Ljava/lang/String;)V"⟩ ∈ LW := LWm (tb2 (List.mem_of_getElem? (i := 170) (by decide +kernel))) rfl
theorem mw_411 : Cond.instanceMethod ⟨"java/lang/IndexOutOfBoundsException", "<init>", "(Ljava/lang/String;)V"⟩ ∈ LW := LWm (tb2 (List.mem_of_getElem? (i := 171) (by decide +kernel))) rfl
theorem mw_412 : Cond.code ⟨"java/lang/IndexOutOfBoundsException", "<init>", "(Ljava/lang/String;)V"⟩ prog_25_method_2_code 2 none ∈ LW := LWm (tb2 (List.mem_of_getElem? (i := 172) (by decide +kernel))) rfl
theorem mw_413 : Cond.methodLink "java/lang/IndexOutOfBoundsException" 7 ⟨"java/lang/RuntimeException", "<init>", "(Ljava/lang/String;)V"⟩ ∈ LW := LWm (tb2 (List.mem_of_getElem? (i := 173) (by decide +kernel))) rfl
theorem mw_414 : Cond.instanceMethod ⟨"java/lang/RuntimeException", "<init>", "(Ljava/lang/String;)V"⟩ ∈ LW := LWm (tb2 (List.mem_of_getElem? (i := 174) (by decide +kernel))) rfl
theorem mw_415 : Cond.code ⟨"java/lang/RuntimeException", "<init>", "(Ljava/lang/String;)V"⟩ prog_29_method_2_code 2 none ∈ LW := LWm (tb2 (List.mem_of_getElem? (i := 175) (by decide +kernel))) rfl
theorem mw_416 : Cond.methodLink "java/lang/RuntimeException" 7 ⟨"java/lang/Exception", "<init>", "(Ljava/lang/String;)V"⟩ ∈ LW := LWm (tb2 (List.mem_of_getElem? (i := 176) (by decide +kernel))) rfl
theorem mw_417 : Cond.instanceMethod ⟨"java/lang/Exception", "<init>", "(Ljava/lang/String;)V"⟩ ∈ LW := LWm (tb2 (List.mem_of_getElem? (i := 177) (by decide +kernel))) rfl
theorem mw_418 : Cond.code ⟨"java/lang/Exception", "<init>", "(Ljava/lang/String;)V"⟩ prog_22_method_2_code 2 none ∈ LW := LWm (tb2 (List.mem_of_getElem? (i := 178) (by decide +kernel))) rfl
theorem mw_419 : Cond.methodLink "java/lang/Exception" 7 ⟨"java/lang/Throwable", "<init>", "(Ljava/lang/String;)V"⟩ ∈ LW := LWm (tb2 (List.mem_of_getElem? (i := 179) (by decide +kernel))) rfl
theorem mw_420 : Cond.instanceMethod ⟨"java/lang/Throwable", "<init>", "(Ljava/lang/String;)V"⟩ ∈ LW := LWm (tb2 (List.mem_of_getElem? (i := 180) (by decide +kernel))) rfl
theorem mw_421 : Cond.code ⟨"java/lang/Throwable", "<init>", "(Ljava/lang/String;)V"⟩ prog_35_method_2_code 2 none ∈ LW := LWm (tb2 (List.mem_of_getElem? (i := 181) (by decide +kernel))) rfl
theorem mw_423 : Cond.fieldLink "java/lang/Throwable" 31 "java/lang/Throwable" "detailMessage" "Ljava/lang/String;" ∈ LW := LWm (tb2 (List.mem_of_getElem? (i := 183) (by decide +kernel))) rfl
theorem mw_424 : Cond.fieldLink "java/lang/Throwable" 7 "java/lang/Throwable" "cause" "Ljava/lang/Throwable;" ∈ LW := LWm (tb2 (List.mem_of_getElem? (i := 184) (by decide +kernel))) rfl
theorem mw_425 : Cond.fieldLink "java/lang/Throwable" 17 "java/lang/Throwable" "stackTrace" "[Ljava/lang/StackTraceElement;" ∈ LW := LWm (tb2 (List.mem_of_getElem? (i := 185) (by decide +kernel))) rfl
theorem mw_426 : Cond.fieldLink "java/lang/Throwable" 24 "java/lang/Throwable" "suppressedExceptions" "Ljava/util/List;" ∈ LW := LWm (tb2 (List.mem_of_getElem? (i := 186) (by decide +kernel))) rfl
theorem mw_435 : Cond.arrayClass .byte ∈ LW := LWm (tb2 (List.mem_of_getElem? (i := 195) (by decide +kernel))) rfl
theorem mw_436 : Cond.methodLink RX9 120 yX9_needRange ∈ LW := LWm (tb2 (List.mem_of_getElem? (i := 196) (by decide +kernel))) rfl
theorem mw_437 : Cond.static yX9_needRange ∈ LW := LWm (tb2 (List.mem_of_getElem? (i := 197) (by decide +kernel))) rfl
theorem mw_438 : Cond.code yX9_needRange cX9_needRange 1 none ∈ LW := LWm (tb2 (List.mem_of_getElem? (i := 198) (by decide +kernel))) rfl
theorem mw_439 : Cond.classLink RX9 375 "java/lang/IllegalArgumentException" ∈ LW := LWm (tb2 (List.mem_of_getElem? (i := 199) (by decide +kernel))) rfl
theorem mw_440 : Cond.instantiable "java/lang/IllegalArgumentException" 6 ∈ LW := LWm (tb2 (List.mem_of_getElem? (i := 200) (by decide +kernel))) rfl
theorem mw_441 : Cond.castable "java/lang/IllegalArgumentException" "java/lang/IllegalArgumentException" ∈ NW := NWm (tb2 (List.mem_of_getElem? (i := 201) (by decide +kernel))) rfl
theorem mw_442 : Cond.selects "java/lang/IllegalArgumentException" ⟨"java/lang/Throwable", "fillInStackTrace", "(I)Ljava/lang/Throwable;"⟩ ⟨"java/lang/Throwable", "fillInStackTrace", "(I)Ljava/lang/Throwable;"⟩ ∈ LW := LWm (tb2 (List.mem_of_getElem? (i := 202) (by decide +kernel))) rfl
theorem mw_449 : Cond.methodLink RX9 379 ⟨"java/lang/IllegalArgumentException", "<init>", "(Ljava/lang/String;)V"⟩ ∈ LW := LWm (tb2 (List.mem_of_getElem? (i := 209) (by decide +kernel))) rfl
theorem mw_450 : Cond.instanceMethod ⟨"java/lang/IllegalArgumentException", "<init>", "(Ljava/lang/String;)V"⟩ ∈ LW := LWm (tb2 (List.mem_of_getElem? (i := 210) (by decide +kernel))) rfl
theorem mw_451 : Cond.code ⟨"java/lang/IllegalArgumentException", "<init>", "(Ljava/lang/String;)V"⟩ prog_23_method_2_code 2 none ∈ LW := LWm (tb2 (List.mem_of_getElem? (i := 211) (by decide +kernel))) rfl
theorem mw_452 : Cond.methodLink "java/lang/IllegalArgumentException" 7 ⟨"java/lang/RuntimeException", "<init>", "(Ljava/lang/String;)V"⟩ ∈ LW := LWm (tb2 (List.mem_of_getElem? (i := 212) (by decide +kernel))) rfl
theorem mw_455 : Cond.methodLink RX9 273 yX9_needConsent ∈ LW := LWm (tb2 (List.mem_of_getElem? (i := 215) (by decide +kernel))) rfl
theorem mw_456 : Cond.static yX9_needConsent ∈ LW := LWm (tb2 (List.mem_of_getElem? (i := 216) (by decide +kernel))) rfl
theorem mw_457 : Cond.code yX9_needConsent cX9_needConsent 1 none ∈ LW := LWm (tb2 (List.mem_of_getElem? (i := 217) (by decide +kernel))) rfl
theorem mw_458 : Cond.classLink RX9 380 "java/lang/UnsupportedOperationException" ∈ LW := LWm (tb2 (List.mem_of_getElem? (i := 218) (by decide +kernel))) rfl
theorem mw_459 : Cond.instantiable "java/lang/UnsupportedOperationException" 6 ∈ LW := LWm (tb2 (List.mem_of_getElem? (i := 219) (by decide +kernel))) rfl
theorem mw_460 : Cond.castable "java/lang/UnsupportedOperationException" "java/lang/UnsupportedOperationException" ∈ NW := NWm (tb2 (List.mem_of_getElem? (i := 220) (by decide +kernel))) rfl
theorem mw_461 : Cond.selects "java/lang/UnsupportedOperationException" ⟨"java/lang/Throwable", "fillInStackTrace", "(I)Ljava/lang/Throwable;"⟩ ⟨"java/lang/Throwable", "fillInStackTrace", "(I)Ljava/lang/Throwable;"⟩ ∈ LW := LWm (tb2 (List.mem_of_getElem? (i := 221) (by decide +kernel))) rfl
theorem mw_468 : Cond.methodLink RX9 384 ⟨"java/lang/UnsupportedOperationException", "<init>", "(Ljava/lang/String;)V"⟩ ∈ LW := LWm (tb2 (List.mem_of_getElem? (i := 228) (by decide +kernel))) rfl
theorem mw_469 : Cond.instanceMethod ⟨"java/lang/UnsupportedOperationException", "<init>", "(Ljava/lang/String;)V"⟩ ∈ LW := LWm (tb2 (List.mem_of_getElem? (i := 229) (by decide +kernel))) rfl
theorem mw_470 : Cond.code ⟨"java/lang/UnsupportedOperationException", "<init>", "(Ljava/lang/String;)V"⟩ prog_36_method_2_code 2 none ∈ LW := LWm (tb2 (List.mem_of_getElem? (i := 230) (by decide +kernel))) rfl
theorem mw_471 : Cond.methodLink "java/lang/UnsupportedOperationException" 7 ⟨"java/lang/RuntimeException", "<init>", "(Ljava/lang/String;)V"⟩ ∈ LW := LWm (tb2 (List.mem_of_getElem? (i := 231) (by decide +kernel))) rfl
theorem mw_474 : Cond.methodLinkNest RX9 276 yX0_keep RX9 ∈ NW := NWm (tb2 (List.mem_of_getElem? (i := 234) (by decide +kernel))) rfl
theorem mw_476 : Cond.instanceMethod yX0_keep ∈ LW := LWm (tb2 (List.mem_of_getElem? (i := 236) (by decide +kernel))) rfl
theorem mw_477 : Cond.code yX0_keep cX0_keep 3 none ∈ LW := LWm (tb2 (List.mem_of_getElem? (i := 237) (by decide +kernel))) rfl
theorem mw_478 : Cond.methodLink RX0 25 yX0_pageAt ∈ LW := LWm (tb2 (List.mem_of_getElem? (i := 238) (by decide +kernel))) rfl
theorem mw_480 : Cond.instanceMethod yX0_pageAt ∈ LW := LWm (tb3 (List.mem_of_getElem? (i := 0) (by decide +kernel))) rfl
theorem mw_481 : Cond.code yX0_pageAt cX0_pageAt 2 (some (.object "TinRoofScore$Print")) ∈ LW := LWm (tb3 (List.mem_of_getElem? (i := 1) (by decide +kernel))) rfl
theorem mw_482 : Cond.methodLinkNest RX0 29 yX5_become RX9 ∈ NW := NWm (tb3 (List.mem_of_getElem? (i := 2) (by decide +kernel))) rfl
theorem mw_484 : Cond.instanceMethod yX5_become ∈ LW := LWm (tb3 (List.mem_of_getElem? (i := 4) (by decide +kernel))) rfl
theorem mw_485 : Cond.code yX5_become cX5_become 2 none ∈ LW := LWm (tb3 (List.mem_of_getElem? (i := 5) (by decide +kernel))) rfl
theorem mw_486 : Cond.methodLinkNest RX5 46 yX9_copyRow RX9 ∈ NW := NWm (tb3 (List.mem_of_getElem? (i := 6) (by decide +kernel))) rfl
theorem mw_487 : Cond.static yX9_copyRow ∈ LW := LWm (tb3 (List.mem_of_getElem? (i := 7) (by decide +kernel))) rfl
theorem mw_488 : Cond.code yX9_copyRow cX9_copyRow 3 none ∈ LW := LWm (tb3 (List.mem_of_getElem? (i := 8) (by decide +kernel))) rfl
theorem mw_489 : Cond.methodLink RX9 395 yX9_cell ∈ LW := LWm (tb3 (List.mem_of_getElem? (i := 9) (by decide +kernel))) rfl
theorem mw_490 : Cond.methodLink RX9 399 yX9_put ∈ LW := LWm (tb3 (List.mem_of_getElem? (i := 10) (by decide +kernel))) rfl
theorem mw_491 : Cond.static yX9_put ∈ LW := LWm (tb3 (List.mem_of_getElem? (i := 11) (by decide +kernel))) rfl
theorem mw_492 : Cond.code yX9_put cX9_put 3 none ∈ LW := LWm (tb3 (List.mem_of_getElem? (i := 12) (by decide +kernel))) rfl
theorem mw_493 : Cond.methodLink RX0 33 yJ9_min_7cf53 ∈ LW := LWm (tb3 (List.mem_of_getElem? (i := 13) (by decide +kernel))) rfl
theorem mw_494 : Cond.static yJ9_min_7cf53 ∈ LW := LWm (tb3 (List.mem_of_getElem? (i := 14) (by decide +kernel))) rfl
theorem mw_495 : Cond.code yJ9_min_7cf53 cJ9_min_7cf53 2 (some .int) ∈ LW := LWm (tb3 (List.mem_of_getElem? (i := 15) (by decide +kernel))) rfl
theorem mw_496 : Cond.methodLinkNest RX9 360 yX1_carryOut RX9 ∈ NW := NWm (tb3 (List.mem_of_getElem? (i := 16) (by decide +kernel))) rfl
theorem mw_498 : Cond.instanceMethod yX1_carryOut ∈ LW := LWm (tb3 (List.mem_of_getElem? (i := 18) (by decide +kernel))) rfl
theorem mw_499 : Cond.code yX1_carryOut cX1_carryOut 5 (some .int) ∈ LW := LWm (tb3 (List.mem_of_getElem? (i := 19) (by decide +kernel))) rfl
theorem mw_500 : Cond.methodLinkNest RX1 118 yX5_addBar RX9 ∈ NW := NWm (tb3 (List.mem_of_getElem? (i := 20) (by decide +kernel))) rfl
theorem mw_502 : Cond.instanceMethod yX5_addBar ∈ LW := LWm (tb3 (List.mem_of_getElem? (i := 22) (by decide +kernel))) rfl
theorem mw_503 : Cond.code yX5_addBar cX5_addBar 2 (some .int) ∈ LW := LWm (tb3 (List.mem_of_getElem? (i := 23) (by decide +kernel))) rfl
theorem mw_504 : Cond.methodLinkNest RX5 50 yX9_put RX9 ∈ NW := NWm (tb3 (List.mem_of_getElem? (i := 24) (by decide +kernel))) rfl
theorem mw_505 : Cond.methodLinkNest RX1 121 yX5_setKey RX9 ∈ NW := NWm (tb3 (List.mem_of_getElem? (i := 25) (by decide +kernel))) rfl
theorem mw_507 : Cond.instanceMethod yX5_setKey ∈ LW := LWm (tb3 (List.mem_of_getElem? (i := 27) (by decide +kernel))) rfl
theorem mw_508 : Cond.code yX5_setKey cX5_setKey 4 (some .int) ∈ LW := LWm (tb3 (List.mem_of_getElem? (i := 28) (by decide +kernel))) rfl
theorem mw_509 : Cond.methodLinkNest RX1 124 yX5_setLeak RX9 ∈ NW := NWm (tb3 (List.mem_of_getElem? (i := 29) (by decide +kernel))) rfl
theorem mw_511 : Cond.instanceMethod yX5_setLeak ∈ LW := LWm (tb3 (List.mem_of_getElem? (i := 31) (by decide +kernel))) rfl
theorem mw_512 : Cond.code yX5_setLeak cX5_setLeak 4 (some .int) ∈ LW := LWm (tb3 (List.mem_of_getElem? (i := 32) (by decide +kernel))) rfl
theorem mw_513 : Cond.methodLinkNest RX1 127 yX5_addSound RX9 ∈ NW := NWm (tb3 (List.mem_of_getElem? (i := 33) (by decide +kernel))) rfl
theorem mw_515 : Cond.instanceMethod yX5_addSound ∈ LW := LWm (tb3 (List.mem_of_getElem? (i := 35) (by decide +kernel))) rfl
theorem mw_516 : Cond.code yX5_addSound cX5_addSound 4 (some .int) ∈ LW := LWm (tb3 (List.mem_of_getElem? (i := 36) (by decide +kernel))) rfl
theorem mw_517 : Cond.methodLinkNest RX1 130 yX5_takeLast RX9 ∈ NW := NWm (tb3 (List.mem_of_getElem? (i := 37) (by decide +kernel))) rfl
theorem mw_519 : Cond.instanceMethod yX5_takeLast ∈ LW := LWm (tb3 (List.mem_of_getElem? (i := 39) (by decide +kernel))) rfl
theorem mw_520 : Cond.code yX5_takeLast cX5_takeLast 1 (some .int) ∈ LW := LWm (tb3 (List.mem_of_getElem? (i := 40) (by decide +kernel))) rfl
theorem mw_521 : Cond.methodLinkNest RX1 133 yX5_setFarthest RX9 ∈ NW := NWm (tb3 (List.mem_of_getElem? (i := 41) (by decide +kernel))) rfl
theorem mw_523 : Cond.instanceMethod yX5_setFarthest ∈ LW := LWm (tb3 (List.mem_of_getElem? (i := 43) (by decide +kernel))) rfl
theorem mw_524 : Cond.code yX5_setFarthest cX5_setFarthest 3 (some .int) ∈ LW := LWm (tb3 (List.mem_of_getElem? (i := 44) (by decide +kernel))) rfl
theorem mw_525 : Cond.methodLinkNest RX1 136 yX5_setHeight RX9 ∈ NW := NWm (tb3 (List.mem_of_getElem? (i := 45) (by decide +kernel))) rfl
theorem mw_527 : Cond.instanceMethod yX5_setHeight ∈ LW := LWm (tb3 (List.mem_of_getElem? (i := 47) (by decide +kernel))) rfl
theorem mw_528 : Cond.code yX5_setHeight cX5_setHeight 4 (some .int) ∈ LW := LWm (tb3 (List.mem_of_getElem? (i := 48) (by decide +kernel))) rfl
theorem mw_529 : Cond.methodLink RL 134 yL_key ∈ LW := LWm (tb3 (List.mem_of_getElem? (i := 49) (by decide +kernel))) rfl
theorem mw_530 : Cond.static yL_key ∈ LW := LWm (tb3 (List.mem_of_getElem? (i := 50) (by decide +kernel))) rfl
theorem mw_531 : Cond.codeWith yL_key cL_key 4 (some .int) [(0, 6, 7, 22), (0, 6, 10, 14), (0, 6, 14, 16)] ∈ LW := LWm (tb3 (List.mem_of_getElem? (i := 51) (by decide +kernel))) rfl
theorem mw_532 : Cond.classLink RL 22 "java/lang/IndexOutOfBoundsException" ∈ LW := LWm (tb3 (List.mem_of_getElem? (i := 52) (by decide +kernel))) rfl
theorem mw_533 : Cond.instantiable RJx00060 6 ∈ LW := LWm (tb3 (List.mem_of_getElem? (i := 53) (by decide +kernel))) rfl
theorem mw_534 : Cond.instanceMethod yJx00060_init_a7421 ∈ LW := LWm (tb3 (List.mem_of_getElem? (i := 54) (by decide +kernel))) rfl
theorem mw_535 : Cond.code yJx00060_init_a7421 cJx00060_init_a7421 2 none ∈ LW := LWm (tb3 (List.mem_of_getElem? (i := 55) (by decide +kernel))) rfl
theorem mw_536 : Cond.methodLink RJx00060 7 ⟨"java/lang/IndexOutOfBoundsException", "<init>", "(Ljava/lang/String;)V"⟩ ∈ LW := LWm (tb3 (List.mem_of_getElem? (i := 56) (by decide +kernel))) rfl
theorem mw_544 : Cond.castable "java/lang/ArrayIndexOutOfBoundsException" "java/lang/ArrayIndexOutOfBoundsException" ∈ NW := NWm (tb3 (List.mem_of_getElem? (i := 64) (by decide +kernel))) rfl
theorem mw_545 : Cond.declares ⟨"java/lang/IndexOutOfBoundsException", "<init>", "()V"⟩ ∈ NW := NWm (tb3 (List.mem_of_getElem? (i := 65) (by decide +kernel))) rfl
theorem mw_546 : Cond.declares ⟨"java/lang/IndexOutOfBoundsException", "<init>", "(Ljava/lang/String;)V"⟩ ∈ NW := NWm (tb3 (List.mem_of_getElem? (i := 66) (by decide +kernel))) rfl
theorem mw_547 : Cond.selects RJx00060 ⟨"java/lang/Throwable", "fillInStackTrace", "(I)Ljava/lang/Throwable;"⟩ ⟨"java/lang/Throwable", "fillInStackTrace", "(I)Ljava/lang/Throwable;"⟩ ∈ LW := LWm (tb3 (List.mem_of_getElem? (i := 67) (by decide +kernel))) rfl
theorem mw_548 : Cond.instantiable RJ0 4 ∈ LW := LWm (tb3 (List.mem_of_getElem? (i := 68) (by decide +kernel))) rfl
theorem mw_553 : Cond.methodLink RL 18 yX9_key ∈ LW := LWm (tb3 (List.mem_of_getElem? (i := 73) (by decide +kernel))) rfl
theorem mw_554 : Cond.instanceMethod yX9_key ∈ LW := LWm (tb3 (List.mem_of_getElem? (i := 74) (by decide +kernel))) rfl
theorem mw_555 : Cond.selects RX9 yX9_key yX9_key ∈ LW := LWm (tb3 (List.mem_of_getElem? (i := 75) (by decide +kernel))) rfl
theorem mw_556 : Cond.code yX9_key cX9_key 3 (some .int) ∈ LW := LWm (tb3 (List.mem_of_getElem? (i := 76) (by decide +kernel))) rfl
theorem mw_557 : Cond.fieldLink RX9 87 "TinRoofScore$Order" "KEY" "LTinRoofScore$Order;" ∈ LW := LWm (tb3 (List.mem_of_getElem? (i := 77) (by decide +kernel))) rfl
theorem mw_558 : Cond.methodLink RL 137 yL_leak ∈ LW := LWm (tb3 (List.mem_of_getElem? (i := 78) (by decide +kernel))) rfl
theorem mw_559 : Cond.static yL_leak ∈ LW := LWm (tb3 (List.mem_of_getElem? (i := 79) (by decide +kernel))) rfl
theorem mw_560 : Cond.codeWith yL_leak cL_leak 4 (some .int) [(0, 6, 7, 22), (0, 6, 10, 14), (0, 6, 14, 16)] ∈ LW := LWm (tb3 (List.mem_of_getElem? (i := 80) (by decide +kernel))) rfl
theorem mw_561 : Cond.methodLink RL 24 yX9_leak ∈ LW := LWm (tb3 (List.mem_of_getElem? (i := 81) (by decide +kernel))) rfl
theorem mw_562 : Cond.instanceMethod yX9_leak ∈ LW := LWm (tb3 (List.mem_of_getElem? (i := 82) (by decide +kernel))) rfl
theorem mw_563 : Cond.selects RX9 yX9_leak yX9_leak ∈ LW := LWm (tb3 (List.mem_of_getElem? (i := 83) (by decide +kernel))) rfl
theorem mw_564 : Cond.code yX9_leak cX9_leak 3 (some .int) ∈ LW := LWm (tb3 (List.mem_of_getElem? (i := 84) (by decide +kernel))) rfl
theorem mw_565 : Cond.fieldLink RX9 90 "TinRoofScore$Order" "LEAK" "LTinRoofScore$Order;" ∈ LW := LWm (tb3 (List.mem_of_getElem? (i := 85) (by decide +kernel))) rfl
theorem mw_566 : Cond.methodLink RL 139 yL_rest ∈ LW := LWm (tb3 (List.mem_of_getElem? (i := 86) (by decide +kernel))) rfl
theorem mw_567 : Cond.static yL_rest ∈ LW := LWm (tb3 (List.mem_of_getElem? (i := 87) (by decide +kernel))) rfl
theorem mw_568 : Cond.codeWith yL_rest cL_rest 3 (some .int) [(0, 5, 6, 22), (0, 5, 9, 16)] ∈ LW := LWm (tb3 (List.mem_of_getElem? (i := 88) (by decide +kernel))) rfl
theorem mw_569 : Cond.methodLink RL 31 yX9_rest ∈ LW := LWm (tb3 (List.mem_of_getElem? (i := 89) (by decide +kernel))) rfl
theorem mw_570 : Cond.instanceMethod yX9_rest ∈ LW := LWm (tb3 (List.mem_of_getElem? (i := 90) (by decide +kernel))) rfl
theorem mw_571 : Cond.selects RX9 yX9_rest yX9_rest ∈ LW := LWm (tb3 (List.mem_of_getElem? (i := 91) (by decide +kernel))) rfl
theorem mw_572 : Cond.code yX9_rest cX9_rest 2 (some .int) ∈ LW := LWm (tb3 (List.mem_of_getElem? (i := 92) (by decide +kernel))) rfl
theorem mw_573 : Cond.fieldLink RX9 96 "TinRoofScore$Order" "REST" "LTinRoofScore$Order;" ∈ LW := LWm (tb3 (List.mem_of_getElem? (i := 93) (by decide +kernel))) rfl
theorem mw_574 : Cond.methodLink RL 141 yL_drop ∈ LW := LWm (tb3 (List.mem_of_getElem? (i := 94) (by decide +kernel))) rfl
theorem mw_575 : Cond.static yL_drop ∈ LW := LWm (tb3 (List.mem_of_getElem? (i := 95) (by decide +kernel))) rfl
theorem mw_576 : Cond.codeWith yL_drop cL_drop 5 (some .int) [(0, 7, 8, 22), (0, 7, 12, 14), (0, 7, 17, 16)] ∈ LW := LWm (tb3 (List.mem_of_getElem? (i := 96) (by decide +kernel))) rfl
theorem mw_577 : Cond.methodLink RL 27 yX9_drop ∈ LW := LWm (tb3 (List.mem_of_getElem? (i := 97) (by decide +kernel))) rfl
theorem mw_578 : Cond.instanceMethod yX9_drop ∈ LW := LWm (tb3 (List.mem_of_getElem? (i := 98) (by decide +kernel))) rfl
theorem mw_579 : Cond.selects RX9 yX9_drop yX9_drop ∈ LW := LWm (tb3 (List.mem_of_getElem? (i := 99) (by decide +kernel))) rfl
theorem mw_580 : Cond.code yX9_drop cX9_drop 4 (some .int) ∈ LW := LWm (tb3 (List.mem_of_getElem? (i := 100) (by decide +kernel))) rfl
theorem mw_581 : Cond.fieldLink RX9 93 "TinRoofScore$Order" "DROP" "LTinRoofScore$Order;" ∈ LW := LWm (tb3 (List.mem_of_getElem? (i := 101) (by decide +kernel))) rfl
theorem mw_582 : Cond.methodLink RL 144 yL_refusal ∈ LW := LWm (tb3 (List.mem_of_getElem? (i := 102) (by decide +kernel))) rfl
theorem mw_583 : Cond.static yL_refusal ∈ LW := LWm (tb3 (List.mem_of_getElem? (i := 103) (by decide +kernel))) rfl
theorem mw_584 : Cond.codeWith yL_refusal cL_refusal 3 (some .int) [(0, 5, 6, 59)] ∈ LW := LWm (tb3 (List.mem_of_getElem? (i := 104) (by decide +kernel))) rfl
theorem mw_585 : Cond.classLink RL 59 "java/util/NoSuchElementException" ∈ LW := LWm (tb3 (List.mem_of_getElem? (i := 105) (by decide +kernel))) rfl
theorem mw_586 : Cond.methodLink RL 102 yX9_refusal ∈ LW := LWm (tb3 (List.mem_of_getElem? (i := 106) (by decide +kernel))) rfl
theorem mw_587 : Cond.instanceMethod yX9_refusal ∈ LW := LWm (tb3 (List.mem_of_getElem? (i := 107) (by decide +kernel))) rfl
theorem mw_588 : Cond.selects RX9 yX9_refusal yX9_refusal ∈ LW := LWm (tb3 (List.mem_of_getElem? (i := 108) (by decide +kernel))) rfl
theorem mw_589 : Cond.code yX9_refusal cX9_refusal 2 (some .int) ∈ LW := LWm (tb3 (List.mem_of_getElem? (i := 109) (by decide +kernel))) rfl
theorem mw_590 : Cond.methodLinkNest RX9 285 yX1_hasRefused RX9 ∈ NW := NWm (tb3 (List.mem_of_getElem? (i := 110) (by decide +kernel))) rfl
theorem mw_592 : Cond.instanceMethod yX1_hasRefused ∈ LW := LWm (tb3 (List.mem_of_getElem? (i := 112) (by decide +kernel))) rfl
theorem mw_593 : Cond.code yX1_hasRefused cX1_hasRefused 1 (some .boolean) ∈ LW := LWm (tb3 (List.mem_of_getElem? (i := 113) (by decide +kernel))) rfl
theorem mw_594 : Cond.methodLink RX9 212 yX9_needElement ∈ LW := LWm (tb3 (List.mem_of_getElem? (i := 114) (by decide +kernel))) rfl
theorem mw_595 : Cond.static yX9_needElement ∈ LW := LWm (tb3 (List.mem_of_getElem? (i := 115) (by decide +kernel))) rfl
theorem mw_596 : Cond.code yX9_needElement cX9_needElement 1 none ∈ LW := LWm (tb3 (List.mem_of_getElem? (i := 116) (by decide +kernel))) rfl
theorem mw_597 : Cond.classLink RX9 385 "java/util/NoSuchElementException" ∈ LW := LWm (tb3 (List.mem_of_getElem? (i := 117) (by decide +kernel))) rfl
theorem mw_598 : Cond.instantiable "java/util/NoSuchElementException" 6 ∈ LW := LWm (tb3 (List.mem_of_getElem? (i := 118) (by decide +kernel))) rfl
theorem mw_599 : Cond.castable "java/util/NoSuchElementException" "java/util/NoSuchElementException" ∈ NW := NWm (tb3 (List.mem_of_getElem? (i := 119) (by decide +kernel))) rfl
theorem mw_600 : Cond.selects "java/util/NoSuchElementException" ⟨"java/lang/Throwable", "fillInStackTrace", "(I)Ljava/lang/Throwable;"⟩ ⟨"java/lang/Throwable", "fillInStackTrace", "(I)Ljava/lang/Throwable;"⟩ ∈ LW := LWm (tb3 (List.mem_of_getElem? (i := 120) (by decide +kernel))) rfl
theorem mw_607 : Cond.methodLink RX9 389 ⟨"java/util/NoSuchElementException", "<init>", "(Ljava/lang/String;)V"⟩ ∈ LW := LWm (tb3 (List.mem_of_getElem? (i := 127) (by decide +kernel))) rfl
theorem mw_608 : Cond.instanceMethod ⟨"java/util/NoSuchElementException", "<init>", "(Ljava/lang/String;)V"⟩ ∈ LW := LWm (tb3 (List.mem_of_getElem? (i := 128) (by decide +kernel))) rfl
theorem mw_609 : Cond.code ⟨"java/util/NoSuchElementException", "<init>", "(Ljava/lang/String;)V"⟩ prog_40_method_4_code 2 none ∈ LW := LWm (tb3 (List.mem_of_getElem? (i := 129) (by decide +kernel))) rfl
theorem mw_610 : Cond.methodLink "java/util/NoSuchElementException" 13 ⟨"java/lang/RuntimeException", "<init>", "(Ljava/lang/String;)V"⟩ ∈ LW := LWm (tb3 (List.mem_of_getElem? (i := 130) (by decide +kernel))) rfl
theorem mw_613 : Cond.methodLinkNest RX9 288 yX1_latestDetail RX9 ∈ NW := NWm (tb3 (List.mem_of_getElem? (i := 133) (by decide +kernel))) rfl
theorem mw_615 : Cond.instanceMethod yX1_latestDetail ∈ LW := LWm (tb3 (List.mem_of_getElem? (i := 135) (by decide +kernel))) rfl
theorem mw_616 : Cond.code yX1_latestDetail cX1_latestDetail 1 (some .int) ∈ LW := LWm (tb3 (List.mem_of_getElem? (i := 136) (by decide +kernel))) rfl
theorem mw_617 : Cond.methodLinkNest RX9 291 yX1_latestReason RX9 ∈ NW := NWm (tb3 (List.mem_of_getElem? (i := 137) (by decide +kernel))) rfl
theorem mw_619 : Cond.instanceMethod yX1_latestReason ∈ LW := LWm (tb3 (List.mem_of_getElem? (i := 139) (by decide +kernel))) rfl
theorem mw_620 : Cond.code yX1_latestReason cX1_latestReason 1 (some .int) ∈ LW := LWm (tb3 (List.mem_of_getElem? (i := 140) (by decide +kernel))) rfl
theorem mw_621 : Cond.methodLink RL 147 yX9_account ∈ LW := LWm (tb3 (List.mem_of_getElem? (i := 141) (by decide +kernel))) rfl
theorem mw_622 : Cond.instanceMethod yX9_account ∈ LW := LWm (tb3 (List.mem_of_getElem? (i := 142) (by decide +kernel))) rfl
theorem mw_623 : Cond.selects RX9 yX9_account yX9_account ∈ LW := LWm (tb3 (List.mem_of_getElem? (i := 143) (by decide +kernel))) rfl
theorem mw_624 : Cond.code yX9_account cX9_account 2 (some .int) ∈ LW := LWm (tb3 (List.mem_of_getElem? (i := 144) (by decide +kernel))) rfl
theorem mw_625 : Cond.methodLinkNest RX9 294 yX5_countOfBars RX9 ∈ NW := NWm (tb3 (List.mem_of_getElem? (i := 145) (by decide +kernel))) rfl
theorem mw_626 : Cond.methodLinkNest RX9 297 yX5_allBeats RX9 ∈ NW := NWm (tb3 (List.mem_of_getElem? (i := 146) (by decide +kernel))) rfl
theorem mw_628 : Cond.instanceMethod yX5_allBeats ∈ LW := LWm (tb3 (List.mem_of_getElem? (i := 148) (by decide +kernel))) rfl
theorem mw_629 : Cond.code yX5_allBeats cX5_allBeats 1 (some .int) ∈ LW := LWm (tb3 (List.mem_of_getElem? (i := 149) (by decide +kernel))) rfl
theorem mw_630 : Cond.methodLinkNest RX9 300 yX5_filledBeats RX9 ∈ NW := NWm (tb3 (List.mem_of_getElem? (i := 150) (by decide +kernel))) rfl
theorem mw_632 : Cond.instanceMethod yX5_filledBeats ∈ LW := LWm (tb3 (List.mem_of_getElem? (i := 152) (by decide +kernel))) rfl
theorem mw_633 : Cond.code yX5_filledBeats cX5_filledBeats 1 (some .int) ∈ LW := LWm (tb3 (List.mem_of_getElem? (i := 153) (by decide +kernel))) rfl
theorem mw_634 : Cond.methodLinkNest RX9 303 yX5_countOfSounds RX9 ∈ NW := NWm (tb3 (List.mem_of_getElem? (i := 154) (by decide +kernel))) rfl
theorem mw_635 : Cond.methodLinkNest RX9 306 yX5_countOfRests RX9 ∈ NW := NWm (tb3 (List.mem_of_getElem? (i := 155) (by decide +kernel))) rfl
theorem mw_637 : Cond.instanceMethod yX5_countOfRests ∈ LW := LWm (tb3 (List.mem_of_getElem? (i := 157) (by decide +kernel))) rfl
theorem mw_638 : Cond.code yX5_countOfRests cX5_countOfRests 3 (some .int) ∈ LW := LWm (tb3 (List.mem_of_getElem? (i := 158) (by decide +kernel))) rfl
theorem mw_639 : Cond.methodLink RX5 62 yX5_isRest ∈ LW := LWm (tb3 (List.mem_of_getElem? (i := 159) (by decide +kernel))) rfl
theorem mw_640 : Cond.methodLinkNest RX9 309 yX5_allParts RX9 ∈ NW := NWm (tb3 (List.mem_of_getElem? (i := 160) (by decide +kernel))) rfl
theorem mw_642 : Cond.instanceMethod yX5_allParts ∈ LW := LWm (tb3 (List.mem_of_getElem? (i := 162) (by decide +kernel))) rfl
theorem mw_643 : Cond.code yX5_allParts cX5_allParts 3 (some .int) ∈ LW := LWm (tb3 (List.mem_of_getElem? (i := 163) (by decide +kernel))) rfl
theorem mw_644 : Cond.methodLink RX5 88 yX5_partsOfBar ∈ LW := LWm (tb3 (List.mem_of_getElem? (i := 164) (by decide +kernel))) rfl
theorem mw_646 : Cond.instanceMethod yX5_partsOfBar ∈ LW := LWm (tb3 (List.mem_of_getElem? (i := 166) (by decide +kernel))) rfl
theorem mw_647 : Cond.code yX5_partsOfBar cX5_partsOfBar 4 (some .int) ∈ LW := LWm (tb3 (List.mem_of_getElem? (i := 167) (by decide +kernel))) rfl
theorem mw_648 : Cond.methodLink RX5 85 yX5_overlap ∈ LW := LWm (tb3 (List.mem_of_getElem? (i := 168) (by decide +kernel))) rfl
theorem mw_650 : Cond.instanceMethod yX5_overlap ∈ LW := LWm (tb3 (List.mem_of_getElem? (i := 170) (by decide +kernel))) rfl
theorem mw_651 : Cond.code yX5_overlap cX5_overlap 7 (some .int) ∈ LW := LWm (tb3 (List.mem_of_getElem? (i := 171) (by decide +kernel))) rfl
theorem mw_652 : Cond.methodLink RX5 73 yJ9_min_7cf53 ∈ LW := LWm (tb3 (List.mem_of_getElem? (i := 172) (by decide +kernel))) rfl
theorem mw_653 : Cond.methodLink RX5 79 yJ9_max_7cf53 ∈ LW := LWm (tb3 (List.mem_of_getElem? (i := 173) (by decide +kernel))) rfl
theorem mw_654 : Cond.static yJ9_max_7cf53 ∈ LW := LWm (tb3 (List.mem_of_getElem? (i := 174) (by decide +kernel))) rfl
theorem mw_655 : Cond.code yJ9_max_7cf53 cJ9_max_7cf53 2 (some .int) ∈ LW := LWm (tb3 (List.mem_of_getElem? (i := 175) (by decide +kernel))) rfl
theorem mw_656 : Cond.methodLinkNest RX9 312 yX5_limitNow RX9 ∈ NW := NWm (tb3 (List.mem_of_getElem? (i := 176) (by decide +kernel))) rfl
theorem mw_657 : Cond.methodLinkNest RX9 315 yX5_setSoFar RX9 ∈ NW := NWm (tb3 (List.mem_of_getElem? (i := 177) (by decide +kernel))) rfl
theorem mw_659 : Cond.instanceMethod yX5_setSoFar ∈ LW := LWm (tb3 (List.mem_of_getElem? (i := 179) (by decide +kernel))) rfl
theorem mw_660 : Cond.code yX5_setSoFar cX5_setSoFar 1 (some .int) ∈ LW := LWm (tb3 (List.mem_of_getElem? (i := 180) (by decide +kernel))) rfl
theorem mw_661 : Cond.methodLinkNest RX9 318 yX5_takenSoFar RX9 ∈ NW := NWm (tb3 (List.mem_of_getElem? (i := 181) (by decide +kernel))) rfl
theorem mw_663 : Cond.instanceMethod yX5_takenSoFar ∈ LW := LWm (tb3 (List.mem_of_getElem? (i := 183) (by decide +kernel))) rfl
theorem mw_664 : Cond.code yX5_takenSoFar cX5_takenSoFar 1 (some .int) ∈ LW := LWm (tb3 (List.mem_of_getElem? (i := 184) (by decide +kernel))) rfl
theorem mw_665 : Cond.methodLinkNest RX9 321 yX8_countOfSigns RX9 ∈ NW := NWm (tb3 (List.mem_of_getElem? (i := 185) (by decide +kernel))) rfl
theorem mw_667 : Cond.instanceMethod yX8_countOfSigns ∈ LW := LWm (tb3 (List.mem_of_getElem? (i := 187) (by decide +kernel))) rfl
theorem mw_668 : Cond.code yX8_countOfSigns cX8_countOfSigns 1 (some .int) ∈ LW := LWm (tb3 (List.mem_of_getElem? (i := 188) (by decide +kernel))) rfl
theorem mw_669 : Cond.methodLinkNest RX9 324 yX0_countOfChanges RX9 ∈ NW := NWm (tb3 (List.mem_of_getElem? (i := 189) (by decide +kernel))) rfl
theorem mw_671 : Cond.instanceMethod yX0_countOfChanges ∈ LW := LWm (tb3 (List.mem_of_getElem? (i := 191) (by decide +kernel))) rfl
theorem mw_672 : Cond.code yX0_countOfChanges cX0_countOfChanges 1 (some .int) ∈ LW := LWm (tb3 (List.mem_of_getElem? (i := 192) (by decide +kernel))) rfl
theorem mw_673 : Cond.methodLink RL 150 yL_limit ∈ LW := LWm (tb3 (List.mem_of_getElem? (i := 193) (by decide +kernel))) rfl
theorem mw_674 : Cond.static yL_limit ∈ LW := LWm (tb3 (List.mem_of_getElem? (i := 194) (by decide +kernel))) rfl
theorem mw_675 : Cond.codeWith yL_limit cL_limit 3 (some .int) [(0, 5, 6, 14), (0, 5, 10, 16)] ∈ LW := LWm (tb3 (List.mem_of_getElem? (i := 195) (by decide +kernel))) rfl
theorem mw_676 : Cond.methodLink RL 38 yX9_limit ∈ LW := LWm (tb3 (List.mem_of_getElem? (i := 196) (by decide +kernel))) rfl
theorem mw_677 : Cond.instanceMethod yX9_limit ∈ LW := LWm (tb3 (List.mem_of_getElem? (i := 197) (by decide +kernel))) rfl
theorem mw_678 : Cond.selects RX9 yX9_limit yX9_limit ∈ LW := LWm (tb3 (List.mem_of_getElem? (i := 198) (by decide +kernel))) rfl
theorem mw_679 : Cond.code yX9_limit cX9_limit 2 (some .int) ∈ LW := LWm (tb3 (List.mem_of_getElem? (i := 199) (by decide +kernel))) rfl
theorem mw_680 : Cond.fieldLink RX9 102 "TinRoofScore$Order" "LIMIT" "LTinRoofScore$Order;" ∈ LW := LWm (tb3 (List.mem_of_getElem? (i := 200) (by decide +kernel))) rfl
theorem mw_681 : Cond.methodLink RL 182 yL_parts ∈ LW := LWm (tb3 (List.mem_of_getElem? (i := 201) (by decide +kernel))) rfl
theorem mw_682 : Cond.static yL_parts ∈ LW := LWm (tb3 (List.mem_of_getElem? (i := 202) (by decide +kernel))) rfl
theorem mw_683 : Cond.code yL_parts cL_parts 14 (some .boolean) ∈ LW := LWm (tb3 (List.mem_of_getElem? (i := 203) (by decide +kernel))) rfl
theorem mw_684 : Cond.methodLink RL 202 yL_sounds ∈ LW := LWm (tb3 (List.mem_of_getElem? (i := 204) (by decide +kernel))) rfl
theorem mw_685 : Cond.static yL_sounds ∈ LW := LWm (tb3 (List.mem_of_getElem? (i := 205) (by decide +kernel))) rfl
theorem mw_686 : Cond.code yL_sounds cL_sounds 13 (some (.array (.array .int))) ∈ LW := LWm (tb3 (List.mem_of_getElem? (i := 206) (by decide +kernel))) rfl
theorem mw_687 : Cond.classLink RL 152 "[[I" ∈ LW := LWm (tb3 (List.mem_of_getElem? (i := 207) (by decide +kernel))) rfl
theorem mw_689 : Cond.methodLink RL 154 yL_of ∈ LW := LWm (tb3 (List.mem_of_getElem? (i := 209) (by decide +kernel))) rfl
theorem mw_690 : Cond.static yL_of ∈ LW := LWm (tb3 (List.mem_of_getElem? (i := 210) (by decide +kernel))) rfl
theorem mw_691 : Cond.codeWith yL_of cL_of 4 (some .int) [(0, 6, 7, 22), (0, 6, 11, 14)] ∈ LW := LWm (tb3 (List.mem_of_getElem? (i := 211) (by decide +kernel))) rfl
theorem mw_692 : Cond.methodLink RL 47 yX9_soundOf ∈ LW := LWm (tb3 (List.mem_of_getElem? (i := 212) (by decide +kernel))) rfl
theorem mw_693 : Cond.instanceMethod yX9_soundOf ∈ LW := LWm (tb3 (List.mem_of_getElem? (i := 213) (by decide +kernel))) rfl
theorem mw_694 : Cond.selects RX9 yX9_soundOf yX9_soundOf ∈ LW := LWm (tb3 (List.mem_of_getElem? (i := 214) (by decide +kernel))) rfl
theorem mw_695 : Cond.code yX9_soundOf cX9_soundOf 3 (some .int) ∈ LW := LWm (tb3 (List.mem_of_getElem? (i := 215) (by decide +kernel))) rfl
theorem mw_696 : Cond.methodLinkNest RX9 137 yX5_hasSound RX9 ∈ NW := NWm (tb3 (List.mem_of_getElem? (i := 216) (by decide +kernel))) rfl
theorem mw_697 : Cond.methodLinkNest RX9 140 yX5_tinOfSound RX9 ∈ NW := NWm (tb3 (List.mem_of_getElem? (i := 217) (by decide +kernel))) rfl
theorem mw_699 : Cond.instanceMethod yX5_tinOfSound ∈ LW := LWm (tb3 (List.mem_of_getElem? (i := 219) (by decide +kernel))) rfl
theorem mw_700 : Cond.code yX5_tinOfSound cX5_tinOfSound 2 (some .int) ∈ LW := LWm (tb3 (List.mem_of_getElem? (i := 220) (by decide +kernel))) rfl
theorem mw_701 : Cond.methodLinkNest RX9 143 yX5_heightOf RX9 ∈ NW := NWm (tb3 (List.mem_of_getElem? (i := 221) (by decide +kernel))) rfl
theorem mw_702 : Cond.methodLinkNest RX9 146 yX5_beatsOf RX9 ∈ NW := NWm (tb3 (List.mem_of_getElem? (i := 222) (by decide +kernel))) rfl
theorem mw_703 : Cond.methodLinkNest RX9 149 yX5_pitchOf RX9 ∈ NW := NWm (tb3 (List.mem_of_getElem? (i := 223) (by decide +kernel))) rfl
theorem mw_705 : Cond.instanceMethod yX5_pitchOf ∈ LW := LWm (tb3 (List.mem_of_getElem? (i := 225) (by decide +kernel))) rfl
theorem mw_706 : Cond.code yX5_pitchOf cX5_pitchOf 4 (some .int) ∈ LW := LWm (tb3 (List.mem_of_getElem? (i := 226) (by decide +kernel))) rfl
theorem mw_707 : Cond.methodLinkNest RX9 152 yX5_partsOfSound RX9 ∈ NW := NWm (tb3 (List.mem_of_getElem? (i := 227) (by decide +kernel))) rfl
theorem mw_709 : Cond.instanceMethod yX5_partsOfSound ∈ LW := LWm (tb3 (List.mem_of_getElem? (i := 229) (by decide +kernel))) rfl
theorem mw_710 : Cond.code yX5_partsOfSound cX5_partsOfSound 3 (some .int) ∈ LW := LWm (tb3 (List.mem_of_getElem? (i := 230) (by decide +kernel))) rfl
theorem mw_711 : Cond.methodLink RX5 82 yX5_barAt ∈ LW := LWm (tb3 (List.mem_of_getElem? (i := 231) (by decide +kernel))) rfl
theorem mw_713 : Cond.instanceMethod yX5_barAt ∈ LW := LWm (tb3 (List.mem_of_getElem? (i := 233) (by decide +kernel))) rfl
theorem mw_714 : Cond.code yX5_barAt cX5_barAt 4 (some .int) ∈ LW := LWm (tb3 (List.mem_of_getElem? (i := 234) (by decide +kernel))) rfl
theorem mw_715 : Cond.methodLinkNest RX9 155 yX5_startOfSound RX9 ∈ NW := NWm (tb3 (List.mem_of_getElem? (i := 235) (by decide +kernel))) rfl
theorem mw_716 : Cond.methodLinkNest RX9 158 yX5_barAt RX9 ∈ NW := NWm (tb3 (List.mem_of_getElem? (i := 236) (by decide +kernel))) rfl
theorem mw_717 : Cond.methodLink RL 157 yL_tinOf ∈ LW := LWm (tb3 (List.mem_of_getElem? (i := 237) (by decide +kernel))) rfl
theorem mw_718 : Cond.static yL_tinOf ∈ LW := LWm (tb3 (List.mem_of_getElem? (i := 238) (by decide +kernel))) rfl
theorem mw_719 : Cond.codeWith yL_tinOf cL_tinOf 4 (some .int) [(0, 6, 7, 22), (0, 6, 11, 14)] ∈ LW := LWm (tb3 (List.mem_of_getElem? (i := 239) (by decide +kernel))) rfl
theorem mw_720 : Cond.methodLink RL 44 yX9_tinOf ∈ LW := LWm (tb4 (List.mem_of_getElem? (i := 0) (by decide +kernel))) rfl
theorem mw_721 : Cond.instanceMethod yX9_tinOf ∈ LW := LWm (tb4 (List.mem_of_getElem? (i := 1) (by decide +kernel))) rfl
theorem mw_722 : Cond.selects RX9 yX9_tinOf yX9_tinOf ∈ LW := LWm (tb4 (List.mem_of_getElem? (i := 2) (by decide +kernel))) rfl
theorem mw_723 : Cond.code yX9_tinOf cX9_tinOf 3 (some .int) ∈ LW := LWm (tb4 (List.mem_of_getElem? (i := 3) (by decide +kernel))) rfl
theorem mw_724 : Cond.methodLink RX9 108 yX9_isTin ∈ LW := LWm (tb4 (List.mem_of_getElem? (i := 4) (by decide +kernel))) rfl
theorem mw_725 : Cond.methodLinkNest RX9 123 yX5_keyOf RX9 ∈ NW := NWm (tb4 (List.mem_of_getElem? (i := 5) (by decide +kernel))) rfl
theorem mw_726 : Cond.methodLinkNest RX9 127 yX5_leakOf RX9 ∈ NW := NWm (tb4 (List.mem_of_getElem? (i := 6) (by decide +kernel))) rfl
theorem mw_727 : Cond.methodLinkNest RX9 130 yX5_countOfTin RX9 ∈ NW := NWm (tb4 (List.mem_of_getElem? (i := 7) (by decide +kernel))) rfl
theorem mw_729 : Cond.instanceMethod yX5_countOfTin ∈ LW := LWm (tb4 (List.mem_of_getElem? (i := 9) (by decide +kernel))) rfl
theorem mw_730 : Cond.code yX5_countOfTin cX5_countOfTin 5 (some .int) ∈ LW := LWm (tb4 (List.mem_of_getElem? (i := 10) (by decide +kernel))) rfl
theorem mw_731 : Cond.methodLinkNest RX9 134 yX5_beatsOfTin RX9 ∈ NW := NWm (tb4 (List.mem_of_getElem? (i := 11) (by decide +kernel))) rfl
theorem mw_733 : Cond.instanceMethod yX5_beatsOfTin ∈ LW := LWm (tb4 (List.mem_of_getElem? (i := 13) (by decide +kernel))) rfl
theorem mw_734 : Cond.code yX5_beatsOfTin cX5_beatsOfTin 4 (some .int) ∈ LW := LWm (tb4 (List.mem_of_getElem? (i := 14) (by decide +kernel))) rfl
theorem mw_735 : Cond.methodLink RL 159 yL_barOf ∈ LW := LWm (tb4 (List.mem_of_getElem? (i := 15) (by decide +kernel))) rfl
theorem mw_736 : Cond.static yL_barOf ∈ LW := LWm (tb4 (List.mem_of_getElem? (i := 16) (by decide +kernel))) rfl
theorem mw_737 : Cond.codeWith yL_barOf cL_barOf 4 (some .int) [(0, 6, 7, 22), (0, 6, 11, 14)] ∈ LW := LWm (tb4 (List.mem_of_getElem? (i := 17) (by decide +kernel))) rfl
theorem mw_738 : Cond.methodLink RL 50 yX9_barOf ∈ LW := LWm (tb4 (List.mem_of_getElem? (i := 18) (by decide +kernel))) rfl
theorem mw_739 : Cond.instanceMethod yX9_barOf ∈ LW := LWm (tb4 (List.mem_of_getElem? (i := 19) (by decide +kernel))) rfl
theorem mw_740 : Cond.selects RX9 yX9_barOf yX9_barOf ∈ LW := LWm (tb4 (List.mem_of_getElem? (i := 20) (by decide +kernel))) rfl
theorem mw_741 : Cond.code yX9_barOf cX9_barOf 3 (some .int) ∈ LW := LWm (tb4 (List.mem_of_getElem? (i := 21) (by decide +kernel))) rfl
theorem mw_742 : Cond.methodLinkNest RX9 161 yX5_hasBar RX9 ∈ NW := NWm (tb4 (List.mem_of_getElem? (i := 22) (by decide +kernel))) rfl
theorem mw_744 : Cond.instanceMethod yX5_hasBar ∈ LW := LWm (tb4 (List.mem_of_getElem? (i := 24) (by decide +kernel))) rfl
theorem mw_745 : Cond.code yX5_hasBar cX5_hasBar 2 (some .boolean) ∈ LW := LWm (tb4 (List.mem_of_getElem? (i := 25) (by decide +kernel))) rfl
theorem mw_746 : Cond.methodLinkNest RX9 164 yX5_sizeOf RX9 ∈ NW := NWm (tb4 (List.mem_of_getElem? (i := 26) (by decide +kernel))) rfl
theorem mw_748 : Cond.instanceMethod yX5_sizeOf ∈ LW := LWm (tb4 (List.mem_of_getElem? (i := 28) (by decide +kernel))) rfl
theorem mw_749 : Cond.code yX5_sizeOf cX5_sizeOf 2 (some .int) ∈ LW := LWm (tb4 (List.mem_of_getElem? (i := 29) (by decide +kernel))) rfl
theorem mw_750 : Cond.methodLinkNest RX9 167 yX5_filledOfBar RX9 ∈ NW := NWm (tb4 (List.mem_of_getElem? (i := 30) (by decide +kernel))) rfl
theorem mw_752 : Cond.instanceMethod yX5_filledOfBar ∈ LW := LWm (tb4 (List.mem_of_getElem? (i := 32) (by decide +kernel))) rfl
theorem mw_753 : Cond.code yX5_filledOfBar cX5_filledOfBar 3 (some .int) ∈ LW := LWm (tb4 (List.mem_of_getElem? (i := 33) (by decide +kernel))) rfl
theorem mw_754 : Cond.methodLink RX5 91 yX5_filledBeats ∈ LW := LWm (tb4 (List.mem_of_getElem? (i := 34) (by decide +kernel))) rfl
theorem mw_755 : Cond.methodLinkNest RX9 170 yX5_partsOfBar RX9 ∈ NW := NWm (tb4 (List.mem_of_getElem? (i := 35) (by decide +kernel))) rfl
theorem mw_756 : Cond.methodLinkNest RX9 173 yX5_beginningsIn RX9 ∈ NW := NWm (tb4 (List.mem_of_getElem? (i := 36) (by decide +kernel))) rfl
theorem mw_758 : Cond.instanceMethod yX5_beginningsIn ∈ LW := LWm (tb4 (List.mem_of_getElem? (i := 38) (by decide +kernel))) rfl
theorem mw_759 : Cond.code yX5_beginningsIn cX5_beginningsIn 4 (some .int) ∈ LW := LWm (tb4 (List.mem_of_getElem? (i := 39) (by decide +kernel))) rfl
theorem mw_760 : Cond.methodLinkNest RX9 176 yX5_startOfBar RX9 ∈ NW := NWm (tb4 (List.mem_of_getElem? (i := 40) (by decide +kernel))) rfl
theorem mw_761 : Cond.methodLink RL 206 yJ9_max_7cf53 ∈ LW := LWm (tb4 (List.mem_of_getElem? (i := 41) (by decide +kernel))) rfl
theorem mw_762 : Cond.methodLink RL 209 yJ9_min_7cf53 ∈ LW := LWm (tb4 (List.mem_of_getElem? (i := 42) (by decide +kernel))) rfl
theorem mw_763 : Cond.methodLink RL 212 yL_part ∈ LW := LWm (tb4 (List.mem_of_getElem? (i := 43) (by decide +kernel))) rfl
theorem mw_764 : Cond.static yL_part ∈ LW := LWm (tb4 (List.mem_of_getElem? (i := 44) (by decide +kernel))) rfl
theorem mw_765 : Cond.codeWith yL_part cL_part 5 (some .int) [(0, 7, 8, 22), (0, 7, 13, 14)] ∈ LW := LWm (tb4 (List.mem_of_getElem? (i := 45) (by decide +kernel))) rfl
theorem mw_766 : Cond.methodLink RL 53 yX9_partOf ∈ LW := LWm (tb4 (List.mem_of_getElem? (i := 46) (by decide +kernel))) rfl
theorem mw_767 : Cond.instanceMethod yX9_partOf ∈ LW := LWm (tb4 (List.mem_of_getElem? (i := 47) (by decide +kernel))) rfl
theorem mw_768 : Cond.selects RX9 yX9_partOf yX9_partOf ∈ LW := LWm (tb4 (List.mem_of_getElem? (i := 48) (by decide +kernel))) rfl
theorem mw_769 : Cond.code yX9_partOf cX9_partOf 5 (some .int) ∈ LW := LWm (tb4 (List.mem_of_getElem? (i := 49) (by decide +kernel))) rfl
theorem mw_770 : Cond.methodLinkNest RX9 179 yX5_soundOfPart RX9 ∈ NW := NWm (tb4 (List.mem_of_getElem? (i := 50) (by decide +kernel))) rfl
theorem mw_772 : Cond.instanceMethod yX5_soundOfPart ∈ LW := LWm (tb4 (List.mem_of_getElem? (i := 52) (by decide +kernel))) rfl
theorem mw_773 : Cond.code yX5_soundOfPart cX5_soundOfPart 5 (some .int) ∈ LW := LWm (tb4 (List.mem_of_getElem? (i := 53) (by decide +kernel))) rfl
theorem mw_774 : Cond.methodLinkNest RX9 183 yX5_overlap RX9 ∈ NW := NWm (tb4 (List.mem_of_getElem? (i := 54) (by decide +kernel))) rfl
theorem mw_775 : Cond.methodLinkNest RX9 186 yX5_isTied RX9 ∈ NW := NWm (tb4 (List.mem_of_getElem? (i := 55) (by decide +kernel))) rfl
theorem mw_777 : Cond.instanceMethod yX5_isTied ∈ LW := LWm (tb4 (List.mem_of_getElem? (i := 57) (by decide +kernel))) rfl
theorem mw_778 : Cond.code yX5_isTied cX5_isTied 3 (some .boolean) ∈ LW := LWm (tb4 (List.mem_of_getElem? (i := 58) (by decide +kernel))) rfl
theorem mw_779 : Cond.methodLink RL 215 yL_at ∈ LW := LWm (tb4 (List.mem_of_getElem? (i := 59) (by decide +kernel))) rfl
theorem mw_780 : Cond.static yL_at ∈ LW := LWm (tb4 (List.mem_of_getElem? (i := 60) (by decide +kernel))) rfl
theorem mw_781 : Cond.codeWith yL_at cL_at 3 (some .int) [(0, 5, 6, 59)] ∈ LW := LWm (tb4 (List.mem_of_getElem? (i := 61) (by decide +kernel))) rfl
theorem mw_782 : Cond.methodLink RL 56 yX9_at ∈ LW := LWm (tb4 (List.mem_of_getElem? (i := 62) (by decide +kernel))) rfl
theorem mw_783 : Cond.instanceMethod yX9_at ∈ LW := LWm (tb4 (List.mem_of_getElem? (i := 63) (by decide +kernel))) rfl
theorem mw_784 : Cond.selects RX9 yX9_at yX9_at ∈ LW := LWm (tb4 (List.mem_of_getElem? (i := 64) (by decide +kernel))) rfl
theorem mw_785 : Cond.code yX9_at cX9_at 2 (some .int) ∈ LW := LWm (tb4 (List.mem_of_getElem? (i := 65) (by decide +kernel))) rfl
theorem mw_786 : Cond.methodLinkNest RX9 190 yX5_soundAt RX9 ∈ NW := NWm (tb4 (List.mem_of_getElem? (i := 66) (by decide +kernel))) rfl
theorem mw_788 : Cond.instanceMethod yX5_soundAt ∈ LW := LWm (tb4 (List.mem_of_getElem? (i := 68) (by decide +kernel))) rfl
theorem mw_789 : Cond.code yX5_soundAt cX5_soundAt 4 (some .int) ∈ LW := LWm (tb4 (List.mem_of_getElem? (i := 69) (by decide +kernel))) rfl
theorem mw_790 : Cond.methodLink RX9 193 yX9_found ∈ LW := LWm (tb4 (List.mem_of_getElem? (i := 70) (by decide +kernel))) rfl
theorem mw_791 : Cond.static yX9_found ∈ LW := LWm (tb4 (List.mem_of_getElem? (i := 71) (by decide +kernel))) rfl
theorem mw_792 : Cond.code yX9_found cX9_found 1 (some .int) ∈ LW := LWm (tb4 (List.mem_of_getElem? (i := 72) (by decide +kernel))) rfl
theorem mw_793 : Cond.methodLink RL 186 yL_faulty ∈ LW := LWm (tb4 (List.mem_of_getElem? (i := 73) (by decide +kernel))) rfl
theorem mw_794 : Cond.static yL_faulty ∈ LW := LWm (tb4 (List.mem_of_getElem? (i := 74) (by decide +kernel))) rfl
theorem mw_795 : Cond.code yL_faulty cL_faulty 8 (some .boolean) ∈ LW := LWm (tb4 (List.mem_of_getElem? (i := 75) (by decide +kernel))) rfl
theorem mw_796 : Cond.methodLink RL 174 yL_faultsOf ∈ LW := LWm (tb4 (List.mem_of_getElem? (i := 76) (by decide +kernel))) rfl
theorem mw_797 : Cond.static yL_faultsOf ∈ LW := LWm (tb4 (List.mem_of_getElem? (i := 77) (by decide +kernel))) rfl
theorem mw_798 : Cond.code yL_faultsOf cL_faultsOf 5 (some .int) ∈ LW := LWm (tb4 (List.mem_of_getElem? (i := 78) (by decide +kernel))) rfl
theorem mw_799 : Cond.methodLink RL 170 yL_isFault ∈ LW := LWm (tb4 (List.mem_of_getElem? (i := 79) (by decide +kernel))) rfl
theorem mw_800 : Cond.static yL_isFault ∈ LW := LWm (tb4 (List.mem_of_getElem? (i := 80) (by decide +kernel))) rfl
theorem mw_801 : Cond.code yL_isFault cL_isFault 10 (some .boolean) ∈ LW := LWm (tb4 (List.mem_of_getElem? (i := 81) (by decide +kernel))) rfl
theorem mw_802 : Cond.methodLink RL 161 yL_ahead ∈ LW := LWm (tb4 (List.mem_of_getElem? (i := 82) (by decide +kernel))) rfl
theorem mw_803 : Cond.static yL_ahead ∈ LW := LWm (tb4 (List.mem_of_getElem? (i := 83) (by decide +kernel))) rfl
theorem mw_804 : Cond.code yL_ahead cL_ahead 5 (some (.array .int)) ∈ LW := LWm (tb4 (List.mem_of_getElem? (i := 84) (by decide +kernel))) rfl
theorem mw_805 : Cond.methodLink RL 165 yJ9_abs_0f7a4 ∈ LW := LWm (tb4 (List.mem_of_getElem? (i := 85) (by decide +kernel))) rfl
theorem mw_806 : Cond.static yJ9_abs_0f7a4 ∈ LW := LWm (tb4 (List.mem_of_getElem? (i := 86) (by decide +kernel))) rfl
theorem mw_807 : Cond.code yJ9_abs_0f7a4 cJ9_abs_0f7a4 1 (some .int) ∈ LW := LWm (tb4 (List.mem_of_getElem? (i := 87) (by decide +kernel))) rfl
theorem mw_808 : Cond.methodLink RL 217 yL_faults ∈ LW := LWm (tb4 (List.mem_of_getElem? (i := 88) (by decide +kernel))) rfl
theorem mw_809 : Cond.static yL_faults ∈ LW := LWm (tb4 (List.mem_of_getElem? (i := 89) (by decide +kernel))) rfl
theorem mw_810 : Cond.codeWith yL_faults cL_faults 4 (some .int) [(0, 6, 7, 14)] ∈ LW := LWm (tb4 (List.mem_of_getElem? (i := 90) (by decide +kernel))) rfl
theorem mw_811 : Cond.methodLink RL 61 yX9_faults ∈ LW := LWm (tb4 (List.mem_of_getElem? (i := 91) (by decide +kernel))) rfl
theorem mw_812 : Cond.instanceMethod yX9_faults ∈ LW := LWm (tb4 (List.mem_of_getElem? (i := 92) (by decide +kernel))) rfl
theorem mw_813 : Cond.selects RX9 yX9_faults yX9_faults ∈ LW := LWm (tb4 (List.mem_of_getElem? (i := 93) (by decide +kernel))) rfl
theorem mw_814 : Cond.code yX9_faults cX9_faults 3 (some .int) ∈ LW := LWm (tb4 (List.mem_of_getElem? (i := 94) (by decide +kernel))) rfl
theorem mw_815 : Cond.methodLinkNest RX9 196 yX6_countByBeats RX9 ∈ NW := NWm (tb4 (List.mem_of_getElem? (i := 95) (by decide +kernel))) rfl
theorem mw_817 : Cond.instanceMethod yX6_countByBeats ∈ LW := LWm (tb4 (List.mem_of_getElem? (i := 97) (by decide +kernel))) rfl
theorem mw_818 : Cond.code yX6_countByBeats cX6_countByBeats 2 (some .int) ∈ LW := LWm (tb4 (List.mem_of_getElem? (i := 98) (by decide +kernel))) rfl
theorem mw_819 : Cond.methodLink RX6 72 yX6_restsAtBars ∈ LW := LWm (tb4 (List.mem_of_getElem? (i := 99) (by decide +kernel))) rfl
theorem mw_821 : Cond.instanceMethod yX6_restsAtBars ∈ LW := LWm (tb4 (List.mem_of_getElem? (i := 101) (by decide +kernel))) rfl
theorem mw_822 : Cond.code yX6_restsAtBars cX6_restsAtBars 5 (some .int) ∈ LW := LWm (tb4 (List.mem_of_getElem? (i := 102) (by decide +kernel))) rfl
theorem mw_823 : Cond.methodLinkNest RX6 81 yX5_filledBeats RX9 ∈ NW := NWm (tb4 (List.mem_of_getElem? (i := 103) (by decide +kernel))) rfl
theorem mw_824 : Cond.methodLinkNest RX6 84 yX5_barAt RX9 ∈ NW := NWm (tb4 (List.mem_of_getElem? (i := 104) (by decide +kernel))) rfl
theorem mw_825 : Cond.methodLinkNest RX6 21 yX5_soundAt RX9 ∈ NW := NWm (tb4 (List.mem_of_getElem? (i := 105) (by decide +kernel))) rfl
theorem mw_826 : Cond.methodLinkNest RX6 24 yX5_isRest RX9 ∈ NW := NWm (tb4 (List.mem_of_getElem? (i := 106) (by decide +kernel))) rfl
theorem mw_827 : Cond.methodLink RX6 75 yX6_pitchesByBeats ∈ LW := LWm (tb4 (List.mem_of_getElem? (i := 107) (by decide +kernel))) rfl
theorem mw_829 : Cond.instanceMethod yX6_pitchesByBeats ∈ LW := LWm (tb4 (List.mem_of_getElem? (i := 109) (by decide +kernel))) rfl
theorem mw_830 : Cond.code yX6_pitchesByBeats cX6_pitchesByBeats 11 (some .int) ∈ LW := LWm (tb4 (List.mem_of_getElem? (i := 110) (by decide +kernel))) rfl
theorem mw_831 : Cond.methodLinkNest RX6 44 yX5_pitchOf RX9 ∈ NW := NWm (tb4 (List.mem_of_getElem? (i := 111) (by decide +kernel))) rfl
theorem mw_832 : Cond.methodLink RX6 47 yJ9_abs_0f7a4 ∈ LW := LWm (tb4 (List.mem_of_getElem? (i := 112) (by decide +kernel))) rfl
theorem mw_833 : Cond.methodLinkNest RX6 52 yX5_limitNow RX9 ∈ NW := NWm (tb4 (List.mem_of_getElem? (i := 113) (by decide +kernel))) rfl
theorem mw_834 : Cond.methodLink RX6 78 yX6_tiesByBeats ∈ LW := LWm (tb4 (List.mem_of_getElem? (i := 114) (by decide +kernel))) rfl
theorem mw_836 : Cond.instanceMethod yX6_tiesByBeats ∈ LW := LWm (tb4 (List.mem_of_getElem? (i := 116) (by decide +kernel))) rfl
theorem mw_837 : Cond.code yX6_tiesByBeats cX6_tiesByBeats 7 (some .int) ∈ LW := LWm (tb4 (List.mem_of_getElem? (i := 117) (by decide +kernel))) rfl
theorem mw_838 : Cond.methodLink RX6 40 yX6_mostParts ∈ LW := LWm (tb4 (List.mem_of_getElem? (i := 118) (by decide +kernel))) rfl
theorem mw_839 : Cond.static yX6_mostParts ∈ LW := LWm (tb4 (List.mem_of_getElem? (i := 119) (by decide +kernel))) rfl
theorem mw_840 : Cond.code yX6_mostParts cX6_mostParts 1 (some .int) ∈ LW := LWm (tb4 (List.mem_of_getElem? (i := 120) (by decide +kernel))) rfl
theorem mw_841 : Cond.methodLinkNest RX9 199 yX6_count RX9 ∈ NW := NWm (tb4 (List.mem_of_getElem? (i := 121) (by decide +kernel))) rfl
theorem mw_843 : Cond.instanceMethod yX6_count ∈ LW := LWm (tb4 (List.mem_of_getElem? (i := 123) (by decide +kernel))) rfl
theorem mw_844 : Cond.code yX6_count cX6_count 5 (some .int) ∈ LW := LWm (tb4 (List.mem_of_getElem? (i := 124) (by decide +kernel))) rfl
theorem mw_845 : Cond.methodLink RX6 62 yX6_places ∈ LW := LWm (tb4 (List.mem_of_getElem? (i := 125) (by decide +kernel))) rfl
theorem mw_847 : Cond.instanceMethod yX6_places ∈ LW := LWm (tb4 (List.mem_of_getElem? (i := 127) (by decide +kernel))) rfl
theorem mw_848 : Cond.code yX6_places cX6_places 2 (some .int) ∈ LW := LWm (tb4 (List.mem_of_getElem? (i := 128) (by decide +kernel))) rfl
theorem mw_849 : Cond.methodLinkNest RX6 56 yX5_countOfBars RX9 ∈ NW := NWm (tb4 (List.mem_of_getElem? (i := 129) (by decide +kernel))) rfl
theorem mw_850 : Cond.methodLinkNest RX6 59 yX5_countOfSounds RX9 ∈ NW := NWm (tb4 (List.mem_of_getElem? (i := 130) (by decide +kernel))) rfl
theorem mw_851 : Cond.methodLink RX6 65 yX6_isFault ∈ LW := LWm (tb4 (List.mem_of_getElem? (i := 131) (by decide +kernel))) rfl
theorem mw_853 : Cond.instanceMethod yX6_isFault ∈ LW := LWm (tb4 (List.mem_of_getElem? (i := 133) (by decide +kernel))) rfl
theorem mw_854 : Cond.code yX6_isFault cX6_isFault 4 (some .boolean) ∈ LW := LWm (tb4 (List.mem_of_getElem? (i := 134) (by decide +kernel))) rfl
theorem mw_855 : Cond.methodLinkNest RX6 15 yX5_startOfBar RX9 ∈ NW := NWm (tb4 (List.mem_of_getElem? (i := 135) (by decide +kernel))) rfl
theorem mw_856 : Cond.methodLink RX6 28 yX6_isFar ∈ LW := LWm (tb4 (List.mem_of_getElem? (i := 136) (by decide +kernel))) rfl
theorem mw_858 : Cond.instanceMethod yX6_isFar ∈ LW := LWm (tb4 (List.mem_of_getElem? (i := 138) (by decide +kernel))) rfl
theorem mw_859 : Cond.code yX6_isFar cX6_isFar 3 (some .boolean) ∈ LW := LWm (tb4 (List.mem_of_getElem? (i := 139) (by decide +kernel))) rfl
theorem mw_860 : Cond.methodLinkNest RX6 34 yX5_dropAhead RX9 ∈ NW := NWm (tb4 (List.mem_of_getElem? (i := 140) (by decide +kernel))) rfl
theorem mw_862 : Cond.instanceMethod yX5_dropAhead ∈ LW := LWm (tb4 (List.mem_of_getElem? (i := 142) (by decide +kernel))) rfl
theorem mw_863 : Cond.code yX5_dropAhead cX5_dropAhead 3 (some .int) ∈ LW := LWm (tb4 (List.mem_of_getElem? (i := 143) (by decide +kernel))) rfl
theorem mw_864 : Cond.methodLink RX6 31 yX6_isSame ∈ LW := LWm (tb4 (List.mem_of_getElem? (i := 144) (by decide +kernel))) rfl
theorem mw_866 : Cond.instanceMethod yX6_isSame ∈ LW := LWm (tb4 (List.mem_of_getElem? (i := 146) (by decide +kernel))) rfl
theorem mw_867 : Cond.code yX6_isSame cX6_isSame 3 (some .boolean) ∈ LW := LWm (tb4 (List.mem_of_getElem? (i := 147) (by decide +kernel))) rfl
theorem mw_868 : Cond.methodLinkNest RX6 37 yX5_partsOfSound RX9 ∈ NW := NWm (tb4 (List.mem_of_getElem? (i := 148) (by decide +kernel))) rfl
theorem mw_869 : Cond.methodLink RL 220 yL_firstFault ∈ LW := LWm (tb4 (List.mem_of_getElem? (i := 149) (by decide +kernel))) rfl
theorem mw_870 : Cond.static yL_firstFault ∈ LW := LWm (tb4 (List.mem_of_getElem? (i := 150) (by decide +kernel))) rfl
theorem mw_871 : Cond.codeWith yL_firstFault cL_firstFault 3 (some .int) [(0, 5, 6, 14), (0, 5, 10, 59)] ∈ LW := LWm (tb4 (List.mem_of_getElem? (i := 151) (by decide +kernel))) rfl
theorem mw_872 : Cond.methodLink RL 65 yX9_firstFault ∈ LW := LWm (tb4 (List.mem_of_getElem? (i := 152) (by decide +kernel))) rfl
theorem mw_873 : Cond.instanceMethod yX9_firstFault ∈ LW := LWm (tb4 (List.mem_of_getElem? (i := 153) (by decide +kernel))) rfl
theorem mw_874 : Cond.selects RX9 yX9_firstFault yX9_firstFault ∈ LW := LWm (tb4 (List.mem_of_getElem? (i := 154) (by decide +kernel))) rfl
theorem mw_875 : Cond.code yX9_firstFault cX9_firstFault 2 (some .int) ∈ LW := LWm (tb4 (List.mem_of_getElem? (i := 155) (by decide +kernel))) rfl
theorem mw_876 : Cond.methodLinkNest RX9 202 yX6_first RX9 ∈ NW := NWm (tb4 (List.mem_of_getElem? (i := 156) (by decide +kernel))) rfl
theorem mw_878 : Cond.instanceMethod yX6_first ∈ LW := LWm (tb4 (List.mem_of_getElem? (i := 158) (by decide +kernel))) rfl
theorem mw_879 : Cond.code yX6_first cX6_first 4 (some .int) ∈ LW := LWm (tb4 (List.mem_of_getElem? (i := 159) (by decide +kernel))) rfl
theorem mw_880 : Cond.methodLink RL 222 yL_allFaults ∈ LW := LWm (tb4 (List.mem_of_getElem? (i := 160) (by decide +kernel))) rfl
theorem mw_881 : Cond.static yL_allFaults ∈ LW := LWm (tb4 (List.mem_of_getElem? (i := 161) (by decide +kernel))) rfl
theorem mw_882 : Cond.code yL_allFaults cL_allFaults 2 (some .int) ∈ LW := LWm (tb4 (List.mem_of_getElem? (i := 162) (by decide +kernel))) rfl
theorem mw_883 : Cond.methodLink RL 226 yL_wouldFault ∈ LW := LWm (tb4 (List.mem_of_getElem? (i := 163) (by decide +kernel))) rfl
theorem mw_884 : Cond.static yL_wouldFault ∈ LW := LWm (tb4 (List.mem_of_getElem? (i := 164) (by decide +kernel))) rfl
theorem mw_885 : Cond.codeWith yL_wouldFault cL_wouldFault 4 (some .int) [(0, 6, 7, 22), (0, 6, 11, 14), (0, 6, 15, 59)] ∈ LW := LWm (tb4 (List.mem_of_getElem? (i := 165) (by decide +kernel))) rfl
theorem mw_886 : Cond.methodLink RL 68 yX9_wouldFault ∈ LW := LWm (tb4 (List.mem_of_getElem? (i := 166) (by decide +kernel))) rfl
theorem mw_887 : Cond.instanceMethod yX9_wouldFault ∈ LW := LWm (tb4 (List.mem_of_getElem? (i := 167) (by decide +kernel))) rfl
theorem mw_888 : Cond.selects RX9 yX9_wouldFault yX9_wouldFault ∈ LW := LWm (tb4 (List.mem_of_getElem? (i := 168) (by decide +kernel))) rfl
theorem mw_889 : Cond.code yX9_wouldFault cX9_wouldFault 3 (some .int) ∈ LW := LWm (tb4 (List.mem_of_getElem? (i := 169) (by decide +kernel))) rfl
theorem mw_890 : Cond.methodLinkNest RX9 209 yX5_isRest RX9 ∈ NW := NWm (tb4 (List.mem_of_getElem? (i := 170) (by decide +kernel))) rfl
theorem mw_891 : Cond.methodLinkNest RX9 215 yX6_countWith RX9 ∈ NW := NWm (tb4 (List.mem_of_getElem? (i := 171) (by decide +kernel))) rfl
theorem mw_893 : Cond.instanceMethod yX6_countWith ∈ LW := LWm (tb4 (List.mem_of_getElem? (i := 173) (by decide +kernel))) rfl
theorem mw_894 : Cond.code yX6_countWith cX6_countWith 5 (some .int) ∈ LW := LWm (tb4 (List.mem_of_getElem? (i := 174) (by decide +kernel))) rfl
theorem mw_895 : Cond.methodLinkNest RX6 87 yX5_setHeight RX9 ∈ NW := NWm (tb4 (List.mem_of_getElem? (i := 175) (by decide +kernel))) rfl
theorem mw_896 : Cond.methodLink RX6 91 yX6_countAll ∈ LW := LWm (tb4 (List.mem_of_getElem? (i := 176) (by decide +kernel))) rfl
theorem mw_898 : Cond.instanceMethod yX6_countAll ∈ LW := LWm (tb4 (List.mem_of_getElem? (i := 178) (by decide +kernel))) rfl
theorem mw_899 : Cond.code yX6_countAll cX6_countAll 3 (some .int) ∈ LW := LWm (tb4 (List.mem_of_getElem? (i := 179) (by decide +kernel))) rfl
theorem mw_900 : Cond.methodLink RX6 69 yX6_count ∈ LW := LWm (tb4 (List.mem_of_getElem? (i := 180) (by decide +kernel))) rfl
theorem mw_901 : Cond.methodLink RL 228 yL_bestHeight ∈ LW := LWm (tb4 (List.mem_of_getElem? (i := 181) (by decide +kernel))) rfl
theorem mw_902 : Cond.static yL_bestHeight ∈ LW := LWm (tb4 (List.mem_of_getElem? (i := 182) (by decide +kernel))) rfl
theorem mw_903 : Cond.codeWith yL_bestHeight cL_bestHeight 3 (some .int) [(0, 5, 6, 22), (0, 5, 10, 59)] ∈ LW := LWm (tb4 (List.mem_of_getElem? (i := 183) (by decide +kernel))) rfl
theorem mw_904 : Cond.methodLink RL 71 yX9_bestHeight ∈ LW := LWm (tb4 (List.mem_of_getElem? (i := 184) (by decide +kernel))) rfl
theorem mw_905 : Cond.instanceMethod yX9_bestHeight ∈ LW := LWm (tb4 (List.mem_of_getElem? (i := 185) (by decide +kernel))) rfl
theorem mw_906 : Cond.selects RX9 yX9_bestHeight yX9_bestHeight ∈ LW := LWm (tb4 (List.mem_of_getElem? (i := 186) (by decide +kernel))) rfl
theorem mw_907 : Cond.code yX9_bestHeight cX9_bestHeight 6 (some .int) ∈ LW := LWm (tb4 (List.mem_of_getElem? (i := 187) (by decide +kernel))) rfl
theorem mw_908 : Cond.methodLink RL 230 yX9_isClean ∈ LW := LWm (tb4 (List.mem_of_getElem? (i := 188) (by decide +kernel))) rfl
theorem mw_909 : Cond.instanceMethod yX9_isClean ∈ LW := LWm (tb4 (List.mem_of_getElem? (i := 189) (by decide +kernel))) rfl
theorem mw_910 : Cond.selects RX9 yX9_isClean yX9_isClean ∈ LW := LWm (tb4 (List.mem_of_getElem? (i := 190) (by decide +kernel))) rfl
theorem mw_911 : Cond.code yX9_isClean cX9_isClean 1 (some .boolean) ∈ LW := LWm (tb4 (List.mem_of_getElem? (i := 191) (by decide +kernel))) rfl
theorem mw_912 : Cond.methodLinkNest RX9 205 yX6_countAll RX9 ∈ NW := NWm (tb4 (List.mem_of_getElem? (i := 192) (by decide +kernel))) rfl
theorem mw_913 : Cond.methodLink RL 234 yX9_isWell ∈ LW := LWm (tb4 (List.mem_of_getElem? (i := 193) (by decide +kernel))) rfl
theorem mw_914 : Cond.instanceMethod yX9_isWell ∈ LW := LWm (tb4 (List.mem_of_getElem? (i := 194) (by decide +kernel))) rfl
theorem mw_915 : Cond.selects RX9 yX9_isWell yX9_isWell ∈ LW := LWm (tb4 (List.mem_of_getElem? (i := 195) (by decide +kernel))) rfl
theorem mw_916 : Cond.code yX9_isWell cX9_isWell 1 (some .boolean) ∈ LW := LWm (tb4 (List.mem_of_getElem? (i := 196) (by decide +kernel))) rfl
theorem mw_917 : Cond.methodLinkNest RX9 327 yX6_isToldAlike RX9 ∈ NW := NWm (tb4 (List.mem_of_getElem? (i := 197) (by decide +kernel))) rfl
theorem mw_919 : Cond.instanceMethod yX6_isToldAlike ∈ LW := LWm (tb4 (List.mem_of_getElem? (i := 199) (by decide +kernel))) rfl
theorem mw_920 : Cond.code yX6_isToldAlike cX6_isToldAlike 2 (some .boolean) ∈ LW := LWm (tb4 (List.mem_of_getElem? (i := 200) (by decide +kernel))) rfl
theorem mw_921 : Cond.methodLink RX6 94 yX6_countByBeats ∈ LW := LWm (tb4 (List.mem_of_getElem? (i := 201) (by decide +kernel))) rfl
theorem mw_922 : Cond.methodLinkNest RX9 221 yX3_way RX9 ∈ NW := NWm (tb4 (List.mem_of_getElem? (i := 202) (by decide +kernel))) rfl
theorem mw_924 : Cond.instanceMethod yX3_way ∈ LW := LWm (tb4 (List.mem_of_getElem? (i := 204) (by decide +kernel))) rfl
theorem mw_925 : Cond.code yX3_way cX3_way 3 (some .int) ∈ LW := LWm (tb4 (List.mem_of_getElem? (i := 205) (by decide +kernel))) rfl
theorem mw_926 : Cond.methodLinkNest RX3 15 yX5_countOfSounds RX9 ∈ NW := NWm (tb4 (List.mem_of_getElem? (i := 206) (by decide +kernel))) rfl
theorem mw_927 : Cond.methodLink RX3 21 yX3_riseTo ∈ LW := LWm (tb4 (List.mem_of_getElem? (i := 207) (by decide +kernel))) rfl
theorem mw_929 : Cond.instanceMethod yX3_riseTo ∈ LW := LWm (tb4 (List.mem_of_getElem? (i := 209) (by decide +kernel))) rfl
theorem mw_930 : Cond.code yX3_riseTo cX3_riseTo 3 (some .int) ∈ LW := LWm (tb4 (List.mem_of_getElem? (i := 210) (by decide +kernel))) rfl
theorem mw_931 : Cond.methodLinkNest RX3 36 yX5_dropAhead RX9 ∈ NW := NWm (tb4 (List.mem_of_getElem? (i := 211) (by decide +kernel))) rfl
theorem mw_932 : Cond.methodLinkNest RX3 39 yX5_isRest RX9 ∈ NW := NWm (tb4 (List.mem_of_getElem? (i := 212) (by decide +kernel))) rfl
theorem mw_933 : Cond.methodLinkNest RX3 33 yX5_pitchOf RX9 ∈ NW := NWm (tb4 (List.mem_of_getElem? (i := 213) (by decide +kernel))) rfl
theorem mw_934 : Cond.methodLink RX3 25 yJ9_abs_0f7a4 ∈ LW := LWm (tb4 (List.mem_of_getElem? (i := 214) (by decide +kernel))) rfl
theorem mw_935 : Cond.methodLinkNest RX9 218 yX3_wayBySteps RX9 ∈ NW := NWm (tb4 (List.mem_of_getElem? (i := 215) (by decide +kernel))) rfl
theorem mw_937 : Cond.instanceMethod yX3_wayBySteps ∈ LW := LWm (tb4 (List.mem_of_getElem? (i := 217) (by decide +kernel))) rfl
theorem mw_938 : Cond.code yX3_wayBySteps cX3_wayBySteps 3 (some .int) ∈ LW := LWm (tb4 (List.mem_of_getElem? (i := 218) (by decide +kernel))) rfl
theorem mw_939 : Cond.methodLink RX3 30 yX3_timesOver ∈ LW := LWm (tb4 (List.mem_of_getElem? (i := 219) (by decide +kernel))) rfl
theorem mw_941 : Cond.instanceMethod yX3_timesOver ∈ LW := LWm (tb4 (List.mem_of_getElem? (i := 221) (by decide +kernel))) rfl
theorem mw_942 : Cond.code yX3_timesOver cX3_timesOver 6 (some .int) ∈ LW := LWm (tb4 (List.mem_of_getElem? (i := 222) (by decide +kernel))) rfl
theorem mw_943 : Cond.methodLinkNest RX9 330 yX5_arePartsWhole RX9 ∈ NW := NWm (tb4 (List.mem_of_getElem? (i := 223) (by decide +kernel))) rfl
theorem mw_945 : Cond.instanceMethod yX5_arePartsWhole ∈ LW := LWm (tb4 (List.mem_of_getElem? (i := 225) (by decide +kernel))) rfl
theorem mw_946 : Cond.code yX5_arePartsWhole cX5_arePartsWhole 4 (some .boolean) ∈ LW := LWm (tb4 (List.mem_of_getElem? (i := 226) (by decide +kernel))) rfl
theorem mw_947 : Cond.methodLinkNest RX9 333 yX5_areBarsInBounds RX9 ∈ NW := NWm (tb4 (List.mem_of_getElem? (i := 227) (by decide +kernel))) rfl
theorem mw_949 : Cond.instanceMethod yX5_areBarsInBounds ∈ LW := LWm (tb4 (List.mem_of_getElem? (i := 229) (by decide +kernel))) rfl
theorem mw_950 : Cond.code yX5_areBarsInBounds cX5_areBarsInBounds 4 (some .boolean) ∈ LW := LWm (tb4 (List.mem_of_getElem? (i := 230) (by decide +kernel))) rfl
theorem mw_951 : Cond.methodLink RL 189 yL_tunes ∈ LW := LWm (tb4 (List.mem_of_getElem? (i := 231) (by decide +kernel))) rfl
theorem mw_952 : Cond.static yL_tunes ∈ LW := LWm (tb4 (List.mem_of_getElem? (i := 232) (by decide +kernel))) rfl
theorem mw_953 : Cond.code yL_tunes cL_tunes 15 (some .boolean) ∈ LW := LWm (tb4 (List.mem_of_getElem? (i := 233) (by decide +kernel))) rfl
theorem mw_954 : Cond.methodLink RL 237 yX9_walk ∈ LW := LWm (tb4 (List.mem_of_getElem? (i := 234) (by decide +kernel))) rfl
theorem mw_955 : Cond.instanceMethod yX9_walk ∈ LW := LWm (tb4 (List.mem_of_getElem? (i := 235) (by decide +kernel))) rfl
theorem mw_956 : Cond.selects RX9 yX9_walk yX9_walk ∈ LW := LWm (tb4 (List.mem_of_getElem? (i := 236) (by decide +kernel))) rfl
theorem mw_957 : Cond.code yX9_walk cX9_walk 2 (some .int) ∈ LW := LWm (tb4 (List.mem_of_getElem? (i := 237) (by decide +kernel))) rfl
theorem mw_958 : Cond.methodLink RL 240 yX9_goes ∈ LW := LWm (tb4 (List.mem_of_getElem? (i := 238) (by decide +kernel))) rfl
theorem mw_959 : Cond.instanceMethod yX9_goes ∈ LW := LWm (tb4 (List.mem_of_getElem? (i := 239) (by decide +kernel))) rfl
theorem mw_960 : Cond.selects RX9 yX9_goes yX9_goes ∈ LW := LWm (tb5 (List.mem_of_getElem? (i := 0) (by decide +kernel))) rfl
theorem mw_961 : Cond.code yX9_goes cX9_goes 2 (some .int) ∈ LW := LWm (tb5 (List.mem_of_getElem? (i := 1) (by decide +kernel))) rfl
theorem mw_962 : Cond.methodLinkNest RX9 224 yX3_moves RX9 ∈ NW := NWm (tb5 (List.mem_of_getElem? (i := 2) (by decide +kernel))) rfl
theorem mw_964 : Cond.instanceMethod yX3_moves ∈ LW := LWm (tb5 (List.mem_of_getElem? (i := 4) (by decide +kernel))) rfl
theorem mw_965 : Cond.code yX3_moves cX3_moves 5 (some .int) ∈ LW := LWm (tb5 (List.mem_of_getElem? (i := 5) (by decide +kernel))) rfl
theorem mw_966 : Cond.methodLink RL 243 yX9_span ∈ LW := LWm (tb5 (List.mem_of_getElem? (i := 6) (by decide +kernel))) rfl
theorem mw_967 : Cond.instanceMethod yX9_span ∈ LW := LWm (tb5 (List.mem_of_getElem? (i := 7) (by decide +kernel))) rfl
theorem mw_968 : Cond.selects RX9 yX9_span yX9_span ∈ LW := LWm (tb5 (List.mem_of_getElem? (i := 8) (by decide +kernel))) rfl
theorem mw_969 : Cond.code yX9_span cX9_span 1 (some .int) ∈ LW := LWm (tb5 (List.mem_of_getElem? (i := 9) (by decide +kernel))) rfl
theorem mw_970 : Cond.methodLinkNest RX9 228 yX3_width RX9 ∈ NW := NWm (tb5 (List.mem_of_getElem? (i := 10) (by decide +kernel))) rfl
theorem mw_972 : Cond.instanceMethod yX3_width ∈ LW := LWm (tb5 (List.mem_of_getElem? (i := 12) (by decide +kernel))) rfl
theorem mw_973 : Cond.code yX3_width cX3_width 5 (some .int) ∈ LW := LWm (tb5 (List.mem_of_getElem? (i := 13) (by decide +kernel))) rfl
theorem mw_974 : Cond.methodLink RX3 43 yJ9_min_7cf53 ∈ LW := LWm (tb5 (List.mem_of_getElem? (i := 14) (by decide +kernel))) rfl
theorem mw_975 : Cond.methodLink RX3 47 yJ9_max_7cf53 ∈ LW := LWm (tb5 (List.mem_of_getElem? (i := 15) (by decide +kernel))) rfl
theorem mw_976 : Cond.methodLink RL 246 yX9_meanPitch ∈ LW := LWm (tb5 (List.mem_of_getElem? (i := 16) (by decide +kernel))) rfl
theorem mw_977 : Cond.instanceMethod yX9_meanPitch ∈ LW := LWm (tb5 (List.mem_of_getElem? (i := 17) (by decide +kernel))) rfl
theorem mw_978 : Cond.selects RX9 yX9_meanPitch yX9_meanPitch ∈ LW := LWm (tb5 (List.mem_of_getElem? (i := 18) (by decide +kernel))) rfl
theorem mw_979 : Cond.code yX9_meanPitch cX9_meanPitch 2 (some .double) ∈ LW := LWm (tb5 (List.mem_of_getElem? (i := 19) (by decide +kernel))) rfl
theorem mw_980 : Cond.methodLinkNest RX9 336 yX3_countOfDrops RX9 ∈ NW := NWm (tb5 (List.mem_of_getElem? (i := 20) (by decide +kernel))) rfl
theorem mw_982 : Cond.instanceMethod yX3_countOfDrops ∈ LW := LWm (tb5 (List.mem_of_getElem? (i := 22) (by decide +kernel))) rfl
theorem mw_983 : Cond.code yX3_countOfDrops cX3_countOfDrops 1 (some .int) ∈ LW := LWm (tb5 (List.mem_of_getElem? (i := 23) (by decide +kernel))) rfl
theorem mw_984 : Cond.methodLinkNest RX3 50 yX5_countOfRests RX9 ∈ NW := NWm (tb5 (List.mem_of_getElem? (i := 24) (by decide +kernel))) rfl
theorem mw_985 : Cond.classLink RX9 339 "java/lang/ArithmeticException" ∈ LW := LWm (tb5 (List.mem_of_getElem? (i := 25) (by decide +kernel))) rfl
theorem mw_986 : Cond.instantiable "java/lang/ArithmeticException" 6 ∈ LW := LWm (tb5 (List.mem_of_getElem? (i := 26) (by decide +kernel))) rfl
theorem mw_987 : Cond.castable "java/lang/ArithmeticException" "java/lang/ArithmeticException" ∈ NW := NWm (tb5 (List.mem_of_getElem? (i := 27) (by decide +kernel))) rfl
theorem mw_988 : Cond.selects "java/lang/ArithmeticException" ⟨"java/lang/Throwable", "fillInStackTrace", "(I)Ljava/lang/Throwable;"⟩ ⟨"java/lang/Throwable", "fillInStackTrace", "(I)Ljava/lang/Throwable;"⟩ ∈ LW := LWm (tb5 (List.mem_of_getElem? (i := 28) (by decide +kernel))) rfl
theorem mw_995 : Cond.methodLink RX9 343 ⟨"java/lang/ArithmeticException", "<init>", "(Ljava/lang/String;)V"⟩ ∈ LW := LWm (tb5 (List.mem_of_getElem? (i := 35) (by decide +kernel))) rfl
theorem mw_996 : Cond.instanceMethod ⟨"java/lang/ArithmeticException", "<init>", "(Ljava/lang/String;)V"⟩ ∈ LW := LWm (tb5 (List.mem_of_getElem? (i := 36) (by decide +kernel))) rfl
theorem mw_997 : Cond.code ⟨"java/lang/ArithmeticException", "<init>", "(Ljava/lang/String;)V"⟩ prog_16_method_2_code 2 none ∈ LW := LWm (tb5 (List.mem_of_getElem? (i := 37) (by decide +kernel))) rfl
theorem mw_998 : Cond.methodLink "java/lang/ArithmeticException" 7 ⟨"java/lang/RuntimeException", "<init>", "(Ljava/lang/String;)V"⟩ ∈ LW := LWm (tb5 (List.mem_of_getElem? (i := 38) (by decide +kernel))) rfl
theorem mw_1001 : Cond.methodLinkNest RX9 346 yX3_sumOfPitches RX9 ∈ NW := NWm (tb5 (List.mem_of_getElem? (i := 41) (by decide +kernel))) rfl
theorem mw_1003 : Cond.instanceMethod yX3_sumOfPitches ∈ LW := LWm (tb5 (List.mem_of_getElem? (i := 43) (by decide +kernel))) rfl
theorem mw_1004 : Cond.code yX3_sumOfPitches cX3_sumOfPitches 3 (some .int) ∈ LW := LWm (tb5 (List.mem_of_getElem? (i := 44) (by decide +kernel))) rfl
theorem mw_1005 : Cond.methodLink RL 250 yL_withPitch ∈ LW := LWm (tb5 (List.mem_of_getElem? (i := 45) (by decide +kernel))) rfl
theorem mw_1006 : Cond.static yL_withPitch ∈ LW := LWm (tb5 (List.mem_of_getElem? (i := 46) (by decide +kernel))) rfl
theorem mw_1007 : Cond.codeWith yL_withPitch cL_withPitch 3 (some .int) [(0, 5, 6, 14)] ∈ LW := LWm (tb5 (List.mem_of_getElem? (i := 47) (by decide +kernel))) rfl
theorem mw_1008 : Cond.methodLink RL 74 yX9_withPitch ∈ LW := LWm (tb5 (List.mem_of_getElem? (i := 48) (by decide +kernel))) rfl
theorem mw_1009 : Cond.instanceMethod yX9_withPitch ∈ LW := LWm (tb5 (List.mem_of_getElem? (i := 49) (by decide +kernel))) rfl
theorem mw_1010 : Cond.selects RX9 yX9_withPitch yX9_withPitch ∈ LW := LWm (tb5 (List.mem_of_getElem? (i := 50) (by decide +kernel))) rfl
theorem mw_1011 : Cond.code yX9_withPitch cX9_withPitch 2 (some .int) ∈ LW := LWm (tb5 (List.mem_of_getElem? (i := 51) (by decide +kernel))) rfl
theorem mw_1012 : Cond.methodLinkNest RX9 231 yX3_dropsAt RX9 ∈ NW := NWm (tb5 (List.mem_of_getElem? (i := 52) (by decide +kernel))) rfl
theorem mw_1014 : Cond.instanceMethod yX3_dropsAt ∈ LW := LWm (tb5 (List.mem_of_getElem? (i := 54) (by decide +kernel))) rfl
theorem mw_1015 : Cond.code yX3_dropsAt cX3_dropsAt 4 (some .int) ∈ LW := LWm (tb5 (List.mem_of_getElem? (i := 55) (by decide +kernel))) rfl
theorem mw_1016 : Cond.methodLink RL 252 yX9_filledShare ∈ LW := LWm (tb5 (List.mem_of_getElem? (i := 56) (by decide +kernel))) rfl
theorem mw_1017 : Cond.instanceMethod yX9_filledShare ∈ LW := LWm (tb5 (List.mem_of_getElem? (i := 57) (by decide +kernel))) rfl
theorem mw_1018 : Cond.selects RX9 yX9_filledShare yX9_filledShare ∈ LW := LWm (tb5 (List.mem_of_getElem? (i := 58) (by decide +kernel))) rfl
theorem mw_1019 : Cond.code yX9_filledShare cX9_filledShare 2 (some .float) ∈ LW := LWm (tb5 (List.mem_of_getElem? (i := 59) (by decide +kernel))) rfl
theorem mw_1021 : Cond.methodLink RL 192 yL_ranks ∈ LW := LWm (tb5 (List.mem_of_getElem? (i := 61) (by decide +kernel))) rfl
theorem mw_1022 : Cond.static yL_ranks ∈ LW := LWm (tb5 (List.mem_of_getElem? (i := 62) (by decide +kernel))) rfl
theorem mw_1023 : Cond.code yL_ranks cL_ranks 9 (some .boolean) ∈ LW := LWm (tb5 (List.mem_of_getElem? (i := 63) (by decide +kernel))) rfl
theorem mw_1024 : Cond.methodLink RL 256 yL_loudest ∈ LW := LWm (tb5 (List.mem_of_getElem? (i := 64) (by decide +kernel))) rfl
theorem mw_1025 : Cond.static yL_loudest ∈ LW := LWm (tb5 (List.mem_of_getElem? (i := 65) (by decide +kernel))) rfl
theorem mw_1026 : Cond.codeWith yL_loudest cL_loudest 3 (some .int) [(0, 5, 6, 59)] ∈ LW := LWm (tb5 (List.mem_of_getElem? (i := 66) (by decide +kernel))) rfl
theorem mw_1027 : Cond.methodLink RL 77 yX9_loudest ∈ LW := LWm (tb5 (List.mem_of_getElem? (i := 67) (by decide +kernel))) rfl
theorem mw_1028 : Cond.instanceMethod yX9_loudest ∈ LW := LWm (tb5 (List.mem_of_getElem? (i := 68) (by decide +kernel))) rfl
theorem mw_1029 : Cond.selects RX9 yX9_loudest yX9_loudest ∈ LW := LWm (tb5 (List.mem_of_getElem? (i := 69) (by decide +kernel))) rfl
theorem mw_1030 : Cond.code yX9_loudest cX9_loudest 2 (some .int) ∈ LW := LWm (tb5 (List.mem_of_getElem? (i := 70) (by decide +kernel))) rfl
theorem mw_1031 : Cond.methodLinkNest RX9 234 yX7_tinAt RX9 ∈ NW := NWm (tb5 (List.mem_of_getElem? (i := 71) (by decide +kernel))) rfl
theorem mw_1033 : Cond.instanceMethod yX7_tinAt ∈ LW := LWm (tb5 (List.mem_of_getElem? (i := 73) (by decide +kernel))) rfl
theorem mw_1034 : Cond.code yX7_tinAt cX7_tinAt 3 (some .int) ∈ LW := LWm (tb5 (List.mem_of_getElem? (i := 74) (by decide +kernel))) rfl
theorem mw_1035 : Cond.methodLink RX7 15 yX7_placeOfTin ∈ LW := LWm (tb5 (List.mem_of_getElem? (i := 75) (by decide +kernel))) rfl
theorem mw_1037 : Cond.instanceMethod yX7_placeOfTin ∈ LW := LWm (tb5 (List.mem_of_getElem? (i := 77) (by decide +kernel))) rfl
theorem mw_1038 : Cond.code yX7_placeOfTin cX7_placeOfTin 4 (some .int) ∈ LW := LWm (tb5 (List.mem_of_getElem? (i := 78) (by decide +kernel))) rfl
theorem mw_1039 : Cond.methodLink RX7 19 yX7_isTinAhead ∈ LW := LWm (tb5 (List.mem_of_getElem? (i := 79) (by decide +kernel))) rfl
theorem mw_1041 : Cond.instanceMethod yX7_isTinAhead ∈ LW := LWm (tb5 (List.mem_of_getElem? (i := 81) (by decide +kernel))) rfl
theorem mw_1042 : Cond.code yX7_isTinAhead cX7_isTinAhead 5 (some .boolean) ∈ LW := LWm (tb5 (List.mem_of_getElem? (i := 82) (by decide +kernel))) rfl
theorem mw_1043 : Cond.methodLinkNest RX7 23 yX5_beatsOfTin RX9 ∈ NW := NWm (tb5 (List.mem_of_getElem? (i := 83) (by decide +kernel))) rfl
theorem mw_1044 : Cond.methodLinkNest RX7 28 yX5_keyOf RX9 ∈ NW := NWm (tb5 (List.mem_of_getElem? (i := 84) (by decide +kernel))) rfl
theorem mw_1045 : Cond.methodLink RL 258 yL_highest ∈ LW := LWm (tb5 (List.mem_of_getElem? (i := 85) (by decide +kernel))) rfl
theorem mw_1046 : Cond.static yL_highest ∈ LW := LWm (tb5 (List.mem_of_getElem? (i := 86) (by decide +kernel))) rfl
theorem mw_1047 : Cond.codeWith yL_highest cL_highest 3 (some .int) [(0, 5, 6, 59)] ∈ LW := LWm (tb5 (List.mem_of_getElem? (i := 87) (by decide +kernel))) rfl
theorem mw_1048 : Cond.methodLink RL 80 yX9_highest ∈ LW := LWm (tb5 (List.mem_of_getElem? (i := 88) (by decide +kernel))) rfl
theorem mw_1049 : Cond.instanceMethod yX9_highest ∈ LW := LWm (tb5 (List.mem_of_getElem? (i := 89) (by decide +kernel))) rfl
theorem mw_1050 : Cond.selects RX9 yX9_highest yX9_highest ∈ LW := LWm (tb5 (List.mem_of_getElem? (i := 90) (by decide +kernel))) rfl
theorem mw_1051 : Cond.code yX9_highest cX9_highest 2 (some .int) ∈ LW := LWm (tb5 (List.mem_of_getElem? (i := 91) (by decide +kernel))) rfl
theorem mw_1052 : Cond.methodLinkNest RX9 237 yX7_dropAt RX9 ∈ NW := NWm (tb5 (List.mem_of_getElem? (i := 92) (by decide +kernel))) rfl
theorem mw_1054 : Cond.instanceMethod yX7_dropAt ∈ LW := LWm (tb5 (List.mem_of_getElem? (i := 94) (by decide +kernel))) rfl
theorem mw_1055 : Cond.code yX7_dropAt cX7_dropAt 3 (some .int) ∈ LW := LWm (tb5 (List.mem_of_getElem? (i := 95) (by decide +kernel))) rfl
theorem mw_1056 : Cond.methodLinkNest RX7 31 yX5_countOfSounds RX9 ∈ NW := NWm (tb5 (List.mem_of_getElem? (i := 96) (by decide +kernel))) rfl
theorem mw_1057 : Cond.methodLinkNest RX7 35 yX5_isRest RX9 ∈ NW := NWm (tb5 (List.mem_of_getElem? (i := 97) (by decide +kernel))) rfl
theorem mw_1058 : Cond.methodLink RX7 39 yX7_placeOfDrop ∈ LW := LWm (tb5 (List.mem_of_getElem? (i := 98) (by decide +kernel))) rfl
theorem mw_1060 : Cond.instanceMethod yX7_placeOfDrop ∈ LW := LWm (tb5 (List.mem_of_getElem? (i := 100) (by decide +kernel))) rfl
theorem mw_1061 : Cond.code yX7_placeOfDrop cX7_placeOfDrop 4 (some .int) ∈ LW := LWm (tb5 (List.mem_of_getElem? (i := 101) (by decide +kernel))) rfl
theorem mw_1062 : Cond.methodLink RX7 42 yX7_isDropAhead ∈ LW := LWm (tb5 (List.mem_of_getElem? (i := 102) (by decide +kernel))) rfl
theorem mw_1064 : Cond.instanceMethod yX7_isDropAhead ∈ LW := LWm (tb5 (List.mem_of_getElem? (i := 104) (by decide +kernel))) rfl
theorem mw_1065 : Cond.code yX7_isDropAhead cX7_isDropAhead 5 (some .boolean) ∈ LW := LWm (tb5 (List.mem_of_getElem? (i := 105) (by decide +kernel))) rfl
theorem mw_1066 : Cond.methodLinkNest RX7 45 yX5_pitchOf RX9 ∈ NW := NWm (tb5 (List.mem_of_getElem? (i := 106) (by decide +kernel))) rfl
theorem mw_1067 : Cond.methodLinkNest RX7 48 yX5_beatsOf RX9 ∈ NW := NWm (tb5 (List.mem_of_getElem? (i := 107) (by decide +kernel))) rfl
theorem mw_1068 : Cond.methodLink RL 195 yL_lines ∈ LW := LWm (tb5 (List.mem_of_getElem? (i := 108) (by decide +kernel))) rfl
theorem mw_1069 : Cond.static yL_lines ∈ LW := LWm (tb5 (List.mem_of_getElem? (i := 109) (by decide +kernel))) rfl
theorem mw_1070 : Cond.code yL_lines cL_lines 5 (some .boolean) ∈ LW := LWm (tb5 (List.mem_of_getElem? (i := 110) (by decide +kernel))) rfl
theorem mw_1072 : Cond.classLink RL 264 RJ4 ∈ LW := LWm (tb5 (List.mem_of_getElem? (i := 112) (by decide +kernel))) rfl
theorem mw_1073 : Cond.instantiable RJ4 4 ∈ LW := LWm (tb5 (List.mem_of_getElem? (i := 113) (by decide +kernel))) rfl
theorem mw_1074 : Cond.methodLink RL 266 yJ4_init_da8c8 ∈ LW := LWm (tb5 (List.mem_of_getElem? (i := 114) (by decide +kernel))) rfl
theorem mw_1075 : Cond.instanceMethod yJ4_init_da8c8 ∈ LW := LWm (tb5 (List.mem_of_getElem? (i := 115) (by decide +kernel))) rfl
theorem mw_1076 : Cond.code yJ4_init_da8c8 cJ4_init_da8c8 1 none ∈ LW := LWm (tb5 (List.mem_of_getElem? (i := 116) (by decide +kernel))) rfl
theorem mw_1077 : Cond.methodLink RJ4 1 yJ5_init_d00df ∈ LW := LWm (tb5 (List.mem_of_getElem? (i := 117) (by decide +kernel))) rfl
theorem mw_1078 : Cond.instanceMethod yJ5_init_d00df ∈ LW := LWm (tb5 (List.mem_of_getElem? (i := 118) (by decide +kernel))) rfl
theorem mw_1079 : Cond.code yJ5_init_d00df cJ5_init_d00df 2 none ∈ LW := LWm (tb5 (List.mem_of_getElem? (i := 119) (by decide +kernel))) rfl
theorem mw_1080 : Cond.methodLink RJ5 3 ⟨"java/lang/Object", "<init>", "()V"⟩ ∈ LW := LWm (tb5 (List.mem_of_getElem? (i := 120) (by decide +kernel))) rfl
theorem mw_1081 : Cond.fieldLink RJ5 18 "java/lang/String" "COMPACT_STRINGS" "Z" ∈ LW := LWm (tb5 (List.mem_of_getElem? (i := 121) (by decide +kernel))) rfl
theorem mw_1083 : Cond.methodLink RJ5 26 yJ2_newBytesFor_77867 ∈ LW := LWm (tb5 (List.mem_of_getElem? (i := 123) (by decide +kernel))) rfl
theorem mw_1084 : Cond.static yJ2_newBytesFor_77867 ∈ LW := LWm (tb5 (List.mem_of_getElem? (i := 124) (by decide +kernel))) rfl
theorem mw_1085 : Cond.code yJ2_newBytesFor_77867 cJ2_newBytesFor_77867 1 (some (.array .byte)) ∈ LW := LWm (tb5 (List.mem_of_getElem? (i := 125) (by decide +kernel))) rfl
theorem mw_1086 : Cond.methodLink RJ2 11 yJ2_newBytesLength_0f7a4 ∈ LW := LWm (tb5 (List.mem_of_getElem? (i := 126) (by decide +kernel))) rfl
theorem mw_1087 : Cond.static yJ2_newBytesLength_0f7a4 ∈ LW := LWm (tb5 (List.mem_of_getElem? (i := 127) (by decide +kernel))) rfl
theorem mw_1088 : Cond.code yJ2_newBytesLength_0f7a4 cJ2_newBytesLength_0f7a4 1 (some .int) ∈ LW := LWm (tb5 (List.mem_of_getElem? (i := 128) (by decide +kernel))) rfl
theorem mw_1090 : Cond.fieldLink RJ5 15 "java/lang/AbstractStringBuilder" "value" "[B" ∈ LW := LWm (tb5 (List.mem_of_getElem? (i := 130) (by decide +kernel))) rfl
theorem mw_1091 : Cond.fieldLink RJ5 22 "java/lang/AbstractStringBuilder" "coder" "B" ∈ LW := LWm (tb5 (List.mem_of_getElem? (i := 131) (by decide +kernel))) rfl
theorem mw_1092 : Cond.fieldLink RJ0 1048 "java/lang/AbstractStringBuilder" "maybeLatin1" "Z" ∈ LW := LWm (tb5 (List.mem_of_getElem? (i := 132) (by decide +kernel))) rfl
theorem mw_1093 : Cond.fieldLink RJ5 79 "java/lang/AbstractStringBuilder" "count" "I" ∈ LW := LWm (tb5 (List.mem_of_getElem? (i := 133) (by decide +kernel))) rfl
theorem mw_1103 : Cond.methodLink RL 267 yJ4_append_15ec4 ∈ LW := LWm (tb5 (List.mem_of_getElem? (i := 143) (by decide +kernel))) rfl
theorem mw_1104 : Cond.instanceMethod yJ4_append_15ec4 ∈ LW := LWm (tb5 (List.mem_of_getElem? (i := 144) (by decide +kernel))) rfl
theorem mw_1105 : Cond.selects RJ4 yJ4_append_15ec4 yJ4_append_15ec4 ∈ LW := LWm (tb5 (List.mem_of_getElem? (i := 145) (by decide +kernel))) rfl
theorem mw_1106 : Cond.code yJ4_append_15ec4 cJ4_append_15ec4 2 (some (.object "java/lang/StringBuilder")) ∈ LW := LWm (tb5 (List.mem_of_getElem? (i := 146) (by decide +kernel))) rfl
theorem mw_1107 : Cond.methodLink RJ4 29 yJ5_append_cf1ce ∈ LW := LWm (tb5 (List.mem_of_getElem? (i := 147) (by decide +kernel))) rfl
theorem mw_1108 : Cond.instanceMethod yJ5_append_cf1ce ∈ LW := LWm (tb5 (List.mem_of_getElem? (i := 148) (by decide +kernel))) rfl
theorem mw_1109 : Cond.code yJ5_append_cf1ce cJ5_append_cf1ce 3 (some (.object "java/lang/AbstractStringBuilder")) ∈ LW := LWm (tb5 (List.mem_of_getElem? (i := 149) (by decide +kernel))) rfl
theorem mw_1110 : Cond.methodLink RJ5 204 yJ5_appendNull_278bc ∈ LW := LWm (tb5 (List.mem_of_getElem? (i := 150) (by decide +kernel))) rfl
theorem mw_1112 : Cond.instanceMethod yJ5_appendNull_278bc ∈ LW := LWm (tb5 (List.mem_of_getElem? (i := 152) (by decide +kernel))) rfl
theorem mw_1113 : Cond.code yJ5_appendNull_278bc cJ5_appendNull_278bc 3 (some (.object "java/lang/AbstractStringBuilder")) ∈ LW := LWm (tb5 (List.mem_of_getElem? (i := 153) (by decide +kernel))) rfl
theorem mw_1114 : Cond.methodLink RJ5 100 yJ5_ensureCapacityInternal_d00df ∈ LW := LWm (tb5 (List.mem_of_getElem? (i := 154) (by decide +kernel))) rfl
theorem mw_1116 : Cond.instanceMethod yJ5_ensureCapacityInternal_d00df ∈ LW := LWm (tb5 (List.mem_of_getElem? (i := 156) (by decide +kernel))) rfl
theorem mw_1117 : Cond.code yJ5_ensureCapacityInternal_d00df cJ5_ensureCapacityInternal_d00df 3 none ∈ LW := LWm (tb5 (List.mem_of_getElem? (i := 157) (by decide +kernel))) rfl
theorem mw_1118 : Cond.methodLink RJ5 104 yJ5_newCapacity_0f7a4 ∈ LW := LWm (tb5 (List.mem_of_getElem? (i := 158) (by decide +kernel))) rfl
theorem mw_1120 : Cond.instanceMethod yJ5_newCapacity_0f7a4 ∈ LW := LWm (tb5 (List.mem_of_getElem? (i := 160) (by decide +kernel))) rfl
theorem mw_1121 : Cond.code yJ5_newCapacity_0f7a4 cJ5_newCapacity_0f7a4 6 (some .int) ∈ LW := LWm (tb5 (List.mem_of_getElem? (i := 161) (by decide +kernel))) rfl
theorem mw_1122 : Cond.methodLink RJ5 114 yJ8_newLength_cabcc ∈ LW := LWm (tb5 (List.mem_of_getElem? (i := 162) (by decide +kernel))) rfl
theorem mw_1123 : Cond.static yJ8_newLength_cabcc ∈ LW := LWm (tb5 (List.mem_of_getElem? (i := 163) (by decide +kernel))) rfl
theorem mw_1124 : Cond.code yJ8_newLength_cabcc cJ8_newLength_cabcc 4 (some .int) ∈ LW := LWm (tb5 (List.mem_of_getElem? (i := 164) (by decide +kernel))) rfl
theorem mw_1125 : Cond.methodLink RJ8 194 yJ9_max_7cf53 ∈ LW := LWm (tb5 (List.mem_of_getElem? (i := 165) (by decide +kernel))) rfl
theorem mw_1127 : Cond.methodLink RJ8 201 yJ8_hugeLength_7cf53 ∈ LW := LWm (tb5 (List.mem_of_getElem? (i := 167) (by decide +kernel))) rfl
theorem mw_1128 : Cond.static yJ8_hugeLength_7cf53 ∈ LW := LWm (tb5 (List.mem_of_getElem? (i := 168) (by decide +kernel))) rfl
theorem mw_1129 : Cond.code yJ8_hugeLength_7cf53 cJ8_hugeLength_7cf53 3 (some .int) ∈ LW := LWm (tb5 (List.mem_of_getElem? (i := 169) (by decide +kernel))) rfl
theorem mw_1131 : Cond.methodLink RJ5 108 yJ7_copyOf_9075b ∈ LW := LWm (tb5 (List.mem_of_getElem? (i := 171) (by decide +kernel))) rfl
theorem mw_1132 : Cond.static yJ7_copyOf_9075b ∈ LW := LWm (tb5 (List.mem_of_getElem? (i := 172) (by decide +kernel))) rfl
theorem mw_1133 : Cond.code yJ7_copyOf_9075b cJ7_copyOf_9075b 3 (some (.array .byte)) ∈ LW := LWm (tb5 (List.mem_of_getElem? (i := 173) (by decide +kernel))) rfl
theorem mw_1134 : Cond.methodLink RJ7 310 ⟨"[B", "clone", "()Ljava/lang/Object;"⟩ ∈ LW := LWm (tb5 (List.mem_of_getElem? (i := 174) (by decide +kernel))) rfl
theorem mw_1137 : Cond.instanceMethod ⟨"java/lang/Object", "clone", "()Ljava/lang/Object;"⟩ ∈ LW := LWm (tb5 (List.mem_of_getElem? (i := 177) (by decide +kernel))) rfl
theorem mw_1138 : Cond.selects "[B" ⟨"[B", "clone", "()Ljava/lang/Object;"⟩ ⟨"java/lang/Object", "clone", "()Ljava/lang/Object;"⟩ ∈ LW := LWm (tb5 (List.mem_of_getElem? (i := 178) (by decide +kernel))) rfl
theorem mw_1139 : Cond.castable "[B" "java/lang/Cloneable" ∈ NW := NWm (tb5 (List.mem_of_getElem? (i := 179) (by decide +kernel))) rfl
theorem mw_1140 : Cond.classLink RJ7 311 "[B" ∈ LW := LWm (tb5 (List.mem_of_getElem? (i := 180) (by decide +kernel))) rfl
theorem mw_1141 : Cond.methodLink RJ7 304 yJ9_min_7cf53 ∈ LW := LWm (tb5 (List.mem_of_getElem? (i := 181) (by decide +kernel))) rfl
theorem mw_1142 : Cond.methodLink RJ7 150 ⟨"java/lang/System", "arraycopy", "(Ljava/lang/Object;ILjava/lang/Object;II)V"⟩ ∈ LW := LWm (tb5 (List.mem_of_getElem? (i := 182) (by decide +kernel))) rfl
theorem mw_1143 : Cond.static ⟨"java/lang/System", "arraycopy", "(Ljava/lang/Object;ILjava/lang/Object;II)V"⟩ ∈ LW := LWm (tb5 (List.mem_of_getElem? (i := 183) (by decide +kernel))) rfl
theorem mw_1145 : Cond.methodLink RJ5 83 yJ5_isLatin1_aae02 ∈ LW := LWm (tb5 (List.mem_of_getElem? (i := 185) (by decide +kernel))) rfl
theorem mw_1146 : Cond.instanceMethod yJ5_isLatin1_aae02 ∈ LW := LWm (tb5 (List.mem_of_getElem? (i := 186) (by decide +kernel))) rfl
theorem mw_1148 : Cond.selects RJ4 yJ5_isLatin1_aae02 yJ5_isLatin1_aae02 ∈ LW := LWm (tb5 (List.mem_of_getElem? (i := 188) (by decide +kernel))) rfl
theorem mw_1149 : Cond.code yJ5_isLatin1_aae02 cJ5_isLatin1_aae02 1 (some .boolean) ∈ LW := LWm (tb5 (List.mem_of_getElem? (i := 189) (by decide +kernel))) rfl
theorem mw_1150 : Cond.methodLink RJ5 226 yJ2_putCharsAt_cd4e5 ∈ LW := LWm (tb5 (List.mem_of_getElem? (i := 190) (by decide +kernel))) rfl
theorem mw_1151 : Cond.static yJ2_putCharsAt_cd4e5 ∈ LW := LWm (tb5 (List.mem_of_getElem? (i := 191) (by decide +kernel))) rfl
theorem mw_1152 : Cond.code yJ2_putCharsAt_cd4e5 cJ2_putCharsAt_cd4e5 7 (some .int) ∈ LW := LWm (tb5 (List.mem_of_getElem? (i := 192) (by decide +kernel))) rfl
theorem mw_1153 : Cond.methodLink RJ2 96 yJ2_checkBoundsBeginEnd_d044e ∈ LW := LWm (tb5 (List.mem_of_getElem? (i := 193) (by decide +kernel))) rfl
theorem mw_1154 : Cond.static yJ2_checkBoundsBeginEnd_d044e ∈ LW := LWm (tb5 (List.mem_of_getElem? (i := 194) (by decide +kernel))) rfl
theorem mw_1155 : Cond.code yJ2_checkBoundsBeginEnd_d044e cJ2_checkBoundsBeginEnd_d044e 3 none ∈ LW := LWm (tb5 (List.mem_of_getElem? (i := 195) (by decide +kernel))) rfl
theorem mw_1156 : Cond.methodLink RJ2 48 yJ2_length_9d52b ∈ LW := LWm (tb5 (List.mem_of_getElem? (i := 196) (by decide +kernel))) rfl
theorem mw_1157 : Cond.static yJ2_length_9d52b ∈ LW := LWm (tb5 (List.mem_of_getElem? (i := 197) (by decide +kernel))) rfl
theorem mw_1158 : Cond.code yJ2_length_9d52b cJ2_length_9d52b 1 (some .int) ∈ LW := LWm (tb5 (List.mem_of_getElem? (i := 198) (by decide +kernel))) rfl
theorem mw_1159 : Cond.methodLink RJ2 241 yJ0_checkBoundsBeginEnd_23922 ∈ LW := LWm (tb5 (List.mem_of_getElem? (i := 199) (by decide +kernel))) rfl
theorem mw_1160 : Cond.static yJ0_checkBoundsBeginEnd_23922 ∈ LW := LWm (tb5 (List.mem_of_getElem? (i := 200) (by decide +kernel))) rfl
theorem mw_1161 : Cond.code yJ0_checkBoundsBeginEnd_23922 cJ0_checkBoundsBeginEnd_23922 3 none ∈ LW := LWm (tb5 (List.mem_of_getElem? (i := 201) (by decide +kernel))) rfl
theorem mw_1162 : Cond.fieldLink RJ0 1053 "jdk/internal/util/Preconditions" "SIOOBE_FORMATTER" "Ljava/util/function/BiFunction;" ∈ LW := LWm (tb5 (List.mem_of_getElem? (i := 202) (by decide +kernel))) rfl
theorem mw_1164 : Cond.methodLink RJ0 1062 yJ3_checkFromToIndex_8c36e ∈ LW := LWm (tb5 (List.mem_of_getElem? (i := 204) (by decide +kernel))) rfl
theorem mw_1165 : Cond.static yJ3_checkFromToIndex_8c36e ∈ LW := LWm (tb5 (List.mem_of_getElem? (i := 205) (by decide +kernel))) rfl
theorem mw_1166 : Cond.code yJ3_checkFromToIndex_8c36e cJ3_checkFromToIndex_8c36e 4 (some .int) ∈ LW := LWm (tb5 (List.mem_of_getElem? (i := 206) (by decide +kernel))) rfl
theorem mw_1167 : Cond.methodLink RJ2 111 yJ2_putChar_b72d1 ∈ LW := LWm (tb5 (List.mem_of_getElem? (i := 207) (by decide +kernel))) rfl
theorem mw_1168 : Cond.static yJ2_putChar_b72d1 ∈ LW := LWm (tb5 (List.mem_of_getElem? (i := 208) (by decide +kernel))) rfl
theorem mw_1169 : Cond.code yJ2_putChar_b72d1 cJ2_putChar_b72d1 3 none ∈ LW := LWm (tb5 (List.mem_of_getElem? (i := 209) (by decide +kernel))) rfl
theorem mw_1170 : Cond.fieldLink RJ2 44 "java/lang/StringUTF16" "$assertionsDisabled" "Z" ∈ LW := LWm (tb5 (List.mem_of_getElem? (i := 210) (by decide +kernel))) rfl
theorem mw_1172 : Cond.fieldLink RJ2 59 "java/lang/StringUTF16" "HI_BYTE_SHIFT" "I" ∈ LW := LWm (tb5 (List.mem_of_getElem? (i := 212) (by decide +kernel))) rfl
theorem mw_1174 : Cond.fieldLink RJ2 63 "java/lang/StringUTF16" "LO_BYTE_SHIFT" "I" ∈ LW := LWm (tb5 (List.mem_of_getElem? (i := 214) (by decide +kernel))) rfl
theorem mw_1176 : Cond.methodLink RJ5 32 yJ0_length_8abf5 ∈ LW := LWm (tb5 (List.mem_of_getElem? (i := 216) (by decide +kernel))) rfl
theorem mw_1177 : Cond.instanceMethod yJ0_length_8abf5 ∈ LW := LWm (tb5 (List.mem_of_getElem? (i := 217) (by decide +kernel))) rfl
theorem mw_1178 : Cond.selects RJ0 yJ0_length_8abf5 yJ0_length_8abf5 ∈ LW := LWm (tb5 (List.mem_of_getElem? (i := 218) (by decide +kernel))) rfl
theorem mw_1179 : Cond.code yJ0_length_8abf5 cJ0_length_8abf5 1 (some .int) ∈ LW := LWm (tb5 (List.mem_of_getElem? (i := 219) (by decide +kernel))) rfl
theorem mw_1180 : Cond.methodLink RJ0 335 yJ0_coder_7d493 ∈ LW := LWm (tb5 (List.mem_of_getElem? (i := 220) (by decide +kernel))) rfl
theorem mw_1181 : Cond.instanceMethod yJ0_coder_7d493 ∈ LW := LWm (tb5 (List.mem_of_getElem? (i := 221) (by decide +kernel))) rfl
theorem mw_1182 : Cond.selects RJ0 yJ0_coder_7d493 yJ0_coder_7d493 ∈ LW := LWm (tb5 (List.mem_of_getElem? (i := 222) (by decide +kernel))) rfl
theorem mw_1183 : Cond.code yJ0_coder_7d493 cJ0_coder_7d493 1 (some .byte) ∈ LW := LWm (tb5 (List.mem_of_getElem? (i := 223) (by decide +kernel))) rfl
theorem mw_1184 : Cond.fieldLink RJ0 38 "java/lang/String" "COMPACT_STRINGS" "Z" ∈ LW := LWm (tb5 (List.mem_of_getElem? (i := 224) (by decide +kernel))) rfl
theorem mw_1185 : Cond.methodLink RJ5 208 yJ5_putStringAt_47b60 ∈ LW := LWm (tb5 (List.mem_of_getElem? (i := 225) (by decide +kernel))) rfl
theorem mw_1187 : Cond.instanceMethod yJ5_putStringAt_47b60 ∈ LW := LWm (tb5 (List.mem_of_getElem? (i := 227) (by decide +kernel))) rfl
theorem mw_1188 : Cond.code yJ5_putStringAt_47b60 cJ5_putStringAt_47b60 3 none ∈ LW := LWm (tb5 (List.mem_of_getElem? (i := 228) (by decide +kernel))) rfl
theorem mw_1189 : Cond.methodLink RJ5 397 yJ5_inflateIfNeededFor_a7421 ∈ LW := LWm (tb5 (List.mem_of_getElem? (i := 229) (by decide +kernel))) rfl
theorem mw_1191 : Cond.instanceMethod yJ5_inflateIfNeededFor_a7421 ∈ LW := LWm (tb5 (List.mem_of_getElem? (i := 231) (by decide +kernel))) rfl
theorem mw_1192 : Cond.code yJ5_inflateIfNeededFor_a7421 cJ5_inflateIfNeededFor_a7421 2 none ∈ LW := LWm (tb5 (List.mem_of_getElem? (i := 232) (by decide +kernel))) rfl
theorem mw_1193 : Cond.methodLink RJ5 40 yJ0_coder_7d493 ∈ LW := LWm (tb5 (List.mem_of_getElem? (i := 233) (by decide +kernel))) rfl
theorem mw_1194 : Cond.methodLink RJ5 195 yJ5_inflate_da8c8 ∈ LW := LWm (tb5 (List.mem_of_getElem? (i := 234) (by decide +kernel))) rfl
theorem mw_1196 : Cond.instanceMethod yJ5_inflate_da8c8 ∈ LW := LWm (tb5 (List.mem_of_getElem? (i := 236) (by decide +kernel))) rfl
theorem mw_1197 : Cond.code yJ5_inflate_da8c8 cJ5_inflate_da8c8 2 none ∈ LW := LWm (tb5 (List.mem_of_getElem? (i := 237) (by decide +kernel))) rfl
theorem mw_1198 : Cond.methodLink RJ5 125 yJ1_inflate_0e8fd ∈ LW := LWm (tb5 (List.mem_of_getElem? (i := 238) (by decide +kernel))) rfl
theorem mw_1199 : Cond.static yJ1_inflate_0e8fd ∈ LW := LWm (tb5 (List.mem_of_getElem? (i := 239) (by decide +kernel))) rfl
theorem mw_1200 : Cond.code yJ1_inflate_0e8fd cJ1_inflate_0e8fd 5 none ∈ LW := LWm (tb6 (List.mem_of_getElem? (i := 0) (by decide +kernel))) rfl
theorem mw_1201 : Cond.methodLink RJ1 240 yJ2_inflate_0e8fd ∈ LW := LWm (tb6 (List.mem_of_getElem? (i := 1) (by decide +kernel))) rfl
theorem mw_1202 : Cond.static yJ2_inflate_0e8fd ∈ LW := LWm (tb6 (List.mem_of_getElem? (i := 2) (by decide +kernel))) rfl
theorem mw_1203 : Cond.code yJ2_inflate_0e8fd cJ2_inflate_0e8fd 6 none ∈ LW := LWm (tb6 (List.mem_of_getElem? (i := 3) (by decide +kernel))) rfl
theorem mw_1204 : Cond.methodLink RJ2 173 yJ2_checkBoundsOffCount_d044e ∈ LW := LWm (tb6 (List.mem_of_getElem? (i := 4) (by decide +kernel))) rfl
theorem mw_1205 : Cond.static yJ2_checkBoundsOffCount_d044e ∈ LW := LWm (tb6 (List.mem_of_getElem? (i := 5) (by decide +kernel))) rfl
theorem mw_1206 : Cond.code yJ2_checkBoundsOffCount_d044e cJ2_checkBoundsOffCount_d044e 3 none ∈ LW := LWm (tb6 (List.mem_of_getElem? (i := 6) (by decide +kernel))) rfl
theorem mw_1207 : Cond.methodLink RJ2 419 yJ0_checkBoundsOffCount_cabcc ∈ LW := LWm (tb6 (List.mem_of_getElem? (i := 7) (by decide +kernel))) rfl
theorem mw_1208 : Cond.static yJ0_checkBoundsOffCount_cabcc ∈ LW := LWm (tb6 (List.mem_of_getElem? (i := 8) (by decide +kernel))) rfl
theorem mw_1209 : Cond.code yJ0_checkBoundsOffCount_cabcc cJ0_checkBoundsOffCount_cabcc 3 (some .int) ∈ LW := LWm (tb6 (List.mem_of_getElem? (i := 9) (by decide +kernel))) rfl
theorem mw_1210 : Cond.methodLink RJ0 1065 yJ3_checkFromIndexSize_8c36e ∈ LW := LWm (tb6 (List.mem_of_getElem? (i := 10) (by decide +kernel))) rfl
theorem mw_1211 : Cond.static yJ3_checkFromIndexSize_8c36e ∈ LW := LWm (tb6 (List.mem_of_getElem? (i := 11) (by decide +kernel))) rfl
theorem mw_1212 : Cond.code yJ3_checkFromIndexSize_8c36e cJ3_checkFromIndexSize_8c36e 4 (some .int) ∈ LW := LWm (tb6 (List.mem_of_getElem? (i := 12) (by decide +kernel))) rfl
theorem mw_1213 : Cond.methodLink RJ5 399 yJ0_getBytes_840e7 ∈ LW := LWm (tb6 (List.mem_of_getElem? (i := 13) (by decide +kernel))) rfl
theorem mw_1214 : Cond.instanceMethod yJ0_getBytes_840e7 ∈ LW := LWm (tb6 (List.mem_of_getElem? (i := 14) (by decide +kernel))) rfl
theorem mw_1215 : Cond.selects RJ0 yJ0_getBytes_840e7 yJ0_getBytes_840e7 ∈ LW := LWm (tb6 (List.mem_of_getElem? (i := 15) (by decide +kernel))) rfl
theorem mw_1216 : Cond.code yJ0_getBytes_840e7 cJ0_getBytes_840e7 4 none ∈ LW := LWm (tb6 (List.mem_of_getElem? (i := 16) (by decide +kernel))) rfl
theorem mw_1217 : Cond.methodLink RJ0 212 ⟨"java/lang/System", "arraycopy", "(Ljava/lang/Object;ILjava/lang/Object;II)V"⟩ ∈ LW := LWm (tb6 (List.mem_of_getElem? (i := 17) (by decide +kernel))) rfl
theorem mw_1218 : Cond.methodLink RJ0 106 yJ1_inflate_0e8fd ∈ LW := LWm (tb6 (List.mem_of_getElem? (i := 18) (by decide +kernel))) rfl
theorem mw_1220 : Cond.methodLink RL 272 yJ4_append_cf468 ∈ LW := LWm (tb6 (List.mem_of_getElem? (i := 20) (by decide +kernel))) rfl
theorem mw_1221 : Cond.instanceMethod yJ4_append_cf468 ∈ LW := LWm (tb6 (List.mem_of_getElem? (i := 21) (by decide +kernel))) rfl
theorem mw_1222 : Cond.selects RJ4 yJ4_append_cf468 yJ4_append_cf468 ∈ LW := LWm (tb6 (List.mem_of_getElem? (i := 22) (by decide +kernel))) rfl
theorem mw_1223 : Cond.code yJ4_append_cf468 cJ4_append_cf468 2 (some (.object "java/lang/StringBuilder")) ∈ LW := LWm (tb6 (List.mem_of_getElem? (i := 23) (by decide +kernel))) rfl
theorem mw_1224 : Cond.methodLink RJ4 50 yJ5_append_3fe6f ∈ LW := LWm (tb6 (List.mem_of_getElem? (i := 24) (by decide +kernel))) rfl
theorem mw_1225 : Cond.instanceMethod yJ5_append_3fe6f ∈ LW := LWm (tb6 (List.mem_of_getElem? (i := 25) (by decide +kernel))) rfl
theorem mw_1226 : Cond.code yJ5_append_3fe6f cJ5_append_3fe6f 2 (some (.object "java/lang/AbstractStringBuilder")) ∈ LW := LWm (tb6 (List.mem_of_getElem? (i := 26) (by decide +kernel))) rfl
theorem mw_1227 : Cond.methodLink RJ5 191 yJ1_canEncode_fc78d ∈ LW := LWm (tb6 (List.mem_of_getElem? (i := 27) (by decide +kernel))) rfl
theorem mw_1228 : Cond.static yJ1_canEncode_fc78d ∈ LW := LWm (tb6 (List.mem_of_getElem? (i := 28) (by decide +kernel))) rfl
theorem mw_1229 : Cond.code yJ1_canEncode_fc78d cJ1_canEncode_fc78d 1 (some .boolean) ∈ LW := LWm (tb6 (List.mem_of_getElem? (i := 29) (by decide +kernel))) rfl
theorem mw_1230 : Cond.methodLink RJ5 197 yJ2_putCharSB_b72d1 ∈ LW := LWm (tb6 (List.mem_of_getElem? (i := 30) (by decide +kernel))) rfl
theorem mw_1231 : Cond.static yJ2_putCharSB_b72d1 ∈ LW := LWm (tb6 (List.mem_of_getElem? (i := 31) (by decide +kernel))) rfl
theorem mw_1232 : Cond.code yJ2_putCharSB_b72d1 cJ2_putCharSB_b72d1 3 none ∈ LW := LWm (tb6 (List.mem_of_getElem? (i := 32) (by decide +kernel))) rfl
theorem mw_1233 : Cond.methodLink RJ2 67 yJ2_checkIndex_2214a ∈ LW := LWm (tb6 (List.mem_of_getElem? (i := 33) (by decide +kernel))) rfl
theorem mw_1234 : Cond.static yJ2_checkIndex_2214a ∈ LW := LWm (tb6 (List.mem_of_getElem? (i := 34) (by decide +kernel))) rfl
theorem mw_1235 : Cond.code yJ2_checkIndex_2214a cJ2_checkIndex_2214a 2 none ∈ LW := LWm (tb6 (List.mem_of_getElem? (i := 35) (by decide +kernel))) rfl
theorem mw_1236 : Cond.methodLink RJ2 414 yJ0_checkIndex_df160 ∈ LW := LWm (tb6 (List.mem_of_getElem? (i := 36) (by decide +kernel))) rfl
theorem mw_1237 : Cond.static yJ0_checkIndex_df160 ∈ LW := LWm (tb6 (List.mem_of_getElem? (i := 37) (by decide +kernel))) rfl
theorem mw_1238 : Cond.code yJ0_checkIndex_df160 cJ0_checkIndex_df160 2 none ∈ LW := LWm (tb6 (List.mem_of_getElem? (i := 38) (by decide +kernel))) rfl
theorem mw_1239 : Cond.methodLink RJ0 1059 yJ3_checkIndex_8e157 ∈ LW := LWm (tb6 (List.mem_of_getElem? (i := 39) (by decide +kernel))) rfl
theorem mw_1240 : Cond.static yJ3_checkIndex_8e157 ∈ LW := LWm (tb6 (List.mem_of_getElem? (i := 40) (by decide +kernel))) rfl
theorem mw_1241 : Cond.code yJ3_checkIndex_8e157 cJ3_checkIndex_8e157 3 (some .int) ∈ LW := LWm (tb6 (List.mem_of_getElem? (i := 41) (by decide +kernel))) rfl
theorem mw_1242 : Cond.methodLink RL 275 yJ4_append_bf812 ∈ LW := LWm (tb6 (List.mem_of_getElem? (i := 42) (by decide +kernel))) rfl
theorem mw_1243 : Cond.instanceMethod yJ4_append_bf812 ∈ LW := LWm (tb6 (List.mem_of_getElem? (i := 43) (by decide +kernel))) rfl
theorem mw_1244 : Cond.selects RJ4 yJ4_append_bf812 yJ4_append_bf812 ∈ LW := LWm (tb6 (List.mem_of_getElem? (i := 44) (by decide +kernel))) rfl
theorem mw_1245 : Cond.code yJ4_append_bf812 cJ4_append_bf812 2 (some (.object "java/lang/StringBuilder")) ∈ LW := LWm (tb6 (List.mem_of_getElem? (i := 45) (by decide +kernel))) rfl
theorem mw_1246 : Cond.methodLink RJ4 53 yJ5_append_c97b9 ∈ LW := LWm (tb6 (List.mem_of_getElem? (i := 46) (by decide +kernel))) rfl
theorem mw_1247 : Cond.instanceMethod yJ5_append_c97b9 ∈ LW := LWm (tb6 (List.mem_of_getElem? (i := 47) (by decide +kernel))) rfl
theorem mw_1248 : Cond.code yJ5_append_c97b9 cJ5_append_c97b9 4 (some (.object "java/lang/AbstractStringBuilder")) ∈ LW := LWm (tb6 (List.mem_of_getElem? (i := 48) (by decide +kernel))) rfl
theorem mw_1249 : Cond.methodLink RJ5 245 yJ6_stringSize_0f7a4 ∈ LW := LWm (tb6 (List.mem_of_getElem? (i := 49) (by decide +kernel))) rfl
theorem mw_1250 : Cond.static yJ6_stringSize_0f7a4 ∈ LW := LWm (tb6 (List.mem_of_getElem? (i := 50) (by decide +kernel))) rfl
theorem mw_1251 : Cond.code yJ6_stringSize_0f7a4 cJ6_stringSize_0f7a4 4 (some .int) ∈ LW := LWm (tb6 (List.mem_of_getElem? (i := 51) (by decide +kernel))) rfl
theorem mw_1252 : Cond.methodLink RJ5 248 yJ6_getChars_ba4f3 ∈ LW := LWm (tb6 (List.mem_of_getElem? (i := 52) (by decide +kernel))) rfl
theorem mw_1253 : Cond.static yJ6_getChars_ba4f3 ∈ LW := LWm (tb6 (List.mem_of_getElem? (i := 53) (by decide +kernel))) rfl
theorem mw_1254 : Cond.code yJ6_getChars_ba4f3 cJ6_getChars_ba4f3 7 (some .int) ∈ LW := LWm (tb6 (List.mem_of_getElem? (i := 54) (by decide +kernel))) rfl
theorem mw_1255 : Cond.fieldLink RJ6 83 "java/lang/Integer" "DigitOnes" "[B" ∈ LW := LWm (tb6 (List.mem_of_getElem? (i := 55) (by decide +kernel))) rfl
theorem mw_1257 : Cond.fieldLink RJ6 87 "java/lang/Integer" "DigitTens" "[B" ∈ LW := LWm (tb6 (List.mem_of_getElem? (i := 57) (by decide +kernel))) rfl
theorem mw_1259 : Cond.methodLink RJ5 251 yJ2_getChars_46870 ∈ LW := LWm (tb6 (List.mem_of_getElem? (i := 59) (by decide +kernel))) rfl
theorem mw_1260 : Cond.static yJ2_getChars_46870 ∈ LW := LWm (tb6 (List.mem_of_getElem? (i := 60) (by decide +kernel))) rfl
theorem mw_1261 : Cond.code yJ2_getChars_46870 cJ2_getChars_46870 5 (some .int) ∈ LW := LWm (tb6 (List.mem_of_getElem? (i := 61) (by decide +kernel))) rfl
theorem mw_1262 : Cond.methodLink RJ2 393 yJ2_getChars_ba4f3 ∈ LW := LWm (tb6 (List.mem_of_getElem? (i := 62) (by decide +kernel))) rfl
theorem mw_1263 : Cond.static yJ2_getChars_ba4f3 ∈ LW := LWm (tb6 (List.mem_of_getElem? (i := 63) (by decide +kernel))) rfl
theorem mw_1264 : Cond.code yJ2_getChars_ba4f3 cJ2_getChars_ba4f3 7 (some .int) ∈ LW := LWm (tb6 (List.mem_of_getElem? (i := 64) (by decide +kernel))) rfl
theorem mw_1265 : Cond.fieldLink RJ2 403 "java/lang/Integer" "DigitOnes" "[B" ∈ LW := LWm (tb6 (List.mem_of_getElem? (i := 65) (by decide +kernel))) rfl
theorem mw_1266 : Cond.fieldLink RJ2 407 "java/lang/Integer" "DigitTens" "[B" ∈ LW := LWm (tb6 (List.mem_of_getElem? (i := 66) (by decide +kernel))) rfl
theorem mw_1268 : Cond.methodLink RL 280 yJ4_toString_0e30d ∈ LW := LWm (tb6 (List.mem_of_getElem? (i := 68) (by decide +kernel))) rfl
theorem mw_1269 : Cond.instanceMethod yJ4_toString_0e30d ∈ LW := LWm (tb6 (List.mem_of_getElem? (i := 69) (by decide +kernel))) rfl
theorem mw_1270 : Cond.selects RJ4 yJ4_toString_0e30d yJ4_toString_0e30d ∈ LW := LWm (tb6 (List.mem_of_getElem? (i := 70) (by decide +kernel))) rfl
theorem mw_1271 : Cond.code yJ4_toString_0e30d cJ4_toString_0e30d 1 (some (.object "java/lang/String")) ∈ LW := LWm (tb6 (List.mem_of_getElem? (i := 71) (by decide +kernel))) rfl
theorem mw_1272 : Cond.classLink RJ4 18 RJ0 ∈ LW := LWm (tb6 (List.mem_of_getElem? (i := 72) (by decide +kernel))) rfl
theorem mw_1273 : Cond.methodLink RJ4 137 yJ0_init_81219 ∈ LW := LWm (tb6 (List.mem_of_getElem? (i := 73) (by decide +kernel))) rfl
theorem mw_1274 : Cond.instanceMethod yJ0_init_81219 ∈ LW := LWm (tb6 (List.mem_of_getElem? (i := 74) (by decide +kernel))) rfl
theorem mw_1275 : Cond.code yJ0_init_81219 cJ0_init_81219 2 none ∈ LW := LWm (tb6 (List.mem_of_getElem? (i := 75) (by decide +kernel))) rfl
theorem mw_1276 : Cond.methodLink RJ0 489 yJ0_init_db425 ∈ LW := LWm (tb6 (List.mem_of_getElem? (i := 76) (by decide +kernel))) rfl
theorem mw_1277 : Cond.instanceMethod yJ0_init_db425 ∈ LW := LWm (tb6 (List.mem_of_getElem? (i := 77) (by decide +kernel))) rfl
theorem mw_1278 : Cond.code yJ0_init_db425 cJ0_init_db425 5 none ∈ LW := LWm (tb6 (List.mem_of_getElem? (i := 78) (by decide +kernel))) rfl
theorem mw_1279 : Cond.methodLink RJ0 1 ⟨"java/lang/Object", "<init>", "()V"⟩ ∈ LW := LWm (tb6 (List.mem_of_getElem? (i := 79) (by decide +kernel))) rfl
theorem mw_1280 : Cond.methodLink RJ0 552 yJ5_getValue_6d5f1 ∈ LW := LWm (tb6 (List.mem_of_getElem? (i := 80) (by decide +kernel))) rfl
theorem mw_1281 : Cond.instanceMethod yJ5_getValue_6d5f1 ∈ LW := LWm (tb6 (List.mem_of_getElem? (i := 81) (by decide +kernel))) rfl
theorem mw_1283 : Cond.selects RJ4 yJ5_getValue_6d5f1 yJ5_getValue_6d5f1 ∈ LW := LWm (tb6 (List.mem_of_getElem? (i := 83) (by decide +kernel))) rfl
theorem mw_1284 : Cond.code yJ5_getValue_6d5f1 cJ5_getValue_6d5f1 1 (some (.array .byte)) ∈ LW := LWm (tb6 (List.mem_of_getElem? (i := 84) (by decide +kernel))) rfl
theorem mw_1285 : Cond.methodLink RJ0 549 yJ5_length_8abf5 ∈ LW := LWm (tb6 (List.mem_of_getElem? (i := 85) (by decide +kernel))) rfl
theorem mw_1286 : Cond.instanceMethod yJ5_length_8abf5 ∈ LW := LWm (tb6 (List.mem_of_getElem? (i := 86) (by decide +kernel))) rfl
theorem mw_1288 : Cond.selects RJ4 yJ5_length_8abf5 yJ4_length_8abf5 ∈ LW := LWm (tb6 (List.mem_of_getElem? (i := 88) (by decide +kernel))) rfl
theorem mw_1289 : Cond.instanceMethod yJ4_length_8abf5 ∈ LW := LWm (tb6 (List.mem_of_getElem? (i := 89) (by decide +kernel))) rfl
theorem mw_1290 : Cond.code yJ4_length_8abf5 cJ4_length_8abf5 1 (some .int) ∈ LW := LWm (tb6 (List.mem_of_getElem? (i := 90) (by decide +kernel))) rfl
theorem mw_1291 : Cond.methodLink RJ4 343 yJ5_length_8abf5 ∈ LW := LWm (tb6 (List.mem_of_getElem? (i := 91) (by decide +kernel))) rfl
theorem mw_1292 : Cond.code yJ5_length_8abf5 cJ5_length_8abf5 1 (some .int) ∈ LW := LWm (tb6 (List.mem_of_getElem? (i := 92) (by decide +kernel))) rfl
theorem mw_1293 : Cond.methodLink RJ0 1047 yJ5_isLatin1_aae02 ∈ LW := LWm (tb6 (List.mem_of_getElem? (i := 93) (by decide +kernel))) rfl
theorem mw_1294 : Cond.methodLink RJ0 54 yJ7_copyOfRange_39247 ∈ LW := LWm (tb6 (List.mem_of_getElem? (i := 94) (by decide +kernel))) rfl
theorem mw_1295 : Cond.static yJ7_copyOfRange_39247 ∈ LW := LWm (tb6 (List.mem_of_getElem? (i := 95) (by decide +kernel))) rfl
theorem mw_1296 : Cond.code yJ7_copyOfRange_39247 cJ7_copyOfRange_39247 3 (some (.array .byte)) ∈ LW := LWm (tb6 (List.mem_of_getElem? (i := 96) (by decide +kernel))) rfl
theorem mw_1297 : Cond.methodLink RJ7 339 yJ7_copyOfRangeByte_39247 ∈ LW := LWm (tb6 (List.mem_of_getElem? (i := 97) (by decide +kernel))) rfl
theorem mw_1298 : Cond.static yJ7_copyOfRangeByte_39247 ∈ LW := LWm (tb6 (List.mem_of_getElem? (i := 98) (by decide +kernel))) rfl
theorem mw_1299 : Cond.code yJ7_copyOfRangeByte_39247 cJ7_copyOfRangeByte_39247 5 (some (.array .byte)) ∈ LW := LWm (tb6 (List.mem_of_getElem? (i := 99) (by decide +kernel))) rfl
theorem mw_1300 : Cond.methodLink RJ7 343 yJ7_checkLength_df160 ∈ LW := LWm (tb6 (List.mem_of_getElem? (i := 100) (by decide +kernel))) rfl
theorem mw_1301 : Cond.static yJ7_checkLength_df160 ∈ LW := LWm (tb6 (List.mem_of_getElem? (i := 101) (by decide +kernel))) rfl
theorem mw_1302 : Cond.code yJ7_checkLength_df160 cJ7_checkLength_df160 2 none ∈ LW := LWm (tb6 (List.mem_of_getElem? (i := 102) (by decide +kernel))) rfl
theorem mw_1303 : Cond.classLink RJ7 43 "java/lang/IllegalArgumentException" ∈ LW := LWm (tb6 (List.mem_of_getElem? (i := 103) (by decide +kernel))) rfl
theorem mw_1304 : Cond.classLink RJ7 45 RJ4 ∈ LW := LWm (tb6 (List.mem_of_getElem? (i := 104) (by decide +kernel))) rfl
theorem mw_1305 : Cond.methodLink RJ7 47 yJ4_init_da8c8 ∈ LW := LWm (tb6 (List.mem_of_getElem? (i := 105) (by decide +kernel))) rfl
theorem mw_1306 : Cond.methodLink RJ7 54 yJ4_append_bf812 ∈ LW := LWm (tb6 (List.mem_of_getElem? (i := 106) (by decide +kernel))) rfl
theorem mw_1308 : Cond.methodLink RJ7 50 yJ4_append_15ec4 ∈ LW := LWm (tb6 (List.mem_of_getElem? (i := 108) (by decide +kernel))) rfl
theorem mw_1309 : Cond.methodLink RJ7 61 yJ4_toString_0e30d ∈ LW := LWm (tb6 (List.mem_of_getElem? (i := 109) (by decide +kernel))) rfl
theorem mw_1310 : Cond.methodLink RJ7 65 ⟨"java/lang/IllegalArgumentException", "<init>", "(Ljava/lang/String;)V"⟩ ∈ LW := LWm (tb6 (List.mem_of_getElem? (i := 110) (by decide +kernel))) rfl
theorem mw_1311 : Cond.methodLink RJ0 1051 yJ2_compress_39247 ∈ LW := LWm (tb6 (List.mem_of_getElem? (i := 111) (by decide +kernel))) rfl
theorem mw_1312 : Cond.static yJ2_compress_39247 ∈ LW := LWm (tb6 (List.mem_of_getElem? (i := 112) (by decide +kernel))) rfl
theorem mw_1313 : Cond.code yJ2_compress_39247 cJ2_compress_39247 6 (some (.array .byte)) ∈ LW := LWm (tb6 (List.mem_of_getElem? (i := 113) (by decide +kernel))) rfl
theorem mw_1314 : Cond.methodLink RJ2 123 yJ2_compress_5af95 ∈ LW := LWm (tb6 (List.mem_of_getElem? (i := 114) (by decide +kernel))) rfl
theorem mw_1315 : Cond.static yJ2_compress_5af95 ∈ LW := LWm (tb6 (List.mem_of_getElem? (i := 115) (by decide +kernel))) rfl
theorem mw_1316 : Cond.code yJ2_compress_5af95 cJ2_compress_5af95 7 (some .int) ∈ LW := LWm (tb6 (List.mem_of_getElem? (i := 116) (by decide +kernel))) rfl
theorem mw_1317 : Cond.methodLink RJ2 71 yJ2_getChar_3b067 ∈ LW := LWm (tb6 (List.mem_of_getElem? (i := 117) (by decide +kernel))) rfl
theorem mw_1318 : Cond.static yJ2_getChar_3b067 ∈ LW := LWm (tb6 (List.mem_of_getElem? (i := 118) (by decide +kernel))) rfl
theorem mw_1319 : Cond.code yJ2_getChar_3b067 cJ2_getChar_3b067 2 (some .char) ∈ LW := LWm (tb6 (List.mem_of_getElem? (i := 119) (by decide +kernel))) rfl
theorem mw_1320 : Cond.methodLink RJ2 126 yJ7_copyOfRange_39247 ∈ LW := LWm (tb6 (List.mem_of_getElem? (i := 120) (by decide +kernel))) rfl
theorem mw_1321 : Cond.methodLink RJ0 47 yJ2_coderFromArrayLen_85cad ∈ LW := LWm (tb6 (List.mem_of_getElem? (i := 121) (by decide +kernel))) rfl
theorem mw_1322 : Cond.static yJ2_coderFromArrayLen_85cad ∈ LW := LWm (tb6 (List.mem_of_getElem? (i := 122) (by decide +kernel))) rfl
theorem mw_1323 : Cond.code yJ2_coderFromArrayLen_85cad cJ2_coderFromArrayLen_85cad 2 (some .byte) ∈ LW := LWm (tb6 (List.mem_of_getElem? (i := 123) (by decide +kernel))) rfl
theorem mw_1324 : Cond.fieldLink RJ0 9 "java/lang/String" "value" "[B" ∈ LW := LWm (tb6 (List.mem_of_getElem? (i := 124) (by decide +kernel))) rfl
theorem mw_1325 : Cond.fieldLink RJ0 15 "java/lang/String" "coder" "B" ∈ LW := LWm (tb6 (List.mem_of_getElem? (i := 125) (by decide +kernel))) rfl
theorem mw_1331 : Cond.methodLink RL 284 yL_line ∈ LW := LWm (tb6 (List.mem_of_getElem? (i := 131) (by decide +kernel))) rfl
theorem mw_1332 : Cond.static yL_line ∈ LW := LWm (tb6 (List.mem_of_getElem? (i := 132) (by decide +kernel))) rfl
theorem mw_1333 : Cond.codeWith yL_line cL_line 3 (some .int) [(0, 5, 6, 22)] ∈ LW := LWm (tb6 (List.mem_of_getElem? (i := 133) (by decide +kernel))) rfl
theorem mw_1334 : Cond.methodLink RL 83 yX9_line ∈ LW := LWm (tb6 (List.mem_of_getElem? (i := 134) (by decide +kernel))) rfl
theorem mw_1335 : Cond.instanceMethod yX9_line ∈ LW := LWm (tb6 (List.mem_of_getElem? (i := 135) (by decide +kernel))) rfl
theorem mw_1336 : Cond.selects RX9 yX9_line yX9_line ∈ LW := LWm (tb6 (List.mem_of_getElem? (i := 136) (by decide +kernel))) rfl
theorem mw_1337 : Cond.code yX9_line cX9_line 2 (some .int) ∈ LW := LWm (tb6 (List.mem_of_getElem? (i := 137) (by decide +kernel))) rfl
theorem mw_1338 : Cond.methodLinkNest RX9 240 yX2_writeBar RX9 ∈ NW := NWm (tb6 (List.mem_of_getElem? (i := 138) (by decide +kernel))) rfl
theorem mw_1340 : Cond.instanceMethod yX2_writeBar ∈ LW := LWm (tb6 (List.mem_of_getElem? (i := 140) (by decide +kernel))) rfl
theorem mw_1341 : Cond.code yX2_writeBar cX2_writeBar 3 (some .int) ∈ LW := LWm (tb6 (List.mem_of_getElem? (i := 141) (by decide +kernel))) rfl
theorem mw_1342 : Cond.methodLinkNest RX2 27 yX5_countOfSounds RX9 ∈ NW := NWm (tb6 (List.mem_of_getElem? (i := 142) (by decide +kernel))) rfl
theorem mw_1343 : Cond.methodLinkNest RX2 33 yX5_overlap RX9 ∈ NW := NWm (tb6 (List.mem_of_getElem? (i := 143) (by decide +kernel))) rfl
theorem mw_1344 : Cond.methodLink RX2 37 yX2_addPart ∈ LW := LWm (tb6 (List.mem_of_getElem? (i := 144) (by decide +kernel))) rfl
theorem mw_1346 : Cond.instanceMethod yX2_addPart ∈ LW := LWm (tb6 (List.mem_of_getElem? (i := 146) (by decide +kernel))) rfl
theorem mw_1347 : Cond.code yX2_addPart cX2_addPart 3 none ∈ LW := LWm (tb6 (List.mem_of_getElem? (i := 147) (by decide +kernel))) rfl
theorem mw_1348 : Cond.methodLinkNest RX2 56 yX5_isTied RX9 ∈ NW := NWm (tb6 (List.mem_of_getElem? (i := 148) (by decide +kernel))) rfl
theorem mw_1349 : Cond.methodLink RX2 41 yX2_addSign ∈ LW := LWm (tb6 (List.mem_of_getElem? (i := 149) (by decide +kernel))) rfl
theorem mw_1351 : Cond.instanceMethod yX2_addSign ∈ LW := LWm (tb6 (List.mem_of_getElem? (i := 151) (by decide +kernel))) rfl
theorem mw_1352 : Cond.code yX2_addSign cX2_addSign 2 none ∈ LW := LWm (tb6 (List.mem_of_getElem? (i := 152) (by decide +kernel))) rfl
theorem mw_1353 : Cond.methodLinkNest RX2 60 yX5_isRest RX9 ∈ NW := NWm (tb6 (List.mem_of_getElem? (i := 153) (by decide +kernel))) rfl
theorem mw_1354 : Cond.methodLinkNest RX2 64 yX5_pitchOf RX9 ∈ NW := NWm (tb6 (List.mem_of_getElem? (i := 154) (by decide +kernel))) rfl
theorem mw_1355 : Cond.methodLink RX2 52 yX2_addNumber ∈ LW := LWm (tb6 (List.mem_of_getElem? (i := 155) (by decide +kernel))) rfl
theorem mw_1357 : Cond.instanceMethod yX2_addNumber ∈ LW := LWm (tb6 (List.mem_of_getElem? (i := 157) (by decide +kernel))) rfl
theorem mw_1358 : Cond.code yX2_addNumber cX2_addNumber 2 none ∈ LW := LWm (tb6 (List.mem_of_getElem? (i := 158) (by decide +kernel))) rfl
theorem mw_1359 : Cond.methodLinkNest RX2 45 yX5_sizeOf RX9 ∈ NW := NWm (tb6 (List.mem_of_getElem? (i := 159) (by decide +kernel))) rfl
theorem mw_1360 : Cond.methodLinkNest RX2 49 yX5_filledOfBar RX9 ∈ NW := NWm (tb6 (List.mem_of_getElem? (i := 160) (by decide +kernel))) rfl
theorem mw_1362 : Cond.methodLink RL 288 yL_spells ∈ LW := LWm (tb6 (List.mem_of_getElem? (i := 162) (by decide +kernel))) rfl
theorem mw_1363 : Cond.static yL_spells ∈ LW := LWm (tb6 (List.mem_of_getElem? (i := 163) (by decide +kernel))) rfl
theorem mw_1364 : Cond.code yL_spells cL_spells 5 (some .boolean) ∈ LW := LWm (tb6 (List.mem_of_getElem? (i := 164) (by decide +kernel))) rfl
theorem mw_1365 : Cond.methodLink RL 109 yJ0_length_8abf5 ∈ LW := LWm (tb6 (List.mem_of_getElem? (i := 165) (by decide +kernel))) rfl
theorem mw_1366 : Cond.methodLink RL 260 yL_character ∈ LW := LWm (tb6 (List.mem_of_getElem? (i := 166) (by decide +kernel))) rfl
theorem mw_1367 : Cond.static yL_character ∈ LW := LWm (tb6 (List.mem_of_getElem? (i := 167) (by decide +kernel))) rfl
theorem mw_1368 : Cond.codeWith yL_character cL_character 3 (some .int) [(0, 5, 6, 22)] ∈ LW := LWm (tb6 (List.mem_of_getElem? (i := 168) (by decide +kernel))) rfl
theorem mw_1369 : Cond.methodLink RL 89 yX9_character ∈ LW := LWm (tb6 (List.mem_of_getElem? (i := 169) (by decide +kernel))) rfl
theorem mw_1370 : Cond.instanceMethod yX9_character ∈ LW := LWm (tb6 (List.mem_of_getElem? (i := 170) (by decide +kernel))) rfl
theorem mw_1371 : Cond.selects RX9 yX9_character yX9_character ∈ LW := LWm (tb6 (List.mem_of_getElem? (i := 171) (by decide +kernel))) rfl
theorem mw_1372 : Cond.code yX9_character cX9_character 2 (some .char) ∈ LW := LWm (tb6 (List.mem_of_getElem? (i := 172) (by decide +kernel))) rfl
theorem mw_1373 : Cond.methodLinkNest RX9 246 yX2_hasSign RX9 ∈ NW := NWm (tb6 (List.mem_of_getElem? (i := 173) (by decide +kernel))) rfl
theorem mw_1375 : Cond.instanceMethod yX2_hasSign ∈ LW := LWm (tb6 (List.mem_of_getElem? (i := 175) (by decide +kernel))) rfl
theorem mw_1376 : Cond.code yX2_hasSign cX2_hasSign 2 (some .boolean) ∈ LW := LWm (tb6 (List.mem_of_getElem? (i := 176) (by decide +kernel))) rfl
theorem mw_1377 : Cond.methodLinkNest RX2 23 yX9_isWithin RX9 ∈ NW := NWm (tb6 (List.mem_of_getElem? (i := 177) (by decide +kernel))) rfl
theorem mw_1378 : Cond.methodLinkNest RX9 249 yX2_signAt RX9 ∈ NW := NWm (tb6 (List.mem_of_getElem? (i := 178) (by decide +kernel))) rfl
theorem mw_1380 : Cond.instanceMethod yX2_signAt ∈ LW := LWm (tb6 (List.mem_of_getElem? (i := 180) (by decide +kernel))) rfl
theorem mw_1381 : Cond.code yX2_signAt cX2_signAt 2 (some .char) ∈ LW := LWm (tb6 (List.mem_of_getElem? (i := 181) (by decide +kernel))) rfl
theorem mw_1382 : Cond.methodLink RL 114 yJ0_charAt_5068e ∈ LW := LWm (tb6 (List.mem_of_getElem? (i := 182) (by decide +kernel))) rfl
theorem mw_1383 : Cond.instanceMethod yJ0_charAt_5068e ∈ LW := LWm (tb6 (List.mem_of_getElem? (i := 183) (by decide +kernel))) rfl
theorem mw_1384 : Cond.selects RJ0 yJ0_charAt_5068e yJ0_charAt_5068e ∈ LW := LWm (tb6 (List.mem_of_getElem? (i := 184) (by decide +kernel))) rfl
theorem mw_1385 : Cond.code yJ0_charAt_5068e cJ0_charAt_5068e 2 (some .char) ∈ LW := LWm (tb6 (List.mem_of_getElem? (i := 185) (by decide +kernel))) rfl
theorem mw_1386 : Cond.methodLink RJ0 492 yJ0_isLatin1_aae02 ∈ LW := LWm (tb6 (List.mem_of_getElem? (i := 186) (by decide +kernel))) rfl
theorem mw_1387 : Cond.instanceMethod yJ0_isLatin1_aae02 ∈ LW := LWm (tb6 (List.mem_of_getElem? (i := 187) (by decide +kernel))) rfl
theorem mw_1388 : Cond.selects RJ0 yJ0_isLatin1_aae02 yJ0_isLatin1_aae02 ∈ LW := LWm (tb6 (List.mem_of_getElem? (i := 188) (by decide +kernel))) rfl
theorem mw_1389 : Cond.code yJ0_isLatin1_aae02 cJ0_isLatin1_aae02 1 (some .boolean) ∈ LW := LWm (tb6 (List.mem_of_getElem? (i := 189) (by decide +kernel))) rfl
theorem mw_1390 : Cond.methodLink RJ0 495 yJ1_charAt_3b067 ∈ LW := LWm (tb6 (List.mem_of_getElem? (i := 190) (by decide +kernel))) rfl
theorem mw_1391 : Cond.static yJ1_charAt_3b067 ∈ LW := LWm (tb6 (List.mem_of_getElem? (i := 191) (by decide +kernel))) rfl
theorem mw_1392 : Cond.code yJ1_charAt_3b067 cJ1_charAt_3b067 2 (some .char) ∈ LW := LWm (tb6 (List.mem_of_getElem? (i := 192) (by decide +kernel))) rfl
theorem mw_1393 : Cond.methodLink RJ1 9 yJ0_checkIndex_df160 ∈ LW := LWm (tb6 (List.mem_of_getElem? (i := 193) (by decide +kernel))) rfl
theorem mw_1394 : Cond.methodLink RJ0 498 yJ2_charAt_3b067 ∈ LW := LWm (tb6 (List.mem_of_getElem? (i := 194) (by decide +kernel))) rfl
theorem mw_1395 : Cond.static yJ2_charAt_3b067 ∈ LW := LWm (tb6 (List.mem_of_getElem? (i := 195) (by decide +kernel))) rfl
theorem mw_1396 : Cond.code yJ2_charAt_3b067 cJ2_charAt_3b067 2 (some .char) ∈ LW := LWm (tb6 (List.mem_of_getElem? (i := 196) (by decide +kernel))) rfl
theorem mw_1397 : Cond.methodLink RL 292 yL_tinLine ∈ LW := LWm (tb6 (List.mem_of_getElem? (i := 197) (by decide +kernel))) rfl
theorem mw_1398 : Cond.static yL_tinLine ∈ LW := LWm (tb6 (List.mem_of_getElem? (i := 198) (by decide +kernel))) rfl
theorem mw_1399 : Cond.codeWith yL_tinLine cL_tinLine 3 (some .int) [(0, 5, 6, 22)] ∈ LW := LWm (tb6 (List.mem_of_getElem? (i := 199) (by decide +kernel))) rfl
theorem mw_1400 : Cond.methodLink RL 86 yX9_tinLine ∈ LW := LWm (tb6 (List.mem_of_getElem? (i := 200) (by decide +kernel))) rfl
theorem mw_1401 : Cond.instanceMethod yX9_tinLine ∈ LW := LWm (tb6 (List.mem_of_getElem? (i := 201) (by decide +kernel))) rfl
theorem mw_1402 : Cond.selects RX9 yX9_tinLine yX9_tinLine ∈ LW := LWm (tb6 (List.mem_of_getElem? (i := 202) (by decide +kernel))) rfl
theorem mw_1403 : Cond.code yX9_tinLine cX9_tinLine 2 (some .int) ∈ LW := LWm (tb6 (List.mem_of_getElem? (i := 203) (by decide +kernel))) rfl
theorem mw_1404 : Cond.methodLinkNest RX9 243 yX2_writeTin RX9 ∈ NW := NWm (tb6 (List.mem_of_getElem? (i := 204) (by decide +kernel))) rfl
theorem mw_1406 : Cond.instanceMethod yX2_writeTin ∈ LW := LWm (tb6 (List.mem_of_getElem? (i := 206) (by decide +kernel))) rfl
theorem mw_1407 : Cond.code yX2_writeTin cX2_writeTin 2 (some .int) ∈ LW := LWm (tb6 (List.mem_of_getElem? (i := 207) (by decide +kernel))) rfl
theorem mw_1408 : Cond.methodLinkNest RX2 67 yX5_keyOf RX9 ∈ NW := NWm (tb6 (List.mem_of_getElem? (i := 208) (by decide +kernel))) rfl
theorem mw_1409 : Cond.methodLinkNest RX2 70 yX5_leakOf RX9 ∈ NW := NWm (tb6 (List.mem_of_getElem? (i := 209) (by decide +kernel))) rfl
theorem mw_1411 : Cond.methodLink RL 198 yL_undone ∈ LW := LWm (tb6 (List.mem_of_getElem? (i := 211) (by decide +kernel))) rfl
theorem mw_1412 : Cond.static yL_undone ∈ LW := LWm (tb6 (List.mem_of_getElem? (i := 212) (by decide +kernel))) rfl
theorem mw_1413 : Cond.code yL_undone cL_undone 8 (some .boolean) ∈ LW := LWm (tb6 (List.mem_of_getElem? (i := 213) (by decide +kernel))) rfl
theorem mw_1414 : Cond.methodLink RL 306 yL_sum ∈ LW := LWm (tb6 (List.mem_of_getElem? (i := 214) (by decide +kernel))) rfl
theorem mw_1415 : Cond.static yL_sum ∈ LW := LWm (tb6 (List.mem_of_getElem? (i := 215) (by decide +kernel))) rfl
theorem mw_1416 : Cond.code yL_sum cL_sum 4 (some .long) ∈ LW := LWm (tb6 (List.mem_of_getElem? (i := 216) (by decide +kernel))) rfl
theorem mw_1422 : Cond.methodLink RL 310 yL_lift ∈ LW := LWm (tb6 (List.mem_of_getElem? (i := 222) (by decide +kernel))) rfl
theorem mw_1423 : Cond.static yL_lift ∈ LW := LWm (tb6 (List.mem_of_getElem? (i := 223) (by decide +kernel))) rfl
theorem mw_1424 : Cond.codeWith yL_lift cL_lift 2 (some .int) [(0, 4, 5, 16)] ∈ LW := LWm (tb6 (List.mem_of_getElem? (i := 224) (by decide +kernel))) rfl
theorem mw_1425 : Cond.methodLink RL 34 yX9_lift ∈ LW := LWm (tb6 (List.mem_of_getElem? (i := 225) (by decide +kernel))) rfl
theorem mw_1426 : Cond.instanceMethod yX9_lift ∈ LW := LWm (tb6 (List.mem_of_getElem? (i := 226) (by decide +kernel))) rfl
theorem mw_1427 : Cond.selects RX9 yX9_lift yX9_lift ∈ LW := LWm (tb6 (List.mem_of_getElem? (i := 227) (by decide +kernel))) rfl
theorem mw_1428 : Cond.code yX9_lift cX9_lift 1 (some .int) ∈ LW := LWm (tb6 (List.mem_of_getElem? (i := 228) (by decide +kernel))) rfl
theorem mw_1429 : Cond.fieldLink RX9 99 "TinRoofScore$Order" "LIFT" "LTinRoofScore$Order;" ∈ LW := LWm (tb6 (List.mem_of_getElem? (i := 229) (by decide +kernel))) rfl
theorem mw_1430 : Cond.methodLink RL 312 yL_tune ∈ LW := LWm (tb6 (List.mem_of_getElem? (i := 230) (by decide +kernel))) rfl
theorem mw_1431 : Cond.static yL_tune ∈ LW := LWm (tb6 (List.mem_of_getElem? (i := 231) (by decide +kernel))) rfl
theorem mw_1432 : Cond.codeWith yL_tune cL_tune 4 (some .int) [(0, 6, 7, 22), (0, 6, 10, 14), (0, 6, 14, 16)] ∈ LW := LWm (tb6 (List.mem_of_getElem? (i := 232) (by decide +kernel))) rfl
theorem mw_1433 : Cond.methodLink RL 41 yX9_tune ∈ LW := LWm (tb6 (List.mem_of_getElem? (i := 233) (by decide +kernel))) rfl
theorem mw_1434 : Cond.instanceMethod yX9_tune ∈ LW := LWm (tb6 (List.mem_of_getElem? (i := 234) (by decide +kernel))) rfl
theorem mw_1435 : Cond.selects RX9 yX9_tune yX9_tune ∈ LW := LWm (tb6 (List.mem_of_getElem? (i := 235) (by decide +kernel))) rfl
theorem mw_1436 : Cond.code yX9_tune cX9_tune 3 (some .int) ∈ LW := LWm (tb6 (List.mem_of_getElem? (i := 236) (by decide +kernel))) rfl
theorem mw_1437 : Cond.fieldLink RX9 105 "TinRoofScore$Order" "TUNE" "LTinRoofScore$Order;" ∈ LW := LWm (tb6 (List.mem_of_getElem? (i := 237) (by decide +kernel))) rfl
theorem mw_1443 : Cond.methodLink RL 324 yL_run ∈ LW := LWm (tb7 (List.mem_of_getElem? (i := 3) (by decide +kernel))) rfl
theorem mw_1444 : Cond.static yL_run ∈ LW := LWm (tb7 (List.mem_of_getElem? (i := 4) (by decide +kernel))) rfl
theorem mw_1445 : Cond.code yL_run cL_run 3 (some .int) ∈ LW := LWm (tb7 (List.mem_of_getElem? (i := 5) (by decide +kernel))) rfl
theorem mw_1446 : Cond.methodLink RL 117 yL_append ∈ LW := LWm (tb7 (List.mem_of_getElem? (i := 6) (by decide +kernel))) rfl
theorem mw_1447 : Cond.static yL_append ∈ LW := LWm (tb7 (List.mem_of_getElem? (i := 7) (by decide +kernel))) rfl
theorem mw_1448 : Cond.codeWith yL_append cL_append 3 (some .int) [(0, 5, 6, 97)] ∈ LW := LWm (tb7 (List.mem_of_getElem? (i := 8) (by decide +kernel))) rfl
theorem mw_1449 : Cond.classLink RL 97 "java/lang/IllegalStateException" ∈ LW := LWm (tb7 (List.mem_of_getElem? (i := 9) (by decide +kernel))) rfl
theorem mw_1450 : Cond.methodLink RL 93 yX9_append ∈ LW := LWm (tb7 (List.mem_of_getElem? (i := 10) (by decide +kernel))) rfl
theorem mw_1451 : Cond.instanceMethod yX9_append ∈ LW := LWm (tb7 (List.mem_of_getElem? (i := 11) (by decide +kernel))) rfl
theorem mw_1452 : Cond.selects RX9 yX9_append yX9_append ∈ LW := LWm (tb7 (List.mem_of_getElem? (i := 12) (by decide +kernel))) rfl
theorem mw_1453 : Cond.code yX9_append cX9_append 2 (some .int) ∈ LW := LWm (tb7 (List.mem_of_getElem? (i := 13) (by decide +kernel))) rfl
theorem mw_1454 : Cond.methodLinkNest RX9 253 yX8_isFull RX9 ∈ NW := NWm (tb7 (List.mem_of_getElem? (i := 14) (by decide +kernel))) rfl
theorem mw_1456 : Cond.instanceMethod yX8_isFull ∈ LW := LWm (tb7 (List.mem_of_getElem? (i := 16) (by decide +kernel))) rfl
theorem mw_1457 : Cond.code yX8_isFull cX8_isFull 1 (some .boolean) ∈ LW := LWm (tb7 (List.mem_of_getElem? (i := 17) (by decide +kernel))) rfl
theorem mw_1458 : Cond.methodLink RX9 257 yX9_needState ∈ LW := LWm (tb7 (List.mem_of_getElem? (i := 18) (by decide +kernel))) rfl
theorem mw_1459 : Cond.static yX9_needState ∈ LW := LWm (tb7 (List.mem_of_getElem? (i := 19) (by decide +kernel))) rfl
theorem mw_1460 : Cond.code yX9_needState cX9_needState 1 none ∈ LW := LWm (tb7 (List.mem_of_getElem? (i := 20) (by decide +kernel))) rfl
theorem mw_1461 : Cond.classLink RX9 390 "java/lang/IllegalStateException" ∈ LW := LWm (tb7 (List.mem_of_getElem? (i := 21) (by decide +kernel))) rfl
theorem mw_1462 : Cond.instantiable "java/lang/IllegalStateException" 6 ∈ LW := LWm (tb7 (List.mem_of_getElem? (i := 22) (by decide +kernel))) rfl
theorem mw_1463 : Cond.castable "java/lang/IllegalStateException" "java/lang/IllegalStateException" ∈ NW := NWm (tb7 (List.mem_of_getElem? (i := 23) (by decide +kernel))) rfl
theorem mw_1464 : Cond.selects "java/lang/IllegalStateException" ⟨"java/lang/Throwable", "fillInStackTrace", "(I)Ljava/lang/Throwable;"⟩ ⟨"java/lang/Throwable", "fillInStackTrace", "(I)Ljava/lang/Throwable;"⟩ ∈ LW := LWm (tb7 (List.mem_of_getElem? (i := 24) (by decide +kernel))) rfl
theorem mw_1471 : Cond.methodLink RX9 394 ⟨"java/lang/IllegalStateException", "<init>", "(Ljava/lang/String;)V"⟩ ∈ LW := LWm (tb7 (List.mem_of_getElem? (i := 31) (by decide +kernel))) rfl
theorem mw_1472 : Cond.instanceMethod ⟨"java/lang/IllegalStateException", "<init>", "(Ljava/lang/String;)V"⟩ ∈ LW := LWm (tb7 (List.mem_of_getElem? (i := 32) (by decide +kernel))) rfl
theorem mw_1473 : Cond.code ⟨"java/lang/IllegalStateException", "<init>", "(Ljava/lang/String;)V"⟩ prog_24_method_2_code 2 none ∈ LW := LWm (tb7 (List.mem_of_getElem? (i := 33) (by decide +kernel))) rfl
theorem mw_1474 : Cond.methodLink "java/lang/IllegalStateException" 7 ⟨"java/lang/RuntimeException", "<init>", "(Ljava/lang/String;)V"⟩ ∈ LW := LWm (tb7 (List.mem_of_getElem? (i := 34) (by decide +kernel))) rfl
theorem mw_1477 : Cond.arrayClass .long ∈ LW := LWm (tb7 (List.mem_of_getElem? (i := 37) (by decide +kernel))) rfl
theorem mw_1478 : Cond.methodLinkNest RX9 260 yX8_add RX9 ∈ NW := NWm (tb7 (List.mem_of_getElem? (i := 38) (by decide +kernel))) rfl
theorem mw_1480 : Cond.instanceMethod yX8_add ∈ LW := LWm (tb7 (List.mem_of_getElem? (i := 40) (by decide +kernel))) rfl
theorem mw_1481 : Cond.code yX8_add cX8_add 2 (some .int) ∈ LW := LWm (tb7 (List.mem_of_getElem? (i := 41) (by decide +kernel))) rfl
theorem mw_1482 : Cond.methodLink RL 122 yL_runs ∈ LW := LWm (tb7 (List.mem_of_getElem? (i := 42) (by decide +kernel))) rfl
theorem mw_1483 : Cond.static yL_runs ∈ LW := LWm (tb7 (List.mem_of_getElem? (i := 43) (by decide +kernel))) rfl
theorem mw_1484 : Cond.codeWith yL_runs cL_runs 2 (some .int) [(0, 4, 5, 14), (0, 4, 8, 16)] ∈ LW := LWm (tb7 (List.mem_of_getElem? (i := 44) (by decide +kernel))) rfl
theorem mw_1485 : Cond.methodLink RL 99 yX9_run ∈ LW := LWm (tb7 (List.mem_of_getElem? (i := 45) (by decide +kernel))) rfl
theorem mw_1486 : Cond.instanceMethod yX9_run ∈ LW := LWm (tb7 (List.mem_of_getElem? (i := 46) (by decide +kernel))) rfl
theorem mw_1487 : Cond.selects RX9 yX9_run yX9_run ∈ LW := LWm (tb7 (List.mem_of_getElem? (i := 47) (by decide +kernel))) rfl
theorem mw_1488 : Cond.code yX9_run cX9_run 2 (some .int) ∈ LW := LWm (tb7 (List.mem_of_getElem? (i := 48) (by decide +kernel))) rfl
theorem mw_1489 : Cond.methodLinkNest RX9 264 yX8_read RX9 ∈ NW := NWm (tb7 (List.mem_of_getElem? (i := 49) (by decide +kernel))) rfl
theorem mw_1491 : Cond.instanceMethod yX8_read ∈ LW := LWm (tb7 (List.mem_of_getElem? (i := 51) (by decide +kernel))) rfl
theorem mw_1492 : Cond.code yX8_read cX8_read 2 (some .boolean) ∈ LW := LWm (tb7 (List.mem_of_getElem? (i := 52) (by decide +kernel))) rfl
theorem mw_1493 : Cond.methodLink RX8 42 yX8_readOrders ∈ LW := LWm (tb7 (List.mem_of_getElem? (i := 53) (by decide +kernel))) rfl
theorem mw_1495 : Cond.instanceMethod yX8_readOrders ∈ LW := LWm (tb7 (List.mem_of_getElem? (i := 55) (by decide +kernel))) rfl
theorem mw_1496 : Cond.code yX8_readOrders cX8_readOrders 2 (some .boolean) ∈ LW := LWm (tb7 (List.mem_of_getElem? (i := 56) (by decide +kernel))) rfl
theorem mw_1497 : Cond.methodLink RX8 46 yX8_readOrder ∈ LW := LWm (tb7 (List.mem_of_getElem? (i := 57) (by decide +kernel))) rfl
theorem mw_1499 : Cond.instanceMethod yX8_readOrder ∈ LW := LWm (tb7 (List.mem_of_getElem? (i := 59) (by decide +kernel))) rfl
theorem mw_1500 : Cond.code yX8_readOrder cX8_readOrder 4 (some .boolean) ∈ LW := LWm (tb7 (List.mem_of_getElem? (i := 60) (by decide +kernel))) rfl
theorem mw_1501 : Cond.methodLink RX8 53 yX8_readWord ∈ LW := LWm (tb7 (List.mem_of_getElem? (i := 61) (by decide +kernel))) rfl
theorem mw_1503 : Cond.instanceMethod yX8_readWord ∈ LW := LWm (tb7 (List.mem_of_getElem? (i := 63) (by decide +kernel))) rfl
theorem mw_1504 : Cond.code yX8_readWord cX8_readWord 5 (some (.object "TinRoofScore$Order")) ∈ LW := LWm (tb7 (List.mem_of_getElem? (i := 64) (by decide +kernel))) rfl
theorem mw_1505 : Cond.fieldLinkNest RX8 78 "TinRoofScore" "ORDERS" "[LTinRoofScore$Order;" RX9 ∈ NW := NWm (tb7 (List.mem_of_getElem? (i := 65) (by decide +kernel))) rfl
theorem mw_1507 : Cond.methodLink RX8 84 yX8_lettersOf ∈ LW := LWm (tb7 (List.mem_of_getElem? (i := 67) (by decide +kernel))) rfl
theorem mw_1509 : Cond.instanceMethod yX8_lettersOf ∈ LW := LWm (tb7 (List.mem_of_getElem? (i := 69) (by decide +kernel))) rfl
theorem mw_1510 : Cond.code yX8_lettersOf cX8_lettersOf 3 (some .int) ∈ LW := LWm (tb7 (List.mem_of_getElem? (i := 70) (by decide +kernel))) rfl
theorem mw_1511 : Cond.methodLink RX8 61 yJ0_length_8abf5 ∈ LW := LWm (tb7 (List.mem_of_getElem? (i := 71) (by decide +kernel))) rfl
theorem mw_1512 : Cond.methodLink RX8 66 yJ0_charAt_5068e ∈ LW := LWm (tb7 (List.mem_of_getElem? (i := 72) (by decide +kernel))) rfl
theorem mw_1513 : Cond.methodLink RX8 94 yX8_isSign ∈ LW := LWm (tb7 (List.mem_of_getElem? (i := 73) (by decide +kernel))) rfl
theorem mw_1515 : Cond.instanceMethod yX8_isSign ∈ LW := LWm (tb7 (List.mem_of_getElem? (i := 75) (by decide +kernel))) rfl
theorem mw_1516 : Cond.code yX8_isSign cX8_isSign 3 (some .boolean) ∈ LW := LWm (tb7 (List.mem_of_getElem? (i := 76) (by decide +kernel))) rfl
theorem mw_1517 : Cond.methodLink RX8 88 yJ9_max_7cf53 ∈ LW := LWm (tb7 (List.mem_of_getElem? (i := 77) (by decide +kernel))) rfl
theorem mw_1518 : Cond.methodLink RX8 49 yX8_take ∈ LW := LWm (tb7 (List.mem_of_getElem? (i := 78) (by decide +kernel))) rfl
theorem mw_1520 : Cond.instanceMethod yX8_take ∈ LW := LWm (tb7 (List.mem_of_getElem? (i := 80) (by decide +kernel))) rfl
theorem mw_1521 : Cond.code yX8_take cX8_take 2 (some .boolean) ∈ LW := LWm (tb7 (List.mem_of_getElem? (i := 81) (by decide +kernel))) rfl
theorem mw_1522 : Cond.methodLink RX8 70 yX8_readNumber ∈ LW := LWm (tb7 (List.mem_of_getElem? (i := 82) (by decide +kernel))) rfl
theorem mw_1524 : Cond.instanceMethod yX8_readNumber ∈ LW := LWm (tb7 (List.mem_of_getElem? (i := 84) (by decide +kernel))) rfl
theorem mw_1525 : Cond.code yX8_readNumber cX8_readNumber 4 (some .int) ∈ LW := LWm (tb7 (List.mem_of_getElem? (i := 85) (by decide +kernel))) rfl
theorem mw_1526 : Cond.methodLink RX8 98 yX8_readDigit ∈ LW := LWm (tb7 (List.mem_of_getElem? (i := 86) (by decide +kernel))) rfl
theorem mw_1528 : Cond.instanceMethod yX8_readDigit ∈ LW := LWm (tb7 (List.mem_of_getElem? (i := 88) (by decide +kernel))) rfl
theorem mw_1529 : Cond.code yX8_readDigit cX8_readDigit 3 (some .int) ∈ LW := LWm (tb7 (List.mem_of_getElem? (i := 89) (by decide +kernel))) rfl
theorem mw_1530 : Cond.methodLinkNest RX8 101 yX9_isWithin RX9 ∈ NW := NWm (tb7 (List.mem_of_getElem? (i := 90) (by decide +kernel))) rfl
theorem mw_1531 : Cond.methodLinkNest RX8 74 yX9_put RX9 ∈ NW := NWm (tb7 (List.mem_of_getElem? (i := 91) (by decide +kernel))) rfl
theorem mw_1532 : Cond.methodLinkNest RX9 267 yX5_become RX9 ∈ NW := NWm (tb7 (List.mem_of_getElem? (i := 92) (by decide +kernel))) rfl
theorem mw_1533 : Cond.methodLink RX9 270 yX9_carryOutText ∈ LW := LWm (tb7 (List.mem_of_getElem? (i := 93) (by decide +kernel))) rfl
theorem mw_1535 : Cond.instanceMethod yX9_carryOutText ∈ LW := LWm (tb7 (List.mem_of_getElem? (i := 95) (by decide +kernel))) rfl
theorem mw_1536 : Cond.code yX9_carryOutText cX9_carryOutText 7 (some .int) ∈ LW := LWm (tb7 (List.mem_of_getElem? (i := 96) (by decide +kernel))) rfl
theorem mw_1537 : Cond.methodLinkNest RX9 279 yX8_countOfOrders RX9 ∈ NW := NWm (tb7 (List.mem_of_getElem? (i := 97) (by decide +kernel))) rfl
theorem mw_1539 : Cond.instanceMethod yX8_countOfOrders ∈ LW := LWm (tb7 (List.mem_of_getElem? (i := 99) (by decide +kernel))) rfl
theorem mw_1540 : Cond.code yX8_countOfOrders cX8_countOfOrders 1 (some .int) ∈ LW := LWm (tb7 (List.mem_of_getElem? (i := 100) (by decide +kernel))) rfl
theorem mw_1541 : Cond.methodLinkNest RX9 363 yX8_orderAt RX9 ∈ NW := NWm (tb7 (List.mem_of_getElem? (i := 101) (by decide +kernel))) rfl
theorem mw_1543 : Cond.instanceMethod yX8_orderAt ∈ LW := LWm (tb7 (List.mem_of_getElem? (i := 103) (by decide +kernel))) rfl
theorem mw_1544 : Cond.code yX8_orderAt cX8_orderAt 2 (some (.object "TinRoofScore$Order")) ∈ LW := LWm (tb7 (List.mem_of_getElem? (i := 104) (by decide +kernel))) rfl
theorem mw_1545 : Cond.methodLinkNest RX9 367 yX8_numberAt RX9 ∈ NW := NWm (tb7 (List.mem_of_getElem? (i := 105) (by decide +kernel))) rfl
theorem mw_1547 : Cond.instanceMethod yX8_numberAt ∈ LW := LWm (tb7 (List.mem_of_getElem? (i := 107) (by decide +kernel))) rfl
theorem mw_1548 : Cond.code yX8_numberAt cX8_numberAt 3 (some .int) ∈ LW := LWm (tb7 (List.mem_of_getElem? (i := 108) (by decide +kernel))) rfl
theorem mw_1549 : Cond.methodLinkNest RX8 38 yX9_cell RX9 ∈ NW := NWm (tb7 (List.mem_of_getElem? (i := 109) (by decide +kernel))) rfl
theorem mw_1550 : Cond.methodLink RL 327 yL_undo ∈ LW := LWm (tb7 (List.mem_of_getElem? (i := 110) (by decide +kernel))) rfl
theorem mw_1551 : Cond.static yL_undo ∈ LW := LWm (tb7 (List.mem_of_getElem? (i := 111) (by decide +kernel))) rfl
theorem mw_1552 : Cond.codeWith yL_undo cL_undo 2 (some .int) [(0, 4, 5, 97)] ∈ LW := LWm (tb7 (List.mem_of_getElem? (i := 112) (by decide +kernel))) rfl
theorem mw_1553 : Cond.methodLink RL 106 yX9_undo ∈ LW := LWm (tb7 (List.mem_of_getElem? (i := 113) (by decide +kernel))) rfl
theorem mw_1554 : Cond.instanceMethod yX9_undo ∈ LW := LWm (tb7 (List.mem_of_getElem? (i := 114) (by decide +kernel))) rfl
theorem mw_1555 : Cond.selects RX9 yX9_undo yX9_undo ∈ LW := LWm (tb7 (List.mem_of_getElem? (i := 115) (by decide +kernel))) rfl
theorem mw_1556 : Cond.code yX9_undo cX9_undo 1 (some .int) ∈ LW := LWm (tb7 (List.mem_of_getElem? (i := 116) (by decide +kernel))) rfl
theorem mw_1557 : Cond.methodLinkNest RX9 351 yX0_takeBack RX9 ∈ NW := NWm (tb7 (List.mem_of_getElem? (i := 117) (by decide +kernel))) rfl
theorem mw_1559 : Cond.instanceMethod yX0_takeBack ∈ LW := LWm (tb7 (List.mem_of_getElem? (i := 119) (by decide +kernel))) rfl
theorem mw_1560 : Cond.code yX0_takeBack cX0_takeBack 4 none ∈ LW := LWm (tb7 (List.mem_of_getElem? (i := 120) (by decide +kernel))) rfl
theorem mw_1571 : Cond.castable "java/lang/ArrayIndexOutOfBoundsException" "java/lang/IndexOutOfBoundsException" ∈ NW := NWm (tb7 (List.mem_of_getElem? (i := 131) (by decide +kernel))) rfl
theorem mw_1572 : Cond.castable "TinRoofScore" "java/lang/Object" ∈ NW := NWm (tb7 (List.mem_of_getElem? (i := 132) (by decide +kernel))) rfl
theorem mw_1573 : Cond.castable "TinRoofScore$Print" "java/lang/Object" ∈ NW := NWm (tb7 (List.mem_of_getElem? (i := 133) (by decide +kernel))) rfl
theorem mw_1574 : Cond.castable "TinRoofScore$Judge" "java/lang/Object" ∈ NW := NWm (tb7 (List.mem_of_getElem? (i := 134) (by decide +kernel))) rfl
theorem mw_1575 : Cond.castable "TinRoofScore$Proof" "java/lang/Object" ∈ NW := NWm (tb7 (List.mem_of_getElem? (i := 135) (by decide +kernel))) rfl
theorem mw_1576 : Cond.castable "TinRoofScore$Melody" "java/lang/Object" ∈ NW := NWm (tb7 (List.mem_of_getElem? (i := 136) (by decide +kernel))) rfl
theorem mw_1577 : Cond.castable "TinRoofScore$Ranking" "java/lang/Object" ∈ NW := NWm (tb7 (List.mem_of_getElem? (i := 137) (by decide +kernel))) rfl
theorem mw_1578 : Cond.castable "TinRoofScore$Line" "java/lang/Object" ∈ NW := NWm (tb7 (List.mem_of_getElem? (i := 138) (by decide +kernel))) rfl
theorem mw_1579 : Cond.castable "TinRoofScore$Text" "java/lang/Object" ∈ NW := NWm (tb7 (List.mem_of_getElem? (i := 139) (by decide +kernel))) rfl
theorem mw_1580 : Cond.castable "TinRoofScore$History" "java/lang/Object" ∈ NW := NWm (tb7 (List.mem_of_getElem? (i := 140) (by decide +kernel))) rfl
theorem mw_1581 : Cond.castable "TinRoofScore$Order" "java/lang/Object" ∈ NW := NWm (tb7 (List.mem_of_getElem? (i := 141) (by decide +kernel))) rfl
theorem mw_1582 : Cond.castable "java/lang/IndexOutOfBoundsException" "java/lang/Object" ∈ NW := NWm (tb7 (List.mem_of_getElem? (i := 142) (by decide +kernel))) rfl
theorem mw_1583 : Cond.castable "java/lang/IllegalArgumentException" "java/lang/Object" ∈ NW := NWm (tb7 (List.mem_of_getElem? (i := 143) (by decide +kernel))) rfl
theorem mw_1584 : Cond.castable "java/lang/UnsupportedOperationException" "java/lang/Object" ∈ NW := NWm (tb7 (List.mem_of_getElem? (i := 144) (by decide +kernel))) rfl
theorem mw_1585 : Cond.castable "java/lang/ArrayIndexOutOfBoundsException" "java/lang/Object" ∈ NW := NWm (tb7 (List.mem_of_getElem? (i := 145) (by decide +kernel))) rfl
theorem mw_1586 : Cond.castable "java/util/NoSuchElementException" "java/lang/Object" ∈ NW := NWm (tb7 (List.mem_of_getElem? (i := 146) (by decide +kernel))) rfl
theorem mw_1587 : Cond.castable "java/lang/ArithmeticException" "java/lang/Object" ∈ NW := NWm (tb7 (List.mem_of_getElem? (i := 147) (by decide +kernel))) rfl
theorem mw_1588 : Cond.castable "java/lang/StringBuilder" "java/lang/Object" ∈ NW := NWm (tb7 (List.mem_of_getElem? (i := 148) (by decide +kernel))) rfl
theorem mw_1589 : Cond.castable "java/lang/String" "java/lang/Object" ∈ NW := NWm (tb7 (List.mem_of_getElem? (i := 149) (by decide +kernel))) rfl
theorem mw_1590 : Cond.castable "java/lang/IllegalStateException" "java/lang/Object" ∈ NW := NWm (tb7 (List.mem_of_getElem? (i := 150) (by decide +kernel))) rfl
theorem mw_1591 : Cond.castable "java/lang/Throwable" "java/lang/Object" ∈ NW := NWm (tb7 (List.mem_of_getElem? (i := 151) (by decide +kernel))) rfl
theorem mw_1592 : Cond.fieldLinkNest RX8 81 "TinRoofScore$Order" "word" "Ljava/lang/String;" RX9 ∈ NW := NWm (tb7 (List.mem_of_getElem? (i := 152) (by decide +kernel))) rfl
theorem mw_1593 : Cond.fieldLinkNest RX8 57 "TinRoofScore$Order" "digits" "Ljava/lang/String;" RX9 ∈ NW := NWm (tb7 (List.mem_of_getElem? (i := 153) (by decide +kernel))) rfl
theorem k_X0_countOfChanges : CKV yX0_countOfChanges cX0_countOfChanges 1 (some .int) 0 := ⟨mw_671, LWs (q := (yX0_countOfChanges, 3)) (List.mem_append_right _ (List.mem_append_right _ (List.mem_append_left _ (List.mem_of_getElem? (i := 14) rfl)))) rfl, mw_9, mw_672, by decide +kernel⟩
theorem k_X0_keep : CKV yX0_keep cX0_keep 3 none 1 := ⟨mw_476, LWs (q := (yX0_keep, 3)) (List.mem_append_right _ (List.mem_append_left _ (List.mem_of_getElem? (i := 7) rfl))) rfl, mw_9, mw_477, by decide +kernel⟩
theorem k_X0_takeBack : CKV yX0_takeBack cX0_takeBack 4 none 1 := ⟨mw_1559, LWs (q := (yX0_takeBack, 3)) (List.mem_append_right _ (List.mem_append_right _ (List.mem_append_right _ (List.mem_append_right _ (List.mem_append_right _ (List.mem_append_right _ (List.mem_append_right _ (List.mem_of_getElem? (i := 1) rfl)))))))) rfl, mw_9, mw_1560, by decide +kernel⟩
theorem k_X0_pageAt : CKV yX0_pageAt cX0_pageAt 2 (some (.object "TinRoofScore$Print")) 1 := ⟨mw_480, LWs (q := (yX0_pageAt, 3)) (List.mem_append_right _ (List.mem_append_left _ (List.mem_of_getElem? (i := 8) rfl))) rfl, mw_9, mw_481, by decide +kernel⟩
theorem k_X1_hasRefused : CKV yX1_hasRefused cX1_hasRefused 1 (some .boolean) 0 := ⟨mw_592, LWs (q := (yX1_hasRefused, 3)) (List.mem_append_right _ (List.mem_append_right _ (List.mem_append_left _ (List.mem_of_getElem? (i := 2) rfl)))) rfl, mw_3, mw_593, by decide +kernel⟩
theorem k_X1_latestReason : CKV yX1_latestReason cX1_latestReason 1 (some .int) 0 := ⟨mw_619, LWs (q := (yX1_latestReason, 3)) (List.mem_append_right _ (List.mem_append_right _ (List.mem_append_left _ (List.mem_of_getElem? (i := 4) rfl)))) rfl, mw_3, mw_620, by decide +kernel⟩
theorem k_X1_latestDetail : CKV yX1_latestDetail cX1_latestDetail 1 (some .int) 0 := ⟨mw_615, LWs (q := (yX1_latestDetail, 3)) (List.mem_append_right _ (List.mem_append_right _ (List.mem_append_left _ (List.mem_of_getElem? (i := 3) rfl)))) rfl, mw_3, mw_616, by decide +kernel⟩
theorem k_X1_refuse : CKV yX1_refuse cX1_refuse 3 (some .int) 2 := ⟨mw_269, LWs (q := (yX1_refuse, 3)) (List.mem_append_left _ (List.mem_of_getElem? (i := 4) rfl)) rfl, mw_3, mw_270, by decide +kernel⟩
theorem k_X1_verdict : CKV yX1_verdict cX1_verdict 5 (some .int) 4 := ⟨mw_253, LWs (q := (yX1_verdict, 3)) (List.mem_append_left _ (List.mem_of_getElem? (i := 1) rfl)) rfl, mw_3, mw_254, by decide +kernel⟩
theorem k_X1_verdictOnBar : CKV yX1_verdictOnBar cX1_verdictOnBar 2 (some .int) 1 := ⟨mw_258, LWs (q := (yX1_verdictOnBar, 3)) (List.mem_append_left _ (List.mem_of_getElem? (i := 2) rfl)) rfl, mw_3, mw_259, by decide +kernel⟩
theorem k_X1_verdictOnTin : CKV yX1_verdictOnTin cX1_verdictOnTin 5 (some .int) 4 := ⟨mw_282, LWs (q := (yX1_verdictOnTin, 3)) (List.mem_append_left _ (List.mem_of_getElem? (i := 6) rfl)) rfl, mw_3, mw_283, by decide +kernel⟩
theorem k_X1_verdictOnDrop : CKV yX1_verdictOnDrop cX1_verdictOnDrop 4 (some .int) 3 := ⟨mw_298, LWs (q := (yX1_verdictOnDrop, 3)) (List.mem_append_left _ (List.mem_of_getElem? (i := 8) rfl)) rfl, mw_3, mw_299, by decide +kernel⟩
theorem k_X1_verdictOnRest : CKV yX1_verdictOnRest cX1_verdictOnRest 2 (some .int) 1 := ⟨mw_324, LWs (q := (yX1_verdictOnRest, 3)) (List.mem_append_left _ (List.mem_of_getElem? (i := 14) rfl)) rfl, mw_3, mw_325, by decide +kernel⟩
theorem k_X1_verdictOnRoom : CKV yX1_verdictOnRoom cX1_verdictOnRoom 3 (some .int) 1 := ⟨mw_302, LWs (q := (yX1_verdictOnRoom, 3)) (List.mem_append_left _ (List.mem_of_getElem? (i := 9) rfl)) rfl, mw_3, mw_303, by decide +kernel⟩
theorem k_X1_verdictOnLimit : CKV yX1_verdictOnLimit cX1_verdictOnLimit 2 (some .int) 1 := ⟨mw_332, LWs (q := (yX1_verdictOnLimit, 3)) (List.mem_append_left _ (List.mem_of_getElem? (i := 15) rfl)) rfl, mw_3, mw_333, by decide +kernel⟩
theorem k_X1_verdictOnTune : CKV yX1_verdictOnTune cX1_verdictOnTune 3 (some .int) 2 := ⟨mw_342, LWs (q := (yX1_verdictOnTune, 3)) (List.mem_append_right _ (List.mem_append_left _ (List.mem_of_getElem? (i := 1) rfl))) rfl, mw_3, mw_343, by decide +kernel⟩
theorem k_X1_carryOut : CKV yX1_carryOut cX1_carryOut 5 (some .int) 4 := ⟨mw_498, LWs (q := (yX1_carryOut, 3)) (List.mem_append_right _ (List.mem_append_left _ (List.mem_of_getElem? (i := 10) rfl))) rfl, mw_3, mw_499, by decide +kernel⟩
theorem k_X2_hasSign : CKV yX2_hasSign cX2_hasSign 2 (some .boolean) 1 := ⟨mw_1375, LWs (q := (yX2_hasSign, 3)) (List.mem_append_right _ (List.mem_append_right _ (List.mem_append_right _ (List.mem_append_right _ (List.mem_append_right _ (List.mem_append_left _ (List.mem_of_getElem? (i := 15) rfl))))))) rfl, mw_7, mw_1376, by decide +kernel⟩
theorem k_X2_signAt : CKV yX2_signAt cX2_signAt 2 (some .char) 1 := ⟨mw_1380, LWs (q := (yX2_signAt, 3)) (List.mem_append_right _ (List.mem_append_right _ (List.mem_append_right _ (List.mem_append_right _ (List.mem_append_right _ (List.mem_append_right _ (List.mem_append_left _ (List.mem_of_getElem? (i := 0) rfl)))))))) rfl, mw_7, mw_1381, by decide +kernel⟩
theorem k_X2_writeBar : CKV yX2_writeBar cX2_writeBar 3 (some .int) 1 := ⟨mw_1340, LWs (q := (yX2_writeBar, 3)) (List.mem_append_right _ (List.mem_append_right _ (List.mem_append_right _ (List.mem_append_right _ (List.mem_append_right _ (List.mem_append_left _ (List.mem_of_getElem? (i := 11) rfl))))))) rfl, mw_7, mw_1341, by decide +kernel⟩
theorem k_X2_addPart : CKV yX2_addPart cX2_addPart 3 none 2 := ⟨mw_1346, LWs (q := (yX2_addPart, 3)) (List.mem_append_right _ (List.mem_append_right _ (List.mem_append_right _ (List.mem_append_right _ (List.mem_append_right _ (List.mem_append_left _ (List.mem_of_getElem? (i := 12) rfl))))))) rfl, mw_7, mw_1347, by decide +kernel⟩
theorem k_X2_writeTin : CKV yX2_writeTin cX2_writeTin 2 (some .int) 1 := ⟨mw_1406, LWs (q := (yX2_writeTin, 3)) (List.mem_append_right _ (List.mem_append_right _ (List.mem_append_right _ (List.mem_append_right _ (List.mem_append_right _ (List.mem_append_right _ (List.mem_append_left _ (List.mem_of_getElem? (i := 1) rfl)))))))) rfl, mw_7, mw_1407, by decide +kernel⟩
theorem k_X2_addNumber : CKV yX2_addNumber cX2_addNumber 2 none 1 := ⟨mw_1357, LWs (q := (yX2_addNumber, 3)) (List.mem_append_right _ (List.mem_append_right _ (List.mem_append_right _ (List.mem_append_right _ (List.mem_append_right _ (List.mem_append_left _ (List.mem_of_getElem? (i := 14) rfl))))))) rfl, mw_7, mw_1358, by decide +kernel⟩
theorem k_X2_addSign : CKV yX2_addSign cX2_addSign 2 none 1 := ⟨mw_1351, LWs (q := (yX2_addSign, 3)) (List.mem_append_right _ (List.mem_append_right _ (List.mem_append_right _ (List.mem_append_right _ (List.mem_append_right _ (List.mem_append_left _ (List.mem_of_getElem? (i := 13) rfl))))))) rfl, mw_7, mw_1352, by decide +kernel⟩
theorem k_X3_way : CKV yX3_way cX3_way 3 (some .int) 0 := ⟨mw_924, LWs (q := (yX3_way, 1)) (List.mem_append_right _ (List.mem_append_right _ (List.mem_append_right _ (List.mem_append_right _ (List.mem_append_left _ (List.mem_of_getElem? (i := 10) rfl)))))) rfl, mw_5, mw_925, by decide +kernel⟩
theorem k_X3_wayBySteps : CKV yX3_wayBySteps cX3_wayBySteps 3 (some .int) 0 := ⟨mw_937, LWs (q := (yX3_wayBySteps, 1)) (List.mem_append_right _ (List.mem_append_right _ (List.mem_append_right _ (List.mem_append_right _ (List.mem_append_left _ (List.mem_of_getElem? (i := 12) rfl)))))) rfl, mw_5, mw_938, by decide +kernel⟩
theorem k_X3_timesOver : CKV yX3_timesOver cX3_timesOver 6 (some .int) 1 := ⟨mw_941, LWs (q := (yX3_timesOver, 1)) (List.mem_append_right _ (List.mem_append_right _ (List.mem_append_right _ (List.mem_append_right _ (List.mem_append_left _ (List.mem_of_getElem? (i := 13) rfl)))))) rfl, mw_5, mw_942, by decide +kernel⟩
theorem k_X3_riseTo : CKV yX3_riseTo cX3_riseTo 3 (some .int) 1 := ⟨mw_929, LWs (q := (yX3_riseTo, 1)) (List.mem_append_right _ (List.mem_append_right _ (List.mem_append_right _ (List.mem_append_right _ (List.mem_append_left _ (List.mem_of_getElem? (i := 11) rfl)))))) rfl, mw_5, mw_930, by decide +kernel⟩
theorem k_X3_moves : CKV yX3_moves cX3_moves 5 (some .int) 1 := ⟨mw_964, LWs (q := (yX3_moves, 1)) (List.mem_append_right _ (List.mem_append_right _ (List.mem_append_right _ (List.mem_append_right _ (List.mem_append_right _ (List.mem_append_left _ (List.mem_of_getElem? (i := 0) rfl))))))) rfl, mw_5, mw_965, by decide +kernel⟩
theorem k_X3_width : CKV yX3_width cX3_width 5 (some .int) 0 := ⟨mw_972, LWs (q := (yX3_width, 1)) (List.mem_append_right _ (List.mem_append_right _ (List.mem_append_right _ (List.mem_append_right _ (List.mem_append_right _ (List.mem_append_left _ (List.mem_of_getElem? (i := 1) rfl))))))) rfl, mw_5, mw_973, by decide +kernel⟩
theorem k_X3_dropsAt : CKV yX3_dropsAt cX3_dropsAt 4 (some .int) 1 := ⟨mw_1014, LWs (q := (yX3_dropsAt, 1)) (List.mem_append_right _ (List.mem_append_right _ (List.mem_append_right _ (List.mem_append_right _ (List.mem_append_right _ (List.mem_append_left _ (List.mem_of_getElem? (i := 4) rfl))))))) rfl, mw_5, mw_1015, by decide +kernel⟩
theorem k_X3_countOfDrops : CKV yX3_countOfDrops cX3_countOfDrops 1 (some .int) 0 := ⟨mw_982, LWs (q := (yX3_countOfDrops, 1)) (List.mem_append_right _ (List.mem_append_right _ (List.mem_append_right _ (List.mem_append_right _ (List.mem_append_right _ (List.mem_append_left _ (List.mem_of_getElem? (i := 2) rfl))))))) rfl, mw_5, mw_983, by decide +kernel⟩
theorem k_X3_sumOfPitches : CKV yX3_sumOfPitches cX3_sumOfPitches 3 (some .int) 0 := ⟨mw_1003, LWs (q := (yX3_sumOfPitches, 1)) (List.mem_append_right _ (List.mem_append_right _ (List.mem_append_right _ (List.mem_append_right _ (List.mem_append_right _ (List.mem_append_left _ (List.mem_of_getElem? (i := 3) rfl))))))) rfl, mw_5, mw_1004, by decide +kernel⟩
theorem k_X5_become : CKV yX5_become cX5_become 2 none 1 := ⟨mw_484, LWs (q := (yX5_become, 11)) (List.mem_append_right _ (List.mem_append_left _ (List.mem_of_getElem? (i := 9) rfl))) rfl, mw_2, mw_485, by decide +kernel⟩
theorem k_X5_addBar : CKV yX5_addBar cX5_addBar 2 (some .int) 1 := ⟨mw_502, LWs (q := (yX5_addBar, 11)) (List.mem_append_right _ (List.mem_append_left _ (List.mem_of_getElem? (i := 11) rfl))) rfl, mw_2, mw_503, by decide +kernel⟩
theorem k_X5_addSound : CKV yX5_addSound cX5_addSound 4 (some .int) 3 := ⟨mw_515, LWs (q := (yX5_addSound, 11)) (List.mem_append_right _ (List.mem_append_left _ (List.mem_of_getElem? (i := 14) rfl))) rfl, mw_2, mw_516, by decide +kernel⟩
theorem k_X5_takeLast : CKV yX5_takeLast cX5_takeLast 1 (some .int) 0 := ⟨mw_519, LWs (q := (yX5_takeLast, 11)) (List.mem_append_right _ (List.mem_append_left _ (List.mem_of_getElem? (i := 15) rfl))) rfl, mw_2, mw_520, by decide +kernel⟩
theorem k_X5_setKey : CKV yX5_setKey cX5_setKey 4 (some .int) 2 := ⟨mw_507, LWs (q := (yX5_setKey, 11)) (List.mem_append_right _ (List.mem_append_left _ (List.mem_of_getElem? (i := 12) rfl))) rfl, mw_2, mw_508, by decide +kernel⟩
theorem k_X5_setLeak : CKV yX5_setLeak cX5_setLeak 4 (some .int) 2 := ⟨mw_511, LWs (q := (yX5_setLeak, 11)) (List.mem_append_right _ (List.mem_append_left _ (List.mem_of_getElem? (i := 13) rfl))) rfl, mw_2, mw_512, by decide +kernel⟩
theorem k_X5_setHeight : CKV yX5_setHeight cX5_setHeight 4 (some .int) 2 := ⟨mw_527, LWs (q := (yX5_setHeight, 11)) (List.mem_append_right _ (List.mem_append_right _ (List.mem_append_left _ (List.mem_of_getElem? (i := 1) rfl)))) rfl, mw_2, mw_528, by decide +kernel⟩
theorem k_X5_setFarthest : CKV yX5_setFarthest cX5_setFarthest 3 (some .int) 1 := ⟨mw_523, LWs (q := (yX5_setFarthest, 11)) (List.mem_append_right _ (List.mem_append_right _ (List.mem_append_left _ (List.mem_of_getElem? (i := 0) rfl)))) rfl, mw_2, mw_524, by decide +kernel⟩
theorem k_X5_countOfBars : CKV yX5_countOfBars cX5_countOfBars 1 (some .int) 0 := ⟨mw_265, LWs (q := (yX5_countOfBars, 11)) (List.mem_append_left _ (List.mem_of_getElem? (i := 3) rfl)) rfl, mw_2, mw_266, by decide +kernel⟩
theorem k_X5_countOfSounds : CKV yX5_countOfSounds cX5_countOfSounds 1 (some .int) 0 := ⟨mw_306, LWs (q := (yX5_countOfSounds, 11)) (List.mem_append_left _ (List.mem_of_getElem? (i := 10) rfl)) rfl, mw_2, mw_307, by decide +kernel⟩
theorem k_X5_limitNow : CKV yX5_limitNow cX5_limitNow 1 (some .int) 0 := ⟨mw_336, LWs (q := (yX5_limitNow, 11)) (List.mem_append_right _ (List.mem_append_left _ (List.mem_of_getElem? (i := 0) rfl))) rfl, mw_2, mw_337, by decide +kernel⟩
theorem k_X5_setSoFar : CKV yX5_setSoFar cX5_setSoFar 1 (some .int) 0 := ⟨mw_659, LWs (q := (yX5_setSoFar, 11)) (List.mem_append_right _ (List.mem_append_right _ (List.mem_append_left _ (List.mem_of_getElem? (i := 11) rfl)))) rfl, mw_2, mw_660, by decide +kernel⟩
theorem k_X5_takenSoFar : CKV yX5_takenSoFar cX5_takenSoFar 1 (some .int) 0 := ⟨mw_663, LWs (q := (yX5_takenSoFar, 11)) (List.mem_append_right _ (List.mem_append_right _ (List.mem_append_left _ (List.mem_of_getElem? (i := 12) rfl)))) rfl, mw_2, mw_664, by decide +kernel⟩
theorem k_X5_hasBar : CKV yX5_hasBar cX5_hasBar 2 (some .boolean) 1 := ⟨mw_744, LWs (q := (yX5_hasBar, 11)) (List.mem_append_right _ (List.mem_append_right _ (List.mem_append_right _ (List.mem_append_left _ (List.mem_of_getElem? (i := 5) rfl))))) rfl, mw_2, mw_745, by decide +kernel⟩
theorem k_X5_hasSound : CKV yX5_hasSound cX5_hasSound 2 (some .boolean) 1 := ⟨mw_346, LWs (q := (yX5_hasSound, 11)) (List.mem_append_right _ (List.mem_append_left _ (List.mem_of_getElem? (i := 2) rfl))) rfl, mw_2, mw_347, by decide +kernel⟩
theorem k_X5_keyOf : CKV yX5_keyOf cX5_keyOf 2 (some .int) 1 := ⟨mw_275, LWs (q := (yX5_keyOf, 11)) (List.mem_append_left _ (List.mem_of_getElem? (i := 5) rfl)) rfl, mw_2, mw_276, by decide +kernel⟩
theorem k_X5_leakOf : CKV yX5_leakOf cX5_leakOf 2 (some .int) 1 := ⟨mw_292, LWs (q := (yX5_leakOf, 11)) (List.mem_append_left _ (List.mem_of_getElem? (i := 7) rfl)) rfl, mw_2, mw_293, by decide +kernel⟩
theorem k_X5_sizeOf : CKV yX5_sizeOf cX5_sizeOf 2 (some .int) 1 := ⟨mw_748, LWs (q := (yX5_sizeOf, 11)) (List.mem_append_right _ (List.mem_append_right _ (List.mem_append_right _ (List.mem_append_left _ (List.mem_of_getElem? (i := 6) rfl))))) rfl, mw_2, mw_749, by decide +kernel⟩
theorem k_X5_tinOfSound : CKV yX5_tinOfSound cX5_tinOfSound 2 (some .int) 1 := ⟨mw_699, LWs (q := (yX5_tinOfSound, 11)) (List.mem_append_right _ (List.mem_append_right _ (List.mem_append_left _ (List.mem_of_getElem? (i := 15) rfl)))) rfl, mw_2, mw_700, by decide +kernel⟩
theorem k_X5_heightOf : CKV yX5_heightOf cX5_heightOf 2 (some .int) 1 := ⟨mw_359, LWs (q := (yX5_heightOf, 11)) (List.mem_append_right _ (List.mem_append_left _ (List.mem_of_getElem? (i := 5) rfl))) rfl, mw_2, mw_360, by decide +kernel⟩
theorem k_X5_beatsOf : CKV yX5_beatsOf cX5_beatsOf 2 (some .int) 1 := ⟨mw_355, LWs (q := (yX5_beatsOf, 11)) (List.mem_append_right _ (List.mem_append_left _ (List.mem_of_getElem? (i := 4) rfl))) rfl, mw_2, mw_356, by decide +kernel⟩
theorem k_X5_isRest : CKV yX5_isRest cX5_isRest 2 (some .boolean) 1 := ⟨mw_351, LWs (q := (yX5_isRest, 11)) (List.mem_append_right _ (List.mem_append_left _ (List.mem_of_getElem? (i := 3) rfl))) rfl, mw_2, mw_352, by decide +kernel⟩
theorem k_X5_pitchOf : CKV yX5_pitchOf cX5_pitchOf 4 (some .int) 1 := ⟨mw_705, LWs (q := (yX5_pitchOf, 11)) (List.mem_append_right _ (List.mem_append_right _ (List.mem_append_right _ (List.mem_append_left _ (List.mem_of_getElem? (i := 0) rfl))))) rfl, mw_2, mw_706, by decide +kernel⟩
theorem k_X5_dropAhead : CKV yX5_dropAhead cX5_dropAhead 3 (some .int) 1 := ⟨mw_862, LWs (q := (yX5_dropAhead, 11)) (List.mem_append_right _ (List.mem_append_right _ (List.mem_append_right _ (List.mem_append_right _ (List.mem_append_left _ (List.mem_of_getElem? (i := 4) rfl)))))) rfl, mw_2, mw_863, by decide +kernel⟩
theorem k_X5_countOfRests : CKV yX5_countOfRests cX5_countOfRests 3 (some .int) 0 := ⟨mw_637, LWs (q := (yX5_countOfRests, 11)) (List.mem_append_right _ (List.mem_append_right _ (List.mem_append_left _ (List.mem_of_getElem? (i := 7) rfl)))) rfl, mw_2, mw_638, by decide +kernel⟩
theorem k_X5_countOfTin : CKV yX5_countOfTin cX5_countOfTin 5 (some .int) 2 := ⟨mw_729, LWs (q := (yX5_countOfTin, 11)) (List.mem_append_right _ (List.mem_append_right _ (List.mem_append_right _ (List.mem_append_left _ (List.mem_of_getElem? (i := 3) rfl))))) rfl, mw_2, mw_730, by decide +kernel⟩
theorem k_X5_beatsOfTin : CKV yX5_beatsOfTin cX5_beatsOfTin 4 (some .int) 1 := ⟨mw_733, LWs (q := (yX5_beatsOfTin, 11)) (List.mem_append_right _ (List.mem_append_right _ (List.mem_append_right _ (List.mem_append_left _ (List.mem_of_getElem? (i := 4) rfl))))) rfl, mw_2, mw_734, by decide +kernel⟩
theorem k_X5_startOfBar : CKV yX5_startOfBar cX5_startOfBar 4 (some .int) 1 := ⟨mw_314, LWs (q := (yX5_startOfBar, 11)) (List.mem_append_left _ (List.mem_of_getElem? (i := 12) rfl)) rfl, mw_2, mw_315, by decide +kernel⟩
theorem k_X5_startOfSound : CKV yX5_startOfSound cX5_startOfSound 4 (some .int) 1 := ⟨mw_318, LWs (q := (yX5_startOfSound, 11)) (List.mem_append_left _ (List.mem_of_getElem? (i := 13) rfl)) rfl, mw_2, mw_319, by decide +kernel⟩
theorem k_X5_allBeats : CKV yX5_allBeats cX5_allBeats 1 (some .int) 0 := ⟨mw_628, LWs (q := (yX5_allBeats, 11)) (List.mem_append_right _ (List.mem_append_right _ (List.mem_append_left _ (List.mem_of_getElem? (i := 5) rfl)))) rfl, mw_2, mw_629, by decide +kernel⟩
theorem k_X5_filledBeats : CKV yX5_filledBeats cX5_filledBeats 1 (some .int) 0 := ⟨mw_632, LWs (q := (yX5_filledBeats, 11)) (List.mem_append_right _ (List.mem_append_right _ (List.mem_append_left _ (List.mem_of_getElem? (i := 6) rfl)))) rfl, mw_2, mw_633, by decide +kernel⟩
theorem k_X5_freeBeats : CKV yX5_freeBeats cX5_freeBeats 1 (some .int) 0 := ⟨mw_310, LWs (q := (yX5_freeBeats, 11)) (List.mem_append_left _ (List.mem_of_getElem? (i := 11) rfl)) rfl, mw_2, mw_311, by decide +kernel⟩
theorem k_X5_barAt : CKV yX5_barAt cX5_barAt 4 (some .int) 1 := ⟨mw_713, LWs (q := (yX5_barAt, 11)) (List.mem_append_right _ (List.mem_append_right _ (List.mem_append_right _ (List.mem_append_left _ (List.mem_of_getElem? (i := 2) rfl))))) rfl, mw_2, mw_714, by decide +kernel⟩
theorem k_X5_soundAt : CKV yX5_soundAt cX5_soundAt 4 (some .int) 1 := ⟨mw_788, LWs (q := (yX5_soundAt, 11)) (List.mem_append_right _ (List.mem_append_right _ (List.mem_append_right _ (List.mem_append_left _ (List.mem_of_getElem? (i := 11) rfl))))) rfl, mw_2, mw_789, by decide +kernel⟩
theorem k_X5_overlap : CKV yX5_overlap cX5_overlap 7 (some .int) 2 := ⟨mw_650, LWs (q := (yX5_overlap, 11)) (List.mem_append_right _ (List.mem_append_right _ (List.mem_append_left _ (List.mem_of_getElem? (i := 10) rfl)))) rfl, mw_2, mw_651, by decide +kernel⟩
theorem k_X5_isTied : CKV yX5_isTied cX5_isTied 3 (some .boolean) 2 := ⟨mw_777, LWs (q := (yX5_isTied, 11)) (List.mem_append_right _ (List.mem_append_right _ (List.mem_append_right _ (List.mem_append_left _ (List.mem_of_getElem? (i := 10) rfl))))) rfl, mw_2, mw_778, by decide +kernel⟩
theorem k_X5_partsOfSound : CKV yX5_partsOfSound cX5_partsOfSound 3 (some .int) 1 := ⟨mw_709, LWs (q := (yX5_partsOfSound, 11)) (List.mem_append_right _ (List.mem_append_right _ (List.mem_append_right _ (List.mem_append_left _ (List.mem_of_getElem? (i := 1) rfl))))) rfl, mw_2, mw_710, by decide +kernel⟩
theorem k_X5_partsOfBar : CKV yX5_partsOfBar cX5_partsOfBar 4 (some .int) 1 := ⟨mw_646, LWs (q := (yX5_partsOfBar, 11)) (List.mem_append_right _ (List.mem_append_right _ (List.mem_append_left _ (List.mem_of_getElem? (i := 9) rfl)))) rfl, mw_2, mw_647, by decide +kernel⟩
theorem k_X5_allParts : CKV yX5_allParts cX5_allParts 3 (some .int) 0 := ⟨mw_642, LWs (q := (yX5_allParts, 11)) (List.mem_append_right _ (List.mem_append_right _ (List.mem_append_left _ (List.mem_of_getElem? (i := 8) rfl)))) rfl, mw_2, mw_643, by decide +kernel⟩
theorem k_X5_beginningsIn : CKV yX5_beginningsIn cX5_beginningsIn 4 (some .int) 1 := ⟨mw_758, LWs (q := (yX5_beginningsIn, 11)) (List.mem_append_right _ (List.mem_append_right _ (List.mem_append_right _ (List.mem_append_left _ (List.mem_of_getElem? (i := 8) rfl))))) rfl, mw_2, mw_759, by decide +kernel⟩
theorem k_X5_filledOfBar : CKV yX5_filledOfBar cX5_filledOfBar 3 (some .int) 1 := ⟨mw_752, LWs (q := (yX5_filledOfBar, 11)) (List.mem_append_right _ (List.mem_append_right _ (List.mem_append_right _ (List.mem_append_left _ (List.mem_of_getElem? (i := 7) rfl))))) rfl, mw_2, mw_753, by decide +kernel⟩
theorem k_X5_soundOfPart : CKV yX5_soundOfPart cX5_soundOfPart 5 (some .int) 2 := ⟨mw_772, LWs (q := (yX5_soundOfPart, 11)) (List.mem_append_right _ (List.mem_append_right _ (List.mem_append_right _ (List.mem_append_left _ (List.mem_of_getElem? (i := 9) rfl))))) rfl, mw_2, mw_773, by decide +kernel⟩
theorem k_X5_arePartsWhole : CKV yX5_arePartsWhole cX5_arePartsWhole 4 (some .boolean) 0 := ⟨mw_945, LWs (q := (yX5_arePartsWhole, 11)) (List.mem_append_right _ (List.mem_append_right _ (List.mem_append_right _ (List.mem_append_right _ (List.mem_append_left _ (List.mem_of_getElem? (i := 14) rfl)))))) rfl, mw_2, mw_946, by decide +kernel⟩
theorem k_X5_areBarsInBounds : CKV yX5_areBarsInBounds cX5_areBarsInBounds 4 (some .boolean) 0 := ⟨mw_949, LWs (q := (yX5_areBarsInBounds, 11)) (List.mem_append_right _ (List.mem_append_right _ (List.mem_append_right _ (List.mem_append_right _ (List.mem_append_left _ (List.mem_of_getElem? (i := 15) rfl)))))) rfl, mw_2, mw_950, by decide +kernel⟩
theorem k_X6_isFault : CKV yX6_isFault cX6_isFault 4 (some .boolean) 2 := ⟨mw_853, LWs (q := (yX6_isFault, 1)) (List.mem_append_right _ (List.mem_append_right _ (List.mem_append_right _ (List.mem_append_right _ (List.mem_append_left _ (List.mem_of_getElem? (i := 2) rfl)))))) rfl, mw_4, mw_854, by decide +kernel⟩
theorem k_X6_isFar : CKV yX6_isFar cX6_isFar 3 (some .boolean) 1 := ⟨mw_858, LWs (q := (yX6_isFar, 1)) (List.mem_append_right _ (List.mem_append_right _ (List.mem_append_right _ (List.mem_append_right _ (List.mem_append_left _ (List.mem_of_getElem? (i := 3) rfl)))))) rfl, mw_4, mw_859, by decide +kernel⟩
theorem k_X6_isSame : CKV yX6_isSame cX6_isSame 3 (some .boolean) 1 := ⟨mw_866, LWs (q := (yX6_isSame, 1)) (List.mem_append_right _ (List.mem_append_right _ (List.mem_append_right _ (List.mem_append_right _ (List.mem_append_left _ (List.mem_of_getElem? (i := 5) rfl)))))) rfl, mw_4, mw_867, by decide +kernel⟩
theorem k_X6_mostParts : CKS yX6_mostParts cX6_mostParts 1 (some .int) 1 := ⟨mw_839, mw_4, mw_840, by decide +kernel⟩
theorem k_X6_places : CKV yX6_places cX6_places 2 (some .int) 1 := ⟨mw_847, LWs (q := (yX6_places, 1)) (List.mem_append_right _ (List.mem_append_right _ (List.mem_append_right _ (List.mem_append_right _ (List.mem_append_left _ (List.mem_of_getElem? (i := 1) rfl)))))) rfl, mw_4, mw_848, by decide +kernel⟩
theorem k_X6_count : CKV yX6_count cX6_count 5 (some .int) 1 := ⟨mw_843, LWs (q := (yX6_count, 1)) (List.mem_append_right _ (List.mem_append_right _ (List.mem_append_right _ (List.mem_append_right _ (List.mem_append_left _ (List.mem_of_getElem? (i := 0) rfl)))))) rfl, mw_4, mw_844, by decide +kernel⟩
theorem k_X6_first : CKV yX6_first cX6_first 4 (some .int) 1 := ⟨mw_878, LWs (q := (yX6_first, 1)) (List.mem_append_right _ (List.mem_append_right _ (List.mem_append_right _ (List.mem_append_right _ (List.mem_append_left _ (List.mem_of_getElem? (i := 6) rfl)))))) rfl, mw_4, mw_879, by decide +kernel⟩
theorem k_X6_countAll : CKV yX6_countAll cX6_countAll 3 (some .int) 0 := ⟨mw_898, LWs (q := (yX6_countAll, 1)) (List.mem_append_right _ (List.mem_append_right _ (List.mem_append_right _ (List.mem_append_right _ (List.mem_append_left _ (List.mem_of_getElem? (i := 8) rfl)))))) rfl, mw_4, mw_899, by decide +kernel⟩
theorem k_X6_countByBeats : CKV yX6_countByBeats cX6_countByBeats 2 (some .int) 1 := ⟨mw_817, LWs (q := (yX6_countByBeats, 1)) (List.mem_append_right _ (List.mem_append_right _ (List.mem_append_right _ (List.mem_append_left _ (List.mem_of_getElem? (i := 12) rfl))))) rfl, mw_4, mw_818, by decide +kernel⟩
theorem k_X6_pitchesByBeats : CKV yX6_pitchesByBeats cX6_pitchesByBeats 11 (some .int) 1 := ⟨mw_829, LWs (q := (yX6_pitchesByBeats, 1)) (List.mem_append_right _ (List.mem_append_right _ (List.mem_append_right _ (List.mem_append_left _ (List.mem_of_getElem? (i := 14) rfl))))) rfl, mw_4, mw_830, by decide +kernel⟩
theorem k_X6_restsAtBars : CKV yX6_restsAtBars cX6_restsAtBars 5 (some .int) 0 := ⟨mw_821, LWs (q := (yX6_restsAtBars, 1)) (List.mem_append_right _ (List.mem_append_right _ (List.mem_append_right _ (List.mem_append_left _ (List.mem_of_getElem? (i := 13) rfl))))) rfl, mw_4, mw_822, by decide +kernel⟩
theorem k_X6_tiesByBeats : CKV yX6_tiesByBeats cX6_tiesByBeats 7 (some .int) 0 := ⟨mw_836, LWs (q := (yX6_tiesByBeats, 1)) (List.mem_append_right _ (List.mem_append_right _ (List.mem_append_right _ (List.mem_append_left _ (List.mem_of_getElem? (i := 15) rfl))))) rfl, mw_4, mw_837, by decide +kernel⟩
theorem k_X6_countWith : CKV yX6_countWith cX6_countWith 5 (some .int) 2 := ⟨mw_893, LWs (q := (yX6_countWith, 1)) (List.mem_append_right _ (List.mem_append_right _ (List.mem_append_right _ (List.mem_append_right _ (List.mem_append_left _ (List.mem_of_getElem? (i := 7) rfl)))))) rfl, mw_4, mw_894, by decide +kernel⟩
theorem k_X6_isToldAlike : CKV yX6_isToldAlike cX6_isToldAlike 2 (some .boolean) 0 := ⟨mw_919, LWs (q := (yX6_isToldAlike, 1)) (List.mem_append_right _ (List.mem_append_right _ (List.mem_append_right _ (List.mem_append_right _ (List.mem_append_left _ (List.mem_of_getElem? (i := 9) rfl)))))) rfl, mw_4, mw_920, by decide +kernel⟩
theorem k_X7_tinAt : CKV yX7_tinAt cX7_tinAt 3 (some .int) 1 := ⟨mw_1033, LWs (q := (yX7_tinAt, 1)) (List.mem_append_right _ (List.mem_append_right _ (List.mem_append_right _ (List.mem_append_right _ (List.mem_append_right _ (List.mem_append_left _ (List.mem_of_getElem? (i := 5) rfl))))))) rfl, mw_6, mw_1034, by decide +kernel⟩
theorem k_X7_placeOfTin : CKV yX7_placeOfTin cX7_placeOfTin 4 (some .int) 1 := ⟨mw_1037, LWs (q := (yX7_placeOfTin, 1)) (List.mem_append_right _ (List.mem_append_right _ (List.mem_append_right _ (List.mem_append_right _ (List.mem_append_right _ (List.mem_append_left _ (List.mem_of_getElem? (i := 6) rfl))))))) rfl, mw_6, mw_1038, by decide +kernel⟩
theorem k_X7_isTinAhead : CKV yX7_isTinAhead cX7_isTinAhead 5 (some .boolean) 2 := ⟨mw_1041, LWs (q := (yX7_isTinAhead, 1)) (List.mem_append_right _ (List.mem_append_right _ (List.mem_append_right _ (List.mem_append_right _ (List.mem_append_right _ (List.mem_append_left _ (List.mem_of_getElem? (i := 7) rfl))))))) rfl, mw_6, mw_1042, by decide +kernel⟩
theorem k_X7_dropAt : CKV yX7_dropAt cX7_dropAt 3 (some .int) 1 := ⟨mw_1054, LWs (q := (yX7_dropAt, 1)) (List.mem_append_right _ (List.mem_append_right _ (List.mem_append_right _ (List.mem_append_right _ (List.mem_append_right _ (List.mem_append_left _ (List.mem_of_getElem? (i := 8) rfl))))))) rfl, mw_6, mw_1055, by decide +kernel⟩
theorem k_X7_placeOfDrop : CKV yX7_placeOfDrop cX7_placeOfDrop 4 (some .int) 1 := ⟨mw_1060, LWs (q := (yX7_placeOfDrop, 1)) (List.mem_append_right _ (List.mem_append_right _ (List.mem_append_right _ (List.mem_append_right _ (List.mem_append_right _ (List.mem_append_left _ (List.mem_of_getElem? (i := 9) rfl))))))) rfl, mw_6, mw_1061, by decide +kernel⟩
theorem k_X7_isDropAhead : CKV yX7_isDropAhead cX7_isDropAhead 5 (some .boolean) 2 := ⟨mw_1064, LWs (q := (yX7_isDropAhead, 1)) (List.mem_append_right _ (List.mem_append_right _ (List.mem_append_right _ (List.mem_append_right _ (List.mem_append_right _ (List.mem_append_left _ (List.mem_of_getElem? (i := 10) rfl))))))) rfl, mw_6, mw_1065, by decide +kernel⟩
theorem k_X8_isFull : CKV yX8_isFull cX8_isFull 1 (some .boolean) 0 := ⟨mw_1456, LWs (q := (yX8_isFull, 7)) (List.mem_append_right _ (List.mem_append_right _ (List.mem_append_right _ (List.mem_append_right _ (List.mem_append_right _ (List.mem_append_right _ (List.mem_append_left _ (List.mem_of_getElem? (i := 2) rfl)))))))) rfl, mw_8, mw_1457, by decide +kernel⟩
theorem k_X8_add : CKV yX8_add cX8_add 2 (some .int) 1 := ⟨mw_1480, LWs (q := (yX8_add, 7)) (List.mem_append_right _ (List.mem_append_right _ (List.mem_append_right _ (List.mem_append_right _ (List.mem_append_right _ (List.mem_append_right _ (List.mem_append_left _ (List.mem_of_getElem? (i := 3) rfl)))))))) rfl, mw_8, mw_1481, by decide +kernel⟩
theorem k_X8_countOfSigns : CKV yX8_countOfSigns cX8_countOfSigns 1 (some .int) 0 := ⟨mw_667, LWs (q := (yX8_countOfSigns, 7)) (List.mem_append_right _ (List.mem_append_right _ (List.mem_append_left _ (List.mem_of_getElem? (i := 13) rfl)))) rfl, mw_8, mw_668, by decide +kernel⟩
theorem k_X8_countOfOrders : CKV yX8_countOfOrders cX8_countOfOrders 1 (some .int) 0 := ⟨mw_1539, LWs (q := (yX8_countOfOrders, 7)) (List.mem_append_right _ (List.mem_append_right _ (List.mem_append_right _ (List.mem_append_right _ (List.mem_append_right _ (List.mem_append_right _ (List.mem_append_left _ (List.mem_of_getElem? (i := 14) rfl)))))))) rfl, mw_8, mw_1540, by decide +kernel⟩
theorem k_X8_orderAt : CKV yX8_orderAt cX8_orderAt 2 (some (.object "TinRoofScore$Order")) 1 := ⟨mw_1543, LWs (q := (yX8_orderAt, 7)) (List.mem_append_right _ (List.mem_append_right _ (List.mem_append_right _ (List.mem_append_right _ (List.mem_append_right _ (List.mem_append_right _ (List.mem_append_left _ (List.mem_of_getElem? (i := 15) rfl)))))))) rfl, mw_8, mw_1544, by decide +kernel⟩
theorem k_X8_numberAt : CKV yX8_numberAt cX8_numberAt 3 (some .int) 2 := ⟨mw_1547, LWs (q := (yX8_numberAt, 7)) (List.mem_append_right _ (List.mem_append_right _ (List.mem_append_right _ (List.mem_append_right _ (List.mem_append_right _ (List.mem_append_right _ (List.mem_append_right _ (List.mem_of_getElem? (i := 0) rfl)))))))) rfl, mw_8, mw_1548, by decide +kernel⟩
theorem k_X8_read : CKV yX8_read cX8_read 2 (some .boolean) 0 := ⟨mw_1491, LWs (q := (yX8_read, 7)) (List.mem_append_right _ (List.mem_append_right _ (List.mem_append_right _ (List.mem_append_right _ (List.mem_append_right _ (List.mem_append_right _ (List.mem_append_left _ (List.mem_of_getElem? (i := 4) rfl)))))))) rfl, mw_8, mw_1492, by decide +kernel⟩
theorem k_X8_readOrders : CKV yX8_readOrders cX8_readOrders 2 (some .boolean) 0 := ⟨mw_1495, LWs (q := (yX8_readOrders, 7)) (List.mem_append_right _ (List.mem_append_right _ (List.mem_append_right _ (List.mem_append_right _ (List.mem_append_right _ (List.mem_append_right _ (List.mem_append_left _ (List.mem_of_getElem? (i := 5) rfl)))))))) rfl, mw_8, mw_1496, by decide +kernel⟩
theorem k_X8_readOrder : CKV yX8_readOrder cX8_readOrder 4 (some .boolean) 0 := ⟨mw_1499, LWs (q := (yX8_readOrder, 7)) (List.mem_append_right _ (List.mem_append_right _ (List.mem_append_right _ (List.mem_append_right _ (List.mem_append_right _ (List.mem_append_right _ (List.mem_append_left _ (List.mem_of_getElem? (i := 6) rfl)))))))) rfl, mw_8, mw_1500, by decide +kernel⟩
theorem k_X8_readWord : CKV yX8_readWord cX8_readWord 5 (some (.object "TinRoofScore$Order")) 0 := ⟨mw_1503, LWs (q := (yX8_readWord, 7)) (List.mem_append_right _ (List.mem_append_right _ (List.mem_append_right _ (List.mem_append_right _ (List.mem_append_right _ (List.mem_append_right _ (List.mem_append_left _ (List.mem_of_getElem? (i := 7) rfl)))))))) rfl, mw_8, mw_1504, by decide +kernel⟩
theorem k_X8_lettersOf : CKV yX8_lettersOf cX8_lettersOf 3 (some .int) 1 := ⟨mw_1509, LWs (q := (yX8_lettersOf, 7)) (List.mem_append_right _ (List.mem_append_right _ (List.mem_append_right _ (List.mem_append_right _ (List.mem_append_right _ (List.mem_append_right _ (List.mem_append_left _ (List.mem_of_getElem? (i := 8) rfl)))))))) rfl, mw_8, mw_1510, by decide +kernel⟩
theorem k_X8_readNumber : CKV yX8_readNumber cX8_readNumber 4 (some .int) 1 := ⟨mw_1524, LWs (q := (yX8_readNumber, 7)) (List.mem_append_right _ (List.mem_append_right _ (List.mem_append_right _ (List.mem_append_right _ (List.mem_append_right _ (List.mem_append_right _ (List.mem_append_left _ (List.mem_of_getElem? (i := 11) rfl)))))))) rfl, mw_8, mw_1525, by decide +kernel⟩
theorem k_X8_readDigit : CKV yX8_readDigit cX8_readDigit 3 (some .int) 0 := ⟨mw_1528, LWs (q := (yX8_readDigit, 7)) (List.mem_append_right _ (List.mem_append_right _ (List.mem_append_right _ (List.mem_append_right _ (List.mem_append_right _ (List.mem_append_right _ (List.mem_append_left _ (List.mem_of_getElem? (i := 12) rfl)))))))) rfl, mw_8, mw_1529, by decide +kernel⟩
theorem k_X8_take : CKV yX8_take cX8_take 2 (some .boolean) 1 := ⟨mw_1520, LWs (q := (yX8_take, 7)) (List.mem_append_right _ (List.mem_append_right _ (List.mem_append_right _ (List.mem_append_right _ (List.mem_append_right _ (List.mem_append_right _ (List.mem_append_left _ (List.mem_of_getElem? (i := 10) rfl)))))))) rfl, mw_8, mw_1521, by decide +kernel⟩
theorem k_X8_isSign : CKV yX8_isSign cX8_isSign 3 (some .boolean) 2 := ⟨mw_1515, LWs (q := (yX8_isSign, 7)) (List.mem_append_right _ (List.mem_append_right _ (List.mem_append_right _ (List.mem_append_right _ (List.mem_append_right _ (List.mem_append_right _ (List.mem_append_left _ (List.mem_of_getElem? (i := 9) rfl)))))))) rfl, mw_8, mw_1516, by decide +kernel⟩
theorem k_X9_bar : CKV yX9_bar cX9_bar 2 (some .int) 1 := ⟨mw_242, mw_243, mw_1, mw_244, by decide +kernel⟩
theorem k_X9_key : CKV yX9_key cX9_key 3 (some .int) 2 := ⟨mw_554, mw_555, mw_1, mw_556, by decide +kernel⟩
theorem k_X9_leak : CKV yX9_leak cX9_leak 3 (some .int) 2 := ⟨mw_562, mw_563, mw_1, mw_564, by decide +kernel⟩
theorem k_X9_drop : CKV yX9_drop cX9_drop 4 (some .int) 3 := ⟨mw_578, mw_579, mw_1, mw_580, by decide +kernel⟩
theorem k_X9_rest : CKV yX9_rest cX9_rest 2 (some .int) 1 := ⟨mw_570, mw_571, mw_1, mw_572, by decide +kernel⟩
theorem k_X9_lift : CKV yX9_lift cX9_lift 1 (some .int) 0 := ⟨mw_1426, mw_1427, mw_1, mw_1428, by decide +kernel⟩
theorem k_X9_limit : CKV yX9_limit cX9_limit 2 (some .int) 1 := ⟨mw_677, mw_678, mw_1, mw_679, by decide +kernel⟩
theorem k_X9_tune : CKV yX9_tune cX9_tune 3 (some .int) 2 := ⟨mw_1434, mw_1435, mw_1, mw_1436, by decide +kernel⟩
theorem k_X9_tinOf : CKV yX9_tinOf cX9_tinOf 3 (some .int) 2 := ⟨mw_721, mw_722, mw_1, mw_723, by decide +kernel⟩
theorem k_X9_soundOf : CKV yX9_soundOf cX9_soundOf 3 (some .int) 2 := ⟨mw_693, mw_694, mw_1, mw_695, by decide +kernel⟩
theorem k_X9_barOf : CKV yX9_barOf cX9_barOf 3 (some .int) 2 := ⟨mw_739, mw_740, mw_1, mw_741, by decide +kernel⟩
theorem k_X9_partOf : CKV yX9_partOf cX9_partOf 5 (some .int) 3 := ⟨mw_767, mw_768, mw_1, mw_769, by decide +kernel⟩
theorem k_X9_at : CKV yX9_at cX9_at 2 (some .int) 1 := ⟨mw_783, mw_784, mw_1, mw_785, by decide +kernel⟩
theorem k_X9_faults : CKV yX9_faults cX9_faults 3 (some .int) 2 := ⟨mw_812, mw_813, mw_1, mw_814, by decide +kernel⟩
theorem k_X9_firstFault : CKV yX9_firstFault cX9_firstFault 2 (some .int) 1 := ⟨mw_873, mw_874, mw_1, mw_875, by decide +kernel⟩
theorem k_X9_isClean : CKV yX9_isClean cX9_isClean 1 (some .boolean) 0 := ⟨mw_909, mw_910, mw_1, mw_911, by decide +kernel⟩
theorem k_X9_wouldFault : CKV yX9_wouldFault cX9_wouldFault 3 (some .int) 2 := ⟨mw_887, mw_888, mw_1, mw_889, by decide +kernel⟩
theorem k_X9_bestHeight : CKV yX9_bestHeight cX9_bestHeight 6 (some .int) 1 := ⟨mw_905, mw_906, mw_1, mw_907, by decide +kernel⟩
theorem k_X9_walk : CKV yX9_walk cX9_walk 2 (some .int) 1 := ⟨mw_955, mw_956, mw_1, mw_957, by decide +kernel⟩
theorem k_X9_goes : CKV yX9_goes cX9_goes 2 (some .int) 1 := ⟨mw_959, mw_960, mw_1, mw_961, by decide +kernel⟩
theorem k_X9_span : CKV yX9_span cX9_span 1 (some .int) 0 := ⟨mw_967, mw_968, mw_1, mw_969, by decide +kernel⟩
theorem k_X9_withPitch : CKV yX9_withPitch cX9_withPitch 2 (some .int) 1 := ⟨mw_1009, mw_1010, mw_1, mw_1011, by decide +kernel⟩
theorem k_X9_loudest : CKV yX9_loudest cX9_loudest 2 (some .int) 1 := ⟨mw_1028, mw_1029, mw_1, mw_1030, by decide +kernel⟩
theorem k_X9_highest : CKV yX9_highest cX9_highest 2 (some .int) 1 := ⟨mw_1049, mw_1050, mw_1, mw_1051, by decide +kernel⟩
theorem k_X9_line : CKV yX9_line cX9_line 2 (some .int) 1 := ⟨mw_1335, mw_1336, mw_1, mw_1337, by decide +kernel⟩
theorem k_X9_tinLine : CKV yX9_tinLine cX9_tinLine 2 (some .int) 1 := ⟨mw_1401, mw_1402, mw_1, mw_1403, by decide +kernel⟩
theorem k_X9_character : CKV yX9_character cX9_character 2 (some .char) 1 := ⟨mw_1370, mw_1371, mw_1, mw_1372, by decide +kernel⟩
theorem k_X9_append : CKV yX9_append cX9_append 2 (some .int) 1 := ⟨mw_1451, mw_1452, mw_1, mw_1453, by decide +kernel⟩
theorem k_X9_run : CKV yX9_run cX9_run 2 (some .int) 0 := ⟨mw_1486, mw_1487, mw_1, mw_1488, by decide +kernel⟩
theorem k_X9_refusal : CKV yX9_refusal cX9_refusal 2 (some .int) 1 := ⟨mw_587, mw_588, mw_1, mw_589, by decide +kernel⟩
theorem k_X9_account : CKV yX9_account cX9_account 2 (some .int) 1 := ⟨mw_622, mw_623, mw_1, mw_624, by decide +kernel⟩
theorem k_X9_isWell : CKV yX9_isWell cX9_isWell 1 (some .boolean) 0 := ⟨mw_914, mw_915, mw_1, mw_916, by decide +kernel⟩
theorem k_X9_meanPitch : CKV yX9_meanPitch cX9_meanPitch 2 (some .double) 0 := ⟨mw_977, mw_978, mw_1, mw_979, by decide +kernel⟩
theorem k_X9_filledShare : CKV yX9_filledShare cX9_filledShare 2 (some .float) 0 := ⟨mw_1017, mw_1018, mw_1, mw_1019, by decide +kernel⟩
theorem k_X9_undo : CKV yX9_undo cX9_undo 1 (some .int) 0 := ⟨mw_1554, mw_1555, mw_1, mw_1556, by decide +kernel⟩
theorem k_X9_change : CKV yX9_change cX9_change 6 (some .int) 4 := ⟨mw_249, LWs (q := (yX9_change, 11)) (List.mem_append_left _ (List.mem_of_getElem? (i := 0) rfl)) rfl, mw_1, mw_250, by decide +kernel⟩
theorem k_X9_carryOutText : CKV yX9_carryOutText cX9_carryOutText 7 (some .int) 0 := ⟨mw_1535, LWs (q := (yX9_carryOutText, 11)) (List.mem_append_right _ (List.mem_append_right _ (List.mem_append_right _ (List.mem_append_right _ (List.mem_append_right _ (List.mem_append_right _ (List.mem_append_left _ (List.mem_of_getElem? (i := 13) rfl)))))))) rfl, mw_1, mw_1536, by decide +kernel⟩
theorem k_X9_needPlace : CKS yX9_needPlace cX9_needPlace 1 none 1 := ⟨mw_362, mw_1, mw_363, by decide +kernel⟩
theorem k_X9_needRange : CKS yX9_needRange cX9_needRange 1 none 1 := ⟨mw_437, mw_1, mw_438, by decide +kernel⟩
theorem k_X9_needConsent : CKS yX9_needConsent cX9_needConsent 1 none 1 := ⟨mw_456, mw_1, mw_457, by decide +kernel⟩
theorem k_X9_needElement : CKS yX9_needElement cX9_needElement 1 none 1 := ⟨mw_595, mw_1, mw_596, by decide +kernel⟩
theorem k_X9_needState : CKS yX9_needState cX9_needState 1 none 1 := ⟨mw_1459, mw_1, mw_1460, by decide +kernel⟩
theorem k_X9_found : CKS yX9_found cX9_found 1 (some .int) 1 := ⟨mw_791, mw_1, mw_792, by decide +kernel⟩
theorem k_X9_isWithin : CKS yX9_isWithin cX9_isWithin 3 (some .boolean) 3 := ⟨mw_261, mw_1, mw_262, by decide +kernel⟩
theorem k_X9_isTin : CKS yX9_isTin cX9_isTin 1 (some .boolean) 1 := ⟨mw_285, mw_1, mw_286, by decide +kernel⟩
theorem k_X9_cell : CKS yX9_cell cX9_cell 2 (some .int) 2 := ⟨mw_278, mw_1, mw_279, by decide +kernel⟩
theorem k_X9_put : CKS yX9_put cX9_put 3 none 3 := ⟨mw_491, mw_1, mw_492, by decide +kernel⟩
theorem k_X9_copyRow : CKS yX9_copyRow cX9_copyRow 3 none 2 := ⟨mw_487, mw_1, mw_488, by decide +kernel⟩
theorem k_J6_getChars_ba4f3 : CKS yJ6_getChars_ba4f3 cJ6_getChars_ba4f3 7 (some .int) 3 := ⟨mw_1253, mw_32, mw_1254, by decide +kernel⟩
theorem k_J6_stringSize_0f7a4 : CKS yJ6_stringSize_0f7a4 cJ6_stringSize_0f7a4 4 (some .int) 1 := ⟨mw_1250, mw_32, mw_1251, by decide +kernel⟩
theorem k_J9_abs_0f7a4 : CKS yJ9_abs_0f7a4 cJ9_abs_0f7a4 1 (some .int) 1 := ⟨mw_806, mw_18, mw_807, by decide +kernel⟩
theorem k_J9_max_7cf53 : CKS yJ9_max_7cf53 cJ9_max_7cf53 2 (some .int) 2 := ⟨mw_654, mw_18, mw_655, by decide +kernel⟩
theorem k_J9_min_7cf53 : CKS yJ9_min_7cf53 cJ9_min_7cf53 2 (some .int) 2 := ⟨mw_494, mw_18, mw_495, by decide +kernel⟩
theorem k_J0_length_8abf5 : CKV yJ0_length_8abf5 cJ0_length_8abf5 1 (some .int) 0 := ⟨mw_1177, mw_1178, mw_20, mw_1179, by decide +kernel⟩
theorem k_J0_charAt_5068e : CKV yJ0_charAt_5068e cJ0_charAt_5068e 2 (some .char) 1 := ⟨mw_1383, mw_1384, mw_20, mw_1385, by decide +kernel⟩
theorem k_J0_getBytes_840e7 : CKV yJ0_getBytes_840e7 cJ0_getBytes_840e7 4 none 3 := ⟨mw_1214, mw_1215, mw_20, mw_1216, by decide +kernel⟩
theorem k_J0_coder_7d493 : CKV yJ0_coder_7d493 cJ0_coder_7d493 1 (some .byte) 0 := ⟨mw_1181, mw_1182, mw_20, mw_1183, by decide +kernel⟩
theorem k_J0_isLatin1_aae02 : CKV yJ0_isLatin1_aae02 cJ0_isLatin1_aae02 1 (some .boolean) 0 := ⟨mw_1387, mw_1388, mw_20, mw_1389, by decide +kernel⟩
theorem k_J0_checkIndex_df160 : CKS yJ0_checkIndex_df160 cJ0_checkIndex_df160 2 none 2 := ⟨mw_1237, mw_20, mw_1238, by decide +kernel⟩
theorem k_J0_checkBoundsOffCount_cabcc : CKS yJ0_checkBoundsOffCount_cabcc cJ0_checkBoundsOffCount_cabcc 3 (some .int) 3 := ⟨mw_1208, mw_20, mw_1209, by decide +kernel⟩
theorem k_J0_checkBoundsBeginEnd_23922 : CKS yJ0_checkBoundsBeginEnd_23922 cJ0_checkBoundsBeginEnd_23922 3 none 3 := ⟨mw_1160, mw_20, mw_1161, by decide +kernel⟩
theorem k_J4_append_15ec4 : CKV yJ4_append_15ec4 cJ4_append_15ec4 2 (some (.object "java/lang/StringBuilder")) 1 := ⟨mw_1104, mw_1105, mw_24, mw_1106, by decide +kernel⟩
theorem k_J4_append_cf468 : CKV yJ4_append_cf468 cJ4_append_cf468 2 (some (.object "java/lang/StringBuilder")) 1 := ⟨mw_1221, mw_1222, mw_24, mw_1223, by decide +kernel⟩
theorem k_J4_append_bf812 : CKV yJ4_append_bf812 cJ4_append_bf812 2 (some (.object "java/lang/StringBuilder")) 1 := ⟨mw_1243, mw_1244, mw_24, mw_1245, by decide +kernel⟩
theorem k_J4_toString_0e30d : CKV yJ4_toString_0e30d cJ4_toString_0e30d 1 (some (.object "java/lang/String")) 0 := ⟨mw_1269, mw_1270, mw_24, mw_1271, by decide +kernel⟩
theorem k_J1_charAt_3b067 : CKS yJ1_charAt_3b067 cJ1_charAt_3b067 2 (some .char) 2 := ⟨mw_1391, mw_30, mw_1392, by decide +kernel⟩
theorem k_J1_canEncode_fc78d : CKS yJ1_canEncode_fc78d cJ1_canEncode_fc78d 1 (some .boolean) 1 := ⟨mw_1228, mw_30, mw_1229, by decide +kernel⟩
theorem k_J1_inflate_0e8fd : CKS yJ1_inflate_0e8fd cJ1_inflate_0e8fd 5 none 5 := ⟨mw_1199, mw_30, mw_1200, by decide +kernel⟩
theorem k_J2_newBytesFor_77867 : CKS yJ2_newBytesFor_77867 cJ2_newBytesFor_77867 1 (some (.array .byte)) 1 := ⟨mw_1084, mw_25, mw_1085, by decide +kernel⟩
theorem k_J2_newBytesLength_0f7a4 : CKS yJ2_newBytesLength_0f7a4 cJ2_newBytesLength_0f7a4 1 (some .int) 1 := ⟨mw_1087, mw_25, mw_1088, by decide +kernel⟩
theorem k_J2_putChar_b72d1 : CKS yJ2_putChar_b72d1 cJ2_putChar_b72d1 3 none 3 := ⟨mw_1168, mw_25, mw_1169, by decide +kernel⟩
theorem k_J2_getChar_3b067 : CKS yJ2_getChar_3b067 cJ2_getChar_3b067 2 (some .char) 2 := ⟨mw_1318, mw_25, mw_1319, by decide +kernel⟩
theorem k_J2_length_9d52b : CKS yJ2_length_9d52b cJ2_length_9d52b 1 (some .int) 1 := ⟨mw_1157, mw_25, mw_1158, by decide +kernel⟩
theorem k_J2_coderFromArrayLen_85cad : CKS yJ2_coderFromArrayLen_85cad cJ2_coderFromArrayLen_85cad 2 (some .byte) 2 := ⟨mw_1322, mw_25, mw_1323, by decide +kernel⟩
theorem k_J2_compress_39247 : CKS yJ2_compress_39247 cJ2_compress_39247 6 (some (.array .byte)) 3 := ⟨mw_1312, mw_25, mw_1313, by decide +kernel⟩
theorem k_J2_compress_5af95 : CKS yJ2_compress_5af95 cJ2_compress_5af95 7 (some .int) 5 := ⟨mw_1315, mw_25, mw_1316, by decide +kernel⟩
theorem k_J2_putCharSB_b72d1 : CKS yJ2_putCharSB_b72d1 cJ2_putCharSB_b72d1 3 none 3 := ⟨mw_1231, mw_25, mw_1232, by decide +kernel⟩
theorem k_J2_getChars_46870 : CKS yJ2_getChars_46870 cJ2_getChars_46870 5 (some .int) 4 := ⟨mw_1260, mw_25, mw_1261, by decide +kernel⟩
theorem k_J2_putCharsAt_cd4e5 : CKS yJ2_putCharsAt_cd4e5 cJ2_putCharsAt_cd4e5 7 (some .int) 6 := ⟨mw_1151, mw_25, mw_1152, by decide +kernel⟩
theorem k_J2_charAt_3b067 : CKS yJ2_charAt_3b067 cJ2_charAt_3b067 2 (some .char) 2 := ⟨mw_1395, mw_25, mw_1396, by decide +kernel⟩
theorem k_J2_inflate_0e8fd : CKS yJ2_inflate_0e8fd cJ2_inflate_0e8fd 6 none 5 := ⟨mw_1202, mw_25, mw_1203, by decide +kernel⟩
theorem k_J2_getChars_ba4f3 : CKS yJ2_getChars_ba4f3 cJ2_getChars_ba4f3 7 (some .int) 3 := ⟨mw_1263, mw_25, mw_1264, by decide +kernel⟩
theorem k_J2_checkIndex_2214a : CKS yJ2_checkIndex_2214a cJ2_checkIndex_2214a 2 none 2 := ⟨mw_1234, mw_25, mw_1235, by decide +kernel⟩
theorem k_J2_checkBoundsBeginEnd_d044e : CKS yJ2_checkBoundsBeginEnd_d044e cJ2_checkBoundsBeginEnd_d044e 3 none 3 := ⟨mw_1154, mw_25, mw_1155, by decide +kernel⟩
theorem k_J2_checkBoundsOffCount_d044e : CKS yJ2_checkBoundsOffCount_d044e cJ2_checkBoundsOffCount_d044e 3 none 3 := ⟨mw_1205, mw_25, mw_1206, by decide +kernel⟩
theorem k_J7_copyOf_9075b : CKS yJ7_copyOf_9075b cJ7_copyOf_9075b 3 (some (.array .byte)) 2 := ⟨mw_1132, mw_27, mw_1133, by decide +kernel⟩
theorem k_J7_checkLength_df160 : CKS yJ7_checkLength_df160 cJ7_checkLength_df160 2 none 2 := ⟨mw_1301, mw_27, mw_1302, by decide +kernel⟩
theorem k_J7_copyOfRange_39247 : CKS yJ7_copyOfRange_39247 cJ7_copyOfRange_39247 3 (some (.array .byte)) 3 := ⟨mw_1295, mw_27, mw_1296, by decide +kernel⟩
theorem k_J7_copyOfRangeByte_39247 : CKS yJ7_copyOfRangeByte_39247 cJ7_copyOfRangeByte_39247 5 (some (.array .byte)) 3 := ⟨mw_1298, mw_27, mw_1299, by decide +kernel⟩
theorem k_J8_newLength_cabcc : CKS yJ8_newLength_cabcc cJ8_newLength_cabcc 4 (some .int) 3 := ⟨mw_1123, mw_26, mw_1124, by decide +kernel⟩
theorem k_J8_hugeLength_7cf53 : CKS yJ8_hugeLength_7cf53 cJ8_hugeLength_7cf53 3 (some .int) 2 := ⟨mw_1128, mw_26, mw_1129, by decide +kernel⟩
theorem k_J3_checkIndex_8e157 : CKS yJ3_checkIndex_8e157 cJ3_checkIndex_8e157 3 (some .int) 3 := ⟨mw_1240, mw_29, mw_1241, by decide +kernel⟩
theorem k_J3_checkFromToIndex_8c36e : CKS yJ3_checkFromToIndex_8c36e cJ3_checkFromToIndex_8c36e 4 (some .int) 4 := ⟨mw_1165, mw_29, mw_1166, by decide +kernel⟩
theorem k_J3_checkFromIndexSize_8c36e : CKS yJ3_checkFromIndexSize_8c36e cJ3_checkFromIndexSize_8c36e 4 (some .int) 4 := ⟨mw_1211, mw_29, mw_1212, by decide +kernel⟩
theorem k_L_cell : CKS yL_cell cL_cell 2 (some .int) 2 := ⟨mw_233, mw_0, mw_234, by decide +kernel⟩
theorem k_L_run : CKS yL_run cL_run 3 (some .int) 2 := ⟨mw_1444, mw_0, mw_1445, by decide +kernel⟩
theorem k_L_drawn : CKS yL_drawn cL_drawn 7 (some (.object "TinRoofScore")) 1 := ⟨mw_35, mw_0, mw_36, by decide +kernel⟩
theorem k_L_sounds : CKS yL_sounds cL_sounds 13 (some (.array (.array .int))) 1 := ⟨mw_685, mw_0, mw_686, by decide +kernel⟩
theorem k_L_ahead : CKS yL_ahead cL_ahead 5 (some (.array .int)) 2 := ⟨mw_803, mw_0, mw_804, by decide +kernel⟩
theorem k_L_isFault : CKS yL_isFault cL_isFault 10 (some .boolean) 4 := ⟨mw_800, mw_0, mw_801, by decide +kernel⟩
theorem k_L_faultsOf : CKS yL_faultsOf cL_faultsOf 5 (some .int) 3 := ⟨mw_797, mw_0, mw_798, by decide +kernel⟩
theorem k_L_allFaults : CKS yL_allFaults cL_allFaults 2 (some .int) 2 := ⟨mw_881, mw_0, mw_882, by decide +kernel⟩
theorem k_L_parts : CKS yL_parts cL_parts 14 (some .boolean) 1 := ⟨mw_682, mw_0, mw_683, by decide +kernel⟩
theorem k_L_faulty : CKS yL_faulty cL_faulty 8 (some .boolean) 1 := ⟨mw_794, mw_0, mw_795, by decide +kernel⟩
theorem k_L_tunes : CKS yL_tunes cL_tunes 15 (some .boolean) 1 := ⟨mw_952, mw_0, mw_953, by decide +kernel⟩
theorem k_L_ranks : CKS yL_ranks cL_ranks 9 (some .boolean) 1 := ⟨mw_1022, mw_0, mw_1023, by decide +kernel⟩
theorem k_L_spells : CKS yL_spells cL_spells 5 (some .boolean) 3 := ⟨mw_1363, mw_0, mw_1364, by decide +kernel⟩
theorem k_L_lines : CKS yL_lines cL_lines 5 (some .boolean) 1 := ⟨mw_1069, mw_0, mw_1070, by decide +kernel⟩
theorem k_L_sum : CKS yL_sum cL_sum 4 (some .long) 1 := ⟨mw_1415, mw_0, mw_1416, by decide +kernel⟩
theorem k_L_undone : CKS yL_undone cL_undone 8 (some .boolean) 2 := ⟨mw_1412, mw_0, mw_1413, by decide +kernel⟩
theorem i_X0 : ∀ w ∈ u_ws RX0 TX0 3, w ∈ LW := fun w h => LWf ((by decide +kernel : ∀ w ∈ u_ws RX0 TX0 3, w ∈ lw_tbl) w h) ((by decide +kernel : ∀ w ∈ u_ws RX0 TX0 3, goodWord w = true) w h)
theorem i_X1 : ∀ w ∈ u_ws RX1 TX1 3, w ∈ LW := fun w h => LWf ((by decide +kernel : ∀ w ∈ u_ws RX1 TX1 3, w ∈ lw_tbl) w h) ((by decide +kernel : ∀ w ∈ u_ws RX1 TX1 3, goodWord w = true) w h)
theorem i_X2 : ∀ w ∈ u_ws RX2 TX2 3, w ∈ LW := fun w h => LWf ((by decide +kernel : ∀ w ∈ u_ws RX2 TX2 3, w ∈ lw_tbl) w h) ((by decide +kernel : ∀ w ∈ u_ws RX2 TX2 3, goodWord w = true) w h)
theorem i_X3 : ∀ w ∈ u_ws RX3 TX3 1, w ∈ LW := fun w h => LWf ((by decide +kernel : ∀ w ∈ u_ws RX3 TX3 1, w ∈ lw_tbl) w h) ((by decide +kernel : ∀ w ∈ u_ws RX3 TX3 1, goodWord w = true) w h)
theorem i_X5 : ∀ w ∈ u_ws RX5 TX5 11, w ∈ LW := fun w h => LWf ((by decide +kernel : ∀ w ∈ u_ws RX5 TX5 11, w ∈ lw_tbl) w h) ((by decide +kernel : ∀ w ∈ u_ws RX5 TX5 11, goodWord w = true) w h)
theorem i_X6 : ∀ w ∈ u_ws RX6 TX6 1, w ∈ LW := fun w h => LWf ((by decide +kernel : ∀ w ∈ u_ws RX6 TX6 1, w ∈ lw_tbl) w h) ((by decide +kernel : ∀ w ∈ u_ws RX6 TX6 1, goodWord w = true) w h)
theorem i_X7 : ∀ w ∈ u_ws RX7 TX7 1, w ∈ LW := fun w h => LWf ((by decide +kernel : ∀ w ∈ u_ws RX7 TX7 1, w ∈ lw_tbl) w h) ((by decide +kernel : ∀ w ∈ u_ws RX7 TX7 1, goodWord w = true) w h)
theorem i_X8 : ∀ w ∈ u_ws RX8 TX8 7, w ∈ LW := fun w h => LWf ((by decide +kernel : ∀ w ∈ u_ws RX8 TX8 7, w ∈ lw_tbl) w h) ((by decide +kernel : ∀ w ∈ u_ws RX8 TX8 7, goodWord w = true) w h)
theorem i_X9 : ∀ w ∈ u_ws RX9 TX9 11, w ∈ LW := fun w h => LWf ((by decide +kernel : ∀ w ∈ u_ws RX9 TX9 11, w ∈ lw_tbl) w h) ((by decide +kernel : ∀ w ∈ u_ws RX9 TX9 11, goodWord w = true) w h)
theorem i_J0 : ∀ w ∈ u_ws RJ0 TJ0 4, w ∈ LW := fun w h => LWf ((by decide +kernel : ∀ w ∈ u_ws RJ0 TJ0 4, w ∈ lw_tbl) w h) ((by decide +kernel : ∀ w ∈ u_ws RJ0 TJ0 4, goodWord w = true) w h)
theorem i_J4 : ∀ w ∈ u_ws RJ4 TJ4 4, w ∈ LW := fun w h => LWf ((by decide +kernel : ∀ w ∈ u_ws RJ4 TJ4 4, w ∈ lw_tbl) w h) ((by decide +kernel : ∀ w ∈ u_ws RJ4 TJ4 4, goodWord w = true) w h)
