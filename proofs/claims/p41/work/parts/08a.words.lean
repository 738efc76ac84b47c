theorem mw_0 : Cond.initialized RL ∈ LW := LWm (tb1 (List.mem_of_getElem? (i := 0) (by decide +kernel))) rfl
theorem mw_1 : Cond.initialized RX9 ∈ LW := LWm (tb1 (List.mem_of_getElem? (i := 1) (by decide +kernel))) rfl
theorem mw_2 : Cond.initialized RX5 ∈ LW := LWm (tb1 (List.mem_of_getElem? (i := 2) (by decide +kernel))) rfl
theorem mw_3 : Cond.initialized RX1 ∈ LW := LWm (tb1 (List.mem_of_getElem? (i := 3) (by decide +kernel))) rfl
theorem mw_4 : Cond.initialized RX6 ∈ LW := LWm (tb1 (List.mem_of_getElem? (i := 4) (by decide +kernel))) rfl
theorem mw_5 : Cond.initialized RX3 ∈ LW := LWm (tb1 (List.mem_of_getElem? (i := 5) (by decide +kernel))) rfl
theorem mw_6 : Cond.initialized RX7 ∈ LW := LWm (tb1 (List.mem_of_getElem? (i := 6) (by decide +kernel))) rfl
theorem mw_7 : Cond.initialized RX2 ∈ LW := LWm (tb1 (List.mem_of_getElem? (i := 7) (by decide +kernel))) rfl
theorem mw_8 : Cond.initialized RX8 ∈ LW := LWm (tb1 (List.mem_of_getElem? (i := 8) (by decide +kernel))) rfl
theorem mw_9 : Cond.initialized RX0 ∈ LW := LWm (tb1 (List.mem_of_getElem? (i := 9) (by decide +kernel))) rfl
theorem mw_10 : Cond.initialized RJx29ce0 ∈ LW := LWm (tb1 (List.mem_of_getElem? (i := 10) (by decide +kernel))) rfl
theorem mw_11 : Cond.initialized RX4 ∈ LW := LWm (tb1 (List.mem_of_getElem? (i := 11) (by decide +kernel))) rfl
theorem mw_12 : Cond.initialized "java/lang/Throwable" ∈ LW := LWm (tb1 (List.mem_of_getElem? (i := 12) (by decide +kernel))) rfl
theorem mw_13 : Cond.initialized "java/lang/Exception" ∈ LW := LWm (tb1 (List.mem_of_getElem? (i := 13) (by decide +kernel))) rfl
theorem mw_14 : Cond.initialized "java/lang/RuntimeException" ∈ LW := LWm (tb1 (List.mem_of_getElem? (i := 14) (by decide +kernel))) rfl
theorem mw_15 : Cond.initialized "java/lang/IndexOutOfBoundsException" ∈ LW := LWm (tb1 (List.mem_of_getElem? (i := 15) (by decide +kernel))) rfl
theorem mw_16 : Cond.initialized "java/lang/IllegalArgumentException" ∈ LW := LWm (tb1 (List.mem_of_getElem? (i := 16) (by decide +kernel))) rfl
theorem mw_17 : Cond.initialized "java/lang/UnsupportedOperationException" ∈ LW := LWm (tb1 (List.mem_of_getElem? (i := 17) (by decide +kernel))) rfl
theorem mw_18 : Cond.initialized RJ9 ∈ LW := LWm (tb1 (List.mem_of_getElem? (i := 18) (by decide +kernel))) rfl
theorem mw_19 : Cond.initialized RJx00060 ∈ LW := LWm (tb1 (List.mem_of_getElem? (i := 19) (by decide +kernel))) rfl
theorem mw_20 : Cond.initialized RJ0 ∈ LW := LWm (tb1 (List.mem_of_getElem? (i := 20) (by decide +kernel))) rfl
theorem mw_21 : Cond.initialized "java/util/NoSuchElementException" ∈ LW := LWm (tb1 (List.mem_of_getElem? (i := 21) (by decide +kernel))) rfl
theorem mw_22 : Cond.initialized "java/lang/ArithmeticException" ∈ LW := LWm (tb1 (List.mem_of_getElem? (i := 22) (by decide +kernel))) rfl
theorem mw_23 : Cond.initialized RJ5 ∈ LW := LWm (tb1 (List.mem_of_getElem? (i := 23) (by decide +kernel))) rfl
theorem mw_24 : Cond.initialized RJ4 ∈ LW := LWm (tb1 (List.mem_of_getElem? (i := 24) (by decide +kernel))) rfl
theorem mw_25 : Cond.initialized RJ2 ∈ LW := LWm (tb1 (List.mem_of_getElem? (i := 25) (by decide +kernel))) rfl
theorem mw_26 : Cond.initialized RJ8 ∈ LW := LWm (tb1 (List.mem_of_getElem? (i := 26) (by decide +kernel))) rfl
theorem mw_27 : Cond.initialized RJ7 ∈ LW := LWm (tb1 (List.mem_of_getElem? (i := 27) (by decide +kernel))) rfl
theorem mw_28 : Cond.initialized RJ10 ∈ LW := LWm (tb1 (List.mem_of_getElem? (i := 28) (by decide +kernel))) rfl
theorem mw_29 : Cond.initialized RJ3 ∈ LW := LWm (tb1 (List.mem_of_getElem? (i := 29) (by decide +kernel))) rfl
theorem mw_30 : Cond.initialized RJ1 ∈ LW := LWm (tb1 (List.mem_of_getElem? (i := 30) (by decide +kernel))) rfl
theorem mw_31 : Cond.initialized RJxd2413 ∈ LW := LWm (tb1 (List.mem_of_getElem? (i := 31) (by decide +kernel))) rfl
theorem mw_32 : Cond.initialized RJ6 ∈ LW := LWm (tb1 (List.mem_of_getElem? (i := 32) (by decide +kernel))) rfl
theorem mw_33 : Cond.initialized "java/lang/IllegalStateException" ∈ LW := LWm (tb1 (List.mem_of_getElem? (i := 33) (by decide +kernel))) rfl
theorem mw_34 : Cond.methodLink RL 178 yL_drawn ∈ LW := LWm (tb1 (List.mem_of_getElem? (i := 34) (by decide +kernel))) rfl
theorem mw_35 : Cond.static yL_drawn ∈ LW := LWm (tb1 (List.mem_of_getElem? (i := 35) (by decide +kernel))) rfl
theorem mw_36 : Cond.code yL_drawn cL_drawn 7 (some (.object "TinRoofScore")) ∈ LW := LWm (tb1 (List.mem_of_getElem? (i := 36) rfl)) rfl
theorem mw_37 : Cond.classLink RL 9 RX9 ∈ LW := LWm (tb1 (List.mem_of_getElem? (i := 37) (by decide +kernel))) rfl
theorem mw_38 : Cond.instantiable RX9 11 ∈ LW := LWm (tb1 (List.mem_of_getElem? (i := 38) (by decide +kernel))) rfl
theorem mw_39 : Cond.methodLink RL 126 yX9_init ∈ LW := LWm (tb1 (List.mem_of_getElem? (i := 39) (by decide +kernel))) rfl
theorem mw_40 : Cond.instanceMethod yX9_init ∈ LW := LWm (tb1 (List.mem_of_getElem? (i := 40) (by decide +kernel))) rfl
theorem mw_41 : Cond.code yX9_init cX9_init 1 none ∈ LW := LWm (tb1 (List.mem_of_getElem? (i := 41) (by decide +kernel))) rfl
theorem mw_42 : Cond.methodLink RX9 1 ⟨"java/lang/Object", "<init>", "()V"⟩ ∈ LW := LWm (tb1 (List.mem_of_getElem? (i := 42) (by decide +kernel))) rfl
theorem mw_43 : Cond.instanceMethod ⟨"java/lang/Object", "<init>", "()V"⟩ ∈ LW := LWm (tb1 (List.mem_of_getElem? (i := 43) (by decide +kernel))) rfl
theorem mw_44 : Cond.code ⟨"java/lang/Object", "<init>", "()V"⟩ object_method_1_code 1 none ∈ LW := LWm (tb1 (List.mem_of_getElem? (i := 44) (by decide +kernel))) rfl
theorem mw_45 : Cond.classLink RX9 7 RX5 ∈ LW := LWm (tb1 (List.mem_of_getElem? (i := 45) (by decide +kernel))) rfl
theorem mw_46 : Cond.instantiable RX5 11 ∈ LW := LWm (tb1 (List.mem_of_getElem? (i := 46) (by decide +kernel))) rfl
theorem mw_47 : Cond.methodLinkNest RX9 9 yX5_init RX9 ∈ NW := NWm (tb1 (List.mem_of_getElem? (i := 47) (by decide +kernel))) rfl
theorem mw_48 : Cond.instanceMethod yX5_init ∈ LW := LWm (tb1 (List.mem_of_getElem? (i := 48) (by decide +kernel))) rfl
theorem mw_49 : Cond.code yX5_init cX5_init 1 none ∈ LW := LWm (tb1 (List.mem_of_getElem? (i := 49) (by decide +kernel))) rfl
theorem mw_50 : Cond.methodLink RX5 3 ⟨"java/lang/Object", "<init>", "()V"⟩ ∈ LW := LWm (tb1 (List.mem_of_getElem? (i := 50) (by decide +kernel))) rfl
theorem mw_51 : Cond.fieldLink RX5 9 "TinRoofScore$Print" "sizes" "[I" ∈ LW := LWm (tb1 (List.mem_of_getElem? (i := 51) (by decide +kernel))) rfl
theorem mw_52 : Cond.fieldLink RX5 15 "TinRoofScore$Print" "keys" "[I" ∈ LW := LWm (tb1 (List.mem_of_getElem? (i := 52) (by decide +kernel))) rfl
theorem mw_53 : Cond.fieldLink RX5 18 "TinRoofScore$Print" "leaks" "[I" ∈ LW := LWm (tb1 (List.mem_of_getElem? (i := 53) (by decide +kernel))) rfl
theorem mw_54 : Cond.fieldLink RX5 21 "TinRoofScore$Print" "tins" "[I" ∈ LW := LWm (tb1 (List.mem_of_getElem? (i := 54) (by decide +kernel))) rfl
theorem mw_55 : Cond.fieldLink RX5 24 "TinRoofScore$Print" "heights" "[I" ∈ LW := LWm (tb1 (List.mem_of_getElem? (i := 55) (by decide +kernel))) rfl
theorem mw_56 : Cond.fieldLink RX5 27 "TinRoofScore$Print" "lengths" "[I" ∈ LW := LWm (tb1 (List.mem_of_getElem? (i := 56) (by decide +kernel))) rfl
theorem mw_57 : Cond.fieldLink RX5 30 "TinRoofScore$Print" "bars" "I" ∈ LW := LWm (tb1 (List.mem_of_getElem? (i := 57) (by decide +kernel))) rfl
theorem mw_58 : Cond.fieldLink RX5 34 "TinRoofScore$Print" "sounds" "I" ∈ LW := LWm (tb1 (List.mem_of_getElem? (i := 58) (by decide +kernel))) rfl
theorem mw_59 : Cond.fieldLink RX5 37 "TinRoofScore$Print" "farthest" "I" ∈ LW := LWm (tb1 (List.mem_of_getElem? (i := 59) (by decide +kernel))) rfl
theorem mw_60 : Cond.fieldLink RX5 40 "TinRoofScore$Print" "soundsSet" "I" ∈ LW := LWm (tb1 (List.mem_of_getElem? (i := 60) (by decide +kernel))) rfl
theorem mw_61 : Cond.fieldLink RX5 43 "TinRoofScore$Print" "soundsTaken" "I" ∈ LW := LWm (tb1 (List.mem_of_getElem? (i := 61) (by decide +kernel))) rfl
theorem mw_85 : Cond.arrayClass .int ∈ LW := LWm (tb1 (List.mem_of_getElem? (i := 85) (by decide +kernel))) rfl
theorem mw_86 : Cond.classLink RX9 22 RX1 ∈ LW := LWm (tb1 (List.mem_of_getElem? (i := 86) (by decide +kernel))) rfl
theorem mw_87 : Cond.instantiable RX1 3 ∈ LW := LWm (tb1 (List.mem_of_getElem? (i := 87) (by decide +kernel))) rfl
theorem mw_88 : Cond.methodLinkNest RX9 24 yX1_init RX9 ∈ NW := NWm (tb1 (List.mem_of_getElem? (i := 88) (by decide +kernel))) rfl
theorem mw_89 : Cond.instanceMethod yX1_init ∈ LW := LWm (tb1 (List.mem_of_getElem? (i := 89) (by decide +kernel))) rfl
theorem mw_90 : Cond.code yX1_init cX1_init 2 none ∈ LW := LWm (tb1 (List.mem_of_getElem? (i := 90) (by decide +kernel))) rfl
theorem mw_91 : Cond.methodLink RX1 3 ⟨"java/lang/Object", "<init>", "()V"⟩ ∈ LW := LWm (tb1 (List.mem_of_getElem? (i := 91) (by decide +kernel))) rfl
theorem mw_92 : Cond.fieldLink RX1 18 "TinRoofScore$Judge" "print" "LTinRoofScore$Print;" ∈ LW := LWm (tb1 (List.mem_of_getElem? (i := 92) (by decide +kernel))) rfl
theorem mw_93 : Cond.fieldLink RX1 9 "TinRoofScore$Judge" "reason" "I" ∈ LW := LWm (tb1 (List.mem_of_getElem? (i := 93) (by decide +kernel))) rfl
theorem mw_94 : Cond.fieldLink RX1 15 "TinRoofScore$Judge" "detail" "I" ∈ LW := LWm (tb1 (List.mem_of_getElem? (i := 94) (by decide +kernel))) rfl
theorem mw_102 : Cond.classLink RX9 31 RX6 ∈ LW := LWm (tb1 (List.mem_of_getElem? (i := 102) (by decide +kernel))) rfl
theorem mw_103 : Cond.instantiable RX6 1 ∈ LW := LWm (tb1 (List.mem_of_getElem? (i := 103) (by decide +kernel))) rfl
theorem mw_104 : Cond.methodLinkNest RX9 33 yX6_init RX9 ∈ NW := NWm (tb1 (List.mem_of_getElem? (i := 104) (by decide +kernel))) rfl
theorem mw_105 : Cond.instanceMethod yX6_init ∈ LW := LWm (tb1 (List.mem_of_getElem? (i := 105) (by decide +kernel))) rfl
theorem mw_106 : Cond.code yX6_init cX6_init 2 none ∈ LW := LWm (tb1 (List.mem_of_getElem? (i := 106) (by decide +kernel))) rfl
theorem mw_107 : Cond.methodLink RX6 3 ⟨"java/lang/Object", "<init>", "()V"⟩ ∈ LW := LWm (tb1 (List.mem_of_getElem? (i := 107) (by decide +kernel))) rfl
theorem mw_108 : Cond.fieldLink RX6 9 "TinRoofScore$Proof" "print" "LTinRoofScore$Print;" ∈ LW := LWm (tb1 (List.mem_of_getElem? (i := 108) (by decide +kernel))) rfl
theorem mw_112 : Cond.classLink RX9 38 RX3 ∈ LW := LWm (tb1 (List.mem_of_getElem? (i := 112) (by decide +kernel))) rfl
theorem mw_113 : Cond.instantiable RX3 1 ∈ LW := LWm (tb1 (List.mem_of_getElem? (i := 113) (by decide +kernel))) rfl
theorem mw_114 : Cond.methodLinkNest RX9 40 yX3_init RX9 ∈ NW := NWm (tb1 (List.mem_of_getElem? (i := 114) (by decide +kernel))) rfl
theorem mw_115 : Cond.instanceMethod yX3_init ∈ LW := LWm (tb1 (List.mem_of_getElem? (i := 115) (by decide +kernel))) rfl
theorem mw_116 : Cond.code yX3_init cX3_init 2 none ∈ LW := LWm (tb1 (List.mem_of_getElem? (i := 116) (by decide +kernel))) rfl
theorem mw_117 : Cond.methodLink RX3 3 ⟨"java/lang/Object", "<init>", "()V"⟩ ∈ LW := LWm (tb1 (List.mem_of_getElem? (i := 117) (by decide +kernel))) rfl
theorem mw_118 : Cond.fieldLink RX3 9 "TinRoofScore$Melody" "print" "LTinRoofScore$Print;" ∈ LW := LWm (tb1 (List.mem_of_getElem? (i := 118) (by decide +kernel))) rfl
theorem mw_122 : Cond.classLink RX9 45 RX7 ∈ LW := LWm (tb1 (List.mem_of_getElem? (i := 122) (by decide +kernel))) rfl
theorem mw_123 : Cond.instantiable RX7 1 ∈ LW := LWm (tb1 (List.mem_of_getElem? (i := 123) (by decide +kernel))) rfl
theorem mw_124 : Cond.methodLinkNest RX9 47 yX7_init RX9 ∈ NW := NWm (tb1 (List.mem_of_getElem? (i := 124) (by decide +kernel))) rfl
theorem mw_125 : Cond.instanceMethod yX7_init ∈ LW := LWm (tb1 (List.mem_of_getElem? (i := 125) (by decide +kernel))) rfl
theorem mw_126 : Cond.code yX7_init cX7_init 2 none ∈ LW := LWm (tb1 (List.mem_of_getElem? (i := 126) (by decide +kernel))) rfl
theorem mw_127 : Cond.methodLink RX7 3 ⟨"java/lang/Object", "<init>", "()V"⟩ ∈ LW := LWm (tb1 (List.mem_of_getElem? (i := 127) (by decide +kernel))) rfl
theorem mw_128 : Cond.fieldLink RX7 9 "TinRoofScore$Ranking" "print" "LTinRoofScore$Print;" ∈ LW := LWm (tb1 (List.mem_of_getElem? (i := 128) (by decide +kernel))) rfl
theorem mw_132 : Cond.classLink RX9 52 RX2 ∈ LW := LWm (tb1 (List.mem_of_getElem? (i := 132) (by decide +kernel))) rfl
theorem mw_133 : Cond.instantiable RX2 3 ∈ LW := LWm (tb1 (List.mem_of_getElem? (i := 133) (by decide +kernel))) rfl
theorem mw_134 : Cond.methodLinkNest RX9 54 yX2_init RX9 ∈ NW := NWm (tb1 (List.mem_of_getElem? (i := 134) (by decide +kernel))) rfl
theorem mw_135 : Cond.instanceMethod yX2_init ∈ LW := LWm (tb1 (List.mem_of_getElem? (i := 135) (by decide +kernel))) rfl
theorem mw_136 : Cond.code yX2_init cX2_init 2 none ∈ LW := LWm (tb1 (List.mem_of_getElem? (i := 136) (by decide +kernel))) rfl
theorem mw_137 : Cond.methodLink RX2 3 ⟨"java/lang/Object", "<init>", "()V"⟩ ∈ LW := LWm (tb1 (List.mem_of_getElem? (i := 137) (by decide +kernel))) rfl
theorem mw_138 : Cond.fieldLink RX2 19 "TinRoofScore$Line" "print" "LTinRoofScore$Print;" ∈ LW := LWm (tb1 (List.mem_of_getElem? (i := 138) (by decide +kernel))) rfl
theorem mw_139 : Cond.fieldLink RX2 9 "TinRoofScore$Line" "signs" "[C" ∈ LW := LWm (tb1 (List.mem_of_getElem? (i := 139) (by decide +kernel))) rfl
theorem mw_140 : Cond.fieldLink RX2 15 "TinRoofScore$Line" "length" "I" ∈ LW := LWm (tb1 (List.mem_of_getElem? (i := 140) (by decide +kernel))) rfl
theorem mw_148 : Cond.arrayClass .char ∈ LW := LWm (tb1 (List.mem_of_getElem? (i := 148) (by decide +kernel))) rfl
theorem mw_149 : Cond.classLink RX9 59 RX8 ∈ LW := LWm (tb1 (List.mem_of_getElem? (i := 149) (by decide +kernel))) rfl
theorem mw_150 : Cond.instantiable RX8 7 ∈ LW := LWm (tb1 (List.mem_of_getElem? (i := 150) (by decide +kernel))) rfl
theorem mw_151 : Cond.methodLinkNest RX9 61 yX8_init RX9 ∈ NW := NWm (tb1 (List.mem_of_getElem? (i := 151) (by decide +kernel))) rfl
theorem mw_152 : Cond.instanceMethod yX8_init ∈ LW := LWm (tb1 (List.mem_of_getElem? (i := 152) (by decide +kernel))) rfl
theorem mw_153 : Cond.code yX8_init cX8_init 1 none ∈ LW := LWm (tb1 (List.mem_of_getElem? (i := 153) (by decide +kernel))) rfl
theorem mw_154 : Cond.methodLink RX8 3 ⟨"java/lang/Object", "<init>", "()V"⟩ ∈ LW := LWm (tb1 (List.mem_of_getElem? (i := 154) (by decide +kernel))) rfl
theorem mw_155 : Cond.classLink RX8 15 RX4 ∈ LW := LWm (tb1 (List.mem_of_getElem? (i := 155) (by decide +kernel))) rfl
theorem mw_157 : Cond.fieldLink RX8 9 "TinRoofScore$Text" "signs" "[C" ∈ LW := LWm (tb1 (List.mem_of_getElem? (i := 157) (by decide +kernel))) rfl
theorem mw_158 : Cond.fieldLink RX8 17 "TinRoofScore$Text" "orders" "[LTinRoofScore$Order;" ∈ LW := LWm (tb1 (List.mem_of_getElem? (i := 158) (by decide +kernel))) rfl
theorem mw_159 : Cond.fieldLink RX8 21 "TinRoofScore$Text" "numbers" "[I" ∈ LW := LWm (tb1 (List.mem_of_getElem? (i := 159) (by decide +kernel))) rfl
theorem mw_160 : Cond.fieldLink RX8 25 "TinRoofScore$Text" "length" "I" ∈ LW := LWm (tb1 (List.mem_of_getElem? (i := 160) (by decide +kernel))) rfl
theorem mw_161 : Cond.fieldLink RX8 29 "TinRoofScore$Text" "position" "I" ∈ LW := LWm (tb1 (List.mem_of_getElem? (i := 161) (by decide +kernel))) rfl
theorem mw_162 : Cond.fieldLink RX8 32 "TinRoofScore$Text" "count" "I" ∈ LW := LWm (tb1 (List.mem_of_getElem? (i := 162) (by decide +kernel))) rfl
theorem mw_163 : Cond.fieldLink RX8 35 "TinRoofScore$Text" "error" "I" ∈ LW := LWm (tb1 (List.mem_of_getElem? (i := 163) (by decide +kernel))) rfl
theorem mw_179 : Cond.classLink RX9 66 RX0 ∈ LW := LWm (tb1 (List.mem_of_getElem? (i := 179) (by decide +kernel))) rfl
theorem mw_180 : Cond.instantiable RX0 3 ∈ LW := LWm (tb1 (List.mem_of_getElem? (i := 180) (by decide +kernel))) rfl
theorem mw_181 : Cond.methodLinkNest RX9 68 yX0_init RX9 ∈ NW := NWm (tb1 (List.mem_of_getElem? (i := 181) (by decide +kernel))) rfl
theorem mw_182 : Cond.instanceMethod yX0_init ∈ LW := LWm (tb1 (List.mem_of_getElem? (i := 182) (by decide +kernel))) rfl
theorem mw_183 : Cond.code yX0_init cX0_init 2 none ∈ LW := LWm (tb1 (List.mem_of_getElem? (i := 183) (by decide +kernel))) rfl
theorem mw_184 : Cond.methodLink RX0 3 ⟨"java/lang/Object", "<init>", "()V"⟩ ∈ LW := LWm (tb1 (List.mem_of_getElem? (i := 184) (by decide +kernel))) rfl
theorem mw_185 : Cond.classLink RX0 9 RX5 ∈ LW := LWm (tb1 (List.mem_of_getElem? (i := 185) (by decide +kernel))) rfl
theorem mw_187 : Cond.methodLinkNest RX0 24 yX5_init RX9 ∈ NW := NWm (tb1 (List.mem_of_getElem? (i := 187) (by decide +kernel))) rfl
theorem mw_188 : Cond.fieldLink RX0 11 "TinRoofScore$History" "pages" "[LTinRoofScore$Print;" ∈ LW := LWm (tb1 (List.mem_of_getElem? (i := 188) (by decide +kernel))) rfl
theorem mw_189 : Cond.fieldLink RX0 17 "TinRoofScore$History" "next" "I" ∈ LW := LWm (tb1 (List.mem_of_getElem? (i := 189) (by decide +kernel))) rfl
theorem mw_190 : Cond.fieldLink RX0 21 "TinRoofScore$History" "count" "I" ∈ LW := LWm (tb1 (List.mem_of_getElem? (i := 190) (by decide +kernel))) rfl
theorem mw_198 : Cond.fieldLink RX9 10 "TinRoofScore" "print" "LTinRoofScore$Print;" ∈ LW := LWm (tb1 (List.mem_of_getElem? (i := 198) (by decide +kernel))) rfl
theorem mw_199 : Cond.fieldLink RX9 16 "TinRoofScore" "saved" "LTinRoofScore$Print;" ∈ LW := LWm (tb1 (List.mem_of_getElem? (i := 199) (by decide +kernel))) rfl
theorem mw_200 : Cond.fieldLink RX9 19 "TinRoofScore" "beforeText" "LTinRoofScore$Print;" ∈ LW := LWm (tb1 (List.mem_of_getElem? (i := 200) (by decide +kernel))) rfl
theorem mw_201 : Cond.fieldLink RX9 27 "TinRoofScore" "judge" "LTinRoofScore$Judge;" ∈ LW := LWm (tb1 (List.mem_of_getElem? (i := 201) (by decide +kernel))) rfl
theorem mw_202 : Cond.fieldLink RX9 34 "TinRoofScore" "proof" "LTinRoofScore$Proof;" ∈ LW := LWm (tb1 (List.mem_of_getElem? (i := 202) (by decide +kernel))) rfl
theorem mw_203 : Cond.fieldLink RX9 41 "TinRoofScore" "melody" "LTinRoofScore$Melody;" ∈ LW := LWm (tb1 (List.mem_of_getElem? (i := 203) (by decide +kernel))) rfl
theorem mw_204 : Cond.fieldLink RX9 48 "TinRoofScore" "ranking" "LTinRoofScore$Ranking;" ∈ LW := LWm (tb1 (List.mem_of_getElem? (i := 204) (by decide +kernel))) rfl
theorem mw_205 : Cond.fieldLink RX9 55 "TinRoofScore" "written" "LTinRoofScore$Line;" ∈ LW := LWm (tb1 (List.mem_of_getElem? (i := 205) (by decide +kernel))) rfl
theorem mw_206 : Cond.fieldLink RX9 62 "TinRoofScore" "text" "LTinRoofScore$Text;" ∈ LW := LWm (tb1 (List.mem_of_getElem? (i := 206) (by decide +kernel))) rfl
theorem mw_207 : Cond.fieldLink RX9 69 "TinRoofScore" "history" "LTinRoofScore$History;" ∈ LW := LWm (tb1 (List.mem_of_getElem? (i := 207) (by decide +kernel))) rfl
theorem mw_208 : Cond.fieldLink RX9 73 "TinRoofScore" "isSaved" "Z" ∈ LW := LWm (tb1 (List.mem_of_getElem? (i := 208) (by decide +kernel))) rfl
theorem mw_232 : Cond.methodLink RL 127 yL_cell ∈ LW := LWm (tb1 (List.mem_of_getElem? (i := 232) (by decide +kernel))) rfl
theorem mw_233 : Cond.static yL_cell ∈ LW := LWm (tb1 (List.mem_of_getElem? (i := 233) (by decide +kernel))) rfl
theorem mw_234 : Cond.code yL_cell cL_cell 2 (some .int) ∈ LW := LWm (tb1 (List.mem_of_getElem? (i := 234) rfl)) rfl
theorem mw_236 : Cond.methodLink RL 131 yL_bar ∈ LW := LWm (tb1 (List.mem_of_getElem? (i := 236) (by decide +kernel))) rfl
theorem mw_237 : Cond.static yL_bar ∈ LW := LWm (tb1 (List.mem_of_getElem? (i := 237) (by decide +kernel))) rfl
theorem mw_238 : Cond.codeWith yL_bar cL_bar 3 (some .int) [(0, 5, 6, 14), (0, 5, 9, 16)] ∈ LW := LWm (tb1 (List.mem_of_getElem? (i := 238) rfl)) rfl
theorem mw_239 : Cond.classLink RL 14 "java/lang/IllegalArgumentException" ∈ LW := LWm (tb1 (List.mem_of_getElem? (i := 239) (by decide +kernel))) rfl
theorem mw_240 : Cond.classLink RL 16 "java/lang/UnsupportedOperationException" ∈ LW := LWm (tb2 (List.mem_of_getElem? (i := 0) (by decide +kernel))) rfl
theorem mw_241 : Cond.methodLink RL 8 yX9_bar ∈ LW := LWm (tb2 (List.mem_of_getElem? (i := 1) (by decide +kernel))) rfl
theorem mw_242 : Cond.instanceMethod yX9_bar ∈ LW := LWm (tb2 (List.mem_of_getElem? (i := 2) (by decide +kernel))) rfl
theorem mw_243 : Cond.selects RX9 yX9_bar yX9_bar ∈ LW := LWm (tb2 (List.mem_of_getElem? (i := 3) (by decide +kernel))) rfl
theorem mw_244 : Cond.code yX9_bar cX9_bar 2 (some .int) ∈ LW := LWm (tb2 (List.mem_of_getElem? (i := 4) (by decide +kernel))) rfl
theorem mw_245 : Cond.fieldLink RX9 77 "TinRoofScore$Order" "BAR" "LTinRoofScore$Order;" ∈ LW := LWm (tb2 (List.mem_of_getElem? (i := 5) (by decide +kernel))) rfl
theorem mw_247 : Cond.methodLink RX9 83 yX9_change ∈ LW := LWm (tb2 (List.mem_of_getElem? (i := 7) (by decide +kernel))) rfl
theorem mw_249 : Cond.instanceMethod yX9_change ∈ LW := LWm (tb2 (List.mem_of_getElem? (i := 9) (by decide +kernel))) rfl
theorem mw_250 : Cond.code yX9_change cX9_change 6 (some .int) ∈ LW := LWm (tb2 (List.mem_of_getElem? (i := 10) (by decide +kernel))) rfl
theorem mw_251 : Cond.methodLinkNest RX9 357 yX1_verdict RX9 ∈ NW := NWm (tb2 (List.mem_of_getElem? (i := 11) (by decide +kernel))) rfl
theorem mw_253 : Cond.instanceMethod yX1_verdict ∈ LW := LWm (tb2 (List.mem_of_getElem? (i := 13) (by decide +kernel))) rfl
theorem mw_254 : Cond.code yX1_verdict cX1_verdict 5 (some .int) ∈ LW := LWm (tb2 (List.mem_of_getElem? (i := 14) (by decide +kernel))) rfl
theorem mw_255 : Cond.fieldLink RX1 22 "TinRoofScore$Order" "BAR" "LTinRoofScore$Order;" ∈ LW := LWm (tb2 (List.mem_of_getElem? (i := 15) (by decide +kernel))) rfl
theorem mw_256 : Cond.methodLink RX1 28 yX1_verdictOnBar ∈ LW := LWm (tb2 (List.mem_of_getElem? (i := 16) (by decide +kernel))) rfl
theorem mw_258 : Cond.instanceMethod yX1_verdictOnBar ∈ LW := LWm (tb2 (List.mem_of_getElem? (i := 18) (by decide +kernel))) rfl
theorem mw_259 : Cond.code yX1_verdictOnBar cX1_verdictOnBar 2 (some .int) ∈ LW := LWm (tb2 (List.mem_of_getElem? (i := 19) (by decide +kernel))) rfl
theorem mw_260 : Cond.methodLinkNest RX1 89 yX9_isWithin RX9 ∈ NW := NWm (tb2 (List.mem_of_getElem? (i := 20) (by decide +kernel))) rfl
theorem mw_261 : Cond.static yX9_isWithin ∈ LW := LWm (tb2 (List.mem_of_getElem? (i := 21) (by decide +kernel))) rfl
theorem mw_262 : Cond.code yX9_isWithin cX9_isWithin 3 (some .boolean) ∈ LW := LWm (tb2 (List.mem_of_getElem? (i := 22) (by decide +kernel))) rfl
theorem mw_263 : Cond.methodLinkNest RX1 70 yX5_countOfBars RX9 ∈ NW := NWm (tb2 (List.mem_of_getElem? (i := 23) (by decide +kernel))) rfl
theorem mw_265 : Cond.instanceMethod yX5_countOfBars ∈ LW := LWm (tb2 (List.mem_of_getElem? (i := 25) (by decide +kernel))) rfl
theorem mw_266 : Cond.code yX5_countOfBars cX5_countOfBars 1 (some .int) ∈ LW := LWm (tb2 (List.mem_of_getElem? (i := 26) (by decide +kernel))) rfl
theorem mw_267 : Cond.methodLink RX1 73 yX1_refuse ∈ LW := LWm (tb2 (List.mem_of_getElem? (i := 27) (by decide +kernel))) rfl
theorem mw_269 : Cond.instanceMethod yX1_refuse ∈ LW := LWm (tb2 (List.mem_of_getElem? (i := 29) (by decide +kernel))) rfl
theorem mw_270 : Cond.code yX1_refuse cX1_refuse 3 (some .int) ∈ LW := LWm (tb2 (List.mem_of_getElem? (i := 30) (by decide +kernel))) rfl
theorem mw_271 : Cond.fieldLink RX1 32 "TinRoofScore$Order" "KEY" "LTinRoofScore$Order;" ∈ LW := LWm (tb2 (List.mem_of_getElem? (i := 31) (by decide +kernel))) rfl
theorem mw_273 : Cond.methodLinkNest RX1 35 yX5_keyOf RX9 ∈ NW := NWm (tb2 (List.mem_of_getElem? (i := 33) (by decide +kernel))) rfl
theorem mw_275 : Cond.instanceMethod yX5_keyOf ∈ LW := LWm (tb2 (List.mem_of_getElem? (i := 35) (by decide +kernel))) rfl
theorem mw_276 : Cond.code yX5_keyOf cX5_keyOf 2 (some .int) ∈ LW := LWm (tb2 (List.mem_of_getElem? (i := 36) (by decide +kernel))) rfl
theorem mw_277 : Cond.methodLinkNest RX5 54 yX9_cell RX9 ∈ NW := NWm (tb2 (List.mem_of_getElem? (i := 37) (by decide +kernel))) rfl
theorem mw_278 : Cond.static yX9_cell ∈ LW := LWm (tb2 (List.mem_of_getElem? (i := 38) (by decide +kernel))) rfl
theorem mw_279 : Cond.code yX9_cell cX9_cell 2 (some .int) ∈ LW := LWm (tb2 (List.mem_of_getElem? (i := 39) (by decide +kernel))) rfl
theorem mw_280 : Cond.methodLink RX1 40 yX1_verdictOnTin ∈ LW := LWm (tb2 (List.mem_of_getElem? (i := 40) (by decide +kernel))) rfl
theorem mw_282 : Cond.instanceMethod yX1_verdictOnTin ∈ LW := LWm (tb2 (List.mem_of_getElem? (i := 42) (by decide +kernel))) rfl
theorem mw_283 : Cond.code yX1_verdictOnTin cX1_verdictOnTin 5 (some .int) ∈ LW := LWm (tb2 (List.mem_of_getElem? (i := 43) (by decide +kernel))) rfl
theorem mw_284 : Cond.methodLinkNest RX1 93 yX9_isTin RX9 ∈ NW := NWm (tb2 (List.mem_of_getElem? (i := 44) (by decide +kernel))) rfl
theorem mw_285 : Cond.static yX9_isTin ∈ LW := LWm (tb2 (List.mem_of_getElem? (i := 45) (by decide +kernel))) rfl
theorem mw_286 : Cond.code yX9_isTin cX9_isTin 1 (some .boolean) ∈ LW := LWm (tb2 (List.mem_of_getElem? (i := 46) (by decide +kernel))) rfl
theorem mw_287 : Cond.methodLink RX9 116 yX9_isWithin ∈ LW := LWm (tb2 (List.mem_of_getElem? (i := 47) (by decide +kernel))) rfl
theorem mw_288 : Cond.fieldLink RX1 44 "TinRoofScore$Order" "LEAK" "LTinRoofScore$Order;" ∈ LW := LWm (tb2 (List.mem_of_getElem? (i := 48) (by decide +kernel))) rfl
theorem mw_290 : Cond.methodLinkNest RX1 47 yX5_leakOf RX9 ∈ NW := NWm (tb2 (List.mem_of_getElem? (i := 50) (by decide +kernel))) rfl
theorem mw_292 : Cond.instanceMethod yX5_leakOf ∈ LW := LWm (tb2 (List.mem_of_getElem? (i := 52) (by decide +kernel))) rfl
theorem mw_293 : Cond.code yX5_leakOf cX5_leakOf 2 (some .int) ∈ LW := LWm (tb2 (List.mem_of_getElem? (i := 53) (by decide +kernel))) rfl
theorem mw_294 : Cond.fieldLink RX1 50 "TinRoofScore$Order" "DROP" "LTinRoofScore$Order;" ∈ LW := LWm (tb2 (List.mem_of_getElem? (i := 54) (by decide +kernel))) rfl
theorem mw_296 : Cond.methodLink RX1 53 yX1_verdictOnDrop ∈ LW := LWm (tb2 (List.mem_of_getElem? (i := 56) (by decide +kernel))) rfl
theorem mw_298 : Cond.instanceMethod yX1_verdictOnDrop ∈ LW := LWm (tb2 (List.mem_of_getElem? (i := 58) (by decide +kernel))) rfl
theorem mw_299 : Cond.code yX1_verdictOnDrop cX1_verdictOnDrop 4 (some .int) ∈ LW := LWm (tb2 (List.mem_of_getElem? (i := 59) (by decide +kernel))) rfl
theorem mw_300 : Cond.methodLink RX1 97 yX1_verdictOnRoom ∈ LW := LWm (tb2 (List.mem_of_getElem? (i := 60) (by decide +kernel))) rfl
theorem mw_302 : Cond.instanceMethod yX1_verdictOnRoom ∈ LW := LWm (tb2 (List.mem_of_getElem? (i := 62) (by decide +kernel))) rfl
theorem mw_303 : Cond.code yX1_verdictOnRoom cX1_verdictOnRoom 3 (some .int) ∈ LW := LWm (tb2 (List.mem_of_getElem? (i := 63) (by decide +kernel))) rfl
theorem mw_304 : Cond.methodLinkNest RX1 66 yX5_countOfSounds RX9 ∈ NW := NWm (tb2 (List.mem_of_getElem? (i := 64) (by decide +kernel))) rfl
theorem mw_306 : Cond.instanceMethod yX5_countOfSounds ∈ LW := LWm (tb2 (List.mem_of_getElem? (i := 66) (by decide +kernel))) rfl
theorem mw_307 : Cond.code yX5_countOfSounds cX5_countOfSounds 1 (some .int) ∈ LW := LWm (tb2 (List.mem_of_getElem? (i := 67) (by decide +kernel))) rfl
theorem mw_308 : Cond.methodLinkNest RX1 100 yX5_freeBeats RX9 ∈ NW := NWm (tb2 (List.mem_of_getElem? (i := 68) (by decide +kernel))) rfl
theorem mw_310 : Cond.instanceMethod yX5_freeBeats ∈ LW := LWm (tb2 (List.mem_of_getElem? (i := 70) (by decide +kernel))) rfl
theorem mw_311 : Cond.code yX5_freeBeats cX5_freeBeats 1 (some .int) ∈ LW := LWm (tb2 (List.mem_of_getElem? (i := 71) (by decide +kernel))) rfl
theorem mw_312 : Cond.methodLink RX5 66 yX5_startOfBar ∈ LW := LWm (tb2 (List.mem_of_getElem? (i := 72) (by decide +kernel))) rfl
theorem mw_314 : Cond.instanceMethod yX5_startOfBar ∈ LW := LWm (tb2 (List.mem_of_getElem? (i := 74) (by decide +kernel))) rfl
theorem mw_315 : Cond.code yX5_startOfBar cX5_startOfBar 4 (some .int) ∈ LW := LWm (tb2 (List.mem_of_getElem? (i := 75) (by decide +kernel))) rfl
theorem mw_316 : Cond.methodLink RX5 70 yX5_startOfSound ∈ LW := LWm (tb2 (List.mem_of_getElem? (i := 76) (by decide +kernel))) rfl
theorem mw_318 : Cond.instanceMethod yX5_startOfSound ∈ LW := LWm (tb2 (List.mem_of_getElem? (i := 78) (by decide +kernel))) rfl
theorem mw_319 : Cond.code yX5_startOfSound cX5_startOfSound 4 (some .int) ∈ LW := LWm (tb2 (List.mem_of_getElem? (i := 79) (by decide +kernel))) rfl
theorem mw_320 : Cond.fieldLink RX1 57 "TinRoofScore$Order" "REST" "LTinRoofScore$Order;" ∈ LW := LWm (tb2 (List.mem_of_getElem? (i := 80) (by decide +kernel))) rfl
theorem mw_322 : Cond.methodLink RX1 60 yX1_verdictOnRest ∈ LW := LWm (tb2 (List.mem_of_getElem? (i := 82) (by decide +kernel))) rfl
theorem mw_324 : Cond.instanceMethod yX1_verdictOnRest ∈ LW := LWm (tb2 (List.mem_of_getElem? (i := 84) (by decide +kernel))) rfl
theorem mw_325 : Cond.code yX1_verdictOnRest cX1_verdictOnRest 2 (some .int) ∈ LW := LWm (tb2 (List.mem_of_getElem? (i := 85) (by decide +kernel))) rfl
theorem mw_326 : Cond.fieldLink RX1 63 "TinRoofScore$Order" "LIFT" "LTinRoofScore$Order;" ∈ LW := LWm (tb2 (List.mem_of_getElem? (i := 86) (by decide +kernel))) rfl
theorem mw_328 : Cond.fieldLink RX1 77 "TinRoofScore$Order" "LIMIT" "LTinRoofScore$Order;" ∈ LW := LWm (tb2 (List.mem_of_getElem? (i := 88) (by decide +kernel))) rfl
theorem mw_330 : Cond.methodLink RX1 80 yX1_verdictOnLimit ∈ LW := LWm (tb2 (List.mem_of_getElem? (i := 90) (by decide +kernel))) rfl
theorem mw_332 : Cond.instanceMethod yX1_verdictOnLimit ∈ LW := LWm (tb2 (List.mem_of_getElem? (i := 92) (by decide +kernel))) rfl
theorem mw_333 : Cond.code yX1_verdictOnLimit cX1_verdictOnLimit 2 (some .int) ∈ LW := LWm (tb2 (List.mem_of_getElem? (i := 93) (by decide +kernel))) rfl
theorem mw_334 : Cond.methodLinkNest RX1 103 yX5_limitNow RX9 ∈ NW := NWm (tb2 (List.mem_of_getElem? (i := 94) (by decide +kernel))) rfl
theorem mw_336 : Cond.instanceMethod yX5_limitNow ∈ LW := LWm (tb2 (List.mem_of_getElem? (i := 96) (by decide +kernel))) rfl
theorem mw_337 : Cond.code yX5_limitNow cX5_limitNow 1 (some .int) ∈ LW := LWm (tb2 (List.mem_of_getElem? (i := 97) (by decide +kernel))) rfl
theorem mw_338 : Cond.fieldLink RX1 83 "TinRoofScore$Order" "TUNE" "LTinRoofScore$Order;" ∈ LW := LWm (tb2 (List.mem_of_getElem? (i := 98) (by decide +kernel))) rfl
theorem mw_340 : Cond.methodLink RX1 86 yX1_verdictOnTune ∈ LW := LWm (tb2 (List.mem_of_getElem? (i := 100) (by decide +kernel))) rfl
theorem mw_342 : Cond.instanceMethod yX1_verdictOnTune ∈ LW := LWm (tb2 (List.mem_of_getElem? (i := 102) (by decide +kernel))) rfl
theorem mw_343 : Cond.code yX1_verdictOnTune cX1_verdictOnTune 3 (some .int) ∈ LW := LWm (tb2 (List.mem_of_getElem? (i := 103) (by decide +kernel))) rfl
theorem mw_344 : Cond.methodLinkNest RX1 106 yX5_hasSound RX9 ∈ NW := NWm (tb2 (List.mem_of_getElem? (i := 104) (by decide +kernel))) rfl
theorem mw_346 : Cond.instanceMethod yX5_hasSound ∈ LW := LWm (tb2 (List.mem_of_getElem? (i := 106) (by decide +kernel))) rfl
theorem mw_347 : Cond.code yX5_hasSound cX5_hasSound 2 (some .boolean) ∈ LW := LWm (tb2 (List.mem_of_getElem? (i := 107) (by decide +kernel))) rfl
theorem mw_348 : Cond.methodLinkNest RX5 58 yX9_isWithin RX9 ∈ NW := NWm (tb2 (List.mem_of_getElem? (i := 108) (by decide +kernel))) rfl
theorem mw_349 : Cond.methodLinkNest RX1 109 yX5_isRest RX9 ∈ NW := NWm (tb2 (List.mem_of_getElem? (i := 109) (by decide +kernel))) rfl
theorem mw_351 : Cond.instanceMethod yX5_isRest ∈ LW := LWm (tb2 (List.mem_of_getElem? (i := 111) (by decide +kernel))) rfl
theorem mw_352 : Cond.code yX5_isRest cX5_isRest 2 (some .boolean) ∈ LW := LWm (tb2 (List.mem_of_getElem? (i := 112) (by decide +kernel))) rfl
theorem mw_353 : Cond.methodLinkNest RX1 112 yX5_beatsOf RX9 ∈ NW := NWm (tb2 (List.mem_of_getElem? (i := 113) (by decide +kernel))) rfl
theorem mw_355 : Cond.instanceMethod yX5_beatsOf ∈ LW := LWm (tb2 (List.mem_of_getElem? (i := 115) (by decide +kernel))) rfl
theorem mw_356 : Cond.code yX5_beatsOf cX5_beatsOf 2 (some .int) ∈ LW := LWm (tb2 (List.mem_of_getElem? (i := 116) (by decide +kernel))) rfl
theorem mw_357 : Cond.methodLinkNest RX1 115 yX5_heightOf RX9 ∈ NW := NWm (tb2 (List.mem_of_getElem? (i := 117) (by decide +kernel))) rfl
theorem mw_359 : Cond.instanceMethod yX5_heightOf ∈ LW := LWm (tb2 (List.mem_of_getElem? (i := 119) (by decide +kernel))) rfl
theorem mw_360 : Cond.code yX5_heightOf cX5_heightOf 2 (some .int) ∈ LW := LWm (tb2 (List.mem_of_getElem? (i := 120) (by decide +kernel))) rfl
theorem mw_361 : Cond.methodLink RX9 112 yX9_needPlace ∈ LW := LWm (tb2 (List.mem_of_getElem? (i := 121) (by decide +kernel))) rfl
theorem mw_362 : Cond.static yX9_needPlace ∈ LW := LWm (tb2 (List.mem_of_getElem? (i := 122) (by decide +kernel))) rfl
theorem mw_363 : Cond.code yX9_needPlace cX9_needPlace 1 none ∈ LW := LWm (tb2 (List.mem_of_getElem? (i := 123) (by decide +kernel))) rfl
theorem mw_364 : Cond.classLink RX9 370 "java/lang/IndexOutOfBoundsException" ∈ LW := LWm (tb2 (List.mem_of_getElem? (i := 124) (by decide +kernel))) rfl
theorem mw_365 : Cond.instantiable "java/lang/IndexOutOfBoundsException" 6 ∈ LW := LWm (tb2 (List.mem_of_getElem? (i := 125) (by decide +kernel))) rfl
theorem mw_366 : Cond.castable "java/lang/IndexOutOfBoundsException" "java/lang/IndexOutOfBoundsException" ∈ NW := NWm (tb2 (List.mem_of_getElem? (i := 126) (by decide +kernel))) rfl
theorem mw_367 : Cond.declares ⟨"java/lang/RuntimeException", "<init>", "()V"⟩ ∈ NW := NWm (tb2 (List.mem_of_getElem? (i := 127) (by decide +kernel))) rfl
theorem mw_368 : Cond.declares ⟨"java/lang/RuntimeException", "<init>", "(Ljava/lang/String;)V"⟩ ∈ NW := NWm (tb2 (List.mem_of_getElem? (i := 128) (by decide +kernel))) rfl
theorem mw_369 : Cond.declares ⟨"java/lang/Exception", "<init>", "()V"⟩ ∈ NW := NWm (tb2 (List.mem_of_getElem? (i := 129) (by decide +kernel))) rfl
theorem mw_370 : Cond.declares ⟨"java/lang/Exception", "<init>", "(Ljava/lang/String;)V"⟩ ∈ NW := NWm (tb2 (List.mem_of_getElem? (i := 130) (by decide +kernel))) rfl
theorem mw_371 : Cond.declares ⟨"java/lang/Throwable", "<init>", "()V"⟩ ∈ NW := NWm (tb2 (List.mem_of_getElem? (i := 131) (by decide +kernel))) rfl
theorem mw_372 : Cond.declares ⟨"java/lang/Throwable", "<init>", "(Ljava/lang/String;)V"⟩ ∈ NW := NWm (tb2 (List.mem_of_getElem? (i := 132) (by decide +kernel))) rfl
theorem mw_373 : Cond.selects "java/lang/IndexOutOfBoundsException" ⟨"java/lang/Throwable", "fillInStackTrace", "(I)Ljava/lang/Throwable;"⟩ ⟨"java/lang/Throwable", "fillInStackTrace", "(I)Ljava/lang/Throwable;"⟩ ∈ LW := LWm (tb2 (List.mem_of_getElem? (i := 133) (by decide +kernel))) rfl
theorem mw_374 : Cond.selects "java/lang/IndexOutOfBoundsException" ⟨"java/lang/Throwable", "fillInStackTrace", "()Ljava/lang/Throwable;"⟩ ⟨"java/lang/Throwable", "fillInStackTrace", "()Ljava/lang/Throwable;"⟩ ∈ LW := LWm (tb2 (List.mem_of_getElem? (i := 134) (by decide +kernel))) rfl
theorem mw_385 : Cond.fieldLink "java/lang/Throwable" 198 "java/lang/Throwable" "backtrace" "Ljava/lang/Object;" ∈ LW := LWm (tb2 (List.mem_of_getElem? (i := 145) (by decide +kernel))) rfl
theorem mw_387 : Cond.instanceMethod ⟨"java/lang/Throwable", "<init>", "()V"⟩ ∈ LW := LWm (tb2 (List.mem_of_getElem? (i := 147) (by decide +kernel))) rfl
theorem mw_388 : Cond.code ⟨"java/lang/Throwable", "<init>", "()V"⟩ prog_35_method_1_code 1 none ∈ LW := LWm (tb2 (List.mem_of_getElem? (i := 148) (by decide +kernel))) rfl
theorem mw_389 : Cond.methodLink "java/lang/Throwable" 1 ⟨"java/lang/Object", "<init>", "()V"⟩ ∈ LW := LWm (tb2 (List.mem_of_getElem? (i := 149) (by decide +kernel))) rfl
theorem mw_390 : Cond.fieldLink "java/lang/Throwable" 13 "java/lang/Throwable" "UNASSIGNED_STACK" "[Ljava/lang/StackTraceElement;" ∈ LW := LWm (tb2 (List.mem_of_getElem? (i := 150) (by decide +kernel))) rfl
theorem mw_392 : Cond.fieldLink "java/lang/Throwable" 20 "java/lang/Throwable" "SUPPRESSED_SENTINEL" "Ljava/util/List;" ∈ LW := LWm (tb2 (List.mem_of_getElem? (i := 152) (by decide +kernel))) rfl
theorem mw_394 : Cond.methodLink "java/lang/Throwable" 27 ⟨"java/lang/Throwable", "fillInStackTrace", "()Ljava/lang/Throwable;"⟩ ∈ LW := LWm (tb2 (List.mem_of_getElem? (i := 154) (by decide +kernel))) rfl
theorem mw_395 : Cond.instanceMethod ⟨"java/lang/Throwable", "fillInStackTrace", "()Ljava/lang/Throwable;"⟩ ∈ LW := LWm (tb2 (List.mem_of_getElem? (i := 155) (by decide +kernel))) rfl
theorem mw_397 : Cond.selects "java/lang/ArithmeticException" ⟨"java/lang/Throwable", "fillInStackTrace", "()Ljava/lang/Throwable;"⟩ ⟨"java/lang/Throwable", "fillInStackTrace", "()Ljava/lang/Throwable;"⟩ ∈ LW := LWm (tb2 (List.mem_of_getElem? (i := 157) (by decide +kernel))) rfl
theorem mw_398 : Cond.selects RJx00060 ⟨"java/lang/Throwable", "fillInStackTrace", "()Ljava/lang/Throwable;"⟩ ⟨"java/lang/Throwable", "fillInStackTrace", "()Ljava/lang/Throwable;"⟩ ∈ LW := LWm (tb2 (List.mem_of_getElem? (i := 158) (by decide +kernel))) rfl
theorem mw_399 : Cond.selects "java/lang/IllegalArgumentException" ⟨"java/lang/Throwable", "fillInStackTrace", "()Ljava/lang/Throwable;"⟩ ⟨"java/lang/Throwable", "fillInStackTrace", "()Ljava/lang/Throwable;"⟩ ∈ LW := LWm (tb2 (List.mem_of_getElem? (i := 159) (by decide +kernel))) rfl
theorem mw_400 : Cond.selects "java/lang/IllegalStateException" ⟨"java/lang/Throwable", "fillInStackTrace", "()Ljava/lang/Throwable;"⟩ ⟨"java/lang/Throwable", "fillInStackTrace", "()Ljava/lang/Throwable;"⟩ ∈ LW := LWm (tb2 (List.mem_of_getElem? (i := 160) (by decide +kernel))) rfl
theorem mw_401 : Cond.selects "java/lang/UnsupportedOperationException" ⟨"java/lang/Throwable", "fillInStackTrace", "()Ljava/lang/Throwable;"⟩ ⟨"java/lang/Throwable", "fillInStackTrace", "()Ljava/lang/Throwable;"⟩ ∈ LW := LWm (tb2 (List.mem_of_getElem? (i := 161) (by decide +kernel))) rfl
theorem mw_402 : Cond.selects "java/util/NoSuchElementException" ⟨"java/lang/Throwable", "fillInStackTrace", "()Ljava/lang/Throwable;"⟩ ⟨"java/lang/Throwable", "fillInStackTrace", "()Ljava/lang/Throwable;"⟩ ∈ LW := LWm (tb2 (List.mem_of_getElem? (i := 162) (by decide +kernel))) rfl
theorem mw_404 : Cond.methodLink "java/lang/Throwable" 202 ⟨"java/lang/Throwable", "fillInStackTrace", "(I)Ljava/lang/Throwable;"⟩ ∈ LW := LWm (tb2 (List.mem_of_getElem? (i := 164) (by decide +kernel))) rfl
theorem mw_406 : Cond.instanceMethod ⟨"java/lang/Throwable", "fillInStackTrace", "(I)Ljava/lang/Throwable;"⟩ ∈ LW := LWm (tb2 (List.mem_of_getElem? (i := 166) (by decide +kernel))) rfl
theorem mw_407 : Cond.instantiable "java/lang/Throwable" 6 ∈ LW := LWm (tb2 (List.mem_of_getElem? (i := 167) (by decide +kernel))) rfl
theorem mw_410 : Cond.methodLink RX9 374 ⟨"java/lang/IndexOutOfBoundsException", "<init>", "(Ljava/lang/String;)V"⟩ ∈ LW := LWm (tb2 (List.mem_of_getElem? (i := 170) (by decide +kernel))) rfl
theorem mw_411 : Cond.instanceMethod ⟨"java/lang/IndexOutOfBoundsException", "<init>", "(Ljava/lang/String;)V"⟩ ∈ LW := LWm (tb2 (List.mem_of_getElem? (i := 171) (by decide +kernel))) rfl
theorem mw_412 : Cond.code ⟨"java/lang/IndexOutOfBoundsException", "<init>", "(Ljava/lang/String;)V"⟩ prog_25_method_2_code 2 none ∈ LW := LWm (tb2 (List.mem_of_getElem? (i := 172) (by decide +kernel))) rfl
theorem mw_413 : Cond.methodLink "java/lang/IndexOutOfBoundsException" 7 ⟨"java/lang/RuntimeException", "<init>", "(Ljava/lang/String;)V"⟩ ∈ LW := LWm (tb2 (List.mem_of_getElem? (i := 173) (by decide +kernel))) rfl
theorem mw_414 : Cond.instanceMethod ⟨"java/lang/RuntimeException", "<init>", "(Ljava/lang/String;)V"⟩ ∈ LW := LWm (tb2 (List.mem_of_getElem? (i := 174) (by decide +kernel))) rfl
theorem mw_415 : Cond.code ⟨"java/lang/RuntimeException", "<init>", "(Ljava/lang/String;)V"⟩ prog_29_method_2_code 2 none ∈ LW := LWm (tb2 (List.mem_of_getElem? (i := 175) (by decide +kernel))) rfl
theorem mw_416 : Cond.methodLink "java/lang/RuntimeException" 7 ⟨"java/lang/Exception", "<init>", "(Ljava/lang/String;)V"⟩ ∈ LW := LWm (tb2 (List.mem_of_getElem? (i := 176) (by decide +kernel))) rfl
theorem mw_417 : Cond.instanceMethod ⟨"java/lang/Exception", "<init>", "(Ljava/lang/String;)V"⟩ ∈ LW := LWm (tb2 (List.mem_of_getElem? (i := 177) (by decide +kernel))) rfl
theorem mw_418 : Cond.code ⟨"java/lang/Exception", "<init>", "(Ljava/lang/String;)V"⟩ prog_22_method_2_code 2 none ∈ LW := LWm (tb2 (List.mem_of_getElem? (i := 178) (by decide +kernel))) rfl
theorem mw_419 : Cond.methodLink "java/lang/Exception" 7 ⟨"java/lang/Throwable", "<init>", "(Ljava/lang/String;)V"⟩ ∈ LW := LWm (tb2 (List.mem_of_getElem? (i := 179) (by decide +kernel))) rfl
theorem mw_420 : Cond.instanceMethod ⟨"java/lang/Throwable", "<init>", "(Ljava/lang/String;)V"⟩ ∈ LW := LWm (tb2 (List.mem_of_getElem? (i := 180) (by decide +kernel))) rfl
theorem mw_421 : Cond.code ⟨"java/lang/Throwable", "<init>", "(Ljava/lang/String;)V"⟩ prog_35_method_2_code 2 none ∈ LW := LWm (tb2 (List.mem_of_getElem? (i := 181) (by decide +kernel))) rfl
theorem mw_423 : Cond.fieldLink "java/lang/Throwable" 31 "java/lang/Throwable" "detailMessage" "Ljava/lang/String;" ∈ LW := LWm (tb2 (List.mem_of_getElem? (i := 183) (by decide +kernel))) rfl
theorem mw_424 : Cond.fieldLink "java/lang/Throwable" 7 "java/lang/Throwable" "cause" "Ljava/lang/Throwable;" ∈ LW := LWm (tb2 (List.mem_of_getElem? (i := 184) (by decide +kernel))) rfl
theorem mw_425 : Cond.fieldLink "java/lang/Throwable" 17 "java/lang/Throwable" "stackTrace" "[Ljava/lang/StackTraceElement;" ∈ LW := LWm (tb2 (List.mem_of_getElem? (i := 185) (by decide +kernel))) rfl
theorem mw_426 : Cond.fieldLink "java/lang/Throwable" 24 "java/lang/Throwable" "suppressedExceptions" "Ljava/util/List;" ∈ LW := LWm (tb2 (List.mem_of_getElem? (i := 186) (by decide +kernel))) rfl
theorem mw_435 : Cond.arrayClass .byte ∈ LW := LWm (tb2 (List.mem_of_getElem? (i := 195) (by decide +kernel))) rfl
theorem mw_436 : Cond.methodLink RX9 120 yX9_needRange ∈ LW := LWm (tb2 (List.mem_of_getElem? (i := 196) (by decide +kernel))) rfl
theorem mw_437 : Cond.static yX9_needRange ∈ LW := LWm (tb2 (List.mem_of_getElem? (i := 197) (by decide +kernel))) rfl
theorem mw_438 : Cond.code yX9_needRange cX9_needRange 1 none ∈ LW := LWm (tb2 (List.mem_of_getElem? (i := 198) (by decide +kernel))) rfl
theorem mw_439 : Cond.classLink RX9 375 "java/lang/IllegalArgumentException" ∈ LW := LWm (tb2 (List.mem_of_getElem? (i := 199) (by decide +kernel))) rfl
theorem mw_440 : Cond.instantiable "java/lang/IllegalArgumentException" 6 ∈ LW := LWm (tb2 (List.mem_of_getElem? (i := 200) (by decide +kernel))) rfl
theorem mw_441 : Cond.castable "java/lang/IllegalArgumentException" "java/lang/IllegalArgumentException" ∈ NW := NWm (tb2 (List.mem_of_getElem? (i := 201) (by decide +kernel))) rfl
theorem mw_442 : Cond.selects "java/lang/IllegalArgumentException" ⟨"java/lang/Throwable", "fillInStackTrace", "(I)Ljava/lang/Throwable;"⟩ ⟨"java/lang/Throwable", "fillInStackTrace", "(I)Ljava/lang/Throwable;"⟩ ∈ LW := LWm (tb2 (List.mem_of_getElem? (i := 202) (by decide +kernel))) rfl
theorem mw_449 : Cond.methodLink RX9 379 ⟨"java/lang/IllegalArgumentException", "<init>", "(Ljava/lang/String;)V"⟩ ∈ LW := LWm (tb2 (List.mem_of_getElem? (i := 209) (by decide +kernel))) rfl
theorem mw_450 : Cond.instanceMethod ⟨"java/lang/IllegalArgumentException", "<init>", "(Ljava/lang/String;)V"⟩ ∈ LW := LWm (tb2 (List.mem_of_getElem? (i := 210) (by decide +kernel))) rfl
theorem mw_451 : Cond.code ⟨"java/lang/IllegalArgumentException", "<init>", "(Ljava/lang/String;)V"⟩ prog_23_method_2_code 2 none ∈ LW := LWm (tb2 (List.mem_of_getElem? (i := 211) (by decide +kernel))) rfl
theorem mw_452 : Cond.methodLink "java/lang/IllegalArgumentException" 7 ⟨"java/lang/RuntimeException", "<init>", "(Ljava/lang/String;)V"⟩ ∈ LW := LWm (tb2 (List.mem_of_getElem? (i := 212) (by decide +kernel))) rfl
theorem mw_455 : Cond.methodLink RX9 273 yX9_needConsent ∈ LW := LWm (tb2 (List.mem_of_getElem? (i := 215) (by decide +kernel))) rfl
theorem mw_456 : Cond.static yX9_needConsent ∈ LW := LWm (tb2 (List.mem_of_getElem? (i := 216) (by decide +kernel))) rfl
theorem mw_457 : Cond.code yX9_needConsent cX9_needConsent 1 none ∈ LW := LWm (tb2 (List.mem_of_getElem? (i := 217) (by decide +kernel))) rfl
theorem mw_458 : Cond.classLink RX9 380 "java/lang/UnsupportedOperationException" ∈ LW := LWm (tb2 (List.mem_of_getElem? (i := 218) (by decide +kernel))) rfl
theorem mw_459 : Cond.instantiable "java/lang/UnsupportedOperationException" 6 ∈ LW := LWm (tb2 (List.mem_of_getElem? (i := 219) (by decide +kernel))) rfl
theorem mw_460 : Cond.castable "java/lang/UnsupportedOperationException" "java/lang/UnsupportedOperationException" ∈ NW := NWm (tb2 (List.mem_of_getElem? (i := 220) (by decide +kernel))) rfl
theorem mw_461 : Cond.selects "java/lang/UnsupportedOperationException" ⟨"java/lang/Throwable", "fillInStackTrace", "(I)Ljava/lang/Throwable;"⟩ ⟨"java/lang/Throwable", "fillInStackTrace", "(I)Ljava/lang/Throwable;"⟩ ∈ LW := LWm (tb2 (List.mem_of_getElem? (i := 221) (by decide +kernel))) rfl
theorem mw_468 : Cond.methodLink RX9 384 ⟨"java/lang/UnsupportedOperationException", "<init>", "(Ljava/lang/String;)V"⟩ ∈ LW := LWm (tb2 (List.mem_of_getElem? (i := 228) (by decide +kernel))) rfl
theorem mw_469 : Cond.instanceMethod ⟨"java/lang/UnsupportedOperationException", "<init>", "(Ljava/lang/String;)V"⟩ ∈ LW := LWm (tb2 (List.mem_of_getElem? (i := 229) (by decide +kernel))) rfl
theorem mw_470 : Cond.code ⟨"java/lang/UnsupportedOperationException", "<init>", "(Ljava/lang/String;)V"⟩ prog_36_method_2_code 2 none ∈ LW := LWm (tb2 (List.mem_of_getElem? (i := 230) (by decide +kernel))) rfl
theorem mw_471 : Cond.methodLink "java/lang/UnsupportedOperationException" 7 ⟨"java/lang/RuntimeException", "<init>", "(Ljava/lang/String;)V"⟩ ∈ LW := LWm (tb2 (List.mem_of_getElem? (i := 231) (by decide +kernel))) rfl
theorem mw_474 : Cond.methodLinkNest RX9 276 yX0_keep RX9 ∈ NW := NWm (tb2 (List.mem_of_getElem? (i := 234) (by decide +kernel))) rfl
theorem mw_476 : Cond.instanceMethod yX0_keep ∈ LW := LWm (tb2 (List.mem_of_getElem? (i := 236) (by decide +kernel))) rfl
theorem mw_477 : Cond.code yX0_keep cX0_keep 3 none ∈ LW := LWm (tb2 (List.mem_of_getElem? (i := 237) (by decide +kernel))) rfl
theorem mw_478 : Cond.methodLink RX0 25 yX0_pageAt ∈ LW := LWm (tb2 (List.mem_of_getElem? (i := 238) (by decide +kernel))) rfl
theorem mw_480 : Cond.instanceMethod yX0_pageAt ∈ LW := LWm (tb3 (List.mem_of_getElem? (i := 0) (by decide +kernel))) rfl
theorem mw_481 : Cond.code yX0_pageAt cX0_pageAt 2 (some (.object "TinRoofScore$Print")) ∈ LW := LWm (tb3 (List.mem_of_getElem? (i := 1) (by decide +kernel))) rfl
theorem mw_482 : Cond.methodLinkNest RX0 29 yX5_become RX9 ∈ NW := NWm (tb3 (List.mem_of_getElem? (i := 2) (by decide +kernel))) rfl
theorem mw_484 : Cond.instanceMethod yX5_become ∈ LW := LWm (tb3 (List.mem_of_getElem? (i := 4) (by decide +kernel))) rfl
theorem mw_485 : Cond.code yX5_become cX5_become 2 none ∈ LW := LWm (tb3 (List.mem_of_getElem? (i := 5) (by decide +kernel))) rfl
theorem mw_486 : Cond.methodLinkNest RX5 46 yX9_copyRow RX9 ∈ NW := NWm (tb3 (List.mem_of_getElem? (i := 6) (by decide +kernel))) rfl
theorem mw_487 : Cond.static yX9_copyRow ∈ LW := LWm (tb3 (List.mem_of_getElem? (i := 7) (by decide +kernel))) rfl
theorem mw_488 : Cond.code yX9_copyRow cX9_copyRow 3 none ∈ LW := LWm (tb3 (List.mem_of_getElem? (i := 8) (by decide +kernel))) rfl
theorem mw_489 : Cond.methodLink RX9 395 yX9_cell ∈ LW := LWm (tb3 (List.mem_of_getElem? (i := 9) (by decide +kernel))) rfl
theorem mw_490 : Cond.methodLink RX9 399 yX9_put ∈ LW := LWm (tb3 (List.mem_of_getElem? (i := 10) (by decide +kernel))) rfl
theorem mw_491 : Cond.static yX9_put ∈ LW := LWm (tb3 (List.mem_of_getElem? (i := 11) (by decide +kernel))) rfl
theorem mw_492 : Cond.code yX9_put cX9_put 3 none ∈ LW := LWm (tb3 (List.mem_of_getElem? (i := 12) (by decide +kernel))) rfl
theorem mw_493 : Cond.methodLink RX0 33 yJ9_min_7cf53 ∈ LW := LWm (tb3 (List.mem_of_getElem? (i := 13) (by decide +kernel))) rfl
theorem mw_494 : Cond.static yJ9_min_7cf53 ∈ LW := LWm (tb3 (List.mem_of_getElem? (i := 14) (by decide +kernel))) rfl
theorem mw_495 : Cond.code yJ9_min_7cf53 cJ9_min_7cf53 2 (some .int) ∈ LW := LWm (tb3 (List.mem_of_getElem? (i := 15) (by decide +kernel))) rfl
theorem mw_496 : Cond.methodLinkNest RX9 360 yX1_carryOut RX9 ∈ NW := NWm (tb3 (List.mem_of_getElem? (i := 16) (by decide +kernel))) rfl
theorem mw_498 : Cond.instanceMethod yX1_carryOut ∈ LW := LWm (tb3 (List.mem_of_getElem? (i := 18) (by decide +kernel))) rfl
theorem mw_499 : Cond.code yX1_carryOut cX1_carryOut 5 (some .int) ∈ LW := LWm (tb3 (List.mem_of_getElem? (i := 19) (by decide +kernel))) rfl
theorem mw_500 : Cond.methodLinkNest RX1 118 yX5_addBar RX9 ∈ NW := NWm (tb3 (List.mem_of_getElem? (i := 20) (by decide +kernel))) rfl
theorem mw_502 : Cond.instanceMethod yX5_addBar ∈ LW := LWm (tb3 (List.mem_of_getElem? (i := 22) (by decide +kernel))) rfl
theorem mw_503 : Cond.code yX5_addBar cX5_addBar 2 (some .int) ∈ LW := LWm (tb3 (List.mem_of_getElem? (i := 23) (by decide +kernel))) rfl
theorem mw_504 : Cond.methodLinkNest RX5 50 yX9_put RX9 ∈ NW := NWm (tb3 (List.mem_of_getElem? (i := 24) (by decide +kernel))) rfl
theorem mw_505 : Cond.methodLinkNest RX1 121 yX5_setKey RX9 ∈ NW := NWm (tb3 (List.mem_of_getElem? (i := 25) (by decide +kernel))) rfl
theorem mw_507 : Cond.instanceMethod yX5_setKey ∈ LW := LWm (tb3 (List.mem_of_getElem? (i := 27) (by decide +kernel))) rfl
theorem mw_508 : Cond.code yX5_setKey cX5_setKey 4 (some .int) ∈ LW := LWm (tb3 (List.mem_of_getElem? (i := 28) (by decide +kernel))) rfl
theorem mw_509 : Cond.methodLinkNest RX1 124 yX5_setLeak RX9 ∈ NW := NWm (tb3 (List.mem_of_getElem? (i := 29) (by decide +kernel))) rfl
theorem mw_511 : Cond.instanceMethod yX5_setLeak ∈ LW := LWm (tb3 (List.mem_of_getElem? (i := 31) (by decide +kernel))) rfl
theorem mw_512 : Cond.code yX5_setLeak cX5_setLeak 4 (some .int) ∈ LW := LWm (tb3 (List.mem_of_getElem? (i := 32) (by decide +kernel))) rfl
theorem mw_513 : Cond.methodLinkNest RX1 127 yX5_addSound RX9 ∈ NW := NWm (tb3 (List.mem_of_getElem? (i := 33) (by decide +kernel))) rfl
theorem mw_515 : Cond.instanceMethod yX5_addSound ∈ LW := LWm (tb3 (List.mem_of_getElem? (i := 35) (by decide +kernel))) rfl
theorem mw_516 : Cond.code yX5_addSound cX5_addSound 4 (some .int) ∈ LW := LWm (tb3 (List.mem_of_getElem? (i := 36) (by decide +kernel))) rfl
theorem mw_517 : Cond.methodLinkNest RX1 130 yX5_takeLast RX9 ∈ NW := NWm (tb3 (List.mem_of_getElem? (i := 37) (by decide +kernel))) rfl
theorem mw_519 : Cond.instanceMethod yX5_takeLast ∈ LW := LWm (tb3 (List.mem_of_getElem? (i := 39) (by decide +kernel))) rfl
theorem mw_520 : Cond.code yX5_takeLast cX5_takeLast 1 (some .int) ∈ LW := LWm (tb3 (List.mem_of_getElem? (i := 40) (by decide +kernel))) rfl
theorem mw_521 : Cond.methodLinkNest RX1 133 yX5_setFarthest RX9 ∈ NW := NWm (tb3 (List.mem_of_getElem? (i := 41) (by decide +kernel))) rfl
theorem mw_523 : Cond.instanceMethod yX5_setFarthest ∈ LW := LWm (tb3 (List.mem_of_getElem? (i := 43) (by decide +kernel))) rfl
theorem mw_524 : Cond.code yX5_setFarthest cX5_setFarthest 3 (some .int) ∈ LW := LWm (tb3 (List.mem_of_getElem? (i := 44) (by decide +kernel))) rfl
theorem mw_525 : Cond.methodLinkNest RX1 136 yX5_setHeight RX9 ∈ NW := NWm (tb3 (List.mem_of_getElem? (i := 45) (by decide +kernel))) rfl
theorem mw_527 : Cond.instanceMethod yX5_setHeight ∈ LW := LWm (tb3 (List.mem_of_getElem? (i := 47) (by decide +kernel))) rfl
theorem mw_528 : Cond.code yX5_setHeight cX5_setHeight 4 (some .int) ∈ LW := LWm (tb3 (List.mem_of_getElem? (i := 48) (by decide +kernel))) rfl
theorem mw_529 : Cond.methodLink RL 134 yL_key ∈ LW := LWm (tb3 (List.mem_of_getElem? (i := 49) (by decide +kernel))) rfl
theorem mw_530 : Cond.static yL_key ∈ LW := LWm (tb3 (List.mem_of_getElem? (i := 50) (by decide +kernel))) rfl
theorem mw_531 : Cond.codeWith yL_key cL_key 4 (some .int) [(0, 6, 7, 22), (0, 6, 10, 14), (0, 6, 14, 16)] ∈ LW := LWm (tb3 (List.mem_of_getElem? (i := 51) rfl)) rfl
theorem mw_532 : Cond.classLink RL 22 "java/lang/IndexOutOfBoundsException" ∈ LW := LWm (tb3 (List.mem_of_getElem? (i := 52) (by decide +kernel))) rfl
theorem mw_533 : Cond.instantiable RJx00060 6 ∈ LW := LWm (tb3 (List.mem_of_getElem? (i := 53) (by decide +kernel))) rfl
theorem mw_534 : Cond.instanceMethod yJx00060_init_a7421 ∈ LW := LWm (tb3 (List.mem_of_getElem? (i := 54) (by decide +kernel))) rfl
theorem mw_535 : Cond.code yJx00060_init_a7421 cJx00060_init_a7421 2 none ∈ LW := LWm (tb3 (List.mem_of_getElem? (i := 55) (by decide +kernel))) rfl
theorem mw_536 : Cond.methodLink RJx00060 7 ⟨"java/lang/IndexOutOfBoundsException", "<init>", "(Ljava/lang/String;)V"⟩ ∈ LW := LWm (tb3 (List.mem_of_getElem? (i := 56) (by decide +kernel))) rfl
theorem mw_544 : Cond.castable "java/lang/ArrayIndexOutOfBoundsException" "java/lang/ArrayIndexOutOfBoundsException" ∈ NW := NWm (tb3 (List.mem_of_getElem? (i := 64) (by decide +kernel))) rfl
theorem mw_545 : Cond.declares ⟨"java/lang/IndexOutOfBoundsException", "<init>", "()V"⟩ ∈ NW := NWm (tb3 (List.mem_of_getElem? (i := 65) (by decide +kernel))) rfl
theorem mw_546 : Cond.declares ⟨"java/lang/IndexOutOfBoundsException", "<init>", "(Ljava/lang/String;)V"⟩ ∈ NW := NWm (tb3 (List.mem_of_getElem? (i := 66) (by decide +kernel))) rfl
theorem mw_547 : Cond.selects RJx00060 ⟨"java/lang/Throwable", "fillInStackTrace", "(I)Ljava/lang/Throwable;"⟩ ⟨"java/lang/Throwable", "fillInStackTrace", "(I)Ljava/lang/Throwable;"⟩ ∈ LW := LWm (tb3 (List.mem_of_getElem? (i := 67) (by decide +kernel))) rfl
theorem mw_548 : Cond.instantiable RJ0 4 ∈ LW := LWm (tb3 (List.mem_of_getElem? (i := 68) (by decide +kernel))) rfl
theorem mw_553 : Cond.methodLink RL 18 yX9_key ∈ LW := LWm (tb3 (List.mem_of_getElem? (i := 73) (by decide +kernel))) rfl
theorem mw_554 : Cond.instanceMethod yX9_key ∈ LW := LWm (tb3 (List.mem_of_getElem? (i := 74) (by decide +kernel))) rfl
theorem mw_555 : Cond.selects RX9 yX9_key yX9_key ∈ LW := LWm (tb3 (List.mem_of_getElem? (i := 75) (by decide +kernel))) rfl
theorem mw_556 : Cond.code yX9_key cX9_key 3 (some .int) ∈ LW := LWm (tb3 (List.mem_of_getElem? (i := 76) (by decide +kernel))) rfl
theorem mw_557 : Cond.fieldLink RX9 87 "TinRoofScore$Order" "KEY" "LTinRoofScore$Order;" ∈ LW := LWm (tb3 (List.mem_of_getElem? (i := 77) (by decide +kernel))) rfl
theorem mw_558 : Cond.methodLink RL 137 yL_leak ∈ LW := LWm (tb3 (List.mem_of_getElem? (i := 78) (by decide +kernel))) rfl
