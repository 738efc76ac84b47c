theorem mw_0 : Cond.initialized RL ∈ LW := LWm (tb1 (List.mem_of_getElem? (i := 0) (by decide +kernel))) rfl
theorem mw_1 : Cond.initialized RX9 ∈ LW := LWm (tb1 (List.mem_of_getElem? (i := 1) (by decide +kernel))) rfl
theorem mw_2 : Cond.initialized RX5 ∈ LW := LWm (tb1 (List.mem_of_getElem? (i := 2) (by decide +kernel))) rfl
theorem mw_3 : Cond.initialized RX1 ∈ LW := LWm (tb1 (List.mem_of_getElem? (i := 3) (by decide +kernel))) rfl
theorem mw_4 : Cond.initialized RX6 ∈ LW := LWm (tb1 (List.mem_of_getElem? (i := 4) (by decide +kernel))) rfl
theorem mw_5 : Cond.initialized RX3 ∈ LW := LWm (tb1 (List.mem_of_getElem? (i := 5) (by decide +kernel))) rfl
theorem mw_6 : Cond.initialized RX7 ∈ LW := LWm (tb1 (List.mem_of_getElem? (i := 6) (by decide +kernel))) rfl
theorem mw_7 : Cond.initialized RX2 ∈ LW := LWm (tb1 (List.mem_of_getElem? (i := 7) (by decide +kernel))) rfl
theorem mw_8 : Cond.initialized RX8 ∈ LW := LWm (tb1 (List.mem_of_getElem? (i := 8) (by decide +kernel))) rfl
theorem mw_9 : Cond.initialized RX0 ∈ LW := LWm (tb1 (List.mem_of_getElem? (i := 9) (by decide +kernel))) rfl
theorem mw_10 : Cond.initialized RX10 ∈ LW := LWm (tb1 (List.mem_of_getElem? (i := 10) (by decide +kernel))) rfl
theorem mw_11 : Cond.initialized RJx29ce0 ∈ LW := LWm (tb1 (List.mem_of_getElem? (i := 11) (by decide +kernel))) rfl
theorem mw_12 : Cond.initialized RX4 ∈ LW := LWm (tb1 (List.mem_of_getElem? (i := 12) (by decide +kernel))) rfl
theorem mw_13 : Cond.initialized "java/lang/Throwable" ∈ LW := LWm (tb1 (List.mem_of_getElem? (i := 13) (by decide +kernel))) rfl
theorem mw_14 : Cond.initialized "java/lang/Exception" ∈ LW := LWm (tb1 (List.mem_of_getElem? (i := 14) (by decide +kernel))) rfl
theorem mw_15 : Cond.initialized "java/lang/RuntimeException" ∈ LW := LWm (tb1 (List.mem_of_getElem? (i := 15) (by decide +kernel))) rfl
theorem mw_16 : Cond.initialized "java/lang/IndexOutOfBoundsException" ∈ LW := LWm (tb1 (List.mem_of_getElem? (i := 16) (by decide +kernel))) rfl
theorem mw_17 : Cond.initialized "java/lang/IllegalArgumentException" ∈ LW := LWm (tb1 (List.mem_of_getElem? (i := 17) (by decide +kernel))) rfl
theorem mw_18 : Cond.initialized "java/lang/UnsupportedOperationException" ∈ LW := LWm (tb1 (List.mem_of_getElem? (i := 18) (by decide +kernel))) rfl
theorem mw_19 : Cond.initialized RJ9 ∈ LW := LWm (tb1 (List.mem_of_getElem? (i := 19) (by decide +kernel))) rfl
theorem mw_20 : Cond.initialized RJ10 ∈ LW := LWm (tb1 (List.mem_of_getElem? (i := 20) (by decide +kernel))) rfl
theorem mw_21 : Cond.initialized RJx00060 ∈ LW := LWm (tb1 (List.mem_of_getElem? (i := 21) (by decide +kernel))) rfl
theorem mw_22 : Cond.initialized RJ0 ∈ LW := LWm (tb1 (List.mem_of_getElem? (i := 22) (by decide +kernel))) rfl
theorem mw_23 : Cond.initialized "java/util/NoSuchElementException" ∈ LW := LWm (tb1 (List.mem_of_getElem? (i := 23) (by decide +kernel))) rfl
theorem mw_24 : Cond.initialized "java/lang/IllegalStateException" ∈ LW := LWm (tb1 (List.mem_of_getElem? (i := 24) (by decide +kernel))) rfl
theorem mw_25 : Cond.initialized RJ1 ∈ LW := LWm (tb1 (List.mem_of_getElem? (i := 25) (by decide +kernel))) rfl
theorem mw_26 : Cond.initialized RJ3 ∈ LW := LWm (tb1 (List.mem_of_getElem? (i := 26) (by decide +kernel))) rfl
theorem mw_27 : Cond.initialized RJ2 ∈ LW := LWm (tb1 (List.mem_of_getElem? (i := 27) (by decide +kernel))) rfl
theorem mw_28 : Cond.initialized "java/lang/ArithmeticException" ∈ LW := LWm (tb1 (List.mem_of_getElem? (i := 28) (by decide +kernel))) rfl
theorem mw_29 : Cond.classLink RL 8 RX9 ∈ LW := LWm (tb1 (List.mem_of_getElem? (i := 29) (by decide +kernel))) rfl
theorem mw_30 : Cond.instantiable RX9 11 ∈ LW := LWm (tb1 (List.mem_of_getElem? (i := 30) (by decide +kernel))) rfl
theorem mw_31 : Cond.methodLink RL 124 yX9_init ∈ LW := LWm (tb1 (List.mem_of_getElem? (i := 31) (by decide +kernel))) rfl
theorem mw_32 : Cond.instanceMethod yX9_init ∈ LW := LWm (tb1 (List.mem_of_getElem? (i := 32) (by decide +kernel))) rfl
theorem mw_33 : Cond.code yX9_init cX9_init 1 none ∈ LW := LWm (tb1 (List.mem_of_getElem? (i := 33) (by decide +kernel))) rfl
theorem mw_34 : Cond.methodLink RX9 1 ⟨"java/lang/Object", "<init>", "()V"⟩ ∈ LW := LWm (tb1 (List.mem_of_getElem? (i := 34) (by decide +kernel))) rfl
theorem mw_35 : Cond.instanceMethod ⟨"java/lang/Object", "<init>", "()V"⟩ ∈ LW := LWm (tb1 (List.mem_of_getElem? (i := 35) (by decide +kernel))) rfl
theorem mw_36 : Cond.code ⟨"java/lang/Object", "<init>", "()V"⟩ object_method_1_code 1 none ∈ LW := LWm (tb1 (List.mem_of_getElem? (i := 36) (by decide +kernel))) rfl
theorem mw_37 : Cond.classLink RX9 7 RX5 ∈ LW := LWm (tb1 (List.mem_of_getElem? (i := 37) (by decide +kernel))) rfl
theorem mw_38 : Cond.instantiable RX5 11 ∈ LW := LWm (tb1 (List.mem_of_getElem? (i := 38) (by decide +kernel))) rfl
theorem mw_39 : Cond.methodLinkNest RX9 9 yX5_init RX9 ∈ NW := NWm (tb1 (List.mem_of_getElem? (i := 39) (by decide +kernel))) rfl
theorem mw_40 : Cond.instanceMethod yX5_init ∈ LW := LWm (tb1 (List.mem_of_getElem? (i := 40) (by decide +kernel))) rfl
theorem mw_41 : Cond.code yX5_init cX5_init 1 none ∈ LW := LWm (tb1 (List.mem_of_getElem? (i := 41) (by decide +kernel))) rfl
theorem mw_42 : Cond.methodLink RX5 3 ⟨"java/lang/Object", "<init>", "()V"⟩ ∈ LW := LWm (tb1 (List.mem_of_getElem? (i := 42) (by decide +kernel))) rfl
theorem mw_43 : Cond.fieldLink RX5 9 "TinRoofScore$Print" "sizes" "[I" ∈ LW := LWm (tb1 (List.mem_of_getElem? (i := 43) (by decide +kernel))) rfl
theorem mw_44 : Cond.fieldLink RX5 15 "TinRoofScore$Print" "keys" "[I" ∈ LW := LWm (tb1 (List.mem_of_getElem? (i := 44) (by decide +kernel))) rfl
theorem mw_45 : Cond.fieldLink RX5 18 "TinRoofScore$Print" "leaks" "[I" ∈ LW := LWm (tb1 (List.mem_of_getElem? (i := 45) (by decide +kernel))) rfl
theorem mw_46 : Cond.fieldLink RX5 21 "TinRoofScore$Print" "tins" "[I" ∈ LW := LWm (tb1 (List.mem_of_getElem? (i := 46) (by decide +kernel))) rfl
theorem mw_47 : Cond.fieldLink RX5 24 "TinRoofScore$Print" "heights" "[I" ∈ LW := LWm (tb1 (List.mem_of_getElem? (i := 47) (by decide +kernel))) rfl
theorem mw_48 : Cond.fieldLink RX5 27 "TinRoofScore$Print" "lengths" "[I" ∈ LW := LWm (tb1 (List.mem_of_getElem? (i := 48) (by decide +kernel))) rfl
theorem mw_49 : Cond.fieldLink RX5 30 "TinRoofScore$Print" "bars" "I" ∈ LW := LWm (tb1 (List.mem_of_getElem? (i := 49) (by decide +kernel))) rfl
theorem mw_50 : Cond.fieldLink RX5 34 "TinRoofScore$Print" "sounds" "I" ∈ LW := LWm (tb1 (List.mem_of_getElem? (i := 50) (by decide +kernel))) rfl
theorem mw_51 : Cond.fieldLink RX5 37 "TinRoofScore$Print" "farthest" "I" ∈ LW := LWm (tb1 (List.mem_of_getElem? (i := 51) (by decide +kernel))) rfl
theorem mw_52 : Cond.fieldLink RX5 40 "TinRoofScore$Print" "soundsSet" "I" ∈ LW := LWm (tb1 (List.mem_of_getElem? (i := 52) (by decide +kernel))) rfl
theorem mw_53 : Cond.fieldLink RX5 43 "TinRoofScore$Print" "soundsTaken" "I" ∈ LW := LWm (tb1 (List.mem_of_getElem? (i := 53) (by decide +kernel))) rfl
theorem mw_77 : Cond.arrayClass .int ∈ LW := LWm (tb1 (List.mem_of_getElem? (i := 77) (by decide +kernel))) rfl
theorem mw_78 : Cond.classLink RX9 22 RX1 ∈ LW := LWm (tb1 (List.mem_of_getElem? (i := 78) (by decide +kernel))) rfl
theorem mw_79 : Cond.instantiable RX1 3 ∈ LW := LWm (tb1 (List.mem_of_getElem? (i := 79) (by decide +kernel))) rfl
theorem mw_80 : Cond.methodLinkNest RX9 24 yX1_init RX9 ∈ NW := NWm (tb1 (List.mem_of_getElem? (i := 80) (by decide +kernel))) rfl
theorem mw_81 : Cond.instanceMethod yX1_init ∈ LW := LWm (tb1 (List.mem_of_getElem? (i := 81) (by decide +kernel))) rfl
theorem mw_82 : Cond.code yX1_init cX1_init 2 none ∈ LW := LWm (tb1 (List.mem_of_getElem? (i := 82) (by decide +kernel))) rfl
theorem mw_83 : Cond.methodLink RX1 3 ⟨"java/lang/Object", "<init>", "()V"⟩ ∈ LW := LWm (tb1 (List.mem_of_getElem? (i := 83) (by decide +kernel))) rfl
theorem mw_84 : Cond.fieldLink RX1 18 "TinRoofScore$Judge" "print" "LTinRoofScore$Print;" ∈ LW := LWm (tb1 (List.mem_of_getElem? (i := 84) (by decide +kernel))) rfl
theorem mw_85 : Cond.fieldLink RX1 9 "TinRoofScore$Judge" "reason" "I" ∈ LW := LWm (tb1 (List.mem_of_getElem? (i := 85) (by decide +kernel))) rfl
theorem mw_86 : Cond.fieldLink RX1 15 "TinRoofScore$Judge" "detail" "I" ∈ LW := LWm (tb1 (List.mem_of_getElem? (i := 86) (by decide +kernel))) rfl
theorem mw_94 : Cond.classLink RX9 31 RX6 ∈ LW := LWm (tb1 (List.mem_of_getElem? (i := 94) (by decide +kernel))) rfl
theorem mw_95 : Cond.instantiable RX6 1 ∈ LW := LWm (tb1 (List.mem_of_getElem? (i := 95) (by decide +kernel))) rfl
theorem mw_96 : Cond.methodLinkNest RX9 33 yX6_init RX9 ∈ NW := NWm (tb1 (List.mem_of_getElem? (i := 96) (by decide +kernel))) rfl
theorem mw_97 : Cond.instanceMethod yX6_init ∈ LW := LWm (tb1 (List.mem_of_getElem? (i := 97) (by decide +kernel))) rfl
theorem mw_98 : Cond.code yX6_init cX6_init 2 none ∈ LW := LWm (tb1 (List.mem_of_getElem? (i := 98) (by decide +kernel))) rfl
theorem mw_99 : Cond.methodLink RX6 3 ⟨"java/lang/Object", "<init>", "()V"⟩ ∈ LW := LWm (tb1 (List.mem_of_getElem? (i := 99) (by decide +kernel))) rfl
theorem mw_100 : Cond.fieldLink RX6 9 "TinRoofScore$Proof" "print" "LTinRoofScore$Print;" ∈ LW := LWm (tb1 (List.mem_of_getElem? (i := 100) (by decide +kernel))) rfl
theorem mw_104 : Cond.classLink RX9 38 RX3 ∈ LW := LWm (tb1 (List.mem_of_getElem? (i := 104) (by decide +kernel))) rfl
theorem mw_105 : Cond.instantiable RX3 1 ∈ LW := LWm (tb1 (List.mem_of_getElem? (i := 105) (by decide +kernel))) rfl
theorem mw_106 : Cond.methodLinkNest RX9 40 yX3_init RX9 ∈ NW := NWm (tb1 (List.mem_of_getElem? (i := 106) (by decide +kernel))) rfl
theorem mw_107 : Cond.instanceMethod yX3_init ∈ LW := LWm (tb1 (List.mem_of_getElem? (i := 107) (by decide +kernel))) rfl
theorem mw_108 : Cond.code yX3_init cX3_init 2 none ∈ LW := LWm (tb1 (List.mem_of_getElem? (i := 108) (by decide +kernel))) rfl
theorem mw_109 : Cond.methodLink RX3 3 ⟨"java/lang/Object", "<init>", "()V"⟩ ∈ LW := LWm (tb1 (List.mem_of_getElem? (i := 109) (by decide +kernel))) rfl
theorem mw_110 : Cond.fieldLink RX3 9 "TinRoofScore$Melody" "print" "LTinRoofScore$Print;" ∈ LW := LWm (tb1 (List.mem_of_getElem? (i := 110) (by decide +kernel))) rfl
theorem mw_114 : Cond.classLink RX9 45 RX7 ∈ LW := LWm (tb1 (List.mem_of_getElem? (i := 114) (by decide +kernel))) rfl
theorem mw_115 : Cond.instantiable RX7 1 ∈ LW := LWm (tb1 (List.mem_of_getElem? (i := 115) (by decide +kernel))) rfl
theorem mw_116 : Cond.methodLinkNest RX9 47 yX7_init RX9 ∈ NW := NWm (tb1 (List.mem_of_getElem? (i := 116) (by decide +kernel))) rfl
theorem mw_117 : Cond.instanceMethod yX7_init ∈ LW := LWm (tb1 (List.mem_of_getElem? (i := 117) (by decide +kernel))) rfl
theorem mw_118 : Cond.code yX7_init cX7_init 2 none ∈ LW := LWm (tb1 (List.mem_of_getElem? (i := 118) (by decide +kernel))) rfl
theorem mw_119 : Cond.methodLink RX7 3 ⟨"java/lang/Object", "<init>", "()V"⟩ ∈ LW := LWm (tb1 (List.mem_of_getElem? (i := 119) (by decide +kernel))) rfl
theorem mw_120 : Cond.fieldLink RX7 9 "TinRoofScore$Ranking" "print" "LTinRoofScore$Print;" ∈ LW := LWm (tb1 (List.mem_of_getElem? (i := 120) (by decide +kernel))) rfl
theorem mw_124 : Cond.classLink RX9 52 RX2 ∈ LW := LWm (tb1 (List.mem_of_getElem? (i := 124) (by decide +kernel))) rfl
theorem mw_125 : Cond.instantiable RX2 3 ∈ LW := LWm (tb1 (List.mem_of_getElem? (i := 125) (by decide +kernel))) rfl
theorem mw_126 : Cond.methodLinkNest RX9 54 yX2_init RX9 ∈ NW := NWm (tb1 (List.mem_of_getElem? (i := 126) (by decide +kernel))) rfl
theorem mw_127 : Cond.instanceMethod yX2_init ∈ LW := LWm (tb1 (List.mem_of_getElem? (i := 127) (by decide +kernel))) rfl
theorem mw_128 : Cond.code yX2_init cX2_init 2 none ∈ LW := LWm (tb1 (List.mem_of_getElem? (i := 128) (by decide +kernel))) rfl
theorem mw_129 : Cond.methodLink RX2 3 ⟨"java/lang/Object", "<init>", "()V"⟩ ∈ LW := LWm (tb1 (List.mem_of_getElem? (i := 129) (by decide +kernel))) rfl
theorem mw_130 : Cond.fieldLink RX2 19 "TinRoofScore$Line" "print" "LTinRoofScore$Print;" ∈ LW := LWm (tb1 (List.mem_of_getElem? (i := 130) (by decide +kernel))) rfl
theorem mw_131 : Cond.fieldLink RX2 9 "TinRoofScore$Line" "signs" "[C" ∈ LW := LWm (tb1 (List.mem_of_getElem? (i := 131) (by decide +kernel))) rfl
theorem mw_132 : Cond.fieldLink RX2 15 "TinRoofScore$Line" "length" "I" ∈ LW := LWm (tb1 (List.mem_of_getElem? (i := 132) (by decide +kernel))) rfl
theorem mw_140 : Cond.arrayClass .char ∈ LW := LWm (tb1 (List.mem_of_getElem? (i := 140) (by decide +kernel))) rfl
theorem mw_141 : Cond.classLink RX9 59 RX8 ∈ LW := LWm (tb1 (List.mem_of_getElem? (i := 141) (by decide +kernel))) rfl
theorem mw_142 : Cond.instantiable RX8 7 ∈ LW := LWm (tb1 (List.mem_of_getElem? (i := 142) (by decide +kernel))) rfl
theorem mw_143 : Cond.methodLinkNest RX9 61 yX8_init RX9 ∈ NW := NWm (tb1 (List.mem_of_getElem? (i := 143) (by decide +kernel))) rfl
theorem mw_144 : Cond.instanceMethod yX8_init ∈ LW := LWm (tb1 (List.mem_of_getElem? (i := 144) (by decide +kernel))) rfl
theorem mw_145 : Cond.code yX8_init cX8_init 1 none ∈ LW := LWm (tb1 (List.mem_of_getElem? (i := 145) (by decide +kernel))) rfl
theorem mw_146 : Cond.methodLink RX8 3 ⟨"java/lang/Object", "<init>", "()V"⟩ ∈ LW := LWm (tb1 (List.mem_of_getElem? (i := 146) (by decide +kernel))) rfl
theorem mw_147 : Cond.classLink RX8 15 RX4 ∈ LW := LWm (tb1 (List.mem_of_getElem? (i := 147) (by decide +kernel))) rfl
theorem mw_149 : Cond.fieldLink RX8 9 "TinRoofScore$Text" "signs" "[C" ∈ LW := LWm (tb1 (List.mem_of_getElem? (i := 149) (by decide +kernel))) rfl
theorem mw_150 : Cond.fieldLink RX8 17 "TinRoofScore$Text" "orders" "[LTinRoofScore$Order;" ∈ LW := LWm (tb1 (List.mem_of_getElem? (i := 150) (by decide +kernel))) rfl
theorem mw_151 : Cond.fieldLink RX8 21 "TinRoofScore$Text" "numbers" "[I" ∈ LW := LWm (tb1 (List.mem_of_getElem? (i := 151) (by decide +kernel))) rfl
theorem mw_152 : Cond.fieldLink RX8 25 "TinRoofScore$Text" "length" "I" ∈ LW := LWm (tb1 (List.mem_of_getElem? (i := 152) (by decide +kernel))) rfl
theorem mw_153 : Cond.fieldLink RX8 29 "TinRoofScore$Text" "position" "I" ∈ LW := LWm (tb1 (List.mem_of_getElem? (i := 153) (by decide +kernel))) rfl
theorem mw_154 : Cond.fieldLink RX8 32 "TinRoofScore$Text" "count" "I" ∈ LW := LWm (tb1 (List.mem_of_getElem? (i := 154) (by decide +kernel))) rfl
theorem mw_155 : Cond.fieldLink RX8 35 "TinRoofScore$Text" "error" "I" ∈ LW := LWm (tb1 (List.mem_of_getElem? (i := 155) (by decide +kernel))) rfl
theorem mw_171 : Cond.classLink RX9 66 RX0 ∈ LW := LWm (tb1 (List.mem_of_getElem? (i := 171) (by decide +kernel))) rfl
theorem mw_172 : Cond.instantiable RX0 3 ∈ LW := LWm (tb1 (List.mem_of_getElem? (i := 172) (by decide +kernel))) rfl
theorem mw_173 : Cond.methodLinkNest RX9 68 yX0_init RX9 ∈ NW := NWm (tb1 (List.mem_of_getElem? (i := 173) (by decide +kernel))) rfl
theorem mw_174 : Cond.instanceMethod yX0_init ∈ LW := LWm (tb1 (List.mem_of_getElem? (i := 174) (by decide +kernel))) rfl
theorem mw_175 : Cond.code yX0_init cX0_init 2 none ∈ LW := LWm (tb1 (List.mem_of_getElem? (i := 175) (by decide +kernel))) rfl
theorem mw_176 : Cond.methodLink RX0 3 ⟨"java/lang/Object", "<init>", "()V"⟩ ∈ LW := LWm (tb1 (List.mem_of_getElem? (i := 176) (by decide +kernel))) rfl
theorem mw_177 : Cond.classLink RX0 9 RX5 ∈ LW := LWm (tb1 (List.mem_of_getElem? (i := 177) (by decide +kernel))) rfl
theorem mw_179 : Cond.methodLinkNest RX0 24 yX5_init RX9 ∈ NW := NWm (tb1 (List.mem_of_getElem? (i := 179) (by decide +kernel))) rfl
theorem mw_180 : Cond.fieldLink RX0 11 "TinRoofScore$History" "pages" "[LTinRoofScore$Print;" ∈ LW := LWm (tb1 (List.mem_of_getElem? (i := 180) (by decide +kernel))) rfl
theorem mw_181 : Cond.fieldLink RX0 17 "TinRoofScore$History" "next" "I" ∈ LW := LWm (tb1 (List.mem_of_getElem? (i := 181) (by decide +kernel))) rfl
theorem mw_182 : Cond.fieldLink RX0 21 "TinRoofScore$History" "count" "I" ∈ LW := LWm (tb1 (List.mem_of_getElem? (i := 182) (by decide +kernel))) rfl
theorem mw_190 : Cond.fieldLink RX9 10 "TinRoofScore" "print" "LTinRoofScore$Print;" ∈ LW := LWm (tb1 (List.mem_of_getElem? (i := 190) (by decide +kernel))) rfl
theorem mw_191 : Cond.fieldLink RX9 16 "TinRoofScore" "saved" "LTinRoofScore$Print;" ∈ LW := LWm (tb1 (List.mem_of_getElem? (i := 191) (by decide +kernel))) rfl
theorem mw_192 : Cond.fieldLink RX9 19 "TinRoofScore" "beforeText" "LTinRoofScore$Print;" ∈ LW := LWm (tb1 (List.mem_of_getElem? (i := 192) (by decide +kernel))) rfl
theorem mw_193 : Cond.fieldLink RX9 27 "TinRoofScore" "judge" "LTinRoofScore$Judge;" ∈ LW := LWm (tb1 (List.mem_of_getElem? (i := 193) (by decide +kernel))) rfl
theorem mw_194 : Cond.fieldLink RX9 34 "TinRoofScore" "proof" "LTinRoofScore$Proof;" ∈ LW := LWm (tb1 (List.mem_of_getElem? (i := 194) (by decide +kernel))) rfl
theorem mw_195 : Cond.fieldLink RX9 41 "TinRoofScore" "melody" "LTinRoofScore$Melody;" ∈ LW := LWm (tb1 (List.mem_of_getElem? (i := 195) (by decide +kernel))) rfl
theorem mw_196 : Cond.fieldLink RX9 48 "TinRoofScore" "ranking" "LTinRoofScore$Ranking;" ∈ LW := LWm (tb1 (List.mem_of_getElem? (i := 196) (by decide +kernel))) rfl
theorem mw_197 : Cond.fieldLink RX9 55 "TinRoofScore" "written" "LTinRoofScore$Line;" ∈ LW := LWm (tb1 (List.mem_of_getElem? (i := 197) (by decide +kernel))) rfl
theorem mw_198 : Cond.fieldLink RX9 62 "TinRoofScore" "text" "LTinRoofScore$Text;" ∈ LW := LWm (tb1 (List.mem_of_getElem? (i := 198) (by decide +kernel))) rfl
theorem mw_199 : Cond.fieldLink RX9 69 "TinRoofScore" "history" "LTinRoofScore$History;" ∈ LW := LWm (tb1 (List.mem_of_getElem? (i := 199) (by decide +kernel))) rfl
theorem mw_200 : Cond.fieldLink RX9 73 "TinRoofScore" "isSaved" "Z" ∈ LW := LWm (tb1 (List.mem_of_getElem? (i := 200) (by decide +kernel))) rfl
theorem mw_224 : Cond.methodLink RL 183 yX9_isClean ∈ LW := LWm (tb1 (List.mem_of_getElem? (i := 224) (by decide +kernel))) rfl
theorem mw_225 : Cond.instanceMethod yX9_isClean ∈ LW := LWm (tb1 (List.mem_of_getElem? (i := 225) (by decide +kernel))) rfl
theorem mw_226 : Cond.selects RX9 yX9_isClean yX9_isClean ∈ LW := LWm (tb1 (List.mem_of_getElem? (i := 226) (by decide +kernel))) rfl
theorem mw_227 : Cond.code yX9_isClean cX9_isClean 1 (some .boolean) ∈ LW := LWm (tb1 (List.mem_of_getElem? (i := 227) (by decide +kernel))) rfl
theorem mw_228 : Cond.methodLinkNest RX9 205 yX6_countAll RX9 ∈ NW := NWm (tb1 (List.mem_of_getElem? (i := 228) (by decide +kernel))) rfl
theorem mw_230 : Cond.instanceMethod yX6_countAll ∈ LW := LWm (tb1 (List.mem_of_getElem? (i := 230) (by decide +kernel))) rfl
theorem mw_231 : Cond.code yX6_countAll cX6_countAll 3 (some .int) ∈ LW := LWm (tb1 (List.mem_of_getElem? (i := 231) (by decide +kernel))) rfl
theorem mw_232 : Cond.methodLink RX6 69 yX6_count ∈ LW := LWm (tb1 (List.mem_of_getElem? (i := 232) (by decide +kernel))) rfl
theorem mw_234 : Cond.instanceMethod yX6_count ∈ LW := LWm (tb1 (List.mem_of_getElem? (i := 234) (by decide +kernel))) rfl
theorem mw_235 : Cond.code yX6_count cX6_count 5 (some .int) ∈ LW := LWm (tb1 (List.mem_of_getElem? (i := 235) (by decide +kernel))) rfl
theorem mw_236 : Cond.methodLink RX6 62 yX6_places ∈ LW := LWm (tb1 (List.mem_of_getElem? (i := 236) (by decide +kernel))) rfl
theorem mw_238 : Cond.instanceMethod yX6_places ∈ LW := LWm (tb1 (List.mem_of_getElem? (i := 238) (by decide +kernel))) rfl
theorem mw_239 : Cond.code yX6_places cX6_places 2 (some .int) ∈ LW := LWm (tb1 (List.mem_of_getElem? (i := 239) (by decide +kernel))) rfl
theorem mw_240 : Cond.methodLinkNest RX6 56 yX5_countOfBars RX9 ∈ NW := NWm (tb2 (List.mem_of_getElem? (i := 0) (by decide +kernel))) rfl
theorem mw_242 : Cond.instanceMethod yX5_countOfBars ∈ LW := LWm (tb2 (List.mem_of_getElem? (i := 2) (by decide +kernel))) rfl
theorem mw_243 : Cond.code yX5_countOfBars cX5_countOfBars 1 (some .int) ∈ LW := LWm (tb2 (List.mem_of_getElem? (i := 3) (by decide +kernel))) rfl
theorem mw_244 : Cond.methodLinkNest RX6 59 yX5_countOfSounds RX9 ∈ NW := NWm (tb2 (List.mem_of_getElem? (i := 4) (by decide +kernel))) rfl
theorem mw_246 : Cond.instanceMethod yX5_countOfSounds ∈ LW := LWm (tb2 (List.mem_of_getElem? (i := 6) (by decide +kernel))) rfl
theorem mw_247 : Cond.code yX5_countOfSounds cX5_countOfSounds 1 (some .int) ∈ LW := LWm (tb2 (List.mem_of_getElem? (i := 7) (by decide +kernel))) rfl
theorem mw_248 : Cond.methodLink RX6 65 yX6_isFault ∈ LW := LWm (tb2 (List.mem_of_getElem? (i := 8) (by decide +kernel))) rfl
theorem mw_250 : Cond.instanceMethod yX6_isFault ∈ LW := LWm (tb2 (List.mem_of_getElem? (i := 10) (by decide +kernel))) rfl
theorem mw_251 : Cond.code yX6_isFault cX6_isFault 4 (some .boolean) ∈ LW := LWm (tb2 (List.mem_of_getElem? (i := 11) (by decide +kernel))) rfl
theorem mw_252 : Cond.methodLinkNest RX6 15 yX5_startOfBar RX9 ∈ NW := NWm (tb2 (List.mem_of_getElem? (i := 12) (by decide +kernel))) rfl
theorem mw_254 : Cond.instanceMethod yX5_startOfBar ∈ LW := LWm (tb2 (List.mem_of_getElem? (i := 14) (by decide +kernel))) rfl
theorem mw_255 : Cond.code yX5_startOfBar cX5_startOfBar 4 (some .int) ∈ LW := LWm (tb2 (List.mem_of_getElem? (i := 15) (by decide +kernel))) rfl
theorem mw_256 : Cond.methodLinkNest RX6 21 yX5_soundAt RX9 ∈ NW := NWm (tb2 (List.mem_of_getElem? (i := 16) (by decide +kernel))) rfl
theorem mw_258 : Cond.instanceMethod yX5_soundAt ∈ LW := LWm (tb2 (List.mem_of_getElem? (i := 18) (by decide +kernel))) rfl
theorem mw_259 : Cond.code yX5_soundAt cX5_soundAt 4 (some .int) ∈ LW := LWm (tb2 (List.mem_of_getElem? (i := 19) (by decide +kernel))) rfl
theorem mw_260 : Cond.methodLinkNest RX5 54 yX9_cell RX9 ∈ NW := NWm (tb2 (List.mem_of_getElem? (i := 20) (by decide +kernel))) rfl
theorem mw_261 : Cond.static yX9_cell ∈ LW := LWm (tb2 (List.mem_of_getElem? (i := 21) (by decide +kernel))) rfl
theorem mw_262 : Cond.code yX9_cell cX9_cell 2 (some .int) ∈ LW := LWm (tb2 (List.mem_of_getElem? (i := 22) (by decide +kernel))) rfl
theorem mw_263 : Cond.methodLinkNest RX6 24 yX5_isRest RX9 ∈ NW := NWm (tb2 (List.mem_of_getElem? (i := 23) (by decide +kernel))) rfl
theorem mw_265 : Cond.instanceMethod yX5_isRest ∈ LW := LWm (tb2 (List.mem_of_getElem? (i := 25) (by decide +kernel))) rfl
theorem mw_266 : Cond.code yX5_isRest cX5_isRest 2 (some .boolean) ∈ LW := LWm (tb2 (List.mem_of_getElem? (i := 26) (by decide +kernel))) rfl
theorem mw_267 : Cond.methodLink RX6 28 yX6_isFar ∈ LW := LWm (tb2 (List.mem_of_getElem? (i := 27) (by decide +kernel))) rfl
theorem mw_269 : Cond.instanceMethod yX6_isFar ∈ LW := LWm (tb2 (List.mem_of_getElem? (i := 29) (by decide +kernel))) rfl
theorem mw_270 : Cond.code yX6_isFar cX6_isFar 3 (some .boolean) ∈ LW := LWm (tb2 (List.mem_of_getElem? (i := 30) (by decide +kernel))) rfl
theorem mw_271 : Cond.methodLinkNest RX6 34 yX5_dropAhead RX9 ∈ NW := NWm (tb2 (List.mem_of_getElem? (i := 31) (by decide +kernel))) rfl
theorem mw_273 : Cond.instanceMethod yX5_dropAhead ∈ LW := LWm (tb2 (List.mem_of_getElem? (i := 33) (by decide +kernel))) rfl
theorem mw_274 : Cond.code yX5_dropAhead cX5_dropAhead 3 (some .int) ∈ LW := LWm (tb2 (List.mem_of_getElem? (i := 34) (by decide +kernel))) rfl
theorem mw_275 : Cond.methodLinkNest RX6 44 yX5_pitchOf RX9 ∈ NW := NWm (tb2 (List.mem_of_getElem? (i := 35) (by decide +kernel))) rfl
theorem mw_277 : Cond.instanceMethod yX5_pitchOf ∈ LW := LWm (tb2 (List.mem_of_getElem? (i := 37) (by decide +kernel))) rfl
theorem mw_278 : Cond.code yX5_pitchOf cX5_pitchOf 4 (some .int) ∈ LW := LWm (tb2 (List.mem_of_getElem? (i := 38) (by decide +kernel))) rfl
theorem mw_279 : Cond.methodLink RX6 47 yJ9_abs_0f7a4 ∈ LW := LWm (tb2 (List.mem_of_getElem? (i := 39) (by decide +kernel))) rfl
theorem mw_280 : Cond.static yJ9_abs_0f7a4 ∈ LW := LWm (tb2 (List.mem_of_getElem? (i := 40) (by decide +kernel))) rfl
theorem mw_281 : Cond.code yJ9_abs_0f7a4 cJ9_abs_0f7a4 1 (some .int) ∈ LW := LWm (tb2 (List.mem_of_getElem? (i := 41) (by decide +kernel))) rfl
theorem mw_282 : Cond.methodLinkNest RX6 52 yX5_limitNow RX9 ∈ NW := NWm (tb2 (List.mem_of_getElem? (i := 42) (by decide +kernel))) rfl
theorem mw_284 : Cond.instanceMethod yX5_limitNow ∈ LW := LWm (tb2 (List.mem_of_getElem? (i := 44) (by decide +kernel))) rfl
theorem mw_285 : Cond.code yX5_limitNow cX5_limitNow 1 (some .int) ∈ LW := LWm (tb2 (List.mem_of_getElem? (i := 45) (by decide +kernel))) rfl
theorem mw_286 : Cond.methodLink RX6 31 yX6_isSame ∈ LW := LWm (tb2 (List.mem_of_getElem? (i := 46) (by decide +kernel))) rfl
theorem mw_288 : Cond.instanceMethod yX6_isSame ∈ LW := LWm (tb2 (List.mem_of_getElem? (i := 48) (by decide +kernel))) rfl
theorem mw_289 : Cond.code yX6_isSame cX6_isSame 3 (some .boolean) ∈ LW := LWm (tb2 (List.mem_of_getElem? (i := 49) (by decide +kernel))) rfl
theorem mw_290 : Cond.methodLinkNest RX6 37 yX5_partsOfSound RX9 ∈ NW := NWm (tb2 (List.mem_of_getElem? (i := 50) (by decide +kernel))) rfl
theorem mw_292 : Cond.instanceMethod yX5_partsOfSound ∈ LW := LWm (tb2 (List.mem_of_getElem? (i := 52) (by decide +kernel))) rfl
theorem mw_293 : Cond.code yX5_partsOfSound cX5_partsOfSound 3 (some .int) ∈ LW := LWm (tb2 (List.mem_of_getElem? (i := 53) (by decide +kernel))) rfl
theorem mw_294 : Cond.methodLink RX5 70 yX5_startOfSound ∈ LW := LWm (tb2 (List.mem_of_getElem? (i := 54) (by decide +kernel))) rfl
theorem mw_296 : Cond.instanceMethod yX5_startOfSound ∈ LW := LWm (tb2 (List.mem_of_getElem? (i := 56) (by decide +kernel))) rfl
theorem mw_297 : Cond.code yX5_startOfSound cX5_startOfSound 4 (some .int) ∈ LW := LWm (tb2 (List.mem_of_getElem? (i := 57) (by decide +kernel))) rfl
theorem mw_298 : Cond.methodLink RX5 82 yX5_barAt ∈ LW := LWm (tb2 (List.mem_of_getElem? (i := 58) (by decide +kernel))) rfl
theorem mw_300 : Cond.instanceMethod yX5_barAt ∈ LW := LWm (tb2 (List.mem_of_getElem? (i := 60) (by decide +kernel))) rfl
theorem mw_301 : Cond.code yX5_barAt cX5_barAt 4 (some .int) ∈ LW := LWm (tb2 (List.mem_of_getElem? (i := 61) (by decide +kernel))) rfl
theorem mw_302 : Cond.methodLink RX6 40 yX6_mostParts ∈ LW := LWm (tb2 (List.mem_of_getElem? (i := 62) (by decide +kernel))) rfl
theorem mw_303 : Cond.static yX6_mostParts ∈ LW := LWm (tb2 (List.mem_of_getElem? (i := 63) (by decide +kernel))) rfl
theorem mw_304 : Cond.code yX6_mostParts cX6_mostParts 1 (some .int) ∈ LW := LWm (tb2 (List.mem_of_getElem? (i := 64) (by decide +kernel))) rfl
theorem mw_305 : Cond.methodLink RL 194 yX9_walk ∈ LW := LWm (tb2 (List.mem_of_getElem? (i := 65) (by decide +kernel))) rfl
theorem mw_306 : Cond.instanceMethod yX9_walk ∈ LW := LWm (tb2 (List.mem_of_getElem? (i := 66) (by decide +kernel))) rfl
theorem mw_307 : Cond.selects RX9 yX9_walk yX9_walk ∈ LW := LWm (tb2 (List.mem_of_getElem? (i := 67) (by decide +kernel))) rfl
theorem mw_308 : Cond.code yX9_walk cX9_walk 2 (some .int) ∈ LW := LWm (tb2 (List.mem_of_getElem? (i := 68) (by decide +kernel))) rfl
theorem mw_309 : Cond.methodLinkNest RX9 218 yX3_wayBySteps RX9 ∈ NW := NWm (tb2 (List.mem_of_getElem? (i := 69) (by decide +kernel))) rfl
theorem mw_311 : Cond.instanceMethod yX3_wayBySteps ∈ LW := LWm (tb2 (List.mem_of_getElem? (i := 71) (by decide +kernel))) rfl
theorem mw_312 : Cond.code yX3_wayBySteps cX3_wayBySteps 3 (some .int) ∈ LW := LWm (tb2 (List.mem_of_getElem? (i := 72) (by decide +kernel))) rfl
theorem mw_313 : Cond.methodLink RX3 30 yX3_timesOver ∈ LW := LWm (tb2 (List.mem_of_getElem? (i := 73) (by decide +kernel))) rfl
theorem mw_315 : Cond.instanceMethod yX3_timesOver ∈ LW := LWm (tb2 (List.mem_of_getElem? (i := 75) (by decide +kernel))) rfl
theorem mw_316 : Cond.code yX3_timesOver cX3_timesOver 6 (some .int) ∈ LW := LWm (tb2 (List.mem_of_getElem? (i := 76) (by decide +kernel))) rfl
theorem mw_317 : Cond.methodLinkNest RX3 15 yX5_countOfSounds RX9 ∈ NW := NWm (tb2 (List.mem_of_getElem? (i := 77) (by decide +kernel))) rfl
theorem mw_318 : Cond.methodLinkNest RX3 33 yX5_pitchOf RX9 ∈ NW := NWm (tb2 (List.mem_of_getElem? (i := 78) (by decide +kernel))) rfl
theorem mw_319 : Cond.methodLinkNest RX9 221 yX3_way RX9 ∈ NW := NWm (tb2 (List.mem_of_getElem? (i := 79) (by decide +kernel))) rfl
theorem mw_321 : Cond.instanceMethod yX3_way ∈ LW := LWm (tb2 (List.mem_of_getElem? (i := 81) (by decide +kernel))) rfl
theorem mw_322 : Cond.code yX3_way cX3_way 3 (some .int) ∈ LW := LWm (tb2 (List.mem_of_getElem? (i := 82) (by decide +kernel))) rfl
theorem mw_323 : Cond.methodLink RX3 21 yX3_riseTo ∈ LW := LWm (tb2 (List.mem_of_getElem? (i := 83) (by decide +kernel))) rfl
theorem mw_325 : Cond.instanceMethod yX3_riseTo ∈ LW := LWm (tb2 (List.mem_of_getElem? (i := 85) (by decide +kernel))) rfl
theorem mw_326 : Cond.code yX3_riseTo cX3_riseTo 3 (some .int) ∈ LW := LWm (tb2 (List.mem_of_getElem? (i := 86) (by decide +kernel))) rfl
theorem mw_327 : Cond.methodLinkNest RX3 36 yX5_dropAhead RX9 ∈ NW := NWm (tb2 (List.mem_of_getElem? (i := 87) (by decide +kernel))) rfl
theorem mw_328 : Cond.methodLinkNest RX3 39 yX5_isRest RX9 ∈ NW := NWm (tb2 (List.mem_of_getElem? (i := 88) (by decide +kernel))) rfl
theorem mw_329 : Cond.methodLink RX3 25 yJ9_abs_0f7a4 ∈ LW := LWm (tb2 (List.mem_of_getElem? (i := 89) (by decide +kernel))) rfl
theorem mw_330 : Cond.methodLink RL 198 yX9_goes ∈ LW := LWm (tb2 (List.mem_of_getElem? (i := 90) (by decide +kernel))) rfl
theorem mw_331 : Cond.instanceMethod yX9_goes ∈ LW := LWm (tb2 (List.mem_of_getElem? (i := 91) (by decide +kernel))) rfl
theorem mw_332 : Cond.selects RX9 yX9_goes yX9_goes ∈ LW := LWm (tb2 (List.mem_of_getElem? (i := 92) (by decide +kernel))) rfl
theorem mw_333 : Cond.code yX9_goes cX9_goes 2 (some .int) ∈ LW := LWm (tb2 (List.mem_of_getElem? (i := 93) (by decide +kernel))) rfl
theorem mw_334 : Cond.methodLinkNest RX9 224 yX3_moves RX9 ∈ NW := NWm (tb2 (List.mem_of_getElem? (i := 94) (by decide +kernel))) rfl
theorem mw_336 : Cond.instanceMethod yX3_moves ∈ LW := LWm (tb2 (List.mem_of_getElem? (i := 96) (by decide +kernel))) rfl
theorem mw_337 : Cond.code yX3_moves cX3_moves 5 (some .int) ∈ LW := LWm (tb2 (List.mem_of_getElem? (i := 97) (by decide +kernel))) rfl
theorem mw_338 : Cond.methodLink RL 202 yX9_span ∈ LW := LWm (tb2 (List.mem_of_getElem? (i := 98) (by decide +kernel))) rfl
theorem mw_339 : Cond.instanceMethod yX9_span ∈ LW := LWm (tb2 (List.mem_of_getElem? (i := 99) (by decide +kernel))) rfl
theorem mw_340 : Cond.selects RX9 yX9_span yX9_span ∈ LW := LWm (tb2 (List.mem_of_getElem? (i := 100) (by decide +kernel))) rfl
theorem mw_341 : Cond.code yX9_span cX9_span 1 (some .int) ∈ LW := LWm (tb2 (List.mem_of_getElem? (i := 101) (by decide +kernel))) rfl
theorem mw_342 : Cond.methodLinkNest RX9 228 yX3_width RX9 ∈ NW := NWm (tb2 (List.mem_of_getElem? (i := 102) (by decide +kernel))) rfl
theorem mw_344 : Cond.instanceMethod yX3_width ∈ LW := LWm (tb2 (List.mem_of_getElem? (i := 104) (by decide +kernel))) rfl
theorem mw_345 : Cond.code yX3_width cX3_width 5 (some .int) ∈ LW := LWm (tb2 (List.mem_of_getElem? (i := 105) (by decide +kernel))) rfl
theorem mw_346 : Cond.methodLink RX3 43 yJ9_min_7cf53 ∈ LW := LWm (tb2 (List.mem_of_getElem? (i := 106) (by decide +kernel))) rfl
theorem mw_347 : Cond.static yJ9_min_7cf53 ∈ LW := LWm (tb2 (List.mem_of_getElem? (i := 107) (by decide +kernel))) rfl
theorem mw_348 : Cond.code yJ9_min_7cf53 cJ9_min_7cf53 2 (some .int) ∈ LW := LWm (tb2 (List.mem_of_getElem? (i := 108) (by decide +kernel))) rfl
theorem mw_349 : Cond.methodLink RX3 47 yJ9_max_7cf53 ∈ LW := LWm (tb2 (List.mem_of_getElem? (i := 109) (by decide +kernel))) rfl
theorem mw_350 : Cond.static yJ9_max_7cf53 ∈ LW := LWm (tb2 (List.mem_of_getElem? (i := 110) (by decide +kernel))) rfl
theorem mw_351 : Cond.code yJ9_max_7cf53 cJ9_max_7cf53 2 (some .int) ∈ LW := LWm (tb2 (List.mem_of_getElem? (i := 111) (by decide +kernel))) rfl
theorem mw_352 : Cond.methodLink RL 231 yX9_errorPosition ∈ LW := LWm (tb2 (List.mem_of_getElem? (i := 112) (by decide +kernel))) rfl
theorem mw_353 : Cond.instanceMethod yX9_errorPosition ∈ LW := LWm (tb2 (List.mem_of_getElem? (i := 113) (by decide +kernel))) rfl
theorem mw_354 : Cond.selects RX9 yX9_errorPosition yX9_errorPosition ∈ LW := LWm (tb2 (List.mem_of_getElem? (i := 114) (by decide +kernel))) rfl
theorem mw_355 : Cond.code yX9_errorPosition cX9_errorPosition 1 (some .int) ∈ LW := LWm (tb2 (List.mem_of_getElem? (i := 115) (by decide +kernel))) rfl
theorem mw_356 : Cond.methodLinkNest RX9 282 yX8_placeOfError RX9 ∈ NW := NWm (tb2 (List.mem_of_getElem? (i := 116) (by decide +kernel))) rfl
theorem mw_358 : Cond.instanceMethod yX8_placeOfError ∈ LW := LWm (tb2 (List.mem_of_getElem? (i := 118) (by decide +kernel))) rfl
theorem mw_359 : Cond.code yX8_placeOfError cX8_placeOfError 1 (some .int) ∈ LW := LWm (tb2 (List.mem_of_getElem? (i := 119) (by decide +kernel))) rfl
theorem mw_360 : Cond.methodLink RL 242 yX9_isWell ∈ LW := LWm (tb2 (List.mem_of_getElem? (i := 120) (by decide +kernel))) rfl
theorem mw_361 : Cond.instanceMethod yX9_isWell ∈ LW := LWm (tb2 (List.mem_of_getElem? (i := 121) (by decide +kernel))) rfl
theorem mw_362 : Cond.selects RX9 yX9_isWell yX9_isWell ∈ LW := LWm (tb2 (List.mem_of_getElem? (i := 122) (by decide +kernel))) rfl
theorem mw_363 : Cond.code yX9_isWell cX9_isWell 1 (some .boolean) ∈ LW := LWm (tb2 (List.mem_of_getElem? (i := 123) (by decide +kernel))) rfl
theorem mw_364 : Cond.methodLinkNest RX9 327 yX6_isToldAlike RX9 ∈ NW := NWm (tb2 (List.mem_of_getElem? (i := 124) (by decide +kernel))) rfl
theorem mw_366 : Cond.instanceMethod yX6_isToldAlike ∈ LW := LWm (tb2 (List.mem_of_getElem? (i := 126) (by decide +kernel))) rfl
theorem mw_367 : Cond.code yX6_isToldAlike cX6_isToldAlike 2 (some .boolean) ∈ LW := LWm (tb2 (List.mem_of_getElem? (i := 127) (by decide +kernel))) rfl
theorem mw_368 : Cond.methodLink RX6 94 yX6_countByBeats ∈ LW := LWm (tb2 (List.mem_of_getElem? (i := 128) (by decide +kernel))) rfl
theorem mw_370 : Cond.instanceMethod yX6_countByBeats ∈ LW := LWm (tb2 (List.mem_of_getElem? (i := 130) (by decide +kernel))) rfl
theorem mw_371 : Cond.code yX6_countByBeats cX6_countByBeats 2 (some .int) ∈ LW := LWm (tb2 (List.mem_of_getElem? (i := 131) (by decide +kernel))) rfl
theorem mw_372 : Cond.methodLink RX6 72 yX6_restsAtBars ∈ LW := LWm (tb2 (List.mem_of_getElem? (i := 132) (by decide +kernel))) rfl
theorem mw_374 : Cond.instanceMethod yX6_restsAtBars ∈ LW := LWm (tb2 (List.mem_of_getElem? (i := 134) (by decide +kernel))) rfl
theorem mw_375 : Cond.code yX6_restsAtBars cX6_restsAtBars 5 (some .int) ∈ LW := LWm (tb2 (List.mem_of_getElem? (i := 135) (by decide +kernel))) rfl
theorem mw_376 : Cond.methodLinkNest RX6 81 yX5_filledBeats RX9 ∈ NW := NWm (tb2 (List.mem_of_getElem? (i := 136) (by decide +kernel))) rfl
theorem mw_378 : Cond.instanceMethod yX5_filledBeats ∈ LW := LWm (tb2 (List.mem_of_getElem? (i := 138) (by decide +kernel))) rfl
theorem mw_379 : Cond.code yX5_filledBeats cX5_filledBeats 1 (some .int) ∈ LW := LWm (tb2 (List.mem_of_getElem? (i := 139) (by decide +kernel))) rfl
theorem mw_380 : Cond.methodLinkNest RX6 84 yX5_barAt RX9 ∈ NW := NWm (tb2 (List.mem_of_getElem? (i := 140) (by decide +kernel))) rfl
theorem mw_381 : Cond.methodLink RX6 75 yX6_pitchesByBeats ∈ LW := LWm (tb2 (List.mem_of_getElem? (i := 141) (by decide +kernel))) rfl
theorem mw_383 : Cond.instanceMethod yX6_pitchesByBeats ∈ LW := LWm (tb2 (List.mem_of_getElem? (i := 143) (by decide +kernel))) rfl
theorem mw_384 : Cond.code yX6_pitchesByBeats cX6_pitchesByBeats 11 (some .int) ∈ LW := LWm (tb2 (List.mem_of_getElem? (i := 144) (by decide +kernel))) rfl
theorem mw_385 : Cond.methodLink RX6 78 yX6_tiesByBeats ∈ LW := LWm (tb2 (List.mem_of_getElem? (i := 145) (by decide +kernel))) rfl
theorem mw_387 : Cond.instanceMethod yX6_tiesByBeats ∈ LW := LWm (tb2 (List.mem_of_getElem? (i := 147) (by decide +kernel))) rfl
theorem mw_388 : Cond.code yX6_tiesByBeats cX6_tiesByBeats 7 (some .int) ∈ LW := LWm (tb2 (List.mem_of_getElem? (i := 148) (by decide +kernel))) rfl
theorem mw_389 : Cond.methodLinkNest RX9 330 yX5_arePartsWhole RX9 ∈ NW := NWm (tb2 (List.mem_of_getElem? (i := 149) (by decide +kernel))) rfl
theorem mw_391 : Cond.instanceMethod yX5_arePartsWhole ∈ LW := LWm (tb2 (List.mem_of_getElem? (i := 151) (by decide +kernel))) rfl
theorem mw_392 : Cond.code yX5_arePartsWhole cX5_arePartsWhole 4 (some .boolean) ∈ LW := LWm (tb2 (List.mem_of_getElem? (i := 152) (by decide +kernel))) rfl
theorem mw_393 : Cond.methodLink RX5 85 yX5_overlap ∈ LW := LWm (tb2 (List.mem_of_getElem? (i := 153) (by decide +kernel))) rfl
theorem mw_395 : Cond.instanceMethod yX5_overlap ∈ LW := LWm (tb2 (List.mem_of_getElem? (i := 155) (by decide +kernel))) rfl
theorem mw_396 : Cond.code yX5_overlap cX5_overlap 7 (some .int) ∈ LW := LWm (tb2 (List.mem_of_getElem? (i := 156) (by decide +kernel))) rfl
theorem mw_397 : Cond.methodLink RX5 66 yX5_startOfBar ∈ LW := LWm (tb2 (List.mem_of_getElem? (i := 157) (by decide +kernel))) rfl
theorem mw_398 : Cond.methodLink RX5 73 yJ9_min_7cf53 ∈ LW := LWm (tb2 (List.mem_of_getElem? (i := 158) (by decide +kernel))) rfl
theorem mw_399 : Cond.methodLink RX5 79 yJ9_max_7cf53 ∈ LW := LWm (tb2 (List.mem_of_getElem? (i := 159) (by decide +kernel))) rfl
theorem mw_400 : Cond.methodLinkNest RX9 333 yX5_areBarsInBounds RX9 ∈ NW := NWm (tb2 (List.mem_of_getElem? (i := 160) (by decide +kernel))) rfl
theorem mw_402 : Cond.instanceMethod yX5_areBarsInBounds ∈ LW := LWm (tb2 (List.mem_of_getElem? (i := 162) (by decide +kernel))) rfl
theorem mw_403 : Cond.code yX5_areBarsInBounds cX5_areBarsInBounds 4 (some .boolean) ∈ LW := LWm (tb2 (List.mem_of_getElem? (i := 163) (by decide +kernel))) rfl
theorem mw_404 : Cond.methodLink RL 256 yX9_save ∈ LW := LWm (tb2 (List.mem_of_getElem? (i := 164) (by decide +kernel))) rfl
theorem mw_405 : Cond.instanceMethod yX9_save ∈ LW := LWm (tb2 (List.mem_of_getElem? (i := 165) (by decide +kernel))) rfl
theorem mw_406 : Cond.selects RX9 yX9_save yX9_save ∈ LW := LWm (tb2 (List.mem_of_getElem? (i := 166) (by decide +kernel))) rfl
theorem mw_407 : Cond.code yX9_save cX9_save 1 (some .int) ∈ LW := LWm (tb2 (List.mem_of_getElem? (i := 167) (by decide +kernel))) rfl
theorem mw_408 : Cond.methodLinkNest RX9 267 yX5_become RX9 ∈ NW := NWm (tb2 (List.mem_of_getElem? (i := 168) (by decide +kernel))) rfl
theorem mw_410 : Cond.instanceMethod yX5_become ∈ LW := LWm (tb2 (List.mem_of_getElem? (i := 170) (by decide +kernel))) rfl
theorem mw_411 : Cond.code yX5_become cX5_become 2 none ∈ LW := LWm (tb2 (List.mem_of_getElem? (i := 171) (by decide +kernel))) rfl
theorem mw_412 : Cond.methodLinkNest RX5 46 yX9_copyRow RX9 ∈ NW := NWm (tb2 (List.mem_of_getElem? (i := 172) (by decide +kernel))) rfl
theorem mw_413 : Cond.static yX9_copyRow ∈ LW := LWm (tb2 (List.mem_of_getElem? (i := 173) (by decide +kernel))) rfl
theorem mw_414 : Cond.code yX9_copyRow cX9_copyRow 3 none ∈ LW := LWm (tb2 (List.mem_of_getElem? (i := 174) (by decide +kernel))) rfl
theorem mw_415 : Cond.methodLink RX9 395 yX9_cell ∈ LW := LWm (tb2 (List.mem_of_getElem? (i := 175) (by decide +kernel))) rfl
theorem mw_416 : Cond.methodLink RX9 399 yX9_put ∈ LW := LWm (tb2 (List.mem_of_getElem? (i := 176) (by decide +kernel))) rfl
theorem mw_417 : Cond.static yX9_put ∈ LW := LWm (tb2 (List.mem_of_getElem? (i := 177) (by decide +kernel))) rfl
theorem mw_418 : Cond.code yX9_put cX9_put 3 none ∈ LW := LWm (tb2 (List.mem_of_getElem? (i := 178) (by decide +kernel))) rfl
theorem mw_419 : Cond.methodLinkNest RX9 303 yX5_countOfSounds RX9 ∈ NW := NWm (tb2 (List.mem_of_getElem? (i := 179) (by decide +kernel))) rfl
theorem mw_420 : Cond.methodLink RL 128 yL_bar ∈ LW := LWm (tb2 (List.mem_of_getElem? (i := 180) (by decide +kernel))) rfl
theorem mw_421 : Cond.static yL_bar ∈ LW := LWm (tb2 (List.mem_of_getElem? (i := 181) (by decide +kernel))) rfl
theorem mw_422 : Cond.codeWith yL_bar cL_bar 4 (some .int) [(0, 9, 12, 13), (0, 9, 15, 15)] ∈ LW := LWm (tb2 (List.mem_of_getElem? (i := 182) (by decide +kernel))) rfl
theorem mw_423 : Cond.classLink RL 13 "java/lang/IllegalArgumentException" ∈ LW := LWm (tb2 (List.mem_of_getElem? (i := 183) (by decide +kernel))) rfl
theorem mw_424 : Cond.classLink RL 15 "java/lang/UnsupportedOperationException" ∈ LW := LWm (tb2 (List.mem_of_getElem? (i := 184) (by decide +kernel))) rfl
theorem mw_425 : Cond.methodLink RL 7 yX9_bar ∈ LW := LWm (tb2 (List.mem_of_getElem? (i := 185) (by decide +kernel))) rfl
theorem mw_426 : Cond.instanceMethod yX9_bar ∈ LW := LWm (tb2 (List.mem_of_getElem? (i := 186) (by decide +kernel))) rfl
theorem mw_427 : Cond.selects RX9 yX9_bar yX9_bar ∈ LW := LWm (tb2 (List.mem_of_getElem? (i := 187) (by decide +kernel))) rfl
theorem mw_428 : Cond.code yX9_bar cX9_bar 2 (some .int) ∈ LW := LWm (tb2 (List.mem_of_getElem? (i := 188) (by decide +kernel))) rfl
theorem mw_429 : Cond.fieldLink RX9 77 "TinRoofScore$Order" "BAR" "LTinRoofScore$Order;" ∈ LW := LWm (tb2 (List.mem_of_getElem? (i := 189) (by decide +kernel))) rfl
theorem mw_431 : Cond.methodLink RX9 83 yX9_change ∈ LW := LWm (tb2 (List.mem_of_getElem? (i := 191) (by decide +kernel))) rfl
theorem mw_433 : Cond.instanceMethod yX9_change ∈ LW := LWm (tb2 (List.mem_of_getElem? (i := 193) (by decide +kernel))) rfl
theorem mw_434 : Cond.code yX9_change cX9_change 6 (some .int) ∈ LW := LWm (tb2 (List.mem_of_getElem? (i := 194) (by decide +kernel))) rfl
theorem mw_435 : Cond.methodLinkNest RX9 357 yX1_verdict RX9 ∈ NW := NWm (tb2 (List.mem_of_getElem? (i := 195) (by decide +kernel))) rfl
theorem mw_437 : Cond.instanceMethod yX1_verdict ∈ LW := LWm (tb2 (List.mem_of_getElem? (i := 197) (by decide +kernel))) rfl
theorem mw_438 : Cond.code yX1_verdict cX1_verdict 5 (some .int) ∈ LW := LWm (tb2 (List.mem_of_getElem? (i := 198) (by decide +kernel))) rfl
theorem mw_439 : Cond.fieldLink RX1 22 "TinRoofScore$Order" "BAR" "LTinRoofScore$Order;" ∈ LW := LWm (tb2 (List.mem_of_getElem? (i := 199) (by decide +kernel))) rfl
theorem mw_440 : Cond.methodLink RX1 28 yX1_verdictOnBar ∈ LW := LWm (tb2 (List.mem_of_getElem? (i := 200) (by decide +kernel))) rfl
theorem mw_442 : Cond.instanceMethod yX1_verdictOnBar ∈ LW := LWm (tb2 (List.mem_of_getElem? (i := 202) (by decide +kernel))) rfl
theorem mw_443 : Cond.code yX1_verdictOnBar cX1_verdictOnBar 2 (some .int) ∈ LW := LWm (tb2 (List.mem_of_getElem? (i := 203) (by decide +kernel))) rfl
theorem mw_444 : Cond.methodLinkNest RX1 89 yX9_isWithin RX9 ∈ NW := NWm (tb2 (List.mem_of_getElem? (i := 204) (by decide +kernel))) rfl
theorem mw_445 : Cond.static yX9_isWithin ∈ LW := LWm (tb2 (List.mem_of_getElem? (i := 205) (by decide +kernel))) rfl
theorem mw_446 : Cond.code yX9_isWithin cX9_isWithin 3 (some .boolean) ∈ LW := LWm (tb2 (List.mem_of_getElem? (i := 206) (by decide +kernel))) rfl
theorem mw_447 : Cond.methodLinkNest RX1 70 yX5_countOfBars RX9 ∈ NW := NWm (tb2 (List.mem_of_getElem? (i := 207) (by decide +kernel))) rfl
theorem mw_448 : Cond.methodLink RX1 73 yX1_refuse ∈ LW := LWm (tb2 (List.mem_of_getElem? (i := 208) (by decide +kernel))) rfl
theorem mw_450 : Cond.instanceMethod yX1_refuse ∈ LW := LWm (tb2 (List.mem_of_getElem? (i := 210) (by decide +kernel))) rfl
theorem mw_451 : Cond.code yX1_refuse cX1_refuse 3 (some .int) ∈ LW := LWm (tb2 (List.mem_of_getElem? (i := 211) (by decide +kernel))) rfl
theorem mw_452 : Cond.fieldLink RX1 32 "TinRoofScore$Order" "KEY" "LTinRoofScore$Order;" ∈ LW := LWm (tb2 (List.mem_of_getElem? (i := 212) (by decide +kernel))) rfl
theorem mw_454 : Cond.methodLinkNest RX1 35 yX5_keyOf RX9 ∈ NW := NWm (tb2 (List.mem_of_getElem? (i := 214) (by decide +kernel))) rfl
theorem mw_456 : Cond.instanceMethod yX5_keyOf ∈ LW := LWm (tb2 (List.mem_of_getElem? (i := 216) (by decide +kernel))) rfl
theorem mw_457 : Cond.code yX5_keyOf cX5_keyOf 2 (some .int) ∈ LW := LWm (tb2 (List.mem_of_getElem? (i := 217) (by decide +kernel))) rfl
theorem mw_458 : Cond.methodLink RX1 40 yX1_verdictOnTin ∈ LW := LWm (tb2 (List.mem_of_getElem? (i := 218) (by decide +kernel))) rfl
theorem mw_460 : Cond.instanceMethod yX1_verdictOnTin ∈ LW := LWm (tb2 (List.mem_of_getElem? (i := 220) (by decide +kernel))) rfl
theorem mw_461 : Cond.code yX1_verdictOnTin cX1_verdictOnTin 5 (some .int) ∈ LW := LWm (tb2 (List.mem_of_getElem? (i := 221) (by decide +kernel))) rfl
theorem mw_462 : Cond.methodLinkNest RX1 93 yX9_isTin RX9 ∈ NW := NWm (tb2 (List.mem_of_getElem? (i := 222) (by decide +kernel))) rfl
theorem mw_463 : Cond.static yX9_isTin ∈ LW := LWm (tb2 (List.mem_of_getElem? (i := 223) (by decide +kernel))) rfl
theorem mw_464 : Cond.code yX9_isTin cX9_isTin 1 (some .boolean) ∈ LW := LWm (tb2 (List.mem_of_getElem? (i := 224) (by decide +kernel))) rfl
theorem mw_465 : Cond.methodLink RX9 116 yX9_isWithin ∈ LW := LWm (tb2 (List.mem_of_getElem? (i := 225) (by decide +kernel))) rfl
theorem mw_466 : Cond.fieldLink RX1 44 "TinRoofScore$Order" "LEAK" "LTinRoofScore$Order;" ∈ LW := LWm (tb2 (List.mem_of_getElem? (i := 226) (by decide +kernel))) rfl
theorem mw_468 : Cond.methodLinkNest RX1 47 yX5_leakOf RX9 ∈ NW := NWm (tb2 (List.mem_of_getElem? (i := 228) (by decide +kernel))) rfl
theorem mw_470 : Cond.instanceMethod yX5_leakOf ∈ LW := LWm (tb2 (List.mem_of_getElem? (i := 230) (by decide +kernel))) rfl
theorem mw_471 : Cond.code yX5_leakOf cX5_leakOf 2 (some .int) ∈ LW := LWm (tb2 (List.mem_of_getElem? (i := 231) (by decide +kernel))) rfl
theorem mw_472 : Cond.fieldLink RX1 50 "TinRoofScore$Order" "DROP" "LTinRoofScore$Order;" ∈ LW := LWm (tb2 (List.mem_of_getElem? (i := 232) (by decide +kernel))) rfl
theorem mw_474 : Cond.methodLink RX1 53 yX1_verdictOnDrop ∈ LW := LWm (tb2 (List.mem_of_getElem? (i := 234) (by decide +kernel))) rfl
theorem mw_476 : Cond.instanceMethod yX1_verdictOnDrop ∈ LW := LWm (tb2 (List.mem_of_getElem? (i := 236) (by decide +kernel))) rfl
theorem mw_477 : Cond.code yX1_verdictOnDrop cX1_verdictOnDrop 4 (some .int) ∈ LW := LWm (tb2 (List.mem_of_getElem? (i := 237) (by decide +kernel))) rfl
theorem mw_478 : Cond.methodLink RX1 97 yX1_verdictOnRoom ∈ LW := LWm (tb2 (List.mem_of_getElem? (i := 238) (by decide +kernel))) rfl
theorem mw_480 : Cond.instanceMethod yX1_verdictOnRoom ∈ LW := LWm (tb3 (List.mem_of_getElem? (i := 0) (by decide +kernel))) rfl
theorem mw_481 : Cond.code yX1_verdictOnRoom cX1_verdictOnRoom 3 (some .int) ∈ LW := LWm (tb3 (List.mem_of_getElem? (i := 1) (by decide +kernel))) rfl
theorem mw_482 : Cond.methodLinkNest RX1 66 yX5_countOfSounds RX9 ∈ NW := NWm (tb3 (List.mem_of_getElem? (i := 2) (by decide +kernel))) rfl
theorem mw_483 : Cond.methodLinkNest RX1 100 yX5_freeBeats RX9 ∈ NW := NWm (tb3 (List.mem_of_getElem? (i := 3) (by decide +kernel))) rfl
theorem mw_485 : Cond.instanceMethod yX5_freeBeats ∈ LW := LWm (tb3 (List.mem_of_getElem? (i := 5) (by decide +kernel))) rfl
theorem mw_486 : Cond.code yX5_freeBeats cX5_freeBeats 1 (some .int) ∈ LW := LWm (tb3 (List.mem_of_getElem? (i := 6) (by decide +kernel))) rfl
theorem mw_487 : Cond.fieldLink RX1 57 "TinRoofScore$Order" "REST" "LTinRoofScore$Order;" ∈ LW := LWm (tb3 (List.mem_of_getElem? (i := 7) (by decide +kernel))) rfl
theorem mw_489 : Cond.methodLink RX1 60 yX1_verdictOnRest ∈ LW := LWm (tb3 (List.mem_of_getElem? (i := 9) (by decide +kernel))) rfl
theorem mw_491 : Cond.instanceMethod yX1_verdictOnRest ∈ LW := LWm (tb3 (List.mem_of_getElem? (i := 11) (by decide +kernel))) rfl
theorem mw_492 : Cond.code yX1_verdictOnRest cX1_verdictOnRest 2 (some .int) ∈ LW := LWm (tb3 (List.mem_of_getElem? (i := 12) (by decide +kernel))) rfl
theorem mw_493 : Cond.fieldLink RX1 63 "TinRoofScore$Order" "LIFT" "LTinRoofScore$Order;" ∈ LW := LWm (tb3 (List.mem_of_getElem? (i := 13) (by decide +kernel))) rfl
theorem mw_495 : Cond.fieldLink RX1 77 "TinRoofScore$Order" "LIMIT" "LTinRoofScore$Order;" ∈ LW := LWm (tb3 (List.mem_of_getElem? (i := 15) (by decide +kernel))) rfl
theorem mw_497 : Cond.methodLink RX1 80 yX1_verdictOnLimit ∈ LW := LWm (tb3 (List.mem_of_getElem? (i := 17) (by decide +kernel))) rfl
theorem mw_499 : Cond.instanceMethod yX1_verdictOnLimit ∈ LW := LWm (tb3 (List.mem_of_getElem? (i := 19) (by decide +kernel))) rfl
theorem mw_500 : Cond.code yX1_verdictOnLimit cX1_verdictOnLimit 2 (some .int) ∈ LW := LWm (tb3 (List.mem_of_getElem? (i := 20) (by decide +kernel))) rfl
theorem mw_501 : Cond.methodLinkNest RX1 103 yX5_limitNow RX9 ∈ NW := NWm (tb3 (List.mem_of_getElem? (i := 21) (by decide +kernel))) rfl
theorem mw_502 : Cond.fieldLink RX1 83 "TinRoofScore$Order" "TUNE" "LTinRoofScore$Order;" ∈ LW := LWm (tb3 (List.mem_of_getElem? (i := 22) (by decide +kernel))) rfl
theorem mw_504 : Cond.methodLink RX1 86 yX1_verdictOnTune ∈ LW := LWm (tb3 (List.mem_of_getElem? (i := 24) (by decide +kernel))) rfl
theorem mw_506 : Cond.instanceMethod yX1_verdictOnTune ∈ LW := LWm (tb3 (List.mem_of_getElem? (i := 26) (by decide +kernel))) rfl
theorem mw_507 : Cond.code yX1_verdictOnTune cX1_verdictOnTune 3 (some .int) ∈ LW := LWm (tb3 (List.mem_of_getElem? (i := 27) (by decide +kernel))) rfl
theorem mw_508 : Cond.methodLinkNest RX1 106 yX5_hasSound RX9 ∈ NW := NWm (tb3 (List.mem_of_getElem? (i := 28) (by decide +kernel))) rfl
theorem mw_510 : Cond.instanceMethod yX5_hasSound ∈ LW := LWm (tb3 (List.mem_of_getElem? (i := 30) (by decide +kernel))) rfl
theorem mw_511 : Cond.code yX5_hasSound cX5_hasSound 2 (some .boolean) ∈ LW := LWm (tb3 (List.mem_of_getElem? (i := 31) (by decide +kernel))) rfl
theorem mw_512 : Cond.methodLinkNest RX5 58 yX9_isWithin RX9 ∈ NW := NWm (tb3 (List.mem_of_getElem? (i := 32) (by decide +kernel))) rfl
theorem mw_513 : Cond.methodLinkNest RX1 109 yX5_isRest RX9 ∈ NW := NWm (tb3 (List.mem_of_getElem? (i := 33) (by decide +kernel))) rfl
theorem mw_514 : Cond.methodLinkNest RX1 112 yX5_beatsOf RX9 ∈ NW := NWm (tb3 (List.mem_of_getElem? (i := 34) (by decide +kernel))) rfl
theorem mw_516 : Cond.instanceMethod yX5_beatsOf ∈ LW := LWm (tb3 (List.mem_of_getElem? (i := 36) (by decide +kernel))) rfl
theorem mw_517 : Cond.code yX5_beatsOf cX5_beatsOf 2 (some .int) ∈ LW := LWm (tb3 (List.mem_of_getElem? (i := 37) (by decide +kernel))) rfl
theorem mw_518 : Cond.methodLinkNest RX1 115 yX5_heightOf RX9 ∈ NW := NWm (tb3 (List.mem_of_getElem? (i := 38) (by decide +kernel))) rfl
theorem mw_520 : Cond.instanceMethod yX5_heightOf ∈ LW := LWm (tb3 (List.mem_of_getElem? (i := 40) (by decide +kernel))) rfl
theorem mw_521 : Cond.code yX5_heightOf cX5_heightOf 2 (some .int) ∈ LW := LWm (tb3 (List.mem_of_getElem? (i := 41) (by decide +kernel))) rfl
theorem mw_522 : Cond.methodLink RX9 112 yX9_needPlace ∈ LW := LWm (tb3 (List.mem_of_getElem? (i := 42) (by decide +kernel))) rfl
theorem mw_523 : Cond.static yX9_needPlace ∈ LW := LWm (tb3 (List.mem_of_getElem? (i := 43) (by decide +kernel))) rfl
theorem mw_524 : Cond.code yX9_needPlace cX9_needPlace 1 none ∈ LW := LWm (tb3 (List.mem_of_getElem? (i := 44) (by decide +kernel))) rfl
theorem mw_525 : Cond.classLink RX9 370 "java/lang/IndexOutOfBoundsException" ∈ LW := LWm (tb3 (List.mem_of_getElem? (i := 45) (by decide +kernel))) rfl
theorem mw_526 : Cond.instantiable "java/lang/IndexOutOfBoundsException" 6 ∈ LW := LWm (tb3 (List.mem_of_getElem? (i := 46) (by decide +kernel))) rfl
theorem mw_527 : Cond.castable "java/lang/IndexOutOfBoundsException" "java/lang/IndexOutOfBoundsException" ∈ NW := NWm (tb3 (List.mem_of_getElem? (i := 47) (by decide +kernel))) rfl
theorem mw_528 : Cond.declares ⟨"java/lang/RuntimeException", "<init>", "()V"⟩ ∈ NW := NWm (tb3 (List.mem_of_getElem? (i := 48) (by decide +kernel))) rfl
theorem mw_529 : Cond.declares ⟨"java/lang/RuntimeException", "<init>", "(Ljava/lang/String;)V"⟩ ∈ NW := NWm (tb3 (List.mem_of_getElem? (i := 49) (by decide +kernel))) rfl
theorem mw_530 : Cond.declares ⟨"java/lang/Exception", "<init>", "()V"⟩ ∈ NW := NWm (tb3 (List.mem_of_getElem? (i := 50) (by decide +kernel))) rfl
theorem mw_531 : Cond.declares ⟨"java/lang/Exception", "<init>", "(Ljava/lang/String;)V"⟩ ∈ NW := NWm (tb3 (List.mem_of_getElem? (i := 51) (by decide +kernel))) rfl
theorem mw_532 : Cond.declares ⟨"java/lang/Throwable", "<init>", "()V"⟩ ∈ NW := NWm (tb3 (List.mem_of_getElem? (i := 52) (by decide +kernel))) rfl
theorem mw_533 : Cond.declares ⟨"java/lang/Throwable", "<init>", "(Ljava/lang/String;)V"⟩ ∈ NW := NWm (tb3 (List.mem_of_getElem? (i := 53) (by decide +kernel))) rfl
theorem mw_534 : Cond.selects "java/lang/IndexOutOfBoundsException" ⟨"java/lang/Throwable", "fillInStackTrace", "(I)Ljava/lang/Throwable;"⟩ ⟨"java/lang/Throwable", "fillInStackTrace", "(I)Ljava/lang/Throwable;"⟩ ∈ LW := LWm (tb3 (List.mem_of_getElem? (i := 54) (by decide +kernel))) rfl
theorem mw_535 : Cond.selects "java/lang/IndexOutOfBoundsException" ⟨"java/lang/Throwable", "fillInStackTrace", "()Ljava/lang/Throwable;"⟩ ⟨"java/lang/Throwable", "fillInStackTrace", "()Ljava/lang/Throwable;"⟩ ∈ LW := LWm (tb3 (List.mem_of_getElem? (i := 55) (by decide +kernel))) rfl
theorem mw_546 : Cond.fieldLink "java/lang/Throwable" 198 "java/lang/Throwable" "backtrace" "Ljava/lang/Object;" ∈ LW := LWm (tb3 (List.mem_of_getElem? (i := 66) (by decide +kernel))) rfl
theorem mw_548 : Cond.instanceMethod ⟨"java/lang/Throwable", "<init>", "()V"⟩ ∈ LW := LWm (tb3 (List.mem_of_getElem? (i := 68) (by decide +kernel))) rfl
theorem mw_549 : Cond.code ⟨"java/lang/Throwable", "<init>", "()V"⟩ prog_29_method_1_code 1 none ∈ LW := LWm (tb3 (List.mem_of_getElem? (i := 69) (by decide +kernel))) rfl
theorem mw_550 : Cond.methodLink "java/lang/Throwable" 1 ⟨"java/lang/Object", "<init>", "()V"⟩ ∈ LW := LWm (tb3 (List.mem_of_getElem? (i := 70) (by decide +kernel))) rfl
theorem mw_551 : Cond.fieldLink "java/lang/Throwable" 13 "java/lang/Throwable" "UNASSIGNED_STACK" "[Ljava/lang/StackTraceElement;" ∈ LW := LWm (tb3 (List.mem_of_getElem? (i := 71) (by decide +kernel))) rfl
theorem mw_553 : Cond.fieldLink "java/lang/Throwable" 20 "java/lang/Throwable" "SUPPRESSED_SENTINEL" "Ljava/util/List;" ∈ LW := LWm (tb3 (List.mem_of_getElem? (i := 73) (by decide +kernel))) rfl
theorem mw_555 : Cond.methodLink "java/lang/Throwable" 27 ⟨"java/lang/Throwable", "fillInStackTrace", "()Ljava/lang/Throwable;"⟩ ∈ LW := LWm (tb3 (List.mem_of_getElem? (i := 75) (by decide +kernel))) rfl
theorem mw_556 : Cond.instanceMethod ⟨"java/lang/Throwable", "fillInStackTrace", "()Ljava/lang/Throwable;"⟩ ∈ LW := LWm (tb3 (List.mem_of_getElem? (i := 76) (by decide +kernel))) rfl
theorem mw_558 : Cond.selects "java/lang/ArithmeticException" ⟨"java/lang/Throwable", "fillInStackTrace", "()Ljava/lang/Throwable;"⟩ ⟨"java/lang/Throwable", "fillInStackTrace", "()Ljava/lang/Throwable;"⟩ ∈ LW := LWm (tb3 (List.mem_of_getElem? (i := 78) (by decide +kernel))) rfl
theorem mw_559 : Cond.selects RJx00060 ⟨"java/lang/Throwable", "fillInStackTrace", "()Ljava/lang/Throwable;"⟩ ⟨"java/lang/Throwable", "fillInStackTrace", "()Ljava/lang/Throwable;"⟩ ∈ LW := LWm (tb3 (List.mem_of_getElem? (i := 79) (by decide +kernel))) rfl
theorem mw_560 : Cond.selects "java/lang/IllegalArgumentException" ⟨"java/lang/Throwable", "fillInStackTrace", "()Ljava/lang/Throwable;"⟩ ⟨"java/lang/Throwable", "fillInStackTrace", "()Ljava/lang/Throwable;"⟩ ∈ LW := LWm (tb3 (List.mem_of_getElem? (i := 80) (by decide +kernel))) rfl
theorem mw_561 : Cond.selects "java/lang/IllegalStateException" ⟨"java/lang/Throwable", "fillInStackTrace", "()Ljava/lang/Throwable;"⟩ ⟨"java/lang/Throwable", "fillInStackTrace", "()Ljava/lang/Throwable;"⟩ ∈ LW := LWm (tb3 (List.mem_of_getElem? (i := 81) (by decide +kernel))) rfl
theorem mw_562 : Cond.selects "java/lang/UnsupportedOperationException" ⟨"java/lang/Throwable", "fillInStackTrace", "()Ljava/lang/Throwable;"⟩ ⟨"java/lang/Throwable", "fillInStackTrace", "()Ljava/lang/Throwable;"⟩ ∈ LW := LWm (tb3 (List.mem_of_getElem? (i := 82) (by decide +kernel))) rfl
theorem mw_563 : Cond.selects "java/util/NoSuchElementException" ⟨"java/lang/Throwable", "fillInStackTrace", "()Ljava/lang/Throwable;"⟩ ⟨"java/lang/Throwable", "fillInStackTrace", "()Ljava/lang/Throwable;"⟩ ∈ LW := LWm (tb3 (List.mem_of_getElem? (i := 83) (by decide +kernel))) rfl
theorem mw_565 : Cond.methodLink "java/lang/Throwable" 202 ⟨"java/lang/Throwable", "fillInStackTrace", "(I)Ljava/lang/Throwable;"⟩ ∈ LW := LWm (tb3 (List.mem_of_getElem? (i := 85) (by decide +kernel))) rfl
theorem mw_567 : Cond.instanceMethod ⟨"java/lang/Throwable", "fillInStackTrace", "(I)Ljava/lang/Throwable;"⟩ ∈ LW := LWm (tb3 (List.mem_of_getElem? (i := 87) (by decide +kernel))) rfl
theorem mw_568 : Cond.instantiable "java/lang/Throwable" 6 ∈ LW := LWm (tb3 (List.mem_of_getElem? (i := 88) (by decide +kernel))) rfl
theorem mw_571 : Cond.methodLink RX9 374 ⟨"java/lang/IndexOutOfBoundsException", "<init>", "(Ljava/lang/String;)V"⟩ ∈ LW := LWm (tb3 (List.mem_of_getElem? (i := 91) (by decide +kernel))) rfl
theorem mw_572 : Cond.instanceMethod ⟨"java/lang/IndexOutOfBoundsException", "<init>", "(Ljava/lang/String;)V"⟩ ∈ LW := LWm (tb3 (List.mem_of_getElem? (i := 92) (by decide +kernel))) rfl
theorem mw_573 : Cond.code ⟨"java/lang/IndexOutOfBoundsException", "<init>", "(Ljava/lang/String;)V"⟩ prog_22_method_2_code 2 none ∈ LW := LWm (tb3 (List.mem_of_getElem? (i := 93) (by decide +kernel))) rfl
theorem mw_574 : Cond.methodLink "java/lang/IndexOutOfBoundsException" 7 ⟨"java/lang/RuntimeException", "<init>", "(Ljava/lang/String;)V"⟩ ∈ LW := LWm (tb3 (List.mem_of_getElem? (i := 94) (by decide +kernel))) rfl
theorem mw_575 : Cond.instanceMethod ⟨"java/lang/RuntimeException", "<init>", "(Ljava/lang/String;)V"⟩ ∈ LW := LWm (tb3 (List.mem_of_getElem? (i := 95) (by decide +kernel))) rfl
theorem mw_576 : Cond.code ⟨"java/lang/RuntimeException", "<init>", "(Ljava/lang/String;)V"⟩ prog_24_method_2_code 2 none ∈ LW := LWm (tb3 (List.mem_of_getElem? (i := 96) (by decide +kernel))) rfl
theorem mw_577 : Cond.methodLink "java/lang/RuntimeException" 7 ⟨"java/lang/Exception", "<init>", "(Ljava/lang/String;)V"⟩ ∈ LW := LWm (tb3 (List.mem_of_getElem? (i := 97) (by decide +kernel))) rfl
theorem mw_578 : Cond.instanceMethod ⟨"java/lang/Exception", "<init>", "(Ljava/lang/String;)V"⟩ ∈ LW := LWm (tb3 (List.mem_of_getElem? (i := 98) (by decide +kernel))) rfl
theorem mw_579 : Cond.code ⟨"java/lang/Exception", "<init>", "(Ljava/lang/String;)V"⟩ prog_19_method_2_code 2 none ∈ LW := LWm (tb3 (List.mem_of_getElem? (i := 99) (by decide +kernel))) rfl
theorem mw_580 : Cond.methodLink "java/lang/Exception" 7 ⟨"java/lang/Throwable", "<init>", "(Ljava/lang/String;)V"⟩ ∈ LW := LWm (tb3 (List.mem_of_getElem? (i := 100) (by decide +kernel))) rfl
theorem mw_581 : Cond.instanceMethod ⟨"java/lang/Throwable", "<init>", "(Ljava/lang/String;)V"⟩ ∈ LW := LWm (tb3 (List.mem_of_getElem? (i := 101) (by decide +kernel))) rfl
theorem mw_582 : Cond.code ⟨"java/lang/Throwable", "<init>", "(Ljava/lang/String;)V"⟩ prog_29_method_2_code 2 none ∈ LW := LWm (tb3 (List.mem_of_getElem? (i := 102) (by decide +kernel))) rfl
theorem mw_584 : Cond.fieldLink "java/lang/Throwable" 31 "java/lang/Throwable" "detailMessage" "Ljava/lang/String;" ∈ LW := LWm (tb3 (List.mem_of_getElem? (i := 104) (by decide +kernel))) rfl
theorem mw_585 : Cond.fieldLink "java/lang/Throwable" 7 "java/lang/Throwable" "cause" "Ljava/lang/Throwable;" ∈ LW := LWm (tb3 (List.mem_of_getElem? (i := 105) (by decide +kernel))) rfl
theorem mw_586 : Cond.fieldLink "java/lang/Throwable" 17 "java/lang/Throwable" "stackTrace" "[Ljava/lang/StackTraceElement;" ∈ LW := LWm (tb3 (List.mem_of_getElem? (i := 106) (by decide +kernel))) rfl
theorem mw_587 : Cond.fieldLink "java/lang/Throwable" 24 "java/lang/Throwable" "suppressedExceptions" "Ljava/util/List;" ∈ LW := LWm (tb3 (List.mem_of_getElem? (i := 107) (by decide +kernel))) rfl
theorem mw_596 : Cond.arrayClass .byte ∈ LW := LWm (tb3 (List.mem_of_getElem? (i := 116) (by decide +kernel))) rfl
theorem mw_597 : Cond.methodLink RX9 120 yX9_needRange ∈ LW := LWm (tb3 (List.mem_of_getElem? (i := 117) (by decide +kernel))) rfl
theorem mw_598 : Cond.static yX9_needRange ∈ LW := LWm (tb3 (List.mem_of_getElem? (i := 118) (by decide +kernel))) rfl
theorem mw_599 : Cond.code yX9_needRange cX9_needRange 1 none ∈ LW := LWm (tb3 (List.mem_of_getElem? (i := 119) (by decide +kernel))) rfl
theorem mw_600 : Cond.classLink RX9 375 "java/lang/IllegalArgumentException" ∈ LW := LWm (tb3 (List.mem_of_getElem? (i := 120) (by decide +kernel))) rfl
theorem mw_601 : Cond.instantiable "java/lang/IllegalArgumentException" 6 ∈ LW := LWm (tb3 (List.mem_of_getElem? (i := 121) (by decide +kernel))) rfl
theorem mw_602 : Cond.castable "java/lang/IllegalArgumentException" "java/lang/IllegalArgumentException" ∈ NW := NWm (tb3 (List.mem_of_getElem? (i := 122) (by decide +kernel))) rfl
theorem mw_603 : Cond.selects "java/lang/IllegalArgumentException" ⟨"java/lang/Throwable", "fillInStackTrace", "(I)Ljava/lang/Throwable;"⟩ ⟨"java/lang/Throwable", "fillInStackTrace", "(I)Ljava/lang/Throwable;"⟩ ∈ LW := LWm (tb3 (List.mem_of_getElem? (i := 123) (by decide +kernel))) rfl
theorem mw_610 : Cond.methodLink RX9 379 ⟨"java/lang/IllegalArgumentException", "<init>", "(Ljava/lang/String;)V"⟩ ∈ LW := LWm (tb3 (List.mem_of_getElem? (i := 130) (by decide +kernel))) rfl
theorem mw_611 : Cond.instanceMethod ⟨"java/lang/IllegalArgumentException", "<init>", "(Ljava/lang/String;)V"⟩ ∈ LW := LWm (tb3 (List.mem_of_getElem? (i := 131) (by decide +kernel))) rfl
theorem mw_612 : Cond.code ⟨"java/lang/IllegalArgumentException", "<init>", "(Ljava/lang/String;)V"⟩ prog_20_method_2_code 2 none ∈ LW := LWm (tb3 (List.mem_of_getElem? (i := 132) (by decide +kernel))) rfl
theorem mw_613 : Cond.methodLink "java/lang/IllegalArgumentException" 7 ⟨"java/lang/RuntimeException", "<init>", "(Ljava/lang/String;)V"⟩ ∈ LW := LWm (tb3 (List.mem_of_getElem? (i := 133) (by decide +kernel))) rfl
theorem mw_616 : Cond.methodLink RX9 273 yX9_needConsent ∈ LW := LWm (tb3 (List.mem_of_getElem? (i := 136) (by decide +kernel))) rfl
theorem mw_617 : Cond.static yX9_needConsent ∈ LW := LWm (tb3 (List.mem_of_getElem? (i := 137) (by decide +kernel))) rfl
theorem mw_618 : Cond.code yX9_needConsent cX9_needConsent 1 none ∈ LW := LWm (tb3 (List.mem_of_getElem? (i := 138) (by decide +kernel))) rfl
theorem mw_619 : Cond.classLink RX9 380 "java/lang/UnsupportedOperationException" ∈ LW := LWm (tb3 (List.mem_of_getElem? (i := 139) (by decide +kernel))) rfl
theorem mw_620 : Cond.instantiable "java/lang/UnsupportedOperationException" 6 ∈ LW := LWm (tb3 (List.mem_of_getElem? (i := 140) (by decide +kernel))) rfl
theorem mw_621 : Cond.castable "java/lang/UnsupportedOperationException" "java/lang/UnsupportedOperationException" ∈ NW := NWm (tb3 (List.mem_of_getElem? (i := 141) (by decide +kernel))) rfl
theorem mw_622 : Cond.selects "java/lang/UnsupportedOperationException" ⟨"java/lang/Throwable", "fillInStackTrace", "(I)Ljava/lang/Throwable;"⟩ ⟨"java/lang/Throwable", "fillInStackTrace", "(I)Ljava/lang/Throwable;"⟩ ∈ LW := LWm (tb3 (List.mem_of_getElem? (i := 142) (by decide +kernel))) rfl
theorem mw_629 : Cond.methodLink RX9 384 ⟨"java/lang/UnsupportedOperationException", "<init>", "(Ljava/lang/String;)V"⟩ ∈ LW := LWm (tb3 (List.mem_of_getElem? (i := 149) (by decide +kernel))) rfl
theorem mw_630 : Cond.instanceMethod ⟨"java/lang/UnsupportedOperationException", "<init>", "(Ljava/lang/String;)V"⟩ ∈ LW := LWm (tb3 (List.mem_of_getElem? (i := 150) (by decide +kernel))) rfl
theorem mw_631 : Cond.code ⟨"java/lang/UnsupportedOperationException", "<init>", "(Ljava/lang/String;)V"⟩ prog_30_method_2_code 2 none ∈ LW := LWm (tb3 (List.mem_of_getElem? (i := 151) (by decide +kernel))) rfl
theorem mw_632 : Cond.methodLink "java/lang/UnsupportedOperationException" 7 ⟨"java/lang/RuntimeException", "<init>", "(Ljava/lang/String;)V"⟩ ∈ LW := LWm (tb3 (List.mem_of_getElem? (i := 152) (by decide +kernel))) rfl
theorem mw_635 : Cond.methodLinkNest RX9 276 yX0_keep RX9 ∈ NW := NWm (tb3 (List.mem_of_getElem? (i := 155) (by decide +kernel))) rfl
theorem mw_637 : Cond.instanceMethod yX0_keep ∈ LW := LWm (tb3 (List.mem_of_getElem? (i := 157) (by decide +kernel))) rfl
theorem mw_638 : Cond.code yX0_keep cX0_keep 3 none ∈ LW := LWm (tb3 (List.mem_of_getElem? (i := 158) (by decide +kernel))) rfl
theorem mw_639 : Cond.methodLink RX0 25 yX0_pageAt ∈ LW := LWm (tb3 (List.mem_of_getElem? (i := 159) (by decide +kernel))) rfl
theorem mw_641 : Cond.instanceMethod yX0_pageAt ∈ LW := LWm (tb3 (List.mem_of_getElem? (i := 161) (by decide +kernel))) rfl
theorem mw_642 : Cond.code yX0_pageAt cX0_pageAt 2 (some (.object "TinRoofScore$Print")) ∈ LW := LWm (tb3 (List.mem_of_getElem? (i := 162) (by decide +kernel))) rfl
theorem mw_643 : Cond.methodLinkNest RX0 29 yX5_become RX9 ∈ NW := NWm (tb3 (List.mem_of_getElem? (i := 163) (by decide +kernel))) rfl
theorem mw_644 : Cond.methodLink RX0 33 yJ9_min_7cf53 ∈ LW := LWm (tb3 (List.mem_of_getElem? (i := 164) (by decide +kernel))) rfl
theorem mw_645 : Cond.methodLinkNest RX9 360 yX1_carryOut RX9 ∈ NW := NWm (tb3 (List.mem_of_getElem? (i := 165) (by decide +kernel))) rfl
theorem mw_647 : Cond.instanceMethod yX1_carryOut ∈ LW := LWm (tb3 (List.mem_of_getElem? (i := 167) (by decide +kernel))) rfl
theorem mw_648 : Cond.code yX1_carryOut cX1_carryOut 5 (some .int) ∈ LW := LWm (tb3 (List.mem_of_getElem? (i := 168) (by decide +kernel))) rfl
theorem mw_649 : Cond.methodLinkNest RX1 118 yX5_addBar RX9 ∈ NW := NWm (tb3 (List.mem_of_getElem? (i := 169) (by decide +kernel))) rfl
theorem mw_651 : Cond.instanceMethod yX5_addBar ∈ LW := LWm (tb3 (List.mem_of_getElem? (i := 171) (by decide +kernel))) rfl
theorem mw_652 : Cond.code yX5_addBar cX5_addBar 2 (some .int) ∈ LW := LWm (tb3 (List.mem_of_getElem? (i := 172) (by decide +kernel))) rfl
theorem mw_653 : Cond.methodLinkNest RX5 50 yX9_put RX9 ∈ NW := NWm (tb3 (List.mem_of_getElem? (i := 173) (by decide +kernel))) rfl
theorem mw_654 : Cond.methodLinkNest RX1 121 yX5_setKey RX9 ∈ NW := NWm (tb3 (List.mem_of_getElem? (i := 174) (by decide +kernel))) rfl
theorem mw_656 : Cond.instanceMethod yX5_setKey ∈ LW := LWm (tb3 (List.mem_of_getElem? (i := 176) (by decide +kernel))) rfl
theorem mw_657 : Cond.code yX5_setKey cX5_setKey 4 (some .int) ∈ LW := LWm (tb3 (List.mem_of_getElem? (i := 177) (by decide +kernel))) rfl
theorem mw_658 : Cond.methodLinkNest RX1 124 yX5_setLeak RX9 ∈ NW := NWm (tb3 (List.mem_of_getElem? (i := 178) (by decide +kernel))) rfl
theorem mw_660 : Cond.instanceMethod yX5_setLeak ∈ LW := LWm (tb3 (List.mem_of_getElem? (i := 180) (by decide +kernel))) rfl
theorem mw_661 : Cond.code yX5_setLeak cX5_setLeak 4 (some .int) ∈ LW := LWm (tb3 (List.mem_of_getElem? (i := 181) (by decide +kernel))) rfl
theorem mw_662 : Cond.methodLinkNest RX1 127 yX5_addSound RX9 ∈ NW := NWm (tb3 (List.mem_of_getElem? (i := 182) (by decide +kernel))) rfl
theorem mw_664 : Cond.instanceMethod yX5_addSound ∈ LW := LWm (tb3 (List.mem_of_getElem? (i := 184) (by decide +kernel))) rfl
theorem mw_665 : Cond.code yX5_addSound cX5_addSound 4 (some .int) ∈ LW := LWm (tb3 (List.mem_of_getElem? (i := 185) (by decide +kernel))) rfl
theorem mw_666 : Cond.methodLinkNest RX1 130 yX5_takeLast RX9 ∈ NW := NWm (tb3 (List.mem_of_getElem? (i := 186) (by decide +kernel))) rfl
theorem mw_668 : Cond.instanceMethod yX5_takeLast ∈ LW := LWm (tb3 (List.mem_of_getElem? (i := 188) (by decide +kernel))) rfl
theorem mw_669 : Cond.code yX5_takeLast cX5_takeLast 1 (some .int) ∈ LW := LWm (tb3 (List.mem_of_getElem? (i := 189) (by decide +kernel))) rfl
theorem mw_670 : Cond.methodLinkNest RX1 133 yX5_setFarthest RX9 ∈ NW := NWm (tb3 (List.mem_of_getElem? (i := 190) (by decide +kernel))) rfl
theorem mw_672 : Cond.instanceMethod yX5_setFarthest ∈ LW := LWm (tb3 (List.mem_of_getElem? (i := 192) (by decide +kernel))) rfl
theorem mw_673 : Cond.code yX5_setFarthest cX5_setFarthest 3 (some .int) ∈ LW := LWm (tb3 (List.mem_of_getElem? (i := 193) (by decide +kernel))) rfl
theorem mw_674 : Cond.methodLinkNest RX1 136 yX5_setHeight RX9 ∈ NW := NWm (tb3 (List.mem_of_getElem? (i := 194) (by decide +kernel))) rfl
theorem mw_676 : Cond.instanceMethod yX5_setHeight ∈ LW := LWm (tb3 (List.mem_of_getElem? (i := 196) (by decide +kernel))) rfl
theorem mw_677 : Cond.code yX5_setHeight cX5_setHeight 4 (some .int) ∈ LW := LWm (tb3 (List.mem_of_getElem? (i := 197) (by decide +kernel))) rfl
theorem mw_678 : Cond.methodLink RL 137 yL_key ∈ LW := LWm (tb3 (List.mem_of_getElem? (i := 198) (by decide +kernel))) rfl
theorem mw_679 : Cond.static yL_key ∈ LW := LWm (tb3 (List.mem_of_getElem? (i := 199) (by decide +kernel))) rfl
theorem mw_680 : Cond.codeWith yL_key cL_key 5 (some .int) [(0, 10, 13, 21), (0, 10, 17, 13), (0, 10, 21, 15)] ∈ LW := LWm (tb3 (List.mem_of_getElem? (i := 200) (by decide +kernel))) rfl
theorem mw_681 : Cond.classLink RL 21 "java/lang/IndexOutOfBoundsException" ∈ LW := LWm (tb3 (List.mem_of_getElem? (i := 201) (by decide +kernel))) rfl
theorem mw_682 : Cond.instantiable RJx00060 6 ∈ LW := LWm (tb3 (List.mem_of_getElem? (i := 202) (by decide +kernel))) rfl
theorem mw_683 : Cond.instanceMethod yJx00060_init_a7421 ∈ LW := LWm (tb3 (List.mem_of_getElem? (i := 203) (by decide +kernel))) rfl
theorem mw_684 : Cond.code yJx00060_init_a7421 cJx00060_init_a7421 2 none ∈ LW := LWm (tb3 (List.mem_of_getElem? (i := 204) (by decide +kernel))) rfl
theorem mw_685 : Cond.methodLink RJx00060 7 ⟨"java/lang/IndexOutOfBoundsException", "<init>", "(Ljava/lang/String;)V"⟩ ∈ LW := LWm (tb3 (List.mem_of_getElem? (i := 205) (by decide +kernel))) rfl
theorem mw_693 : Cond.castable "java/lang/ArrayIndexOutOfBoundsException" "java/lang/ArrayIndexOutOfBoundsException" ∈ NW := NWm (tb3 (List.mem_of_getElem? (i := 213) (by decide +kernel))) rfl
theorem mw_694 : Cond.declares ⟨"java/lang/IndexOutOfBoundsException", "<init>", "()V"⟩ ∈ NW := NWm (tb3 (List.mem_of_getElem? (i := 214) (by decide +kernel))) rfl
theorem mw_695 : Cond.declares ⟨"java/lang/IndexOutOfBoundsException", "<init>", "(Ljava/lang/String;)V"⟩ ∈ NW := NWm (tb3 (List.mem_of_getElem? (i := 215) (by decide +kernel))) rfl
theorem mw_696 : Cond.selects RJx00060 ⟨"java/lang/Throwable", "fillInStackTrace", "(I)Ljava/lang/Throwable;"⟩ ⟨"java/lang/Throwable", "fillInStackTrace", "(I)Ljava/lang/Throwable;"⟩ ∈ LW := LWm (tb3 (List.mem_of_getElem? (i := 216) (by decide +kernel))) rfl
theorem mw_697 : Cond.instantiable RJ0 4 ∈ LW := LWm (tb3 (List.mem_of_getElem? (i := 217) (by decide +kernel))) rfl
theorem mw_702 : Cond.methodLink RL 17 yX9_key ∈ LW := LWm (tb3 (List.mem_of_getElem? (i := 222) (by decide +kernel))) rfl
theorem mw_703 : Cond.instanceMethod yX9_key ∈ LW := LWm (tb3 (List.mem_of_getElem? (i := 223) (by decide +kernel))) rfl
theorem mw_704 : Cond.selects RX9 yX9_key yX9_key ∈ LW := LWm (tb3 (List.mem_of_getElem? (i := 224) (by decide +kernel))) rfl
theorem mw_705 : Cond.code yX9_key cX9_key 3 (some .int) ∈ LW := LWm (tb3 (List.mem_of_getElem? (i := 225) (by decide +kernel))) rfl
theorem mw_706 : Cond.fieldLink RX9 87 "TinRoofScore$Order" "KEY" "LTinRoofScore$Order;" ∈ LW := LWm (tb3 (List.mem_of_getElem? (i := 226) (by decide +kernel))) rfl
theorem mw_707 : Cond.methodLink RL 141 yL_leak ∈ LW := LWm (tb3 (List.mem_of_getElem? (i := 227) (by decide +kernel))) rfl
theorem mw_708 : Cond.static yL_leak ∈ LW := LWm (tb3 (List.mem_of_getElem? (i := 228) (by decide +kernel))) rfl
theorem mw_709 : Cond.codeWith yL_leak cL_leak 5 (some .int) [(0, 10, 13, 21), (0, 10, 17, 13), (0, 10, 21, 15)] ∈ LW := LWm (tb3 (List.mem_of_getElem? (i := 229) (by decide +kernel))) rfl
theorem mw_710 : Cond.methodLink RL 23 yX9_leak ∈ LW := LWm (tb3 (List.mem_of_getElem? (i := 230) (by decide +kernel))) rfl
theorem mw_711 : Cond.instanceMethod yX9_leak ∈ LW := LWm (tb3 (List.mem_of_getElem? (i := 231) (by decide +kernel))) rfl
theorem mw_712 : Cond.selects RX9 yX9_leak yX9_leak ∈ LW := LWm (tb3 (List.mem_of_getElem? (i := 232) (by decide +kernel))) rfl
theorem mw_713 : Cond.code yX9_leak cX9_leak 3 (some .int) ∈ LW := LWm (tb3 (List.mem_of_getElem? (i := 233) (by decide +kernel))) rfl
theorem mw_714 : Cond.fieldLink RX9 90 "TinRoofScore$Order" "LEAK" "LTinRoofScore$Order;" ∈ LW := LWm (tb3 (List.mem_of_getElem? (i := 234) (by decide +kernel))) rfl
theorem mw_715 : Cond.methodLink RL 144 yL_drop ∈ LW := LWm (tb3 (List.mem_of_getElem? (i := 235) (by decide +kernel))) rfl
theorem mw_716 : Cond.static yL_drop ∈ LW := LWm (tb3 (List.mem_of_getElem? (i := 236) (by decide +kernel))) rfl
theorem mw_717 : Cond.codeWith yL_drop cL_drop 6 (some .int) [(0, 12, 15, 21), (0, 12, 19, 13), (0, 12, 23, 15)] ∈ LW := LWm (tb3 (List.mem_of_getElem? (i := 237) (by decide +kernel))) rfl
theorem mw_718 : Cond.methodLink RL 26 yX9_drop ∈ LW := LWm (tb3 (List.mem_of_getElem? (i := 238) (by decide +kernel))) rfl
theorem mw_719 : Cond.instanceMethod yX9_drop ∈ LW := LWm (tb3 (List.mem_of_getElem? (i := 239) (by decide +kernel))) rfl
theorem mw_720 : Cond.selects RX9 yX9_drop yX9_drop ∈ LW := LWm (tb4 (List.mem_of_getElem? (i := 0) (by decide +kernel))) rfl
theorem mw_721 : Cond.code yX9_drop cX9_drop 4 (some .int) ∈ LW := LWm (tb4 (List.mem_of_getElem? (i := 1) (by decide +kernel))) rfl
theorem mw_722 : Cond.fieldLink RX9 93 "TinRoofScore$Order" "DROP" "LTinRoofScore$Order;" ∈ LW := LWm (tb4 (List.mem_of_getElem? (i := 2) (by decide +kernel))) rfl
theorem mw_723 : Cond.methodLink RL 148 yL_rest ∈ LW := LWm (tb4 (List.mem_of_getElem? (i := 3) (by decide +kernel))) rfl
theorem mw_724 : Cond.static yL_rest ∈ LW := LWm (tb4 (List.mem_of_getElem? (i := 4) (by decide +kernel))) rfl
theorem mw_725 : Cond.codeWith yL_rest cL_rest 4 (some .int) [(0, 9, 12, 21), (0, 9, 15, 15)] ∈ LW := LWm (tb4 (List.mem_of_getElem? (i := 5) (by decide +kernel))) rfl
theorem mw_726 : Cond.methodLink RL 30 yX9_rest ∈ LW := LWm (tb4 (List.mem_of_getElem? (i := 6) (by decide +kernel))) rfl
theorem mw_727 : Cond.instanceMethod yX9_rest ∈ LW := LWm (tb4 (List.mem_of_getElem? (i := 7) (by decide +kernel))) rfl
theorem mw_728 : Cond.selects RX9 yX9_rest yX9_rest ∈ LW := LWm (tb4 (List.mem_of_getElem? (i := 8) (by decide +kernel))) rfl
theorem mw_729 : Cond.code yX9_rest cX9_rest 2 (some .int) ∈ LW := LWm (tb4 (List.mem_of_getElem? (i := 9) (by decide +kernel))) rfl
theorem mw_730 : Cond.fieldLink RX9 96 "TinRoofScore$Order" "REST" "LTinRoofScore$Order;" ∈ LW := LWm (tb4 (List.mem_of_getElem? (i := 10) (by decide +kernel))) rfl
theorem mw_731 : Cond.methodLink RL 151 yL_lift ∈ LW := LWm (tb4 (List.mem_of_getElem? (i := 11) (by decide +kernel))) rfl
theorem mw_732 : Cond.static yL_lift ∈ LW := LWm (tb4 (List.mem_of_getElem? (i := 12) (by decide +kernel))) rfl
theorem mw_733 : Cond.codeWith yL_lift cL_lift 3 (some .int) [(0, 8, 11, 15)] ∈ LW := LWm (tb4 (List.mem_of_getElem? (i := 13) (by decide +kernel))) rfl
theorem mw_734 : Cond.methodLink RL 33 yX9_lift ∈ LW := LWm (tb4 (List.mem_of_getElem? (i := 14) (by decide +kernel))) rfl
theorem mw_735 : Cond.instanceMethod yX9_lift ∈ LW := LWm (tb4 (List.mem_of_getElem? (i := 15) (by decide +kernel))) rfl
theorem mw_736 : Cond.selects RX9 yX9_lift yX9_lift ∈ LW := LWm (tb4 (List.mem_of_getElem? (i := 16) (by decide +kernel))) rfl
theorem mw_737 : Cond.code yX9_lift cX9_lift 1 (some .int) ∈ LW := LWm (tb4 (List.mem_of_getElem? (i := 17) (by decide +kernel))) rfl
theorem mw_738 : Cond.fieldLink RX9 99 "TinRoofScore$Order" "LIFT" "LTinRoofScore$Order;" ∈ LW := LWm (tb4 (List.mem_of_getElem? (i := 18) (by decide +kernel))) rfl
theorem mw_739 : Cond.methodLink RL 155 yL_limit ∈ LW := LWm (tb4 (List.mem_of_getElem? (i := 19) (by decide +kernel))) rfl
theorem mw_740 : Cond.static yL_limit ∈ LW := LWm (tb4 (List.mem_of_getElem? (i := 20) (by decide +kernel))) rfl
theorem mw_741 : Cond.codeWith yL_limit cL_limit 4 (some .int) [(0, 9, 12, 13), (0, 9, 15, 15)] ∈ LW := LWm (tb4 (List.mem_of_getElem? (i := 21) (by decide +kernel))) rfl
theorem mw_742 : Cond.methodLink RL 37 yX9_limit ∈ LW := LWm (tb4 (List.mem_of_getElem? (i := 22) (by decide +kernel))) rfl
theorem mw_743 : Cond.instanceMethod yX9_limit ∈ LW := LWm (tb4 (List.mem_of_getElem? (i := 23) (by decide +kernel))) rfl
theorem mw_744 : Cond.selects RX9 yX9_limit yX9_limit ∈ LW := LWm (tb4 (List.mem_of_getElem? (i := 24) (by decide +kernel))) rfl
theorem mw_745 : Cond.code yX9_limit cX9_limit 2 (some .int) ∈ LW := LWm (tb4 (List.mem_of_getElem? (i := 25) (by decide +kernel))) rfl
theorem mw_746 : Cond.fieldLink RX9 102 "TinRoofScore$Order" "LIMIT" "LTinRoofScore$Order;" ∈ LW := LWm (tb4 (List.mem_of_getElem? (i := 26) (by decide +kernel))) rfl
theorem mw_747 : Cond.methodLink RL 158 yL_tune ∈ LW := LWm (tb4 (List.mem_of_getElem? (i := 27) (by decide +kernel))) rfl
theorem mw_748 : Cond.static yL_tune ∈ LW := LWm (tb4 (List.mem_of_getElem? (i := 28) (by decide +kernel))) rfl
theorem mw_749 : Cond.codeWith yL_tune cL_tune 5 (some .int) [(0, 10, 13, 21), (0, 10, 17, 13), (0, 10, 21, 15)] ∈ LW := LWm (tb4 (List.mem_of_getElem? (i := 29) (by decide +kernel))) rfl
theorem mw_750 : Cond.methodLink RL 40 yX9_tune ∈ LW := LWm (tb4 (List.mem_of_getElem? (i := 30) (by decide +kernel))) rfl
theorem mw_751 : Cond.instanceMethod yX9_tune ∈ LW := LWm (tb4 (List.mem_of_getElem? (i := 31) (by decide +kernel))) rfl
theorem mw_752 : Cond.selects RX9 yX9_tune yX9_tune ∈ LW := LWm (tb4 (List.mem_of_getElem? (i := 32) (by decide +kernel))) rfl
theorem mw_753 : Cond.code yX9_tune cX9_tune 3 (some .int) ∈ LW := LWm (tb4 (List.mem_of_getElem? (i := 33) (by decide +kernel))) rfl
theorem mw_754 : Cond.fieldLink RX9 105 "TinRoofScore$Order" "TUNE" "LTinRoofScore$Order;" ∈ LW := LWm (tb4 (List.mem_of_getElem? (i := 34) (by decide +kernel))) rfl
theorem mw_755 : Cond.methodLink RL 161 yL_tinOf ∈ LW := LWm (tb4 (List.mem_of_getElem? (i := 35) (by decide +kernel))) rfl
theorem mw_756 : Cond.static yL_tinOf ∈ LW := LWm (tb4 (List.mem_of_getElem? (i := 36) (by decide +kernel))) rfl
theorem mw_757 : Cond.codeWith yL_tinOf cL_tinOf 5 (some .int) [(0, 10, 13, 21), (0, 10, 17, 13)] ∈ LW := LWm (tb4 (List.mem_of_getElem? (i := 37) (by decide +kernel))) rfl
theorem mw_758 : Cond.methodLink RL 43 yX9_tinOf ∈ LW := LWm (tb4 (List.mem_of_getElem? (i := 38) (by decide +kernel))) rfl
theorem mw_759 : Cond.instanceMethod yX9_tinOf ∈ LW := LWm (tb4 (List.mem_of_getElem? (i := 39) (by decide +kernel))) rfl
theorem mw_760 : Cond.selects RX9 yX9_tinOf yX9_tinOf ∈ LW := LWm (tb4 (List.mem_of_getElem? (i := 40) (by decide +kernel))) rfl
theorem mw_761 : Cond.code yX9_tinOf cX9_tinOf 3 (some .int) ∈ LW := LWm (tb4 (List.mem_of_getElem? (i := 41) (by decide +kernel))) rfl
theorem mw_762 : Cond.methodLink RX9 108 yX9_isTin ∈ LW := LWm (tb4 (List.mem_of_getElem? (i := 42) (by decide +kernel))) rfl
theorem mw_763 : Cond.methodLinkNest RX9 123 yX5_keyOf RX9 ∈ NW := NWm (tb4 (List.mem_of_getElem? (i := 43) (by decide +kernel))) rfl
theorem mw_764 : Cond.methodLinkNest RX9 127 yX5_leakOf RX9 ∈ NW := NWm (tb4 (List.mem_of_getElem? (i := 44) (by decide +kernel))) rfl
theorem mw_765 : Cond.methodLinkNest RX9 130 yX5_countOfTin RX9 ∈ NW := NWm (tb4 (List.mem_of_getElem? (i := 45) (by decide +kernel))) rfl
theorem mw_767 : Cond.instanceMethod yX5_countOfTin ∈ LW := LWm (tb4 (List.mem_of_getElem? (i := 47) (by decide +kernel))) rfl
theorem mw_768 : Cond.code yX5_countOfTin cX5_countOfTin 5 (some .int) ∈ LW := LWm (tb4 (List.mem_of_getElem? (i := 48) (by decide +kernel))) rfl
theorem mw_769 : Cond.methodLink RX5 62 yX5_isRest ∈ LW := LWm (tb4 (List.mem_of_getElem? (i := 49) (by decide +kernel))) rfl
theorem mw_770 : Cond.methodLinkNest RX9 134 yX5_beatsOfTin RX9 ∈ NW := NWm (tb4 (List.mem_of_getElem? (i := 50) (by decide +kernel))) rfl
theorem mw_772 : Cond.instanceMethod yX5_beatsOfTin ∈ LW := LWm (tb4 (List.mem_of_getElem? (i := 52) (by decide +kernel))) rfl
theorem mw_773 : Cond.code yX5_beatsOfTin cX5_beatsOfTin 4 (some .int) ∈ LW := LWm (tb4 (List.mem_of_getElem? (i := 53) (by decide +kernel))) rfl
theorem mw_774 : Cond.methodLink RL 164 yL_soundOf ∈ LW := LWm (tb4 (List.mem_of_getElem? (i := 54) (by decide +kernel))) rfl
theorem mw_775 : Cond.static yL_soundOf ∈ LW := LWm (tb4 (List.mem_of_getElem? (i := 55) (by decide +kernel))) rfl
theorem mw_776 : Cond.codeWith yL_soundOf cL_soundOf 5 (some .int) [(0, 10, 13, 21), (0, 10, 17, 13)] ∈ LW := LWm (tb4 (List.mem_of_getElem? (i := 56) (by decide +kernel))) rfl
theorem mw_777 : Cond.methodLink RL 46 yX9_soundOf ∈ LW := LWm (tb4 (List.mem_of_getElem? (i := 57) (by decide +kernel))) rfl
theorem mw_778 : Cond.instanceMethod yX9_soundOf ∈ LW := LWm (tb4 (List.mem_of_getElem? (i := 58) (by decide +kernel))) rfl
theorem mw_779 : Cond.selects RX9 yX9_soundOf yX9_soundOf ∈ LW := LWm (tb4 (List.mem_of_getElem? (i := 59) (by decide +kernel))) rfl
theorem mw_780 : Cond.code yX9_soundOf cX9_soundOf 3 (some .int) ∈ LW := LWm (tb4 (List.mem_of_getElem? (i := 60) (by decide +kernel))) rfl
theorem mw_781 : Cond.methodLinkNest RX9 137 yX5_hasSound RX9 ∈ NW := NWm (tb4 (List.mem_of_getElem? (i := 61) (by decide +kernel))) rfl
theorem mw_782 : Cond.methodLinkNest RX9 140 yX5_tinOfSound RX9 ∈ NW := NWm (tb4 (List.mem_of_getElem? (i := 62) (by decide +kernel))) rfl
theorem mw_784 : Cond.instanceMethod yX5_tinOfSound ∈ LW := LWm (tb4 (List.mem_of_getElem? (i := 64) (by decide +kernel))) rfl
theorem mw_785 : Cond.code yX5_tinOfSound cX5_tinOfSound 2 (some .int) ∈ LW := LWm (tb4 (List.mem_of_getElem? (i := 65) (by decide +kernel))) rfl
theorem mw_786 : Cond.methodLinkNest RX9 143 yX5_heightOf RX9 ∈ NW := NWm (tb4 (List.mem_of_getElem? (i := 66) (by decide +kernel))) rfl
theorem mw_787 : Cond.methodLinkNest RX9 146 yX5_beatsOf RX9 ∈ NW := NWm (tb4 (List.mem_of_getElem? (i := 67) (by decide +kernel))) rfl
theorem mw_788 : Cond.methodLinkNest RX9 149 yX5_pitchOf RX9 ∈ NW := NWm (tb4 (List.mem_of_getElem? (i := 68) (by decide +kernel))) rfl
theorem mw_789 : Cond.methodLinkNest RX9 152 yX5_partsOfSound RX9 ∈ NW := NWm (tb4 (List.mem_of_getElem? (i := 69) (by decide +kernel))) rfl
theorem mw_790 : Cond.methodLinkNest RX9 155 yX5_startOfSound RX9 ∈ NW := NWm (tb4 (List.mem_of_getElem? (i := 70) (by decide +kernel))) rfl
theorem mw_791 : Cond.methodLinkNest RX9 158 yX5_barAt RX9 ∈ NW := NWm (tb4 (List.mem_of_getElem? (i := 71) (by decide +kernel))) rfl
theorem mw_792 : Cond.methodLink RL 167 yL_barOf ∈ LW := LWm (tb4 (List.mem_of_getElem? (i := 72) (by decide +kernel))) rfl
theorem mw_793 : Cond.static yL_barOf ∈ LW := LWm (tb4 (List.mem_of_getElem? (i := 73) (by decide +kernel))) rfl
theorem mw_794 : Cond.codeWith yL_barOf cL_barOf 5 (some .int) [(0, 10, 13, 21), (0, 10, 17, 13)] ∈ LW := LWm (tb4 (List.mem_of_getElem? (i := 74) (by decide +kernel))) rfl
theorem mw_795 : Cond.methodLink RL 49 yX9_barOf ∈ LW := LWm (tb4 (List.mem_of_getElem? (i := 75) (by decide +kernel))) rfl
theorem mw_796 : Cond.instanceMethod yX9_barOf ∈ LW := LWm (tb4 (List.mem_of_getElem? (i := 76) (by decide +kernel))) rfl
theorem mw_797 : Cond.selects RX9 yX9_barOf yX9_barOf ∈ LW := LWm (tb4 (List.mem_of_getElem? (i := 77) (by decide +kernel))) rfl
theorem mw_798 : Cond.code yX9_barOf cX9_barOf 3 (some .int) ∈ LW := LWm (tb4 (List.mem_of_getElem? (i := 78) (by decide +kernel))) rfl
theorem mw_799 : Cond.methodLinkNest RX9 161 yX5_hasBar RX9 ∈ NW := NWm (tb4 (List.mem_of_getElem? (i := 79) (by decide +kernel))) rfl
theorem mw_801 : Cond.instanceMethod yX5_hasBar ∈ LW := LWm (tb4 (List.mem_of_getElem? (i := 81) (by decide +kernel))) rfl
theorem mw_802 : Cond.code yX5_hasBar cX5_hasBar 2 (some .boolean) ∈ LW := LWm (tb4 (List.mem_of_getElem? (i := 82) (by decide +kernel))) rfl
theorem mw_803 : Cond.methodLinkNest RX9 164 yX5_sizeOf RX9 ∈ NW := NWm (tb4 (List.mem_of_getElem? (i := 83) (by decide +kernel))) rfl
theorem mw_805 : Cond.instanceMethod yX5_sizeOf ∈ LW := LWm (tb4 (List.mem_of_getElem? (i := 85) (by decide +kernel))) rfl
theorem mw_806 : Cond.code yX5_sizeOf cX5_sizeOf 2 (some .int) ∈ LW := LWm (tb4 (List.mem_of_getElem? (i := 86) (by decide +kernel))) rfl
theorem mw_807 : Cond.methodLinkNest RX9 167 yX5_filledOfBar RX9 ∈ NW := NWm (tb4 (List.mem_of_getElem? (i := 87) (by decide +kernel))) rfl
theorem mw_809 : Cond.instanceMethod yX5_filledOfBar ∈ LW := LWm (tb4 (List.mem_of_getElem? (i := 89) (by decide +kernel))) rfl
theorem mw_810 : Cond.code yX5_filledOfBar cX5_filledOfBar 3 (some .int) ∈ LW := LWm (tb4 (List.mem_of_getElem? (i := 90) (by decide +kernel))) rfl
theorem mw_811 : Cond.methodLink RX5 91 yX5_filledBeats ∈ LW := LWm (tb4 (List.mem_of_getElem? (i := 91) (by decide +kernel))) rfl
theorem mw_812 : Cond.methodLinkNest RX9 170 yX5_partsOfBar RX9 ∈ NW := NWm (tb4 (List.mem_of_getElem? (i := 92) (by decide +kernel))) rfl
theorem mw_814 : Cond.instanceMethod yX5_partsOfBar ∈ LW := LWm (tb4 (List.mem_of_getElem? (i := 94) (by decide +kernel))) rfl
theorem mw_815 : Cond.code yX5_partsOfBar cX5_partsOfBar 4 (some .int) ∈ LW := LWm (tb4 (List.mem_of_getElem? (i := 95) (by decide +kernel))) rfl
theorem mw_816 : Cond.methodLinkNest RX9 173 yX5_beginningsIn RX9 ∈ NW := NWm (tb4 (List.mem_of_getElem? (i := 96) (by decide +kernel))) rfl
theorem mw_818 : Cond.instanceMethod yX5_beginningsIn ∈ LW := LWm (tb4 (List.mem_of_getElem? (i := 98) (by decide +kernel))) rfl
theorem mw_819 : Cond.code yX5_beginningsIn cX5_beginningsIn 4 (some .int) ∈ LW := LWm (tb4 (List.mem_of_getElem? (i := 99) (by decide +kernel))) rfl
theorem mw_820 : Cond.methodLinkNest RX9 176 yX5_startOfBar RX9 ∈ NW := NWm (tb4 (List.mem_of_getElem? (i := 100) (by decide +kernel))) rfl
theorem mw_821 : Cond.methodLink RL 170 yL_partOf ∈ LW := LWm (tb4 (List.mem_of_getElem? (i := 101) (by decide +kernel))) rfl
theorem mw_822 : Cond.static yL_partOf ∈ LW := LWm (tb4 (List.mem_of_getElem? (i := 102) (by decide +kernel))) rfl
theorem mw_823 : Cond.codeWith yL_partOf cL_partOf 6 (some .int) [(0, 12, 15, 21), (0, 12, 19, 13)] ∈ LW := LWm (tb4 (List.mem_of_getElem? (i := 103) (by decide +kernel))) rfl
theorem mw_824 : Cond.methodLink RL 52 yX9_partOf ∈ LW := LWm (tb4 (List.mem_of_getElem? (i := 104) (by decide +kernel))) rfl
theorem mw_825 : Cond.instanceMethod yX9_partOf ∈ LW := LWm (tb4 (List.mem_of_getElem? (i := 105) (by decide +kernel))) rfl
theorem mw_826 : Cond.selects RX9 yX9_partOf yX9_partOf ∈ LW := LWm (tb4 (List.mem_of_getElem? (i := 106) (by decide +kernel))) rfl
theorem mw_827 : Cond.code yX9_partOf cX9_partOf 5 (some .int) ∈ LW := LWm (tb4 (List.mem_of_getElem? (i := 107) (by decide +kernel))) rfl
theorem mw_828 : Cond.methodLinkNest RX9 179 yX5_soundOfPart RX9 ∈ NW := NWm (tb4 (List.mem_of_getElem? (i := 108) (by decide +kernel))) rfl
theorem mw_830 : Cond.instanceMethod yX5_soundOfPart ∈ LW := LWm (tb4 (List.mem_of_getElem? (i := 110) (by decide +kernel))) rfl
theorem mw_831 : Cond.code yX5_soundOfPart cX5_soundOfPart 5 (some .int) ∈ LW := LWm (tb4 (List.mem_of_getElem? (i := 111) (by decide +kernel))) rfl
theorem mw_832 : Cond.methodLinkNest RX9 183 yX5_overlap RX9 ∈ NW := NWm (tb4 (List.mem_of_getElem? (i := 112) (by decide +kernel))) rfl
theorem mw_833 : Cond.methodLinkNest RX9 186 yX5_isTied RX9 ∈ NW := NWm (tb4 (List.mem_of_getElem? (i := 113) (by decide +kernel))) rfl
theorem mw_835 : Cond.instanceMethod yX5_isTied ∈ LW := LWm (tb4 (List.mem_of_getElem? (i := 115) (by decide +kernel))) rfl
theorem mw_836 : Cond.code yX5_isTied cX5_isTied 3 (some .boolean) ∈ LW := LWm (tb4 (List.mem_of_getElem? (i := 116) (by decide +kernel))) rfl
theorem mw_837 : Cond.methodLink RL 173 yL_at ∈ LW := LWm (tb4 (List.mem_of_getElem? (i := 117) (by decide +kernel))) rfl
theorem mw_838 : Cond.static yL_at ∈ LW := LWm (tb4 (List.mem_of_getElem? (i := 118) (by decide +kernel))) rfl
theorem mw_839 : Cond.codeWith yL_at cL_at 4 (some .int) [(0, 9, 12, 58)] ∈ LW := LWm (tb4 (List.mem_of_getElem? (i := 119) (by decide +kernel))) rfl
theorem mw_840 : Cond.classLink RL 58 "java/util/NoSuchElementException" ∈ LW := LWm (tb4 (List.mem_of_getElem? (i := 120) (by decide +kernel))) rfl
theorem mw_841 : Cond.methodLink RL 55 yX9_at ∈ LW := LWm (tb4 (List.mem_of_getElem? (i := 121) (by decide +kernel))) rfl
theorem mw_842 : Cond.instanceMethod yX9_at ∈ LW := LWm (tb4 (List.mem_of_getElem? (i := 122) (by decide +kernel))) rfl
theorem mw_843 : Cond.selects RX9 yX9_at yX9_at ∈ LW := LWm (tb4 (List.mem_of_getElem? (i := 123) (by decide +kernel))) rfl
theorem mw_844 : Cond.code yX9_at cX9_at 2 (some .int) ∈ LW := LWm (tb4 (List.mem_of_getElem? (i := 124) (by decide +kernel))) rfl
theorem mw_845 : Cond.methodLinkNest RX9 190 yX5_soundAt RX9 ∈ NW := NWm (tb4 (List.mem_of_getElem? (i := 125) (by decide +kernel))) rfl
theorem mw_846 : Cond.methodLink RX9 193 yX9_found ∈ LW := LWm (tb4 (List.mem_of_getElem? (i := 126) (by decide +kernel))) rfl
theorem mw_847 : Cond.static yX9_found ∈ LW := LWm (tb4 (List.mem_of_getElem? (i := 127) (by decide +kernel))) rfl
theorem mw_848 : Cond.code yX9_found cX9_found 1 (some .int) ∈ LW := LWm (tb4 (List.mem_of_getElem? (i := 128) (by decide +kernel))) rfl
theorem mw_849 : Cond.methodLink RX9 212 yX9_needElement ∈ LW := LWm (tb4 (List.mem_of_getElem? (i := 129) (by decide +kernel))) rfl
theorem mw_850 : Cond.static yX9_needElement ∈ LW := LWm (tb4 (List.mem_of_getElem? (i := 130) (by decide +kernel))) rfl
theorem mw_851 : Cond.code yX9_needElement cX9_needElement 1 none ∈ LW := LWm (tb4 (List.mem_of_getElem? (i := 131) (by decide +kernel))) rfl
theorem mw_852 : Cond.classLink RX9 385 "java/util/NoSuchElementException" ∈ LW := LWm (tb4 (List.mem_of_getElem? (i := 132) (by decide +kernel))) rfl
theorem mw_853 : Cond.instantiable "java/util/NoSuchElementException" 6 ∈ LW := LWm (tb4 (List.mem_of_getElem? (i := 133) (by decide +kernel))) rfl
theorem mw_854 : Cond.castable "java/util/NoSuchElementException" "java/util/NoSuchElementException" ∈ NW := NWm (tb4 (List.mem_of_getElem? (i := 134) (by decide +kernel))) rfl
theorem mw_855 : Cond.selects "java/util/NoSuchElementException" ⟨"java/lang/Throwable", "fillInStackTrace", "(I)Ljava/lang/Throwable;"⟩ ⟨"java/lang/Throwable", "fillInStackTrace", "(I)Ljava/lang/Throwable;"⟩ ∈ LW := LWm (tb4 (List.mem_of_getElem? (i := 135) (by decide +kernel))) rfl
theorem mw_862 : Cond.methodLink RX9 389 ⟨"java/util/NoSuchElementException", "<init>", "(Ljava/lang/String;)V"⟩ ∈ LW := LWm (tb4 (List.mem_of_getElem? (i := 142) (by decide +kernel))) rfl
theorem mw_863 : Cond.instanceMethod ⟨"java/util/NoSuchElementException", "<init>", "(Ljava/lang/String;)V"⟩ ∈ LW := LWm (tb4 (List.mem_of_getElem? (i := 143) (by decide +kernel))) rfl
theorem mw_864 : Cond.code ⟨"java/util/NoSuchElementException", "<init>", "(Ljava/lang/String;)V"⟩ prog_33_method_4_code 2 none ∈ LW := LWm (tb4 (List.mem_of_getElem? (i := 144) (by decide +kernel))) rfl
theorem mw_865 : Cond.methodLink "java/util/NoSuchElementException" 13 ⟨"java/lang/RuntimeException", "<init>", "(Ljava/lang/String;)V"⟩ ∈ LW := LWm (tb4 (List.mem_of_getElem? (i := 145) (by decide +kernel))) rfl
theorem mw_868 : Cond.methodLink RL 176 yL_faults ∈ LW := LWm (tb4 (List.mem_of_getElem? (i := 148) (by decide +kernel))) rfl
theorem mw_869 : Cond.static yL_faults ∈ LW := LWm (tb4 (List.mem_of_getElem? (i := 149) (by decide +kernel))) rfl
theorem mw_870 : Cond.codeWith yL_faults cL_faults 5 (some .int) [(0, 10, 13, 13)] ∈ LW := LWm (tb4 (List.mem_of_getElem? (i := 150) (by decide +kernel))) rfl
theorem mw_871 : Cond.methodLink RL 60 yX9_faults ∈ LW := LWm (tb4 (List.mem_of_getElem? (i := 151) (by decide +kernel))) rfl
theorem mw_872 : Cond.instanceMethod yX9_faults ∈ LW := LWm (tb4 (List.mem_of_getElem? (i := 152) (by decide +kernel))) rfl
theorem mw_873 : Cond.selects RX9 yX9_faults yX9_faults ∈ LW := LWm (tb4 (List.mem_of_getElem? (i := 153) (by decide +kernel))) rfl
theorem mw_874 : Cond.code yX9_faults cX9_faults 3 (some .int) ∈ LW := LWm (tb4 (List.mem_of_getElem? (i := 154) (by decide +kernel))) rfl
theorem mw_875 : Cond.methodLinkNest RX9 196 yX6_countByBeats RX9 ∈ NW := NWm (tb4 (List.mem_of_getElem? (i := 155) (by decide +kernel))) rfl
theorem mw_876 : Cond.methodLinkNest RX9 199 yX6_count RX9 ∈ NW := NWm (tb4 (List.mem_of_getElem? (i := 156) (by decide +kernel))) rfl
theorem mw_877 : Cond.methodLink RL 180 yL_firstFault ∈ LW := LWm (tb4 (List.mem_of_getElem? (i := 157) (by decide +kernel))) rfl
theorem mw_878 : Cond.static yL_firstFault ∈ LW := LWm (tb4 (List.mem_of_getElem? (i := 158) (by decide +kernel))) rfl
theorem mw_879 : Cond.codeWith yL_firstFault cL_firstFault 4 (some .int) [(0, 9, 12, 13), (0, 9, 15, 58)] ∈ LW := LWm (tb4 (List.mem_of_getElem? (i := 159) (by decide +kernel))) rfl
theorem mw_880 : Cond.methodLink RL 64 yX9_firstFault ∈ LW := LWm (tb4 (List.mem_of_getElem? (i := 160) (by decide +kernel))) rfl
theorem mw_881 : Cond.instanceMethod yX9_firstFault ∈ LW := LWm (tb4 (List.mem_of_getElem? (i := 161) (by decide +kernel))) rfl
theorem mw_882 : Cond.selects RX9 yX9_firstFault yX9_firstFault ∈ LW := LWm (tb4 (List.mem_of_getElem? (i := 162) (by decide +kernel))) rfl
theorem mw_883 : Cond.code yX9_firstFault cX9_firstFault 2 (some .int) ∈ LW := LWm (tb4 (List.mem_of_getElem? (i := 163) (by decide +kernel))) rfl
theorem mw_884 : Cond.methodLinkNest RX9 202 yX6_first RX9 ∈ NW := NWm (tb4 (List.mem_of_getElem? (i := 164) (by decide +kernel))) rfl
theorem mw_886 : Cond.instanceMethod yX6_first ∈ LW := LWm (tb4 (List.mem_of_getElem? (i := 166) (by decide +kernel))) rfl
theorem mw_887 : Cond.code yX6_first cX6_first 4 (some .int) ∈ LW := LWm (tb4 (List.mem_of_getElem? (i := 167) (by decide +kernel))) rfl
theorem mw_888 : Cond.methodLink RL 188 yL_wouldFault ∈ LW := LWm (tb4 (List.mem_of_getElem? (i := 168) (by decide +kernel))) rfl
theorem mw_889 : Cond.static yL_wouldFault ∈ LW := LWm (tb4 (List.mem_of_getElem? (i := 169) (by decide +kernel))) rfl
theorem mw_890 : Cond.codeWith yL_wouldFault cL_wouldFault 5 (some .int) [(0, 10, 13, 21), (0, 10, 17, 13), (0, 10, 21, 58)] ∈ LW := LWm (tb4 (List.mem_of_getElem? (i := 170) (by decide +kernel))) rfl
theorem mw_891 : Cond.methodLink RL 67 yX9_wouldFault ∈ LW := LWm (tb4 (List.mem_of_getElem? (i := 171) (by decide +kernel))) rfl
theorem mw_892 : Cond.instanceMethod yX9_wouldFault ∈ LW := LWm (tb4 (List.mem_of_getElem? (i := 172) (by decide +kernel))) rfl
theorem mw_893 : Cond.selects RX9 yX9_wouldFault yX9_wouldFault ∈ LW := LWm (tb4 (List.mem_of_getElem? (i := 173) (by decide +kernel))) rfl
theorem mw_894 : Cond.code yX9_wouldFault cX9_wouldFault 3 (some .int) ∈ LW := LWm (tb4 (List.mem_of_getElem? (i := 174) (by decide +kernel))) rfl
theorem mw_895 : Cond.methodLinkNest RX9 209 yX5_isRest RX9 ∈ NW := NWm (tb4 (List.mem_of_getElem? (i := 175) (by decide +kernel))) rfl
theorem mw_896 : Cond.methodLinkNest RX9 215 yX6_countWith RX9 ∈ NW := NWm (tb4 (List.mem_of_getElem? (i := 176) (by decide +kernel))) rfl
theorem mw_898 : Cond.instanceMethod yX6_countWith ∈ LW := LWm (tb4 (List.mem_of_getElem? (i := 178) (by decide +kernel))) rfl
theorem mw_899 : Cond.code yX6_countWith cX6_countWith 5 (some .int) ∈ LW := LWm (tb4 (List.mem_of_getElem? (i := 179) (by decide +kernel))) rfl
theorem mw_900 : Cond.methodLinkNest RX6 87 yX5_setHeight RX9 ∈ NW := NWm (tb4 (List.mem_of_getElem? (i := 180) (by decide +kernel))) rfl
theorem mw_901 : Cond.methodLink RX6 91 yX6_countAll ∈ LW := LWm (tb4 (List.mem_of_getElem? (i := 181) (by decide +kernel))) rfl
theorem mw_902 : Cond.methodLink RL 191 yL_bestHeight ∈ LW := LWm (tb4 (List.mem_of_getElem? (i := 182) (by decide +kernel))) rfl
theorem mw_903 : Cond.static yL_bestHeight ∈ LW := LWm (tb4 (List.mem_of_getElem? (i := 183) (by decide +kernel))) rfl
theorem mw_904 : Cond.codeWith yL_bestHeight cL_bestHeight 4 (some .int) [(0, 9, 12, 21), (0, 9, 15, 58)] ∈ LW := LWm (tb4 (List.mem_of_getElem? (i := 184) (by decide +kernel))) rfl
theorem mw_905 : Cond.methodLink RL 70 yX9_bestHeight ∈ LW := LWm (tb4 (List.mem_of_getElem? (i := 185) (by decide +kernel))) rfl
theorem mw_906 : Cond.instanceMethod yX9_bestHeight ∈ LW := LWm (tb4 (List.mem_of_getElem? (i := 186) (by decide +kernel))) rfl
theorem mw_907 : Cond.selects RX9 yX9_bestHeight yX9_bestHeight ∈ LW := LWm (tb4 (List.mem_of_getElem? (i := 187) (by decide +kernel))) rfl
theorem mw_908 : Cond.code yX9_bestHeight cX9_bestHeight 6 (some .int) ∈ LW := LWm (tb4 (List.mem_of_getElem? (i := 188) (by decide +kernel))) rfl
theorem mw_909 : Cond.methodLink RL 206 yL_withPitch ∈ LW := LWm (tb4 (List.mem_of_getElem? (i := 189) (by decide +kernel))) rfl
theorem mw_910 : Cond.static yL_withPitch ∈ LW := LWm (tb4 (List.mem_of_getElem? (i := 190) (by decide +kernel))) rfl
theorem mw_911 : Cond.codeWith yL_withPitch cL_withPitch 4 (some .int) [(0, 9, 12, 13)] ∈ LW := LWm (tb4 (List.mem_of_getElem? (i := 191) (by decide +kernel))) rfl
theorem mw_912 : Cond.methodLink RL 73 yX9_withPitch ∈ LW := LWm (tb4 (List.mem_of_getElem? (i := 192) (by decide +kernel))) rfl
theorem mw_913 : Cond.instanceMethod yX9_withPitch ∈ LW := LWm (tb4 (List.mem_of_getElem? (i := 193) (by decide +kernel))) rfl
theorem mw_914 : Cond.selects RX9 yX9_withPitch yX9_withPitch ∈ LW := LWm (tb4 (List.mem_of_getElem? (i := 194) (by decide +kernel))) rfl
theorem mw_915 : Cond.code yX9_withPitch cX9_withPitch 2 (some .int) ∈ LW := LWm (tb4 (List.mem_of_getElem? (i := 195) (by decide +kernel))) rfl
theorem mw_916 : Cond.methodLinkNest RX9 231 yX3_dropsAt RX9 ∈ NW := NWm (tb4 (List.mem_of_getElem? (i := 196) (by decide +kernel))) rfl
theorem mw_918 : Cond.instanceMethod yX3_dropsAt ∈ LW := LWm (tb4 (List.mem_of_getElem? (i := 198) (by decide +kernel))) rfl
theorem mw_919 : Cond.code yX3_dropsAt cX3_dropsAt 4 (some .int) ∈ LW := LWm (tb4 (List.mem_of_getElem? (i := 199) (by decide +kernel))) rfl
theorem mw_920 : Cond.methodLink RL 209 yL_loudest ∈ LW := LWm (tb4 (List.mem_of_getElem? (i := 200) (by decide +kernel))) rfl
theorem mw_921 : Cond.static yL_loudest ∈ LW := LWm (tb4 (List.mem_of_getElem? (i := 201) (by decide +kernel))) rfl
theorem mw_922 : Cond.codeWith yL_loudest cL_loudest 4 (some .int) [(0, 9, 12, 58)] ∈ LW := LWm (tb4 (List.mem_of_getElem? (i := 202) (by decide +kernel))) rfl
theorem mw_923 : Cond.methodLink RL 76 yX9_loudest ∈ LW := LWm (tb4 (List.mem_of_getElem? (i := 203) (by decide +kernel))) rfl
theorem mw_924 : Cond.instanceMethod yX9_loudest ∈ LW := LWm (tb4 (List.mem_of_getElem? (i := 204) (by decide +kernel))) rfl
theorem mw_925 : Cond.selects RX9 yX9_loudest yX9_loudest ∈ LW := LWm (tb4 (List.mem_of_getElem? (i := 205) (by decide +kernel))) rfl
theorem mw_926 : Cond.code yX9_loudest cX9_loudest 2 (some .int) ∈ LW := LWm (tb4 (List.mem_of_getElem? (i := 206) (by decide +kernel))) rfl
theorem mw_927 : Cond.methodLinkNest RX9 234 yX7_tinAt RX9 ∈ NW := NWm (tb4 (List.mem_of_getElem? (i := 207) (by decide +kernel))) rfl
theorem mw_929 : Cond.instanceMethod yX7_tinAt ∈ LW := LWm (tb4 (List.mem_of_getElem? (i := 209) (by decide +kernel))) rfl
theorem mw_930 : Cond.code yX7_tinAt cX7_tinAt 3 (some .int) ∈ LW := LWm (tb4 (List.mem_of_getElem? (i := 210) (by decide +kernel))) rfl
theorem mw_931 : Cond.methodLink RX7 15 yX7_placeOfTin ∈ LW := LWm (tb4 (List.mem_of_getElem? (i := 211) (by decide +kernel))) rfl
theorem mw_933 : Cond.instanceMethod yX7_placeOfTin ∈ LW := LWm (tb4 (List.mem_of_getElem? (i := 213) (by decide +kernel))) rfl
theorem mw_934 : Cond.code yX7_placeOfTin cX7_placeOfTin 4 (some .int) ∈ LW := LWm (tb4 (List.mem_of_getElem? (i := 214) (by decide +kernel))) rfl
theorem mw_935 : Cond.methodLink RX7 19 yX7_isTinAhead ∈ LW := LWm (tb4 (List.mem_of_getElem? (i := 215) (by decide +kernel))) rfl
theorem mw_937 : Cond.instanceMethod yX7_isTinAhead ∈ LW := LWm (tb4 (List.mem_of_getElem? (i := 217) (by decide +kernel))) rfl
theorem mw_938 : Cond.code yX7_isTinAhead cX7_isTinAhead 5 (some .boolean) ∈ LW := LWm (tb4 (List.mem_of_getElem? (i := 218) (by decide +kernel))) rfl
theorem mw_939 : Cond.methodLinkNest RX7 23 yX5_beatsOfTin RX9 ∈ NW := NWm (tb4 (List.mem_of_getElem? (i := 219) (by decide +kernel))) rfl
theorem mw_940 : Cond.methodLinkNest RX7 28 yX5_keyOf RX9 ∈ NW := NWm (tb4 (List.mem_of_getElem? (i := 220) (by decide +kernel))) rfl
theorem mw_941 : Cond.methodLink RL 212 yL_highest ∈ LW := LWm (tb4 (List.mem_of_getElem? (i := 221) (by decide +kernel))) rfl
theorem mw_942 : Cond.static yL_highest ∈ LW := LWm (tb4 (List.mem_of_getElem? (i := 222) (by decide +kernel))) rfl
theorem mw_943 : Cond.codeWith yL_highest cL_highest 4 (some .int) [(0, 9, 12, 58)] ∈ LW := LWm (tb4 (List.mem_of_getElem? (i := 223) (by decide +kernel))) rfl
theorem mw_944 : Cond.methodLink RL 79 yX9_highest ∈ LW := LWm (tb4 (List.mem_of_getElem? (i := 224) (by decide +kernel))) rfl
theorem mw_945 : Cond.instanceMethod yX9_highest ∈ LW := LWm (tb4 (List.mem_of_getElem? (i := 225) (by decide +kernel))) rfl
theorem mw_946 : Cond.selects RX9 yX9_highest yX9_highest ∈ LW := LWm (tb4 (List.mem_of_getElem? (i := 226) (by decide +kernel))) rfl
theorem mw_947 : Cond.code yX9_highest cX9_highest 2 (some .int) ∈ LW := LWm (tb4 (List.mem_of_getElem? (i := 227) (by decide +kernel))) rfl
theorem mw_948 : Cond.methodLinkNest RX9 237 yX7_dropAt RX9 ∈ NW := NWm (tb4 (List.mem_of_getElem? (i := 228) (by decide +kernel))) rfl
theorem mw_950 : Cond.instanceMethod yX7_dropAt ∈ LW := LWm (tb4 (List.mem_of_getElem? (i := 230) (by decide +kernel))) rfl
theorem mw_951 : Cond.code yX7_dropAt cX7_dropAt 3 (some .int) ∈ LW := LWm (tb4 (List.mem_of_getElem? (i := 231) (by decide +kernel))) rfl
theorem mw_952 : Cond.methodLinkNest RX7 31 yX5_countOfSounds RX9 ∈ NW := NWm (tb4 (List.mem_of_getElem? (i := 232) (by decide +kernel))) rfl
theorem mw_953 : Cond.methodLinkNest RX7 35 yX5_isRest RX9 ∈ NW := NWm (tb4 (List.mem_of_getElem? (i := 233) (by decide +kernel))) rfl
theorem mw_954 : Cond.methodLink RX7 39 yX7_placeOfDrop ∈ LW := LWm (tb4 (List.mem_of_getElem? (i := 234) (by decide +kernel))) rfl
theorem mw_956 : Cond.instanceMethod yX7_placeOfDrop ∈ LW := LWm (tb4 (List.mem_of_getElem? (i := 236) (by decide +kernel))) rfl
theorem mw_957 : Cond.code yX7_placeOfDrop cX7_placeOfDrop 4 (some .int) ∈ LW := LWm (tb4 (List.mem_of_getElem? (i := 237) (by decide +kernel))) rfl
theorem mw_958 : Cond.methodLink RX7 42 yX7_isDropAhead ∈ LW := LWm (tb4 (List.mem_of_getElem? (i := 238) (by decide +kernel))) rfl
theorem mw_960 : Cond.instanceMethod yX7_isDropAhead ∈ LW := LWm (tb5 (List.mem_of_getElem? (i := 0) (by decide +kernel))) rfl
theorem mw_961 : Cond.code yX7_isDropAhead cX7_isDropAhead 5 (some .boolean) ∈ LW := LWm (tb5 (List.mem_of_getElem? (i := 1) (by decide +kernel))) rfl
theorem mw_962 : Cond.methodLinkNest RX7 45 yX5_pitchOf RX9 ∈ NW := NWm (tb5 (List.mem_of_getElem? (i := 2) (by decide +kernel))) rfl
theorem mw_963 : Cond.methodLinkNest RX7 48 yX5_beatsOf RX9 ∈ NW := NWm (tb5 (List.mem_of_getElem? (i := 3) (by decide +kernel))) rfl
theorem mw_964 : Cond.methodLink RL 215 yL_line ∈ LW := LWm (tb5 (List.mem_of_getElem? (i := 4) (by decide +kernel))) rfl
theorem mw_965 : Cond.static yL_line ∈ LW := LWm (tb5 (List.mem_of_getElem? (i := 5) (by decide +kernel))) rfl
theorem mw_966 : Cond.codeWith yL_line cL_line 4 (some .int) [(0, 9, 12, 21)] ∈ LW := LWm (tb5 (List.mem_of_getElem? (i := 6) (by decide +kernel))) rfl
theorem mw_967 : Cond.methodLink RL 82 yX9_line ∈ LW := LWm (tb5 (List.mem_of_getElem? (i := 7) (by decide +kernel))) rfl
theorem mw_968 : Cond.instanceMethod yX9_line ∈ LW := LWm (tb5 (List.mem_of_getElem? (i := 8) (by decide +kernel))) rfl
theorem mw_969 : Cond.selects RX9 yX9_line yX9_line ∈ LW := LWm (tb5 (List.mem_of_getElem? (i := 9) (by decide +kernel))) rfl
theorem mw_970 : Cond.code yX9_line cX9_line 2 (some .int) ∈ LW := LWm (tb5 (List.mem_of_getElem? (i := 10) (by decide +kernel))) rfl
theorem mw_971 : Cond.methodLinkNest RX9 240 yX2_writeBar RX9 ∈ NW := NWm (tb5 (List.mem_of_getElem? (i := 11) (by decide +kernel))) rfl
theorem mw_973 : Cond.instanceMethod yX2_writeBar ∈ LW := LWm (tb5 (List.mem_of_getElem? (i := 13) (by decide +kernel))) rfl
theorem mw_974 : Cond.code yX2_writeBar cX2_writeBar 3 (some .int) ∈ LW := LWm (tb5 (List.mem_of_getElem? (i := 14) (by decide +kernel))) rfl
theorem mw_975 : Cond.methodLinkNest RX2 27 yX5_countOfSounds RX9 ∈ NW := NWm (tb5 (List.mem_of_getElem? (i := 15) (by decide +kernel))) rfl
theorem mw_976 : Cond.methodLinkNest RX2 33 yX5_overlap RX9 ∈ NW := NWm (tb5 (List.mem_of_getElem? (i := 16) (by decide +kernel))) rfl
theorem mw_977 : Cond.methodLink RX2 37 yX2_addPart ∈ LW := LWm (tb5 (List.mem_of_getElem? (i := 17) (by decide +kernel))) rfl
theorem mw_979 : Cond.instanceMethod yX2_addPart ∈ LW := LWm (tb5 (List.mem_of_getElem? (i := 19) (by decide +kernel))) rfl
theorem mw_980 : Cond.code yX2_addPart cX2_addPart 3 none ∈ LW := LWm (tb5 (List.mem_of_getElem? (i := 20) (by decide +kernel))) rfl
theorem mw_981 : Cond.methodLinkNest RX2 56 yX5_isTied RX9 ∈ NW := NWm (tb5 (List.mem_of_getElem? (i := 21) (by decide +kernel))) rfl
theorem mw_982 : Cond.methodLink RX2 41 yX2_addSign ∈ LW := LWm (tb5 (List.mem_of_getElem? (i := 22) (by decide +kernel))) rfl
theorem mw_984 : Cond.instanceMethod yX2_addSign ∈ LW := LWm (tb5 (List.mem_of_getElem? (i := 24) (by decide +kernel))) rfl
theorem mw_985 : Cond.code yX2_addSign cX2_addSign 2 none ∈ LW := LWm (tb5 (List.mem_of_getElem? (i := 25) (by decide +kernel))) rfl
theorem mw_986 : Cond.methodLinkNest RX2 60 yX5_isRest RX9 ∈ NW := NWm (tb5 (List.mem_of_getElem? (i := 26) (by decide +kernel))) rfl
theorem mw_987 : Cond.methodLinkNest RX2 64 yX5_pitchOf RX9 ∈ NW := NWm (tb5 (List.mem_of_getElem? (i := 27) (by decide +kernel))) rfl
theorem mw_988 : Cond.methodLink RX2 52 yX2_addNumber ∈ LW := LWm (tb5 (List.mem_of_getElem? (i := 28) (by decide +kernel))) rfl
theorem mw_990 : Cond.instanceMethod yX2_addNumber ∈ LW := LWm (tb5 (List.mem_of_getElem? (i := 30) (by decide +kernel))) rfl
theorem mw_991 : Cond.code yX2_addNumber cX2_addNumber 2 none ∈ LW := LWm (tb5 (List.mem_of_getElem? (i := 31) (by decide +kernel))) rfl
theorem mw_992 : Cond.methodLinkNest RX2 45 yX5_sizeOf RX9 ∈ NW := NWm (tb5 (List.mem_of_getElem? (i := 32) (by decide +kernel))) rfl
theorem mw_993 : Cond.methodLinkNest RX2 49 yX5_filledOfBar RX9 ∈ NW := NWm (tb5 (List.mem_of_getElem? (i := 33) (by decide +kernel))) rfl
theorem mw_994 : Cond.methodLink RL 218 yL_tinLine ∈ LW := LWm (tb5 (List.mem_of_getElem? (i := 34) (by decide +kernel))) rfl
theorem mw_995 : Cond.static yL_tinLine ∈ LW := LWm (tb5 (List.mem_of_getElem? (i := 35) (by decide +kernel))) rfl
theorem mw_996 : Cond.codeWith yL_tinLine cL_tinLine 4 (some .int) [(0, 9, 12, 21)] ∈ LW := LWm (tb5 (List.mem_of_getElem? (i := 36) (by decide +kernel))) rfl
theorem mw_997 : Cond.methodLink RL 85 yX9_tinLine ∈ LW := LWm (tb5 (List.mem_of_getElem? (i := 37) (by decide +kernel))) rfl
theorem mw_998 : Cond.instanceMethod yX9_tinLine ∈ LW := LWm (tb5 (List.mem_of_getElem? (i := 38) (by decide +kernel))) rfl
theorem mw_999 : Cond.selects RX9 yX9_tinLine yX9_tinLine ∈ LW := LWm (tb5 (List.mem_of_getElem? (i := 39) (by decide +kernel))) rfl
theorem mw_1000 : Cond.code yX9_tinLine cX9_tinLine 2 (some .int) ∈ LW := LWm (tb5 (List.mem_of_getElem? (i := 40) (by decide +kernel))) rfl
theorem mw_1001 : Cond.methodLinkNest RX9 243 yX2_writeTin RX9 ∈ NW := NWm (tb5 (List.mem_of_getElem? (i := 41) (by decide +kernel))) rfl
theorem mw_1003 : Cond.instanceMethod yX2_writeTin ∈ LW := LWm (tb5 (List.mem_of_getElem? (i := 43) (by decide +kernel))) rfl
theorem mw_1004 : Cond.code yX2_writeTin cX2_writeTin 2 (some .int) ∈ LW := LWm (tb5 (List.mem_of_getElem? (i := 44) (by decide +kernel))) rfl
theorem mw_1005 : Cond.methodLinkNest RX2 67 yX5_keyOf RX9 ∈ NW := NWm (tb5 (List.mem_of_getElem? (i := 45) (by decide +kernel))) rfl
theorem mw_1006 : Cond.methodLinkNest RX2 70 yX5_leakOf RX9 ∈ NW := NWm (tb5 (List.mem_of_getElem? (i := 46) (by decide +kernel))) rfl
theorem mw_1007 : Cond.methodLink RL 221 yL_character ∈ LW := LWm (tb5 (List.mem_of_getElem? (i := 47) (by decide +kernel))) rfl
theorem mw_1008 : Cond.static yL_character ∈ LW := LWm (tb5 (List.mem_of_getElem? (i := 48) (by decide +kernel))) rfl
theorem mw_1009 : Cond.codeWith yL_character cL_character 4 (some .int) [(0, 9, 12, 21)] ∈ LW := LWm (tb5 (List.mem_of_getElem? (i := 49) (by decide +kernel))) rfl
theorem mw_1010 : Cond.methodLink RL 88 yX9_character ∈ LW := LWm (tb5 (List.mem_of_getElem? (i := 50) (by decide +kernel))) rfl
theorem mw_1011 : Cond.instanceMethod yX9_character ∈ LW := LWm (tb5 (List.mem_of_getElem? (i := 51) (by decide +kernel))) rfl
theorem mw_1012 : Cond.selects RX9 yX9_character yX9_character ∈ LW := LWm (tb5 (List.mem_of_getElem? (i := 52) (by decide +kernel))) rfl
theorem mw_1013 : Cond.code yX9_character cX9_character 2 (some .char) ∈ LW := LWm (tb5 (List.mem_of_getElem? (i := 53) (by decide +kernel))) rfl
theorem mw_1014 : Cond.methodLinkNest RX9 246 yX2_hasSign RX9 ∈ NW := NWm (tb5 (List.mem_of_getElem? (i := 54) (by decide +kernel))) rfl
theorem mw_1016 : Cond.instanceMethod yX2_hasSign ∈ LW := LWm (tb5 (List.mem_of_getElem? (i := 56) (by decide +kernel))) rfl
theorem mw_1017 : Cond.code yX2_hasSign cX2_hasSign 2 (some .boolean) ∈ LW := LWm (tb5 (List.mem_of_getElem? (i := 57) (by decide +kernel))) rfl
theorem mw_1018 : Cond.methodLinkNest RX2 23 yX9_isWithin RX9 ∈ NW := NWm (tb5 (List.mem_of_getElem? (i := 58) (by decide +kernel))) rfl
theorem mw_1019 : Cond.methodLinkNest RX9 249 yX2_signAt RX9 ∈ NW := NWm (tb5 (List.mem_of_getElem? (i := 59) (by decide +kernel))) rfl
theorem mw_1021 : Cond.instanceMethod yX2_signAt ∈ LW := LWm (tb5 (List.mem_of_getElem? (i := 61) (by decide +kernel))) rfl
theorem mw_1022 : Cond.code yX2_signAt cX2_signAt 2 (some .char) ∈ LW := LWm (tb5 (List.mem_of_getElem? (i := 62) (by decide +kernel))) rfl
theorem mw_1023 : Cond.methodLink RL 224 yL_append ∈ LW := LWm (tb5 (List.mem_of_getElem? (i := 63) (by decide +kernel))) rfl
theorem mw_1024 : Cond.static yL_append ∈ LW := LWm (tb5 (List.mem_of_getElem? (i := 64) (by decide +kernel))) rfl
theorem mw_1025 : Cond.codeWith yL_append cL_append 4 (some .int) [(0, 9, 12, 96)] ∈ LW := LWm (tb5 (List.mem_of_getElem? (i := 65) (by decide +kernel))) rfl
theorem mw_1026 : Cond.classLink RL 96 "java/lang/IllegalStateException" ∈ LW := LWm (tb5 (List.mem_of_getElem? (i := 66) (by decide +kernel))) rfl
theorem mw_1027 : Cond.methodLink RL 92 yX9_append ∈ LW := LWm (tb5 (List.mem_of_getElem? (i := 67) (by decide +kernel))) rfl
theorem mw_1028 : Cond.instanceMethod yX9_append ∈ LW := LWm (tb5 (List.mem_of_getElem? (i := 68) (by decide +kernel))) rfl
theorem mw_1029 : Cond.selects RX9 yX9_append yX9_append ∈ LW := LWm (tb5 (List.mem_of_getElem? (i := 69) (by decide +kernel))) rfl
theorem mw_1030 : Cond.code yX9_append cX9_append 2 (some .int) ∈ LW := LWm (tb5 (List.mem_of_getElem? (i := 70) (by decide +kernel))) rfl
theorem mw_1031 : Cond.methodLinkNest RX9 253 yX8_isFull RX9 ∈ NW := NWm (tb5 (List.mem_of_getElem? (i := 71) (by decide +kernel))) rfl
theorem mw_1033 : Cond.instanceMethod yX8_isFull ∈ LW := LWm (tb5 (List.mem_of_getElem? (i := 73) (by decide +kernel))) rfl
theorem mw_1034 : Cond.code yX8_isFull cX8_isFull 1 (some .boolean) ∈ LW := LWm (tb5 (List.mem_of_getElem? (i := 74) (by decide +kernel))) rfl
theorem mw_1035 : Cond.methodLink RX9 257 yX9_needState ∈ LW := LWm (tb5 (List.mem_of_getElem? (i := 75) (by decide +kernel))) rfl
theorem mw_1036 : Cond.static yX9_needState ∈ LW := LWm (tb5 (List.mem_of_getElem? (i := 76) (by decide +kernel))) rfl
theorem mw_1037 : Cond.code yX9_needState cX9_needState 1 none ∈ LW := LWm (tb5 (List.mem_of_getElem? (i := 77) (by decide +kernel))) rfl
theorem mw_1038 : Cond.classLink RX9 390 "java/lang/IllegalStateException" ∈ LW := LWm (tb5 (List.mem_of_getElem? (i := 78) (by decide +kernel))) rfl
theorem mw_1039 : Cond.instantiable "java/lang/IllegalStateException" 6 ∈ LW := LWm (tb5 (List.mem_of_getElem? (i := 79) (by decide +kernel))) rfl
theorem mw_1040 : Cond.castable "java/lang/IllegalStateException" "java/lang/IllegalStateException" ∈ NW := NWm (tb5 (List.mem_of_getElem? (i := 80) (by decide +kernel))) rfl
theorem mw_1041 : Cond.selects "java/lang/IllegalStateException" ⟨"java/lang/Throwable", "fillInStackTrace", "(I)Ljava/lang/Throwable;"⟩ ⟨"java/lang/Throwable", "fillInStackTrace", "(I)Ljava/lang/Throwable;"⟩ ∈ LW := LWm (tb5 (List.mem_of_getElem? (i := 81) (by decide +kernel))) rfl
theorem mw_1048 : Cond.methodLink RX9 394 ⟨"java/lang/IllegalStateException", "<init>", "(Ljava/lang/String;)V"⟩ ∈ LW := LWm (tb5 (List.mem_of_getElem? (i := 88) (by decide +kernel))) rfl
theorem mw_1049 : Cond.instanceMethod ⟨"java/lang/IllegalStateException", "<init>", "(Ljava/lang/String;)V"⟩ ∈ LW := LWm (tb5 (List.mem_of_getElem? (i := 89) (by decide +kernel))) rfl
theorem mw_1050 : Cond.code ⟨"java/lang/IllegalStateException", "<init>", "(Ljava/lang/String;)V"⟩ prog_21_method_2_code 2 none ∈ LW := LWm (tb5 (List.mem_of_getElem? (i := 90) (by decide +kernel))) rfl
theorem mw_1051 : Cond.methodLink "java/lang/IllegalStateException" 7 ⟨"java/lang/RuntimeException", "<init>", "(Ljava/lang/String;)V"⟩ ∈ LW := LWm (tb5 (List.mem_of_getElem? (i := 91) (by decide +kernel))) rfl
theorem mw_1054 : Cond.methodLinkNest RX9 260 yX8_add RX9 ∈ NW := NWm (tb5 (List.mem_of_getElem? (i := 94) (by decide +kernel))) rfl
theorem mw_1056 : Cond.instanceMethod yX8_add ∈ LW := LWm (tb5 (List.mem_of_getElem? (i := 96) (by decide +kernel))) rfl
theorem mw_1057 : Cond.code yX8_add cX8_add 2 (some .int) ∈ LW := LWm (tb5 (List.mem_of_getElem? (i := 97) (by decide +kernel))) rfl
theorem mw_1058 : Cond.methodLink RL 228 yL_run ∈ LW := LWm (tb5 (List.mem_of_getElem? (i := 98) (by decide +kernel))) rfl
theorem mw_1059 : Cond.static yL_run ∈ LW := LWm (tb5 (List.mem_of_getElem? (i := 99) (by decide +kernel))) rfl
theorem mw_1060 : Cond.codeWith yL_run cL_run 3 (some .int) [(0, 8, 11, 13), (0, 8, 14, 15)] ∈ LW := LWm (tb5 (List.mem_of_getElem? (i := 100) (by decide +kernel))) rfl
theorem mw_1061 : Cond.methodLink RL 98 yX9_run ∈ LW := LWm (tb5 (List.mem_of_getElem? (i := 101) (by decide +kernel))) rfl
theorem mw_1062 : Cond.instanceMethod yX9_run ∈ LW := LWm (tb5 (List.mem_of_getElem? (i := 102) (by decide +kernel))) rfl
theorem mw_1063 : Cond.selects RX9 yX9_run yX9_run ∈ LW := LWm (tb5 (List.mem_of_getElem? (i := 103) (by decide +kernel))) rfl
theorem mw_1064 : Cond.code yX9_run cX9_run 2 (some .int) ∈ LW := LWm (tb5 (List.mem_of_getElem? (i := 104) (by decide +kernel))) rfl
theorem mw_1065 : Cond.methodLinkNest RX9 264 yX8_read RX9 ∈ NW := NWm (tb5 (List.mem_of_getElem? (i := 105) (by decide +kernel))) rfl
theorem mw_1067 : Cond.instanceMethod yX8_read ∈ LW := LWm (tb5 (List.mem_of_getElem? (i := 107) (by decide +kernel))) rfl
theorem mw_1068 : Cond.code yX8_read cX8_read 2 (some .boolean) ∈ LW := LWm (tb5 (List.mem_of_getElem? (i := 108) (by decide +kernel))) rfl
theorem mw_1069 : Cond.methodLink RX8 42 yX8_readOrders ∈ LW := LWm (tb5 (List.mem_of_getElem? (i := 109) (by decide +kernel))) rfl
theorem mw_1071 : Cond.instanceMethod yX8_readOrders ∈ LW := LWm (tb5 (List.mem_of_getElem? (i := 111) (by decide +kernel))) rfl
theorem mw_1072 : Cond.code yX8_readOrders cX8_readOrders 2 (some .boolean) ∈ LW := LWm (tb5 (List.mem_of_getElem? (i := 112) (by decide +kernel))) rfl
theorem mw_1073 : Cond.methodLink RX8 46 yX8_readOrder ∈ LW := LWm (tb5 (List.mem_of_getElem? (i := 113) (by decide +kernel))) rfl
theorem mw_1075 : Cond.instanceMethod yX8_readOrder ∈ LW := LWm (tb5 (List.mem_of_getElem? (i := 115) (by decide +kernel))) rfl
theorem mw_1076 : Cond.code yX8_readOrder cX8_readOrder 4 (some .boolean) ∈ LW := LWm (tb5 (List.mem_of_getElem? (i := 116) (by decide +kernel))) rfl
theorem mw_1077 : Cond.methodLink RX8 53 yX8_readWord ∈ LW := LWm (tb5 (List.mem_of_getElem? (i := 117) (by decide +kernel))) rfl
theorem mw_1079 : Cond.instanceMethod yX8_readWord ∈ LW := LWm (tb5 (List.mem_of_getElem? (i := 119) (by decide +kernel))) rfl
theorem mw_1080 : Cond.code yX8_readWord cX8_readWord 5 (some (.object "TinRoofScore$Order")) ∈ LW := LWm (tb5 (List.mem_of_getElem? (i := 120) (by decide +kernel))) rfl
theorem mw_1081 : Cond.fieldLinkNest RX8 78 "TinRoofScore" "ORDERS" "[LTinRoofScore$Order;" RX9 ∈ NW := NWm (tb5 (List.mem_of_getElem? (i := 121) (by decide +kernel))) rfl
theorem mw_1083 : Cond.methodLink RX8 84 yX8_lettersOf ∈ LW := LWm (tb5 (List.mem_of_getElem? (i := 123) (by decide +kernel))) rfl
theorem mw_1085 : Cond.instanceMethod yX8_lettersOf ∈ LW := LWm (tb5 (List.mem_of_getElem? (i := 125) (by decide +kernel))) rfl
theorem mw_1086 : Cond.code yX8_lettersOf cX8_lettersOf 3 (some .int) ∈ LW := LWm (tb5 (List.mem_of_getElem? (i := 126) (by decide +kernel))) rfl
theorem mw_1087 : Cond.methodLink RX8 61 yJ0_length_8abf5 ∈ LW := LWm (tb5 (List.mem_of_getElem? (i := 127) (by decide +kernel))) rfl
theorem mw_1088 : Cond.instanceMethod yJ0_length_8abf5 ∈ LW := LWm (tb5 (List.mem_of_getElem? (i := 128) (by decide +kernel))) rfl
theorem mw_1089 : Cond.selects RJ0 yJ0_length_8abf5 yJ0_length_8abf5 ∈ LW := LWm (tb5 (List.mem_of_getElem? (i := 129) (by decide +kernel))) rfl
theorem mw_1090 : Cond.code yJ0_length_8abf5 cJ0_length_8abf5 1 (some .int) ∈ LW := LWm (tb5 (List.mem_of_getElem? (i := 130) (by decide +kernel))) rfl
theorem mw_1091 : Cond.methodLink RJ0 335 yJ0_coder_7d493 ∈ LW := LWm (tb5 (List.mem_of_getElem? (i := 131) (by decide +kernel))) rfl
theorem mw_1092 : Cond.instanceMethod yJ0_coder_7d493 ∈ LW := LWm (tb5 (List.mem_of_getElem? (i := 132) (by decide +kernel))) rfl
theorem mw_1093 : Cond.selects RJ0 yJ0_coder_7d493 yJ0_coder_7d493 ∈ LW := LWm (tb5 (List.mem_of_getElem? (i := 133) (by decide +kernel))) rfl
theorem mw_1094 : Cond.code yJ0_coder_7d493 cJ0_coder_7d493 1 (some .byte) ∈ LW := LWm (tb5 (List.mem_of_getElem? (i := 134) (by decide +kernel))) rfl
theorem mw_1095 : Cond.fieldLink RJ0 38 "java/lang/String" "COMPACT_STRINGS" "Z" ∈ LW := LWm (tb5 (List.mem_of_getElem? (i := 135) (by decide +kernel))) rfl
theorem mw_1097 : Cond.methodLink RX8 66 yJ0_charAt_5068e ∈ LW := LWm (tb5 (List.mem_of_getElem? (i := 137) (by decide +kernel))) rfl
theorem mw_1098 : Cond.instanceMethod yJ0_charAt_5068e ∈ LW := LWm (tb5 (List.mem_of_getElem? (i := 138) (by decide +kernel))) rfl
theorem mw_1099 : Cond.selects RJ0 yJ0_charAt_5068e yJ0_charAt_5068e ∈ LW := LWm (tb5 (List.mem_of_getElem? (i := 139) (by decide +kernel))) rfl
theorem mw_1100 : Cond.code yJ0_charAt_5068e cJ0_charAt_5068e 2 (some .char) ∈ LW := LWm (tb5 (List.mem_of_getElem? (i := 140) (by decide +kernel))) rfl
theorem mw_1101 : Cond.methodLink RJ0 492 yJ0_isLatin1_aae02 ∈ LW := LWm (tb5 (List.mem_of_getElem? (i := 141) (by decide +kernel))) rfl
theorem mw_1102 : Cond.instanceMethod yJ0_isLatin1_aae02 ∈ LW := LWm (tb5 (List.mem_of_getElem? (i := 142) (by decide +kernel))) rfl
theorem mw_1103 : Cond.selects RJ0 yJ0_isLatin1_aae02 yJ0_isLatin1_aae02 ∈ LW := LWm (tb5 (List.mem_of_getElem? (i := 143) (by decide +kernel))) rfl
theorem mw_1104 : Cond.code yJ0_isLatin1_aae02 cJ0_isLatin1_aae02 1 (some .boolean) ∈ LW := LWm (tb5 (List.mem_of_getElem? (i := 144) (by decide +kernel))) rfl
theorem mw_1105 : Cond.methodLink RJ0 495 yJ1_charAt_3b067 ∈ LW := LWm (tb5 (List.mem_of_getElem? (i := 145) (by decide +kernel))) rfl
theorem mw_1106 : Cond.static yJ1_charAt_3b067 ∈ LW := LWm (tb5 (List.mem_of_getElem? (i := 146) (by decide +kernel))) rfl
theorem mw_1107 : Cond.code yJ1_charAt_3b067 cJ1_charAt_3b067 2 (some .char) ∈ LW := LWm (tb5 (List.mem_of_getElem? (i := 147) (by decide +kernel))) rfl
theorem mw_1108 : Cond.methodLink RJ1 9 yJ0_checkIndex_df160 ∈ LW := LWm (tb5 (List.mem_of_getElem? (i := 148) (by decide +kernel))) rfl
theorem mw_1109 : Cond.static yJ0_checkIndex_df160 ∈ LW := LWm (tb5 (List.mem_of_getElem? (i := 149) (by decide +kernel))) rfl
theorem mw_1110 : Cond.code yJ0_checkIndex_df160 cJ0_checkIndex_df160 2 none ∈ LW := LWm (tb5 (List.mem_of_getElem? (i := 150) (by decide +kernel))) rfl
theorem mw_1111 : Cond.fieldLink RJ0 1053 "jdk/internal/util/Preconditions" "SIOOBE_FORMATTER" "Ljava/util/function/BiFunction;" ∈ LW := LWm (tb5 (List.mem_of_getElem? (i := 151) (by decide +kernel))) rfl
theorem mw_1113 : Cond.methodLink RJ0 1059 yJ3_checkIndex_8e157 ∈ LW := LWm (tb5 (List.mem_of_getElem? (i := 153) (by decide +kernel))) rfl
theorem mw_1114 : Cond.static yJ3_checkIndex_8e157 ∈ LW := LWm (tb5 (List.mem_of_getElem? (i := 154) (by decide +kernel))) rfl
theorem mw_1115 : Cond.code yJ3_checkIndex_8e157 cJ3_checkIndex_8e157 3 (some .int) ∈ LW := LWm (tb5 (List.mem_of_getElem? (i := 155) (by decide +kernel))) rfl
theorem mw_1116 : Cond.methodLink RJ0 498 yJ2_charAt_3b067 ∈ LW := LWm (tb5 (List.mem_of_getElem? (i := 156) (by decide +kernel))) rfl
theorem mw_1117 : Cond.static yJ2_charAt_3b067 ∈ LW := LWm (tb5 (List.mem_of_getElem? (i := 157) (by decide +kernel))) rfl
theorem mw_1118 : Cond.code yJ2_charAt_3b067 cJ2_charAt_3b067 2 (some .char) ∈ LW := LWm (tb5 (List.mem_of_getElem? (i := 158) (by decide +kernel))) rfl
theorem mw_1119 : Cond.methodLink RJ2 67 yJ2_checkIndex_2214a ∈ LW := LWm (tb5 (List.mem_of_getElem? (i := 159) (by decide +kernel))) rfl
theorem mw_1120 : Cond.static yJ2_checkIndex_2214a ∈ LW := LWm (tb5 (List.mem_of_getElem? (i := 160) (by decide +kernel))) rfl
theorem mw_1121 : Cond.code yJ2_checkIndex_2214a cJ2_checkIndex_2214a 2 none ∈ LW := LWm (tb5 (List.mem_of_getElem? (i := 161) (by decide +kernel))) rfl
theorem mw_1122 : Cond.methodLink RJ2 48 yJ2_length_9d52b ∈ LW := LWm (tb5 (List.mem_of_getElem? (i := 162) (by decide +kernel))) rfl
theorem mw_1123 : Cond.static yJ2_length_9d52b ∈ LW := LWm (tb5 (List.mem_of_getElem? (i := 163) (by decide +kernel))) rfl
theorem mw_1124 : Cond.code yJ2_length_9d52b cJ2_length_9d52b 1 (some .int) ∈ LW := LWm (tb5 (List.mem_of_getElem? (i := 164) (by decide +kernel))) rfl
theorem mw_1125 : Cond.methodLink RJ2 414 yJ0_checkIndex_df160 ∈ LW := LWm (tb5 (List.mem_of_getElem? (i := 165) (by decide +kernel))) rfl
theorem mw_1126 : Cond.methodLink RJ2 71 yJ2_getChar_3b067 ∈ LW := LWm (tb5 (List.mem_of_getElem? (i := 166) (by decide +kernel))) rfl
theorem mw_1127 : Cond.static yJ2_getChar_3b067 ∈ LW := LWm (tb5 (List.mem_of_getElem? (i := 167) (by decide +kernel))) rfl
theorem mw_1128 : Cond.code yJ2_getChar_3b067 cJ2_getChar_3b067 2 (some .char) ∈ LW := LWm (tb5 (List.mem_of_getElem? (i := 168) (by decide +kernel))) rfl
theorem mw_1129 : Cond.fieldLink RJ2 44 "java/lang/StringUTF16" "$assertionsDisabled" "Z" ∈ LW := LWm (tb5 (List.mem_of_getElem? (i := 169) (by decide +kernel))) rfl
theorem mw_1131 : Cond.fieldLink RJ2 59 "java/lang/StringUTF16" "HI_BYTE_SHIFT" "I" ∈ LW := LWm (tb5 (List.mem_of_getElem? (i := 171) (by decide +kernel))) rfl
theorem mw_1133 : Cond.fieldLink RJ2 63 "java/lang/StringUTF16" "LO_BYTE_SHIFT" "I" ∈ LW := LWm (tb5 (List.mem_of_getElem? (i := 173) (by decide +kernel))) rfl
theorem mw_1135 : Cond.methodLink RX8 94 yX8_isSign ∈ LW := LWm (tb5 (List.mem_of_getElem? (i := 175) (by decide +kernel))) rfl
theorem mw_1137 : Cond.instanceMethod yX8_isSign ∈ LW := LWm (tb5 (List.mem_of_getElem? (i := 177) (by decide +kernel))) rfl
theorem mw_1138 : Cond.code yX8_isSign cX8_isSign 3 (some .boolean) ∈ LW := LWm (tb5 (List.mem_of_getElem? (i := 178) (by decide +kernel))) rfl
theorem mw_1139 : Cond.methodLink RX8 88 yJ9_max_7cf53 ∈ LW := LWm (tb5 (List.mem_of_getElem? (i := 179) (by decide +kernel))) rfl
theorem mw_1140 : Cond.methodLink RX8 49 yX8_take ∈ LW := LWm (tb5 (List.mem_of_getElem? (i := 180) (by decide +kernel))) rfl
theorem mw_1142 : Cond.instanceMethod yX8_take ∈ LW := LWm (tb5 (List.mem_of_getElem? (i := 182) (by decide +kernel))) rfl
theorem mw_1143 : Cond.code yX8_take cX8_take 2 (some .boolean) ∈ LW := LWm (tb5 (List.mem_of_getElem? (i := 183) (by decide +kernel))) rfl
theorem mw_1144 : Cond.methodLink RX8 70 yX8_readNumber ∈ LW := LWm (tb5 (List.mem_of_getElem? (i := 184) (by decide +kernel))) rfl
theorem mw_1146 : Cond.instanceMethod yX8_readNumber ∈ LW := LWm (tb5 (List.mem_of_getElem? (i := 186) (by decide +kernel))) rfl
theorem mw_1147 : Cond.code yX8_readNumber cX8_readNumber 4 (some .int) ∈ LW := LWm (tb5 (List.mem_of_getElem? (i := 187) (by decide +kernel))) rfl
theorem mw_1148 : Cond.methodLink RX8 98 yX8_readDigit ∈ LW := LWm (tb5 (List.mem_of_getElem? (i := 188) (by decide +kernel))) rfl
theorem mw_1150 : Cond.instanceMethod yX8_readDigit ∈ LW := LWm (tb5 (List.mem_of_getElem? (i := 190) (by decide +kernel))) rfl
theorem mw_1151 : Cond.code yX8_readDigit cX8_readDigit 3 (some .int) ∈ LW := LWm (tb5 (List.mem_of_getElem? (i := 191) (by decide +kernel))) rfl
theorem mw_1152 : Cond.methodLinkNest RX8 101 yX9_isWithin RX9 ∈ NW := NWm (tb5 (List.mem_of_getElem? (i := 192) (by decide +kernel))) rfl
theorem mw_1153 : Cond.methodLinkNest RX8 74 yX9_put RX9 ∈ NW := NWm (tb5 (List.mem_of_getElem? (i := 193) (by decide +kernel))) rfl
theorem mw_1154 : Cond.methodLink RX9 270 yX9_carryOutText ∈ LW := LWm (tb5 (List.mem_of_getElem? (i := 194) (by decide +kernel))) rfl
theorem mw_1156 : Cond.instanceMethod yX9_carryOutText ∈ LW := LWm (tb5 (List.mem_of_getElem? (i := 196) (by decide +kernel))) rfl
theorem mw_1157 : Cond.code yX9_carryOutText cX9_carryOutText 7 (some .int) ∈ LW := LWm (tb5 (List.mem_of_getElem? (i := 197) (by decide +kernel))) rfl
theorem mw_1158 : Cond.methodLinkNest RX9 279 yX8_countOfOrders RX9 ∈ NW := NWm (tb5 (List.mem_of_getElem? (i := 198) (by decide +kernel))) rfl
theorem mw_1160 : Cond.instanceMethod yX8_countOfOrders ∈ LW := LWm (tb5 (List.mem_of_getElem? (i := 200) (by decide +kernel))) rfl
theorem mw_1161 : Cond.code yX8_countOfOrders cX8_countOfOrders 1 (some .int) ∈ LW := LWm (tb5 (List.mem_of_getElem? (i := 201) (by decide +kernel))) rfl
theorem mw_1162 : Cond.methodLinkNest RX9 363 yX8_orderAt RX9 ∈ NW := NWm (tb5 (List.mem_of_getElem? (i := 202) (by decide +kernel))) rfl
theorem mw_1164 : Cond.instanceMethod yX8_orderAt ∈ LW := LWm (tb5 (List.mem_of_getElem? (i := 204) (by decide +kernel))) rfl
theorem mw_1165 : Cond.code yX8_orderAt cX8_orderAt 2 (some (.object "TinRoofScore$Order")) ∈ LW := LWm (tb5 (List.mem_of_getElem? (i := 205) (by decide +kernel))) rfl
theorem mw_1166 : Cond.methodLinkNest RX9 367 yX8_numberAt RX9 ∈ NW := NWm (tb5 (List.mem_of_getElem? (i := 206) (by decide +kernel))) rfl
theorem mw_1168 : Cond.instanceMethod yX8_numberAt ∈ LW := LWm (tb5 (List.mem_of_getElem? (i := 208) (by decide +kernel))) rfl
theorem mw_1169 : Cond.code yX8_numberAt cX8_numberAt 3 (some .int) ∈ LW := LWm (tb5 (List.mem_of_getElem? (i := 209) (by decide +kernel))) rfl
theorem mw_1170 : Cond.methodLinkNest RX8 38 yX9_cell RX9 ∈ NW := NWm (tb5 (List.mem_of_getElem? (i := 210) (by decide +kernel))) rfl
theorem mw_1171 : Cond.methodLink RL 235 yL_refusal ∈ LW := LWm (tb5 (List.mem_of_getElem? (i := 211) (by decide +kernel))) rfl
theorem mw_1172 : Cond.static yL_refusal ∈ LW := LWm (tb5 (List.mem_of_getElem? (i := 212) (by decide +kernel))) rfl
theorem mw_1173 : Cond.codeWith yL_refusal cL_refusal 4 (some .int) [(0, 9, 12, 58)] ∈ LW := LWm (tb5 (List.mem_of_getElem? (i := 213) (by decide +kernel))) rfl
theorem mw_1174 : Cond.methodLink RL 101 yX9_refusal ∈ LW := LWm (tb5 (List.mem_of_getElem? (i := 214) (by decide +kernel))) rfl
theorem mw_1175 : Cond.instanceMethod yX9_refusal ∈ LW := LWm (tb5 (List.mem_of_getElem? (i := 215) (by decide +kernel))) rfl
theorem mw_1176 : Cond.selects RX9 yX9_refusal yX9_refusal ∈ LW := LWm (tb5 (List.mem_of_getElem? (i := 216) (by decide +kernel))) rfl
theorem mw_1177 : Cond.code yX9_refusal cX9_refusal 2 (some .int) ∈ LW := LWm (tb5 (List.mem_of_getElem? (i := 217) (by decide +kernel))) rfl
theorem mw_1178 : Cond.methodLinkNest RX9 285 yX1_hasRefused RX9 ∈ NW := NWm (tb5 (List.mem_of_getElem? (i := 218) (by decide +kernel))) rfl
theorem mw_1180 : Cond.instanceMethod yX1_hasRefused ∈ LW := LWm (tb5 (List.mem_of_getElem? (i := 220) (by decide +kernel))) rfl
theorem mw_1181 : Cond.code yX1_hasRefused cX1_hasRefused 1 (some .boolean) ∈ LW := LWm (tb5 (List.mem_of_getElem? (i := 221) (by decide +kernel))) rfl
theorem mw_1182 : Cond.methodLinkNest RX9 288 yX1_latestDetail RX9 ∈ NW := NWm (tb5 (List.mem_of_getElem? (i := 222) (by decide +kernel))) rfl
theorem mw_1184 : Cond.instanceMethod yX1_latestDetail ∈ LW := LWm (tb5 (List.mem_of_getElem? (i := 224) (by decide +kernel))) rfl
theorem mw_1185 : Cond.code yX1_latestDetail cX1_latestDetail 1 (some .int) ∈ LW := LWm (tb5 (List.mem_of_getElem? (i := 225) (by decide +kernel))) rfl
theorem mw_1186 : Cond.methodLinkNest RX9 291 yX1_latestReason RX9 ∈ NW := NWm (tb5 (List.mem_of_getElem? (i := 226) (by decide +kernel))) rfl
theorem mw_1188 : Cond.instanceMethod yX1_latestReason ∈ LW := LWm (tb5 (List.mem_of_getElem? (i := 228) (by decide +kernel))) rfl
theorem mw_1189 : Cond.code yX1_latestReason cX1_latestReason 1 (some .int) ∈ LW := LWm (tb5 (List.mem_of_getElem? (i := 229) (by decide +kernel))) rfl
theorem mw_1190 : Cond.methodLink RL 239 yL_account ∈ LW := LWm (tb5 (List.mem_of_getElem? (i := 230) (by decide +kernel))) rfl
theorem mw_1191 : Cond.static yL_account ∈ LW := LWm (tb5 (List.mem_of_getElem? (i := 231) (by decide +kernel))) rfl
theorem mw_1192 : Cond.codeWith yL_account cL_account 4 (some .int) [(0, 9, 12, 13)] ∈ LW := LWm (tb5 (List.mem_of_getElem? (i := 232) (by decide +kernel))) rfl
theorem mw_1193 : Cond.methodLink RL 105 yX9_account ∈ LW := LWm (tb5 (List.mem_of_getElem? (i := 233) (by decide +kernel))) rfl
theorem mw_1194 : Cond.instanceMethod yX9_account ∈ LW := LWm (tb5 (List.mem_of_getElem? (i := 234) (by decide +kernel))) rfl
theorem mw_1195 : Cond.selects RX9 yX9_account yX9_account ∈ LW := LWm (tb5 (List.mem_of_getElem? (i := 235) (by decide +kernel))) rfl
theorem mw_1196 : Cond.code yX9_account cX9_account 2 (some .int) ∈ LW := LWm (tb5 (List.mem_of_getElem? (i := 236) (by decide +kernel))) rfl
theorem mw_1197 : Cond.methodLinkNest RX9 294 yX5_countOfBars RX9 ∈ NW := NWm (tb5 (List.mem_of_getElem? (i := 237) (by decide +kernel))) rfl
theorem mw_1198 : Cond.methodLinkNest RX9 297 yX5_allBeats RX9 ∈ NW := NWm (tb5 (List.mem_of_getElem? (i := 238) (by decide +kernel))) rfl
theorem mw_1200 : Cond.instanceMethod yX5_allBeats ∈ LW := LWm (tb6 (List.mem_of_getElem? (i := 0) (by decide +kernel))) rfl
theorem mw_1201 : Cond.code yX5_allBeats cX5_allBeats 1 (some .int) ∈ LW := LWm (tb6 (List.mem_of_getElem? (i := 1) (by decide +kernel))) rfl
theorem mw_1202 : Cond.methodLinkNest RX9 300 yX5_filledBeats RX9 ∈ NW := NWm (tb6 (List.mem_of_getElem? (i := 2) (by decide +kernel))) rfl
theorem mw_1203 : Cond.methodLinkNest RX9 306 yX5_countOfRests RX9 ∈ NW := NWm (tb6 (List.mem_of_getElem? (i := 3) (by decide +kernel))) rfl
theorem mw_1205 : Cond.instanceMethod yX5_countOfRests ∈ LW := LWm (tb6 (List.mem_of_getElem? (i := 5) (by decide +kernel))) rfl
theorem mw_1206 : Cond.code yX5_countOfRests cX5_countOfRests 3 (some .int) ∈ LW := LWm (tb6 (List.mem_of_getElem? (i := 6) (by decide +kernel))) rfl
theorem mw_1207 : Cond.methodLinkNest RX9 309 yX5_allParts RX9 ∈ NW := NWm (tb6 (List.mem_of_getElem? (i := 7) (by decide +kernel))) rfl
theorem mw_1209 : Cond.instanceMethod yX5_allParts ∈ LW := LWm (tb6 (List.mem_of_getElem? (i := 9) (by decide +kernel))) rfl
theorem mw_1210 : Cond.code yX5_allParts cX5_allParts 3 (some .int) ∈ LW := LWm (tb6 (List.mem_of_getElem? (i := 10) (by decide +kernel))) rfl
theorem mw_1211 : Cond.methodLink RX5 88 yX5_partsOfBar ∈ LW := LWm (tb6 (List.mem_of_getElem? (i := 11) (by decide +kernel))) rfl
theorem mw_1212 : Cond.methodLinkNest RX9 312 yX5_limitNow RX9 ∈ NW := NWm (tb6 (List.mem_of_getElem? (i := 12) (by decide +kernel))) rfl
theorem mw_1213 : Cond.methodLinkNest RX9 315 yX5_setSoFar RX9 ∈ NW := NWm (tb6 (List.mem_of_getElem? (i := 13) (by decide +kernel))) rfl
theorem mw_1215 : Cond.instanceMethod yX5_setSoFar ∈ LW := LWm (tb6 (List.mem_of_getElem? (i := 15) (by decide +kernel))) rfl
theorem mw_1216 : Cond.code yX5_setSoFar cX5_setSoFar 1 (some .int) ∈ LW := LWm (tb6 (List.mem_of_getElem? (i := 16) (by decide +kernel))) rfl
theorem mw_1217 : Cond.methodLinkNest RX9 318 yX5_takenSoFar RX9 ∈ NW := NWm (tb6 (List.mem_of_getElem? (i := 17) (by decide +kernel))) rfl
theorem mw_1219 : Cond.instanceMethod yX5_takenSoFar ∈ LW := LWm (tb6 (List.mem_of_getElem? (i := 19) (by decide +kernel))) rfl
theorem mw_1220 : Cond.code yX5_takenSoFar cX5_takenSoFar 1 (some .int) ∈ LW := LWm (tb6 (List.mem_of_getElem? (i := 20) (by decide +kernel))) rfl
theorem mw_1221 : Cond.methodLinkNest RX9 321 yX8_countOfSigns RX9 ∈ NW := NWm (tb6 (List.mem_of_getElem? (i := 21) (by decide +kernel))) rfl
theorem mw_1223 : Cond.instanceMethod yX8_countOfSigns ∈ LW := LWm (tb6 (List.mem_of_getElem? (i := 23) (by decide +kernel))) rfl
theorem mw_1224 : Cond.code yX8_countOfSigns cX8_countOfSigns 1 (some .int) ∈ LW := LWm (tb6 (List.mem_of_getElem? (i := 24) (by decide +kernel))) rfl
theorem mw_1225 : Cond.methodLinkNest RX9 324 yX0_countOfChanges RX9 ∈ NW := NWm (tb6 (List.mem_of_getElem? (i := 25) (by decide +kernel))) rfl
theorem mw_1227 : Cond.instanceMethod yX0_countOfChanges ∈ LW := LWm (tb6 (List.mem_of_getElem? (i := 27) (by decide +kernel))) rfl
theorem mw_1228 : Cond.code yX0_countOfChanges cX0_countOfChanges 1 (some .int) ∈ LW := LWm (tb6 (List.mem_of_getElem? (i := 28) (by decide +kernel))) rfl
theorem mw_1229 : Cond.methodLink RL 246 yL_meanPitch ∈ LW := LWm (tb6 (List.mem_of_getElem? (i := 29) (by decide +kernel))) rfl
theorem mw_1230 : Cond.static yL_meanPitch ∈ LW := LWm (tb6 (List.mem_of_getElem? (i := 30) (by decide +kernel))) rfl
theorem mw_1231 : Cond.codeWith yL_meanPitch cL_meanPitch 3 (some .int) [(0, 7, 10, 112)] ∈ LW := LWm (tb6 (List.mem_of_getElem? (i := 31) (by decide +kernel))) rfl
theorem mw_1232 : Cond.classLink RL 112 "java/lang/ArithmeticException" ∈ LW := LWm (tb6 (List.mem_of_getElem? (i := 32) (by decide +kernel))) rfl
theorem mw_1233 : Cond.instantiable "java/lang/ArithmeticException" 6 ∈ LW := LWm (tb6 (List.mem_of_getElem? (i := 33) (by decide +kernel))) rfl
theorem mw_1234 : Cond.instanceMethod ⟨"java/lang/ArithmeticException", "<init>", "(Ljava/lang/String;)V"⟩ ∈ LW := LWm (tb6 (List.mem_of_getElem? (i := 34) (by decide +kernel))) rfl
theorem mw_1235 : Cond.code ⟨"java/lang/ArithmeticException", "<init>", "(Ljava/lang/String;)V"⟩ prog_14_method_2_code 2 none ∈ LW := LWm (tb6 (List.mem_of_getElem? (i := 35) (by decide +kernel))) rfl
theorem mw_1236 : Cond.methodLink "java/lang/ArithmeticException" 7 ⟨"java/lang/RuntimeException", "<init>", "(Ljava/lang/String;)V"⟩ ∈ LW := LWm (tb6 (List.mem_of_getElem? (i := 36) (by decide +kernel))) rfl
theorem mw_1244 : Cond.castable "java/lang/ArithmeticException" "java/lang/ArithmeticException" ∈ NW := NWm (tb6 (List.mem_of_getElem? (i := 44) (by decide +kernel))) rfl
theorem mw_1245 : Cond.selects "java/lang/ArithmeticException" ⟨"java/lang/Throwable", "fillInStackTrace", "(I)Ljava/lang/Throwable;"⟩ ⟨"java/lang/Throwable", "fillInStackTrace", "(I)Ljava/lang/Throwable;"⟩ ∈ LW := LWm (tb6 (List.mem_of_getElem? (i := 45) (by decide +kernel))) rfl
theorem mw_1246 : Cond.methodLink RL 108 yX9_meanPitch ∈ LW := LWm (tb6 (List.mem_of_getElem? (i := 46) (by decide +kernel))) rfl
theorem mw_1247 : Cond.instanceMethod yX9_meanPitch ∈ LW := LWm (tb6 (List.mem_of_getElem? (i := 47) (by decide +kernel))) rfl
theorem mw_1248 : Cond.selects RX9 yX9_meanPitch yX9_meanPitch ∈ LW := LWm (tb6 (List.mem_of_getElem? (i := 48) (by decide +kernel))) rfl
theorem mw_1249 : Cond.code yX9_meanPitch cX9_meanPitch 2 (some .double) ∈ LW := LWm (tb6 (List.mem_of_getElem? (i := 49) (by decide +kernel))) rfl
theorem mw_1250 : Cond.methodLinkNest RX9 336 yX3_countOfDrops RX9 ∈ NW := NWm (tb6 (List.mem_of_getElem? (i := 50) (by decide +kernel))) rfl
theorem mw_1252 : Cond.instanceMethod yX3_countOfDrops ∈ LW := LWm (tb6 (List.mem_of_getElem? (i := 52) (by decide +kernel))) rfl
theorem mw_1253 : Cond.code yX3_countOfDrops cX3_countOfDrops 1 (some .int) ∈ LW := LWm (tb6 (List.mem_of_getElem? (i := 53) (by decide +kernel))) rfl
theorem mw_1254 : Cond.methodLinkNest RX3 50 yX5_countOfRests RX9 ∈ NW := NWm (tb6 (List.mem_of_getElem? (i := 54) (by decide +kernel))) rfl
theorem mw_1255 : Cond.classLink RX9 339 "java/lang/ArithmeticException" ∈ LW := LWm (tb6 (List.mem_of_getElem? (i := 55) (by decide +kernel))) rfl
theorem mw_1257 : Cond.methodLink RX9 343 ⟨"java/lang/ArithmeticException", "<init>", "(Ljava/lang/String;)V"⟩ ∈ LW := LWm (tb6 (List.mem_of_getElem? (i := 57) (by decide +kernel))) rfl
theorem mw_1258 : Cond.methodLinkNest RX9 346 yX3_sumOfPitches RX9 ∈ NW := NWm (tb6 (List.mem_of_getElem? (i := 58) (by decide +kernel))) rfl
theorem mw_1260 : Cond.instanceMethod yX3_sumOfPitches ∈ LW := LWm (tb6 (List.mem_of_getElem? (i := 60) (by decide +kernel))) rfl
theorem mw_1261 : Cond.code yX3_sumOfPitches cX3_sumOfPitches 3 (some .int) ∈ LW := LWm (tb6 (List.mem_of_getElem? (i := 61) (by decide +kernel))) rfl
theorem mw_1262 : Cond.methodLink RL 250 yL_filledShare ∈ LW := LWm (tb6 (List.mem_of_getElem? (i := 62) (by decide +kernel))) rfl
theorem mw_1263 : Cond.static yL_filledShare ∈ LW := LWm (tb6 (List.mem_of_getElem? (i := 63) (by decide +kernel))) rfl
theorem mw_1264 : Cond.codeWith yL_filledShare cL_filledShare 3 (some .int) [(0, 8, 11, 112)] ∈ LW := LWm (tb6 (List.mem_of_getElem? (i := 64) (by decide +kernel))) rfl
theorem mw_1265 : Cond.methodLink RL 114 yX9_filledShare ∈ LW := LWm (tb6 (List.mem_of_getElem? (i := 65) (by decide +kernel))) rfl
theorem mw_1266 : Cond.instanceMethod yX9_filledShare ∈ LW := LWm (tb6 (List.mem_of_getElem? (i := 66) (by decide +kernel))) rfl
theorem mw_1267 : Cond.selects RX9 yX9_filledShare yX9_filledShare ∈ LW := LWm (tb6 (List.mem_of_getElem? (i := 67) (by decide +kernel))) rfl
theorem mw_1268 : Cond.code yX9_filledShare cX9_filledShare 2 (some .float) ∈ LW := LWm (tb6 (List.mem_of_getElem? (i := 68) (by decide +kernel))) rfl
theorem mw_1270 : Cond.methodLink RL 253 yL_undo ∈ LW := LWm (tb6 (List.mem_of_getElem? (i := 70) (by decide +kernel))) rfl
theorem mw_1271 : Cond.static yL_undo ∈ LW := LWm (tb6 (List.mem_of_getElem? (i := 71) (by decide +kernel))) rfl
theorem mw_1272 : Cond.codeWith yL_undo cL_undo 3 (some .int) [(0, 8, 11, 96)] ∈ LW := LWm (tb6 (List.mem_of_getElem? (i := 72) (by decide +kernel))) rfl
theorem mw_1273 : Cond.methodLink RL 118 yX9_undo ∈ LW := LWm (tb6 (List.mem_of_getElem? (i := 73) (by decide +kernel))) rfl
theorem mw_1274 : Cond.instanceMethod yX9_undo ∈ LW := LWm (tb6 (List.mem_of_getElem? (i := 74) (by decide +kernel))) rfl
theorem mw_1275 : Cond.selects RX9 yX9_undo yX9_undo ∈ LW := LWm (tb6 (List.mem_of_getElem? (i := 75) (by decide +kernel))) rfl
theorem mw_1276 : Cond.code yX9_undo cX9_undo 1 (some .int) ∈ LW := LWm (tb6 (List.mem_of_getElem? (i := 76) (by decide +kernel))) rfl
theorem mw_1277 : Cond.methodLinkNest RX9 351 yX0_takeBack RX9 ∈ NW := NWm (tb6 (List.mem_of_getElem? (i := 77) (by decide +kernel))) rfl
theorem mw_1279 : Cond.instanceMethod yX0_takeBack ∈ LW := LWm (tb6 (List.mem_of_getElem? (i := 79) (by decide +kernel))) rfl
theorem mw_1280 : Cond.code yX0_takeBack cX0_takeBack 4 none ∈ LW := LWm (tb6 (List.mem_of_getElem? (i := 80) (by decide +kernel))) rfl
theorem mw_1281 : Cond.methodLink RL 260 yL_restore ∈ LW := LWm (tb6 (List.mem_of_getElem? (i := 81) (by decide +kernel))) rfl
theorem mw_1282 : Cond.static yL_restore ∈ LW := LWm (tb6 (List.mem_of_getElem? (i := 82) (by decide +kernel))) rfl
theorem mw_1283 : Cond.codeWith yL_restore cL_restore 3 (some .int) [(0, 8, 11, 96)] ∈ LW := LWm (tb6 (List.mem_of_getElem? (i := 83) (by decide +kernel))) rfl
theorem mw_1284 : Cond.methodLink RL 121 yX9_restore ∈ LW := LWm (tb6 (List.mem_of_getElem? (i := 84) (by decide +kernel))) rfl
theorem mw_1285 : Cond.instanceMethod yX9_restore ∈ LW := LWm (tb6 (List.mem_of_getElem? (i := 85) (by decide +kernel))) rfl
theorem mw_1286 : Cond.selects RX9 yX9_restore yX9_restore ∈ LW := LWm (tb6 (List.mem_of_getElem? (i := 86) (by decide +kernel))) rfl
theorem mw_1287 : Cond.code yX9_restore cX9_restore 1 (some .int) ∈ LW := LWm (tb6 (List.mem_of_getElem? (i := 87) (by decide +kernel))) rfl
theorem mw_1288 : Cond.methodLinkNest RX9 354 yX0_forget RX9 ∈ NW := NWm (tb6 (List.mem_of_getElem? (i := 88) (by decide +kernel))) rfl
theorem mw_1290 : Cond.instanceMethod yX0_forget ∈ LW := LWm (tb6 (List.mem_of_getElem? (i := 90) (by decide +kernel))) rfl
theorem mw_1291 : Cond.code yX0_forget cX0_forget 1 none ∈ LW := LWm (tb6 (List.mem_of_getElem? (i := 91) (by decide +kernel))) rfl
theorem mw_1292 : Cond.classLink RL 125 RX10 ∈ LW := LWm (tb6 (List.mem_of_getElem? (i := 92) (by decide +kernel))) rfl
theorem mw_1293 : Cond.instantiable RX10 19 ∈ LW := LWm (tb6 (List.mem_of_getElem? (i := 93) (by decide +kernel))) rfl
theorem mw_1294 : Cond.methodLink RL 127 yX10_init ∈ LW := LWm (tb6 (List.mem_of_getElem? (i := 94) (by decide +kernel))) rfl
theorem mw_1295 : Cond.instanceMethod yX10_init ∈ LW := LWm (tb6 (List.mem_of_getElem? (i := 95) (by decide +kernel))) rfl
theorem mw_1296 : Cond.code yX10_init cX10_init 1 none ∈ LW := LWm (tb6 (List.mem_of_getElem? (i := 96) (by decide +kernel))) rfl
theorem mw_1297 : Cond.methodLink RX10 3 ⟨"java/lang/Object", "<init>", "()V"⟩ ∈ LW := LWm (tb6 (List.mem_of_getElem? (i := 97) (by decide +kernel))) rfl
theorem mw_1298 : Cond.fieldLink RX10 9 "TinRoofScoreModel" "s" "[I" ∈ LW := LWm (tb6 (List.mem_of_getElem? (i := 98) (by decide +kernel))) rfl
theorem mw_1299 : Cond.fieldLink RX10 13 "TinRoofScoreModel" "before" "[I" ∈ LW := LWm (tb6 (List.mem_of_getElem? (i := 99) (by decide +kernel))) rfl
theorem mw_1300 : Cond.fieldLink RX10 16 "TinRoofScoreModel" "saved" "[I" ∈ LW := LWm (tb6 (List.mem_of_getElem? (i := 100) (by decide +kernel))) rfl
theorem mw_1301 : Cond.fieldLink RX10 275 "TinRoofScoreModel" "isSaved" "Z" ∈ LW := LWm (tb6 (List.mem_of_getElem? (i := 101) (by decide +kernel))) rfl
theorem mw_1302 : Cond.fieldLink RX10 19 "TinRoofScoreModel" "past" "[I" ∈ LW := LWm (tb6 (List.mem_of_getElem? (i := 102) (by decide +kernel))) rfl
theorem mw_1303 : Cond.fieldLink RX10 45 "TinRoofScoreModel" "pastMany" "I" ∈ LW := LWm (tb6 (List.mem_of_getElem? (i := 103) (by decide +kernel))) rfl
theorem mw_1304 : Cond.fieldLink RX10 36 "TinRoofScoreModel" "thrown" "I" ∈ LW := LWm (tb6 (List.mem_of_getElem? (i := 104) (by decide +kernel))) rfl
theorem mw_1305 : Cond.fieldLink RX10 52 "TinRoofScoreModel" "reason" "I" ∈ LW := LWm (tb6 (List.mem_of_getElem? (i := 105) (by decide +kernel))) rfl
theorem mw_1306 : Cond.fieldLink RX10 55 "TinRoofScoreModel" "detail" "I" ∈ LW := LWm (tb6 (List.mem_of_getElem? (i := 106) (by decide +kernel))) rfl
theorem mw_1307 : Cond.fieldLink RX10 48 "TinRoofScoreModel" "isRefused" "Z" ∈ LW := LWm (tb6 (List.mem_of_getElem? (i := 107) (by decide +kernel))) rfl
theorem mw_1308 : Cond.fieldLink RX10 22 "TinRoofScoreModel" "line" "[C" ∈ LW := LWm (tb6 (List.mem_of_getElem? (i := 108) (by decide +kernel))) rfl
theorem mw_1309 : Cond.fieldLink RX10 198 "TinRoofScoreModel" "lineMany" "I" ∈ LW := LWm (tb6 (List.mem_of_getElem? (i := 109) (by decide +kernel))) rfl
theorem mw_1310 : Cond.fieldLink RX10 26 "TinRoofScoreModel" "text" "[C" ∈ LW := LWm (tb6 (List.mem_of_getElem? (i := 110) (by decide +kernel))) rfl
theorem mw_1311 : Cond.fieldLink RX10 209 "TinRoofScoreModel" "length" "I" ∈ LW := LWm (tb6 (List.mem_of_getElem? (i := 111) (by decide +kernel))) rfl
theorem mw_1312 : Cond.fieldLink RX10 215 "TinRoofScoreModel" "readAt" "I" ∈ LW := LWm (tb6 (List.mem_of_getElem? (i := 112) (by decide +kernel))) rfl
theorem mw_1313 : Cond.fieldLink RX10 212 "TinRoofScoreModel" "isWrong" "Z" ∈ LW := LWm (tb6 (List.mem_of_getElem? (i := 113) (by decide +kernel))) rfl
theorem mw_1314 : Cond.fieldLink RX10 29 "TinRoofScoreModel" "errorAt" "I" ∈ LW := LWm (tb6 (List.mem_of_getElem? (i := 114) (by decide +kernel))) rfl
theorem mw_1315 : Cond.fieldLink RX10 33 "TinRoofScoreModel" "orders" "[I" ∈ LW := LWm (tb6 (List.mem_of_getElem? (i := 115) (by decide +kernel))) rfl
theorem mw_1316 : Cond.fieldLink RX10 240 "TinRoofScoreModel" "orderMany" "I" ∈ LW := LWm (tb6 (List.mem_of_getElem? (i := 116) (by decide +kernel))) rfl
theorem mw_1356 : Cond.methodLink RL 134 yX10_thrown ∈ LW := LWm (tb6 (List.mem_of_getElem? (i := 156) (by decide +kernel))) rfl
theorem mw_1357 : Cond.instanceMethod yX10_thrown ∈ LW := LWm (tb6 (List.mem_of_getElem? (i := 157) (by decide +kernel))) rfl
theorem mw_1358 : Cond.selects RX10 yX10_thrown yX10_thrown ∈ LW := LWm (tb6 (List.mem_of_getElem? (i := 158) (by decide +kernel))) rfl
theorem mw_1359 : Cond.code yX10_thrown cX10_thrown 1 (some .int) ∈ LW := LWm (tb6 (List.mem_of_getElem? (i := 159) (by decide +kernel))) rfl
theorem mw_1360 : Cond.methodLink RL 238 yX10_refusal ∈ LW := LWm (tb6 (List.mem_of_getElem? (i := 160) (by decide +kernel))) rfl
theorem mw_1361 : Cond.instanceMethod yX10_refusal ∈ LW := LWm (tb6 (List.mem_of_getElem? (i := 161) (by decide +kernel))) rfl
theorem mw_1362 : Cond.selects RX10 yX10_refusal yX10_refusal ∈ LW := LWm (tb6 (List.mem_of_getElem? (i := 162) (by decide +kernel))) rfl
theorem mw_1363 : Cond.code yX10_refusal cX10_refusal 2 (some .int) ∈ LW := LWm (tb6 (List.mem_of_getElem? (i := 163) (by decide +kernel))) rfl
theorem mw_1364 : Cond.methodLink RL 133 yX10_bar ∈ LW := LWm (tb6 (List.mem_of_getElem? (i := 164) (by decide +kernel))) rfl
theorem mw_1365 : Cond.instanceMethod yX10_bar ∈ LW := LWm (tb6 (List.mem_of_getElem? (i := 165) (by decide +kernel))) rfl
theorem mw_1366 : Cond.selects RX10 yX10_bar yX10_bar ∈ LW := LWm (tb6 (List.mem_of_getElem? (i := 166) (by decide +kernel))) rfl
theorem mw_1367 : Cond.code yX10_bar cX10_bar 2 (some .int) ∈ LW := LWm (tb6 (List.mem_of_getElem? (i := 167) (by decide +kernel))) rfl
theorem mw_1368 : Cond.methodLink RX10 80 yX10_keep ∈ LW := LWm (tb6 (List.mem_of_getElem? (i := 168) (by decide +kernel))) rfl
theorem mw_1370 : Cond.instanceMethod yX10_keep ∈ LW := LWm (tb6 (List.mem_of_getElem? (i := 170) (by decide +kernel))) rfl
theorem mw_1371 : Cond.code yX10_keep cX10_keep 1 none ∈ LW := LWm (tb6 (List.mem_of_getElem? (i := 171) (by decide +kernel))) rfl
theorem mw_1372 : Cond.methodLink RX10 39 ⟨"java/lang/System", "arraycopy", "(Ljava/lang/Object;ILjava/lang/Object;II)V"⟩ ∈ LW := LWm (tb6 (List.mem_of_getElem? (i := 172) (by decide +kernel))) rfl
theorem mw_1373 : Cond.static ⟨"java/lang/System", "arraycopy", "(Ljava/lang/Object;ILjava/lang/Object;II)V"⟩ ∈ LW := LWm (tb6 (List.mem_of_getElem? (i := 173) (by decide +kernel))) rfl
theorem mw_1375 : Cond.methodLink RX10 83 yX10_doBar ∈ LW := LWm (tb6 (List.mem_of_getElem? (i := 175) (by decide +kernel))) rfl
theorem mw_1377 : Cond.instanceMethod yX10_doBar ∈ LW := LWm (tb6 (List.mem_of_getElem? (i := 177) (by decide +kernel))) rfl
theorem mw_1378 : Cond.code yX10_doBar cX10_doBar 3 (some .int) ∈ LW := LWm (tb6 (List.mem_of_getElem? (i := 178) (by decide +kernel))) rfl
theorem mw_1379 : Cond.methodLink RX10 58 yX10_in ∈ LW := LWm (tb6 (List.mem_of_getElem? (i := 179) (by decide +kernel))) rfl
theorem mw_1380 : Cond.static yX10_in ∈ LW := LWm (tb6 (List.mem_of_getElem? (i := 180) (by decide +kernel))) rfl
theorem mw_1381 : Cond.code yX10_in cX10_in 3 (some .boolean) ∈ LW := LWm (tb6 (List.mem_of_getElem? (i := 181) (by decide +kernel))) rfl
theorem mw_1382 : Cond.methodLink RX10 73 yX10_fails ∈ LW := LWm (tb6 (List.mem_of_getElem? (i := 182) (by decide +kernel))) rfl
theorem mw_1384 : Cond.instanceMethod yX10_fails ∈ LW := LWm (tb6 (List.mem_of_getElem? (i := 184) (by decide +kernel))) rfl
theorem mw_1385 : Cond.code yX10_fails cX10_fails 2 (some .int) ∈ LW := LWm (tb6 (List.mem_of_getElem? (i := 185) (by decide +kernel))) rfl
theorem mw_1386 : Cond.methodLink RX10 76 yX10_refuse ∈ LW := LWm (tb6 (List.mem_of_getElem? (i := 186) (by decide +kernel))) rfl
theorem mw_1388 : Cond.instanceMethod yX10_refuse ∈ LW := LWm (tb6 (List.mem_of_getElem? (i := 188) (by decide +kernel))) rfl
theorem mw_1389 : Cond.code yX10_refuse cX10_refuse 4 (some .int) ∈ LW := LWm (tb6 (List.mem_of_getElem? (i := 189) (by decide +kernel))) rfl
theorem mw_1390 : Cond.methodLink RX10 86 yX10_ends ∈ LW := LWm (tb6 (List.mem_of_getElem? (i := 190) (by decide +kernel))) rfl
theorem mw_1392 : Cond.instanceMethod yX10_ends ∈ LW := LWm (tb6 (List.mem_of_getElem? (i := 192) (by decide +kernel))) rfl
theorem mw_1393 : Cond.code yX10_ends cX10_ends 2 (some .int) ∈ LW := LWm (tb6 (List.mem_of_getElem? (i := 193) (by decide +kernel))) rfl
theorem mw_1394 : Cond.methodLink RL 140 yX10_key ∈ LW := LWm (tb6 (List.mem_of_getElem? (i := 194) (by decide +kernel))) rfl
theorem mw_1395 : Cond.instanceMethod yX10_key ∈ LW := LWm (tb6 (List.mem_of_getElem? (i := 195) (by decide +kernel))) rfl
theorem mw_1396 : Cond.selects RX10 yX10_key yX10_key ∈ LW := LWm (tb6 (List.mem_of_getElem? (i := 196) (by decide +kernel))) rfl
theorem mw_1397 : Cond.code yX10_key cX10_key 3 (some .int) ∈ LW := LWm (tb6 (List.mem_of_getElem? (i := 197) (by decide +kernel))) rfl
theorem mw_1398 : Cond.methodLink RX10 93 yX10_doTin ∈ LW := LWm (tb6 (List.mem_of_getElem? (i := 198) (by decide +kernel))) rfl
theorem mw_1400 : Cond.instanceMethod yX10_doTin ∈ LW := LWm (tb6 (List.mem_of_getElem? (i := 200) (by decide +kernel))) rfl
theorem mw_1401 : Cond.code yX10_doTin cX10_doTin 6 (some .int) ∈ LW := LWm (tb6 (List.mem_of_getElem? (i := 201) (by decide +kernel))) rfl
theorem mw_1402 : Cond.methodLink RX10 89 yX10_isTin ∈ LW := LWm (tb6 (List.mem_of_getElem? (i := 202) (by decide +kernel))) rfl
theorem mw_1403 : Cond.static yX10_isTin ∈ LW := LWm (tb6 (List.mem_of_getElem? (i := 203) (by decide +kernel))) rfl
theorem mw_1404 : Cond.code yX10_isTin cX10_isTin 1 (some .boolean) ∈ LW := LWm (tb6 (List.mem_of_getElem? (i := 204) (by decide +kernel))) rfl
theorem mw_1405 : Cond.methodLink RL 143 yX10_leak ∈ LW := LWm (tb6 (List.mem_of_getElem? (i := 205) (by decide +kernel))) rfl
theorem mw_1406 : Cond.instanceMethod yX10_leak ∈ LW := LWm (tb6 (List.mem_of_getElem? (i := 206) (by decide +kernel))) rfl
theorem mw_1407 : Cond.selects RX10 yX10_leak yX10_leak ∈ LW := LWm (tb6 (List.mem_of_getElem? (i := 207) (by decide +kernel))) rfl
theorem mw_1408 : Cond.code yX10_leak cX10_leak 3 (some .int) ∈ LW := LWm (tb6 (List.mem_of_getElem? (i := 208) (by decide +kernel))) rfl
theorem mw_1409 : Cond.methodLink RL 147 yX10_drop ∈ LW := LWm (tb6 (List.mem_of_getElem? (i := 209) (by decide +kernel))) rfl
theorem mw_1410 : Cond.instanceMethod yX10_drop ∈ LW := LWm (tb6 (List.mem_of_getElem? (i := 210) (by decide +kernel))) rfl
theorem mw_1411 : Cond.selects RX10 yX10_drop yX10_drop ∈ LW := LWm (tb6 (List.mem_of_getElem? (i := 211) (by decide +kernel))) rfl
theorem mw_1412 : Cond.code yX10_drop cX10_drop 4 (some .int) ∈ LW := LWm (tb6 (List.mem_of_getElem? (i := 212) (by decide +kernel))) rfl
theorem mw_1413 : Cond.methodLink RX10 105 yX10_doDrop ∈ LW := LWm (tb6 (List.mem_of_getElem? (i := 213) (by decide +kernel))) rfl
theorem mw_1415 : Cond.instanceMethod yX10_doDrop ∈ LW := LWm (tb6 (List.mem_of_getElem? (i := 215) (by decide +kernel))) rfl
theorem mw_1416 : Cond.code yX10_doDrop cX10_doDrop 4 (some .int) ∈ LW := LWm (tb6 (List.mem_of_getElem? (i := 216) (by decide +kernel))) rfl
theorem mw_1417 : Cond.methodLink RX10 101 yX10_sets ∈ LW := LWm (tb6 (List.mem_of_getElem? (i := 217) (by decide +kernel))) rfl
theorem mw_1419 : Cond.instanceMethod yX10_sets ∈ LW := LWm (tb6 (List.mem_of_getElem? (i := 219) (by decide +kernel))) rfl
theorem mw_1420 : Cond.code yX10_sets cX10_sets 7 (some .int) ∈ LW := LWm (tb6 (List.mem_of_getElem? (i := 220) (by decide +kernel))) rfl
theorem mw_1421 : Cond.methodLink RX10 97 yX10_free ∈ LW := LWm (tb6 (List.mem_of_getElem? (i := 221) (by decide +kernel))) rfl
theorem mw_1423 : Cond.instanceMethod yX10_free ∈ LW := LWm (tb6 (List.mem_of_getElem? (i := 223) (by decide +kernel))) rfl
theorem mw_1424 : Cond.code yX10_free cX10_free 1 (some .int) ∈ LW := LWm (tb6 (List.mem_of_getElem? (i := 224) (by decide +kernel))) rfl
theorem mw_1425 : Cond.methodLink RX10 66 yX10_barBegin ∈ LW := LWm (tb6 (List.mem_of_getElem? (i := 225) (by decide +kernel))) rfl
theorem mw_1427 : Cond.instanceMethod yX10_barBegin ∈ LW := LWm (tb6 (List.mem_of_getElem? (i := 227) (by decide +kernel))) rfl
theorem mw_1428 : Cond.code yX10_barBegin cX10_barBegin 4 (some .int) ∈ LW := LWm (tb6 (List.mem_of_getElem? (i := 228) (by decide +kernel))) rfl
theorem mw_1429 : Cond.methodLink RX10 70 yX10_begin ∈ LW := LWm (tb6 (List.mem_of_getElem? (i := 229) (by decide +kernel))) rfl
theorem mw_1431 : Cond.instanceMethod yX10_begin ∈ LW := LWm (tb6 (List.mem_of_getElem? (i := 231) (by decide +kernel))) rfl
theorem mw_1432 : Cond.code yX10_begin cX10_begin 4 (some .int) ∈ LW := LWm (tb6 (List.mem_of_getElem? (i := 232) (by decide +kernel))) rfl
theorem mw_1433 : Cond.methodLink RX10 62 yX10_of ∈ LW := LWm (tb6 (List.mem_of_getElem? (i := 233) (by decide +kernel))) rfl
theorem mw_1435 : Cond.instanceMethod yX10_of ∈ LW := LWm (tb6 (List.mem_of_getElem? (i := 235) (by decide +kernel))) rfl
theorem mw_1436 : Cond.code yX10_of cX10_of 3 (some .int) ∈ LW := LWm (tb6 (List.mem_of_getElem? (i := 236) (by decide +kernel))) rfl
theorem mw_1437 : Cond.methodLink RL 150 yX10_rest ∈ LW := LWm (tb6 (List.mem_of_getElem? (i := 237) (by decide +kernel))) rfl
theorem mw_1438 : Cond.instanceMethod yX10_rest ∈ LW := LWm (tb6 (List.mem_of_getElem? (i := 238) (by decide +kernel))) rfl
theorem mw_1439 : Cond.selects RX10 yX10_rest yX10_rest ∈ LW := LWm (tb6 (List.mem_of_getElem? (i := 239) (by decide +kernel))) rfl
theorem mw_1440 : Cond.code yX10_rest cX10_rest 2 (some .int) ∈ LW := LWm (tb7 (List.mem_of_getElem? (i := 0) (by decide +kernel))) rfl
theorem mw_1441 : Cond.methodLink RX10 108 yX10_doRest ∈ LW := LWm (tb7 (List.mem_of_getElem? (i := 1) (by decide +kernel))) rfl
theorem mw_1443 : Cond.instanceMethod yX10_doRest ∈ LW := LWm (tb7 (List.mem_of_getElem? (i := 3) (by decide +kernel))) rfl
theorem mw_1444 : Cond.code yX10_doRest cX10_doRest 3 (some .int) ∈ LW := LWm (tb7 (List.mem_of_getElem? (i := 4) (by decide +kernel))) rfl
theorem mw_1445 : Cond.methodLink RL 154 yX10_lift ∈ LW := LWm (tb7 (List.mem_of_getElem? (i := 5) (by decide +kernel))) rfl
theorem mw_1446 : Cond.instanceMethod yX10_lift ∈ LW := LWm (tb7 (List.mem_of_getElem? (i := 6) (by decide +kernel))) rfl
theorem mw_1447 : Cond.selects RX10 yX10_lift yX10_lift ∈ LW := LWm (tb7 (List.mem_of_getElem? (i := 7) (by decide +kernel))) rfl
theorem mw_1448 : Cond.code yX10_lift cX10_lift 1 (some .int) ∈ LW := LWm (tb7 (List.mem_of_getElem? (i := 8) (by decide +kernel))) rfl
theorem mw_1449 : Cond.methodLink RX10 111 yX10_doLift ∈ LW := LWm (tb7 (List.mem_of_getElem? (i := 9) (by decide +kernel))) rfl
theorem mw_1451 : Cond.instanceMethod yX10_doLift ∈ LW := LWm (tb7 (List.mem_of_getElem? (i := 11) (by decide +kernel))) rfl
theorem mw_1452 : Cond.code yX10_doLift cX10_doLift 2 (some .int) ∈ LW := LWm (tb7 (List.mem_of_getElem? (i := 12) (by decide +kernel))) rfl
theorem mw_1453 : Cond.methodLink RL 157 yX10_limit ∈ LW := LWm (tb7 (List.mem_of_getElem? (i := 13) (by decide +kernel))) rfl
theorem mw_1454 : Cond.instanceMethod yX10_limit ∈ LW := LWm (tb7 (List.mem_of_getElem? (i := 14) (by decide +kernel))) rfl
theorem mw_1455 : Cond.selects RX10 yX10_limit yX10_limit ∈ LW := LWm (tb7 (List.mem_of_getElem? (i := 15) (by decide +kernel))) rfl
theorem mw_1456 : Cond.code yX10_limit cX10_limit 2 (some .int) ∈ LW := LWm (tb7 (List.mem_of_getElem? (i := 16) (by decide +kernel))) rfl
theorem mw_1457 : Cond.methodLink RX10 114 yX10_doLimit ∈ LW := LWm (tb7 (List.mem_of_getElem? (i := 17) (by decide +kernel))) rfl
theorem mw_1459 : Cond.instanceMethod yX10_doLimit ∈ LW := LWm (tb7 (List.mem_of_getElem? (i := 19) (by decide +kernel))) rfl
theorem mw_1460 : Cond.code yX10_doLimit cX10_doLimit 3 (some .int) ∈ LW := LWm (tb7 (List.mem_of_getElem? (i := 20) (by decide +kernel))) rfl
theorem mw_1461 : Cond.methodLink RL 160 yX10_tune ∈ LW := LWm (tb7 (List.mem_of_getElem? (i := 21) (by decide +kernel))) rfl
theorem mw_1462 : Cond.instanceMethod yX10_tune ∈ LW := LWm (tb7 (List.mem_of_getElem? (i := 22) (by decide +kernel))) rfl
theorem mw_1463 : Cond.selects RX10 yX10_tune yX10_tune ∈ LW := LWm (tb7 (List.mem_of_getElem? (i := 23) (by decide +kernel))) rfl
theorem mw_1464 : Cond.code yX10_tune cX10_tune 3 (some .int) ∈ LW := LWm (tb7 (List.mem_of_getElem? (i := 24) (by decide +kernel))) rfl
theorem mw_1465 : Cond.methodLink RX10 120 yX10_doTune ∈ LW := LWm (tb7 (List.mem_of_getElem? (i := 25) (by decide +kernel))) rfl
theorem mw_1467 : Cond.instanceMethod yX10_doTune ∈ LW := LWm (tb7 (List.mem_of_getElem? (i := 27) (by decide +kernel))) rfl
theorem mw_1468 : Cond.code yX10_doTune cX10_doTune 4 (some .int) ∈ LW := LWm (tb7 (List.mem_of_getElem? (i := 28) (by decide +kernel))) rfl
theorem mw_1469 : Cond.methodLink RX10 117 yX10_isSound ∈ LW := LWm (tb7 (List.mem_of_getElem? (i := 29) (by decide +kernel))) rfl
theorem mw_1471 : Cond.instanceMethod yX10_isSound ∈ LW := LWm (tb7 (List.mem_of_getElem? (i := 31) (by decide +kernel))) rfl
theorem mw_1472 : Cond.code yX10_isSound cX10_isSound 2 (some .boolean) ∈ LW := LWm (tb7 (List.mem_of_getElem? (i := 32) (by decide +kernel))) rfl
theorem mw_1473 : Cond.methodLink RL 163 yX10_tinOf ∈ LW := LWm (tb7 (List.mem_of_getElem? (i := 33) (by decide +kernel))) rfl
theorem mw_1474 : Cond.instanceMethod yX10_tinOf ∈ LW := LWm (tb7 (List.mem_of_getElem? (i := 34) (by decide +kernel))) rfl
theorem mw_1475 : Cond.selects RX10 yX10_tinOf yX10_tinOf ∈ LW := LWm (tb7 (List.mem_of_getElem? (i := 35) (by decide +kernel))) rfl
theorem mw_1476 : Cond.code yX10_tinOf cX10_tinOf 3 (some .int) ∈ LW := LWm (tb7 (List.mem_of_getElem? (i := 36) (by decide +kernel))) rfl
theorem mw_1477 : Cond.methodLink RX10 137 yX10_soundsOf ∈ LW := LWm (tb7 (List.mem_of_getElem? (i := 37) (by decide +kernel))) rfl
theorem mw_1479 : Cond.instanceMethod yX10_soundsOf ∈ LW := LWm (tb7 (List.mem_of_getElem? (i := 39) (by decide +kernel))) rfl
theorem mw_1480 : Cond.code yX10_soundsOf cX10_soundsOf 6 (some .int) ∈ LW := LWm (tb7 (List.mem_of_getElem? (i := 40) (by decide +kernel))) rfl
theorem mw_1481 : Cond.methodLink RX10 134 yX10_isDrop ∈ LW := LWm (tb7 (List.mem_of_getElem? (i := 41) (by decide +kernel))) rfl
theorem mw_1483 : Cond.instanceMethod yX10_isDrop ∈ LW := LWm (tb7 (List.mem_of_getElem? (i := 43) (by decide +kernel))) rfl
theorem mw_1484 : Cond.code yX10_isDrop cX10_isDrop 2 (some .boolean) ∈ LW := LWm (tb7 (List.mem_of_getElem? (i := 44) (by decide +kernel))) rfl
theorem mw_1485 : Cond.methodLink RL 166 yX10_soundOf ∈ LW := LWm (tb7 (List.mem_of_getElem? (i := 45) (by decide +kernel))) rfl
theorem mw_1486 : Cond.instanceMethod yX10_soundOf ∈ LW := LWm (tb7 (List.mem_of_getElem? (i := 46) (by decide +kernel))) rfl
theorem mw_1487 : Cond.selects RX10 yX10_soundOf yX10_soundOf ∈ LW := LWm (tb7 (List.mem_of_getElem? (i := 47) (by decide +kernel))) rfl
theorem mw_1488 : Cond.code yX10_soundOf cX10_soundOf 3 (some .int) ∈ LW := LWm (tb7 (List.mem_of_getElem? (i := 48) (by decide +kernel))) rfl
theorem mw_1489 : Cond.methodLink RX10 140 yX10_pitch ∈ LW := LWm (tb7 (List.mem_of_getElem? (i := 49) (by decide +kernel))) rfl
theorem mw_1491 : Cond.instanceMethod yX10_pitch ∈ LW := LWm (tb7 (List.mem_of_getElem? (i := 51) (by decide +kernel))) rfl
theorem mw_1492 : Cond.code yX10_pitch cX10_pitch 2 (some .int) ∈ LW := LWm (tb7 (List.mem_of_getElem? (i := 52) (by decide +kernel))) rfl
theorem mw_1493 : Cond.methodLink RX10 143 yX10_parts ∈ LW := LWm (tb7 (List.mem_of_getElem? (i := 53) (by decide +kernel))) rfl
theorem mw_1495 : Cond.instanceMethod yX10_parts ∈ LW := LWm (tb7 (List.mem_of_getElem? (i := 55) (by decide +kernel))) rfl
theorem mw_1496 : Cond.code yX10_parts cX10_parts 4 (some .int) ∈ LW := LWm (tb7 (List.mem_of_getElem? (i := 56) (by decide +kernel))) rfl
theorem mw_1497 : Cond.methodLink RX10 131 yX10_beatsIn ∈ LW := LWm (tb7 (List.mem_of_getElem? (i := 57) (by decide +kernel))) rfl
theorem mw_1499 : Cond.instanceMethod yX10_beatsIn ∈ LW := LWm (tb7 (List.mem_of_getElem? (i := 59) (by decide +kernel))) rfl
theorem mw_1500 : Cond.code yX10_beatsIn cX10_beatsIn 5 (some .int) ∈ LW := LWm (tb7 (List.mem_of_getElem? (i := 60) (by decide +kernel))) rfl
theorem mw_1501 : Cond.methodLink RX10 123 yJ9_max_7cf53 ∈ LW := LWm (tb7 (List.mem_of_getElem? (i := 61) (by decide +kernel))) rfl
theorem mw_1502 : Cond.methodLink RX10 128 yJ9_min_7cf53 ∈ LW := LWm (tb7 (List.mem_of_getElem? (i := 62) (by decide +kernel))) rfl
theorem mw_1503 : Cond.methodLink RX10 146 yX10_barAt ∈ LW := LWm (tb7 (List.mem_of_getElem? (i := 63) (by decide +kernel))) rfl
theorem mw_1505 : Cond.instanceMethod yX10_barAt ∈ LW := LWm (tb7 (List.mem_of_getElem? (i := 65) (by decide +kernel))) rfl
theorem mw_1506 : Cond.code yX10_barAt cX10_barAt 3 (some .int) ∈ LW := LWm (tb7 (List.mem_of_getElem? (i := 66) (by decide +kernel))) rfl
theorem mw_1507 : Cond.methodLink RL 169 yX10_barOf ∈ LW := LWm (tb7 (List.mem_of_getElem? (i := 67) (by decide +kernel))) rfl
theorem mw_1508 : Cond.instanceMethod yX10_barOf ∈ LW := LWm (tb7 (List.mem_of_getElem? (i := 68) (by decide +kernel))) rfl
theorem mw_1509 : Cond.selects RX10 yX10_barOf yX10_barOf ∈ LW := LWm (tb7 (List.mem_of_getElem? (i := 69) (by decide +kernel))) rfl
theorem mw_1510 : Cond.code yX10_barOf cX10_barOf 3 (some .int) ∈ LW := LWm (tb7 (List.mem_of_getElem? (i := 70) (by decide +kernel))) rfl
theorem mw_1511 : Cond.methodLink RX10 149 yX10_isBar ∈ LW := LWm (tb7 (List.mem_of_getElem? (i := 71) (by decide +kernel))) rfl
theorem mw_1513 : Cond.instanceMethod yX10_isBar ∈ LW := LWm (tb7 (List.mem_of_getElem? (i := 73) (by decide +kernel))) rfl
theorem mw_1514 : Cond.code yX10_isBar cX10_isBar 2 (some .boolean) ∈ LW := LWm (tb7 (List.mem_of_getElem? (i := 74) (by decide +kernel))) rfl
theorem mw_1515 : Cond.methodLink RX10 152 yX10_filled ∈ LW := LWm (tb7 (List.mem_of_getElem? (i := 75) (by decide +kernel))) rfl
theorem mw_1517 : Cond.instanceMethod yX10_filled ∈ LW := LWm (tb7 (List.mem_of_getElem? (i := 77) (by decide +kernel))) rfl
theorem mw_1518 : Cond.code yX10_filled cX10_filled 4 (some .int) ∈ LW := LWm (tb7 (List.mem_of_getElem? (i := 78) (by decide +kernel))) rfl
theorem mw_1519 : Cond.methodLink RX10 155 yX10_partsIn ∈ LW := LWm (tb7 (List.mem_of_getElem? (i := 79) (by decide +kernel))) rfl
theorem mw_1521 : Cond.instanceMethod yX10_partsIn ∈ LW := LWm (tb7 (List.mem_of_getElem? (i := 81) (by decide +kernel))) rfl
theorem mw_1522 : Cond.code yX10_partsIn cX10_partsIn 4 (some .int) ∈ LW := LWm (tb7 (List.mem_of_getElem? (i := 82) (by decide +kernel))) rfl
theorem mw_1523 : Cond.methodLink RX10 158 yX10_begunIn ∈ LW := LWm (tb7 (List.mem_of_getElem? (i := 83) (by decide +kernel))) rfl
theorem mw_1525 : Cond.instanceMethod yX10_begunIn ∈ LW := LWm (tb7 (List.mem_of_getElem? (i := 85) (by decide +kernel))) rfl
theorem mw_1526 : Cond.code yX10_begunIn cX10_begunIn 4 (some .int) ∈ LW := LWm (tb7 (List.mem_of_getElem? (i := 86) (by decide +kernel))) rfl
theorem mw_1527 : Cond.methodLink RL 172 yX10_partOf ∈ LW := LWm (tb7 (List.mem_of_getElem? (i := 87) (by decide +kernel))) rfl
theorem mw_1528 : Cond.instanceMethod yX10_partOf ∈ LW := LWm (tb7 (List.mem_of_getElem? (i := 88) (by decide +kernel))) rfl
theorem mw_1529 : Cond.selects RX10 yX10_partOf yX10_partOf ∈ LW := LWm (tb7 (List.mem_of_getElem? (i := 89) (by decide +kernel))) rfl
theorem mw_1530 : Cond.code yX10_partOf cX10_partOf 5 (some .int) ∈ LW := LWm (tb7 (List.mem_of_getElem? (i := 90) (by decide +kernel))) rfl
theorem mw_1531 : Cond.methodLink RX10 161 yX10_partAt ∈ LW := LWm (tb7 (List.mem_of_getElem? (i := 91) (by decide +kernel))) rfl
theorem mw_1533 : Cond.instanceMethod yX10_partAt ∈ LW := LWm (tb7 (List.mem_of_getElem? (i := 93) (by decide +kernel))) rfl
theorem mw_1534 : Cond.code yX10_partAt cX10_partAt 7 (some .int) ∈ LW := LWm (tb7 (List.mem_of_getElem? (i := 94) (by decide +kernel))) rfl
theorem mw_1535 : Cond.methodLink RX10 164 yX10_isTied ∈ LW := LWm (tb7 (List.mem_of_getElem? (i := 95) (by decide +kernel))) rfl
theorem mw_1537 : Cond.instanceMethod yX10_isTied ∈ LW := LWm (tb7 (List.mem_of_getElem? (i := 97) (by decide +kernel))) rfl
theorem mw_1538 : Cond.code yX10_isTied cX10_isTied 3 (some .boolean) ∈ LW := LWm (tb7 (List.mem_of_getElem? (i := 98) (by decide +kernel))) rfl
theorem mw_1539 : Cond.methodLink RL 175 yX10_at ∈ LW := LWm (tb7 (List.mem_of_getElem? (i := 99) (by decide +kernel))) rfl
theorem mw_1540 : Cond.instanceMethod yX10_at ∈ LW := LWm (tb7 (List.mem_of_getElem? (i := 100) (by decide +kernel))) rfl
theorem mw_1541 : Cond.selects RX10 yX10_at yX10_at ∈ LW := LWm (tb7 (List.mem_of_getElem? (i := 101) (by decide +kernel))) rfl
theorem mw_1542 : Cond.code yX10_at cX10_at 3 (some .int) ∈ LW := LWm (tb7 (List.mem_of_getElem? (i := 102) (by decide +kernel))) rfl
theorem mw_1543 : Cond.methodLink RX10 168 yX10_soundAt ∈ LW := LWm (tb7 (List.mem_of_getElem? (i := 103) (by decide +kernel))) rfl
theorem mw_1545 : Cond.instanceMethod yX10_soundAt ∈ LW := LWm (tb7 (List.mem_of_getElem? (i := 105) (by decide +kernel))) rfl
theorem mw_1546 : Cond.code yX10_soundAt cX10_soundAt 4 (some .int) ∈ LW := LWm (tb7 (List.mem_of_getElem? (i := 106) (by decide +kernel))) rfl
theorem mw_1547 : Cond.methodLink RL 179 yX10_faults ∈ LW := LWm (tb7 (List.mem_of_getElem? (i := 107) (by decide +kernel))) rfl
theorem mw_1548 : Cond.instanceMethod yX10_faults ∈ LW := LWm (tb7 (List.mem_of_getElem? (i := 108) (by decide +kernel))) rfl
theorem mw_1549 : Cond.selects RX10 yX10_faults yX10_faults ∈ LW := LWm (tb7 (List.mem_of_getElem? (i := 109) (by decide +kernel))) rfl
theorem mw_1550 : Cond.code yX10_faults cX10_faults 3 (some .int) ∈ LW := LWm (tb7 (List.mem_of_getElem? (i := 110) (by decide +kernel))) rfl
theorem mw_1551 : Cond.methodLink RX10 180 yX10_faultMany ∈ LW := LWm (tb7 (List.mem_of_getElem? (i := 111) (by decide +kernel))) rfl
theorem mw_1553 : Cond.instanceMethod yX10_faultMany ∈ LW := LWm (tb7 (List.mem_of_getElem? (i := 113) (by decide +kernel))) rfl
theorem mw_1554 : Cond.code yX10_faultMany cX10_faultMany 4 (some .int) ∈ LW := LWm (tb7 (List.mem_of_getElem? (i := 114) (by decide +kernel))) rfl
theorem mw_1555 : Cond.methodLink RX10 177 yX10_isFault ∈ LW := LWm (tb7 (List.mem_of_getElem? (i := 115) (by decide +kernel))) rfl
theorem mw_1557 : Cond.instanceMethod yX10_isFault ∈ LW := LWm (tb7 (List.mem_of_getElem? (i := 117) (by decide +kernel))) rfl
theorem mw_1558 : Cond.code yX10_isFault cX10_isFault 5 (some .boolean) ∈ LW := LWm (tb7 (List.mem_of_getElem? (i := 118) (by decide +kernel))) rfl
theorem mw_1559 : Cond.methodLink RX10 171 yX10_dropAhead ∈ LW := LWm (tb7 (List.mem_of_getElem? (i := 119) (by decide +kernel))) rfl
theorem mw_1561 : Cond.instanceMethod yX10_dropAhead ∈ LW := LWm (tb7 (List.mem_of_getElem? (i := 121) (by decide +kernel))) rfl
theorem mw_1562 : Cond.code yX10_dropAhead cX10_dropAhead 4 (some .int) ∈ LW := LWm (tb7 (List.mem_of_getElem? (i := 122) (by decide +kernel))) rfl
theorem mw_1563 : Cond.methodLink RX10 174 yJ9_abs_0f7a4 ∈ LW := LWm (tb7 (List.mem_of_getElem? (i := 123) (by decide +kernel))) rfl
theorem mw_1564 : Cond.methodLink RL 182 yX10_firstFault ∈ LW := LWm (tb7 (List.mem_of_getElem? (i := 124) (by decide +kernel))) rfl
theorem mw_1565 : Cond.instanceMethod yX10_firstFault ∈ LW := LWm (tb7 (List.mem_of_getElem? (i := 125) (by decide +kernel))) rfl
theorem mw_1566 : Cond.selects RX10 yX10_firstFault yX10_firstFault ∈ LW := LWm (tb7 (List.mem_of_getElem? (i := 126) (by decide +kernel))) rfl
theorem mw_1567 : Cond.code yX10_firstFault cX10_firstFault 3 (some .int) ∈ LW := LWm (tb7 (List.mem_of_getElem? (i := 127) (by decide +kernel))) rfl
theorem mw_1568 : Cond.methodLink RL 187 yX10_isClean ∈ LW := LWm (tb7 (List.mem_of_getElem? (i := 128) (by decide +kernel))) rfl
theorem mw_1569 : Cond.instanceMethod yX10_isClean ∈ LW := LWm (tb7 (List.mem_of_getElem? (i := 129) (by decide +kernel))) rfl
theorem mw_1570 : Cond.selects RX10 yX10_isClean yX10_isClean ∈ LW := LWm (tb7 (List.mem_of_getElem? (i := 130) (by decide +kernel))) rfl
theorem mw_1571 : Cond.code yX10_isClean cX10_isClean 1 (some .boolean) ∈ LW := LWm (tb7 (List.mem_of_getElem? (i := 131) (by decide +kernel))) rfl
theorem mw_1572 : Cond.methodLink RX10 183 yX10_allFaults ∈ LW := LWm (tb7 (List.mem_of_getElem? (i := 132) (by decide +kernel))) rfl
theorem mw_1574 : Cond.instanceMethod yX10_allFaults ∈ LW := LWm (tb7 (List.mem_of_getElem? (i := 134) (by decide +kernel))) rfl
theorem mw_1575 : Cond.code yX10_allFaults cX10_allFaults 1 (some .int) ∈ LW := LWm (tb7 (List.mem_of_getElem? (i := 135) (by decide +kernel))) rfl
theorem mw_1576 : Cond.methodLink RL 190 yX10_wouldFault ∈ LW := LWm (tb7 (List.mem_of_getElem? (i := 136) (by decide +kernel))) rfl
theorem mw_1577 : Cond.instanceMethod yX10_wouldFault ∈ LW := LWm (tb7 (List.mem_of_getElem? (i := 137) (by decide +kernel))) rfl
theorem mw_1578 : Cond.selects RX10 yX10_wouldFault yX10_wouldFault ∈ LW := LWm (tb7 (List.mem_of_getElem? (i := 138) (by decide +kernel))) rfl
theorem mw_1579 : Cond.code yX10_wouldFault cX10_wouldFault 3 (some .int) ∈ LW := LWm (tb7 (List.mem_of_getElem? (i := 139) (by decide +kernel))) rfl
theorem mw_1580 : Cond.methodLink RX10 186 yX10_faultsWith ∈ LW := LWm (tb7 (List.mem_of_getElem? (i := 140) (by decide +kernel))) rfl
theorem mw_1582 : Cond.instanceMethod yX10_faultsWith ∈ LW := LWm (tb7 (List.mem_of_getElem? (i := 142) (by decide +kernel))) rfl
theorem mw_1583 : Cond.code yX10_faultsWith cX10_faultsWith 6 (some .int) ∈ LW := LWm (tb7 (List.mem_of_getElem? (i := 143) (by decide +kernel))) rfl
theorem mw_1584 : Cond.methodLink RL 193 yX10_bestHeight ∈ LW := LWm (tb7 (List.mem_of_getElem? (i := 144) (by decide +kernel))) rfl
theorem mw_1585 : Cond.instanceMethod yX10_bestHeight ∈ LW := LWm (tb7 (List.mem_of_getElem? (i := 145) (by decide +kernel))) rfl
theorem mw_1586 : Cond.selects RX10 yX10_bestHeight yX10_bestHeight ∈ LW := LWm (tb7 (List.mem_of_getElem? (i := 146) (by decide +kernel))) rfl
theorem mw_1587 : Cond.code yX10_bestHeight cX10_bestHeight 4 (some .int) ∈ LW := LWm (tb7 (List.mem_of_getElem? (i := 147) (by decide +kernel))) rfl
theorem mw_1588 : Cond.methodLink RL 197 yX10_walk ∈ LW := LWm (tb7 (List.mem_of_getElem? (i := 148) (by decide +kernel))) rfl
theorem mw_1589 : Cond.instanceMethod yX10_walk ∈ LW := LWm (tb7 (List.mem_of_getElem? (i := 149) (by decide +kernel))) rfl
theorem mw_1590 : Cond.selects RX10 yX10_walk yX10_walk ∈ LW := LWm (tb7 (List.mem_of_getElem? (i := 150) (by decide +kernel))) rfl
theorem mw_1591 : Cond.code yX10_walk cX10_walk 5 (some .int) ∈ LW := LWm (tb7 (List.mem_of_getElem? (i := 151) (by decide +kernel))) rfl
theorem mw_1592 : Cond.methodLink RL 201 yX10_goes ∈ LW := LWm (tb7 (List.mem_of_getElem? (i := 152) (by decide +kernel))) rfl
theorem mw_1593 : Cond.instanceMethod yX10_goes ∈ LW := LWm (tb7 (List.mem_of_getElem? (i := 153) (by decide +kernel))) rfl
theorem mw_1594 : Cond.selects RX10 yX10_goes yX10_goes ∈ LW := LWm (tb7 (List.mem_of_getElem? (i := 154) (by decide +kernel))) rfl
theorem mw_1595 : Cond.code yX10_goes cX10_goes 6 (some .int) ∈ LW := LWm (tb7 (List.mem_of_getElem? (i := 155) (by decide +kernel))) rfl
theorem mw_1596 : Cond.methodLink RL 205 yX10_span ∈ LW := LWm (tb7 (List.mem_of_getElem? (i := 156) (by decide +kernel))) rfl
theorem mw_1597 : Cond.instanceMethod yX10_span ∈ LW := LWm (tb7 (List.mem_of_getElem? (i := 157) (by decide +kernel))) rfl
theorem mw_1598 : Cond.selects RX10 yX10_span yX10_span ∈ LW := LWm (tb7 (List.mem_of_getElem? (i := 158) (by decide +kernel))) rfl
theorem mw_1599 : Cond.code yX10_span cX10_span 4 (some .int) ∈ LW := LWm (tb7 (List.mem_of_getElem? (i := 159) (by decide +kernel))) rfl
theorem mw_1600 : Cond.methodLink RX10 189 yX10_drops ∈ LW := LWm (tb7 (List.mem_of_getElem? (i := 160) (by decide +kernel))) rfl
theorem mw_1602 : Cond.instanceMethod yX10_drops ∈ LW := LWm (tb7 (List.mem_of_getElem? (i := 162) (by decide +kernel))) rfl
theorem mw_1603 : Cond.code yX10_drops cX10_drops 3 (some .int) ∈ LW := LWm (tb7 (List.mem_of_getElem? (i := 163) (by decide +kernel))) rfl
theorem mw_1604 : Cond.methodLink RL 208 yX10_withPitch ∈ LW := LWm (tb7 (List.mem_of_getElem? (i := 164) (by decide +kernel))) rfl
theorem mw_1605 : Cond.instanceMethod yX10_withPitch ∈ LW := LWm (tb7 (List.mem_of_getElem? (i := 165) (by decide +kernel))) rfl
theorem mw_1606 : Cond.selects RX10 yX10_withPitch yX10_withPitch ∈ LW := LWm (tb7 (List.mem_of_getElem? (i := 166) (by decide +kernel))) rfl
theorem mw_1607 : Cond.code yX10_withPitch cX10_withPitch 4 (some .int) ∈ LW := LWm (tb7 (List.mem_of_getElem? (i := 167) (by decide +kernel))) rfl
theorem mw_1608 : Cond.methodLink RL 211 yX10_loudest ∈ LW := LWm (tb7 (List.mem_of_getElem? (i := 168) (by decide +kernel))) rfl
theorem mw_1609 : Cond.instanceMethod yX10_loudest ∈ LW := LWm (tb7 (List.mem_of_getElem? (i := 169) (by decide +kernel))) rfl
theorem mw_1610 : Cond.selects RX10 yX10_loudest yX10_loudest ∈ LW := LWm (tb7 (List.mem_of_getElem? (i := 170) (by decide +kernel))) rfl
theorem mw_1611 : Cond.code yX10_loudest cX10_loudest 2 (some .int) ∈ LW := LWm (tb7 (List.mem_of_getElem? (i := 171) (by decide +kernel))) rfl
theorem mw_1612 : Cond.methodLink RX10 195 yX10_placed ∈ LW := LWm (tb7 (List.mem_of_getElem? (i := 172) (by decide +kernel))) rfl
theorem mw_1614 : Cond.instanceMethod yX10_placed ∈ LW := LWm (tb7 (List.mem_of_getElem? (i := 174) (by decide +kernel))) rfl
theorem mw_1615 : Cond.code yX10_placed cX10_placed 10 (some .int) ∈ LW := LWm (tb7 (List.mem_of_getElem? (i := 175) (by decide +kernel))) rfl
theorem mw_1616 : Cond.methodLink RX10 192 yX10_ahead ∈ LW := LWm (tb7 (List.mem_of_getElem? (i := 176) (by decide +kernel))) rfl
theorem mw_1618 : Cond.instanceMethod yX10_ahead ∈ LW := LWm (tb7 (List.mem_of_getElem? (i := 178) (by decide +kernel))) rfl
theorem mw_1619 : Cond.code yX10_ahead cX10_ahead 5 (some .int) ∈ LW := LWm (tb7 (List.mem_of_getElem? (i := 179) (by decide +kernel))) rfl
theorem mw_1620 : Cond.methodLink RL 214 yX10_highest ∈ LW := LWm (tb7 (List.mem_of_getElem? (i := 180) (by decide +kernel))) rfl
theorem mw_1621 : Cond.instanceMethod yX10_highest ∈ LW := LWm (tb7 (List.mem_of_getElem? (i := 181) (by decide +kernel))) rfl
theorem mw_1622 : Cond.selects RX10 yX10_highest yX10_highest ∈ LW := LWm (tb7 (List.mem_of_getElem? (i := 182) (by decide +kernel))) rfl
theorem mw_1623 : Cond.code yX10_highest cX10_highest 2 (some .int) ∈ LW := LWm (tb7 (List.mem_of_getElem? (i := 183) (by decide +kernel))) rfl
theorem mw_1624 : Cond.methodLink RL 217 yX10_line ∈ LW := LWm (tb7 (List.mem_of_getElem? (i := 184) (by decide +kernel))) rfl
theorem mw_1625 : Cond.instanceMethod yX10_line ∈ LW := LWm (tb7 (List.mem_of_getElem? (i := 185) (by decide +kernel))) rfl
theorem mw_1626 : Cond.selects RX10 yX10_line yX10_line ∈ LW := LWm (tb7 (List.mem_of_getElem? (i := 186) (by decide +kernel))) rfl
theorem mw_1627 : Cond.code yX10_line cX10_line 3 (some .int) ∈ LW := LWm (tb7 (List.mem_of_getElem? (i := 187) (by decide +kernel))) rfl
theorem mw_1628 : Cond.methodLink RX10 205 yX10_says ∈ LW := LWm (tb7 (List.mem_of_getElem? (i := 188) (by decide +kernel))) rfl
theorem mw_1630 : Cond.instanceMethod yX10_says ∈ LW := LWm (tb7 (List.mem_of_getElem? (i := 190) (by decide +kernel))) rfl
theorem mw_1631 : Cond.code yX10_says cX10_says 2 none ∈ LW := LWm (tb7 (List.mem_of_getElem? (i := 191) (by decide +kernel))) rfl
theorem mw_1632 : Cond.methodLink RX10 201 yX10_saysNumber ∈ LW := LWm (tb7 (List.mem_of_getElem? (i := 192) (by decide +kernel))) rfl
theorem mw_1634 : Cond.instanceMethod yX10_saysNumber ∈ LW := LWm (tb7 (List.mem_of_getElem? (i := 194) (by decide +kernel))) rfl
theorem mw_1635 : Cond.code yX10_saysNumber cX10_saysNumber 2 none ∈ LW := LWm (tb7 (List.mem_of_getElem? (i := 195) (by decide +kernel))) rfl
theorem mw_1636 : Cond.methodLink RL 220 yX10_tinLine ∈ LW := LWm (tb7 (List.mem_of_getElem? (i := 196) (by decide +kernel))) rfl
theorem mw_1637 : Cond.instanceMethod yX10_tinLine ∈ LW := LWm (tb7 (List.mem_of_getElem? (i := 197) (by decide +kernel))) rfl
theorem mw_1638 : Cond.selects RX10 yX10_tinLine yX10_tinLine ∈ LW := LWm (tb7 (List.mem_of_getElem? (i := 198) (by decide +kernel))) rfl
theorem mw_1639 : Cond.code yX10_tinLine cX10_tinLine 2 (some .int) ∈ LW := LWm (tb7 (List.mem_of_getElem? (i := 199) (by decide +kernel))) rfl
theorem mw_1640 : Cond.methodLink RL 223 yX10_character ∈ LW := LWm (tb7 (List.mem_of_getElem? (i := 200) (by decide +kernel))) rfl
theorem mw_1641 : Cond.instanceMethod yX10_character ∈ LW := LWm (tb7 (List.mem_of_getElem? (i := 201) (by decide +kernel))) rfl
theorem mw_1642 : Cond.selects RX10 yX10_character yX10_character ∈ LW := LWm (tb7 (List.mem_of_getElem? (i := 202) (by decide +kernel))) rfl
theorem mw_1643 : Cond.code yX10_character cX10_character 2 (some .char) ∈ LW := LWm (tb7 (List.mem_of_getElem? (i := 203) (by decide +kernel))) rfl
theorem mw_1644 : Cond.methodLink RL 227 yX10_append ∈ LW := LWm (tb7 (List.mem_of_getElem? (i := 204) (by decide +kernel))) rfl
theorem mw_1645 : Cond.instanceMethod yX10_append ∈ LW := LWm (tb7 (List.mem_of_getElem? (i := 205) (by decide +kernel))) rfl
theorem mw_1646 : Cond.selects RX10 yX10_append yX10_append ∈ LW := LWm (tb7 (List.mem_of_getElem? (i := 206) (by decide +kernel))) rfl
theorem mw_1647 : Cond.code yX10_append cX10_append 2 (some .int) ∈ LW := LWm (tb7 (List.mem_of_getElem? (i := 207) (by decide +kernel))) rfl
theorem mw_1648 : Cond.methodLink RL 230 yX10_run ∈ LW := LWm (tb7 (List.mem_of_getElem? (i := 208) (by decide +kernel))) rfl
theorem mw_1649 : Cond.instanceMethod yX10_run ∈ LW := LWm (tb7 (List.mem_of_getElem? (i := 209) (by decide +kernel))) rfl
theorem mw_1650 : Cond.selects RX10 yX10_run yX10_run ∈ LW := LWm (tb7 (List.mem_of_getElem? (i := 210) (by decide +kernel))) rfl
theorem mw_1651 : Cond.code yX10_run cX10_run 2 (some .int) ∈ LW := LWm (tb7 (List.mem_of_getElem? (i := 211) (by decide +kernel))) rfl
theorem mw_1652 : Cond.methodLink RX10 266 yX10_readOrder ∈ LW := LWm (tb7 (List.mem_of_getElem? (i := 212) (by decide +kernel))) rfl
theorem mw_1654 : Cond.instanceMethod yX10_readOrder ∈ LW := LWm (tb7 (List.mem_of_getElem? (i := 214) (by decide +kernel))) rfl
theorem mw_1655 : Cond.code yX10_readOrder cX10_readOrder 4 none ∈ LW := LWm (tb7 (List.mem_of_getElem? (i := 215) (by decide +kernel))) rfl
theorem mw_1656 : Cond.methodLink RX10 243 yX10_behind ∈ LW := LWm (tb7 (List.mem_of_getElem? (i := 216) (by decide +kernel))) rfl
theorem mw_1658 : Cond.instanceMethod yX10_behind ∈ LW := LWm (tb7 (List.mem_of_getElem? (i := 218) (by decide +kernel))) rfl
theorem mw_1659 : Cond.code yX10_behind cX10_behind 2 (some .char) ∈ LW := LWm (tb7 (List.mem_of_getElem? (i := 219) (by decide +kernel))) rfl
theorem mw_1668 : Cond.methodLink RX10 236 yX10_skip ∈ LW := LWm (tb7 (List.mem_of_getElem? (i := 228) (by decide +kernel))) rfl
theorem mw_1670 : Cond.instanceMethod yX10_skip ∈ LW := LWm (tb7 (List.mem_of_getElem? (i := 230) (by decide +kernel))) rfl
theorem mw_1671 : Cond.code yX10_skip cX10_skip 4 none ∈ LW := LWm (tb7 (List.mem_of_getElem? (i := 231) (by decide +kernel))) rfl
theorem mw_1672 : Cond.methodLink RX10 222 yJ0_length_8abf5 ∈ LW := LWm (tb7 (List.mem_of_getElem? (i := 232) (by decide +kernel))) rfl
theorem mw_1673 : Cond.methodLink RX10 226 yJ0_charAt_5068e ∈ LW := LWm (tb7 (List.mem_of_getElem? (i := 233) (by decide +kernel))) rfl
theorem mw_1674 : Cond.methodLink RX10 230 yX10_sign ∈ LW := LWm (tb7 (List.mem_of_getElem? (i := 234) (by decide +kernel))) rfl
theorem mw_1676 : Cond.instanceMethod yX10_sign ∈ LW := LWm (tb7 (List.mem_of_getElem? (i := 236) (by decide +kernel))) rfl
theorem mw_1677 : Cond.code yX10_sign cX10_sign 3 (some .int) ∈ LW := LWm (tb7 (List.mem_of_getElem? (i := 237) (by decide +kernel))) rfl
theorem mw_1678 : Cond.methodLink RX10 218 yX10_isHere ∈ LW := LWm (tb7 (List.mem_of_getElem? (i := 238) (by decide +kernel))) rfl
theorem mw_1680 : Cond.instanceMethod yX10_isHere ∈ LW := LWm (tb8 (List.mem_of_getElem? (i := 0) (by decide +kernel))) rfl
theorem mw_1681 : Cond.code yX10_isHere cX10_isHere 3 (some .boolean) ∈ LW := LWm (tb8 (List.mem_of_getElem? (i := 1) (by decide +kernel))) rfl
theorem mw_1682 : Cond.methodLink RX10 262 yX10_number ∈ LW := LWm (tb8 (List.mem_of_getElem? (i := 2) (by decide +kernel))) rfl
theorem mw_1684 : Cond.instanceMethod yX10_number ∈ LW := LWm (tb8 (List.mem_of_getElem? (i := 4) (by decide +kernel))) rfl
theorem mw_1685 : Cond.code yX10_number cX10_number 3 (some .int) ∈ LW := LWm (tb8 (List.mem_of_getElem? (i := 5) (by decide +kernel))) rfl
theorem mw_1687 : Cond.methodLink RX10 269 yX10_does ∈ LW := LWm (tb8 (List.mem_of_getElem? (i := 7) (by decide +kernel))) rfl
theorem mw_1689 : Cond.instanceMethod yX10_does ∈ LW := LWm (tb8 (List.mem_of_getElem? (i := 9) (by decide +kernel))) rfl
theorem mw_1690 : Cond.code yX10_does cX10_does 5 none ∈ LW := LWm (tb8 (List.mem_of_getElem? (i := 10) (by decide +kernel))) rfl
theorem mw_1691 : Cond.methodLink RL 234 yX10_errorPosition ∈ LW := LWm (tb8 (List.mem_of_getElem? (i := 11) (by decide +kernel))) rfl
theorem mw_1692 : Cond.instanceMethod yX10_errorPosition ∈ LW := LWm (tb8 (List.mem_of_getElem? (i := 12) (by decide +kernel))) rfl
theorem mw_1693 : Cond.selects RX10 yX10_errorPosition yX10_errorPosition ∈ LW := LWm (tb8 (List.mem_of_getElem? (i := 13) (by decide +kernel))) rfl
theorem mw_1694 : Cond.code yX10_errorPosition cX10_errorPosition 1 (some .int) ∈ LW := LWm (tb8 (List.mem_of_getElem? (i := 14) (by decide +kernel))) rfl
theorem mw_1695 : Cond.methodLink RL 241 yX10_account ∈ LW := LWm (tb8 (List.mem_of_getElem? (i := 15) (by decide +kernel))) rfl
theorem mw_1696 : Cond.instanceMethod yX10_account ∈ LW := LWm (tb8 (List.mem_of_getElem? (i := 16) (by decide +kernel))) rfl
theorem mw_1697 : Cond.selects RX10 yX10_account yX10_account ∈ LW := LWm (tb8 (List.mem_of_getElem? (i := 17) (by decide +kernel))) rfl
theorem mw_1698 : Cond.code yX10_account cX10_account 2 (some .int) ∈ LW := LWm (tb8 (List.mem_of_getElem? (i := 18) (by decide +kernel))) rfl
theorem mw_1699 : Cond.methodLink RX10 272 yX10_allParts ∈ LW := LWm (tb8 (List.mem_of_getElem? (i := 19) (by decide +kernel))) rfl
theorem mw_1701 : Cond.instanceMethod yX10_allParts ∈ LW := LWm (tb8 (List.mem_of_getElem? (i := 21) (by decide +kernel))) rfl
theorem mw_1702 : Cond.code yX10_allParts cX10_allParts 3 (some .int) ∈ LW := LWm (tb8 (List.mem_of_getElem? (i := 22) (by decide +kernel))) rfl
theorem mw_1703 : Cond.methodLink RL 245 yX10_isWell ∈ LW := LWm (tb8 (List.mem_of_getElem? (i := 23) (by decide +kernel))) rfl
theorem mw_1704 : Cond.instanceMethod yX10_isWell ∈ LW := LWm (tb8 (List.mem_of_getElem? (i := 24) (by decide +kernel))) rfl
theorem mw_1705 : Cond.selects RX10 yX10_isWell yX10_isWell ∈ LW := LWm (tb8 (List.mem_of_getElem? (i := 25) (by decide +kernel))) rfl
theorem mw_1706 : Cond.code yX10_isWell cX10_isWell 1 (some .boolean) ∈ LW := LWm (tb8 (List.mem_of_getElem? (i := 26) (by decide +kernel))) rfl
theorem mw_1707 : Cond.methodLink RL 249 yX10_meanPitch ∈ LW := LWm (tb8 (List.mem_of_getElem? (i := 27) (by decide +kernel))) rfl
theorem mw_1708 : Cond.instanceMethod yX10_meanPitch ∈ LW := LWm (tb8 (List.mem_of_getElem? (i := 28) (by decide +kernel))) rfl
theorem mw_1709 : Cond.selects RX10 yX10_meanPitch yX10_meanPitch ∈ LW := LWm (tb8 (List.mem_of_getElem? (i := 29) (by decide +kernel))) rfl
theorem mw_1710 : Cond.code yX10_meanPitch cX10_meanPitch 4 (some .double) ∈ LW := LWm (tb8 (List.mem_of_getElem? (i := 30) (by decide +kernel))) rfl
theorem mw_1711 : Cond.methodLink RL 252 yX10_filledShare ∈ LW := LWm (tb8 (List.mem_of_getElem? (i := 31) (by decide +kernel))) rfl
theorem mw_1712 : Cond.instanceMethod yX10_filledShare ∈ LW := LWm (tb8 (List.mem_of_getElem? (i := 32) (by decide +kernel))) rfl
theorem mw_1713 : Cond.selects RX10 yX10_filledShare yX10_filledShare ∈ LW := LWm (tb8 (List.mem_of_getElem? (i := 33) (by decide +kernel))) rfl
theorem mw_1714 : Cond.code yX10_filledShare cX10_filledShare 2 (some .float) ∈ LW := LWm (tb8 (List.mem_of_getElem? (i := 34) (by decide +kernel))) rfl
theorem mw_1715 : Cond.methodLink RL 255 yX10_undo ∈ LW := LWm (tb8 (List.mem_of_getElem? (i := 35) (by decide +kernel))) rfl
theorem mw_1716 : Cond.instanceMethod yX10_undo ∈ LW := LWm (tb8 (List.mem_of_getElem? (i := 36) (by decide +kernel))) rfl
theorem mw_1717 : Cond.selects RX10 yX10_undo yX10_undo ∈ LW := LWm (tb8 (List.mem_of_getElem? (i := 37) (by decide +kernel))) rfl
theorem mw_1718 : Cond.code yX10_undo cX10_undo 1 (some .int) ∈ LW := LWm (tb8 (List.mem_of_getElem? (i := 38) (by decide +kernel))) rfl
theorem mw_1719 : Cond.methodLink RL 259 yX10_save ∈ LW := LWm (tb8 (List.mem_of_getElem? (i := 39) (by decide +kernel))) rfl
theorem mw_1720 : Cond.instanceMethod yX10_save ∈ LW := LWm (tb8 (List.mem_of_getElem? (i := 40) (by decide +kernel))) rfl
theorem mw_1721 : Cond.selects RX10 yX10_save yX10_save ∈ LW := LWm (tb8 (List.mem_of_getElem? (i := 41) (by decide +kernel))) rfl
theorem mw_1722 : Cond.code yX10_save cX10_save 1 (some .int) ∈ LW := LWm (tb8 (List.mem_of_getElem? (i := 42) (by decide +kernel))) rfl
theorem mw_1723 : Cond.methodLink RL 262 yX10_restore ∈ LW := LWm (tb8 (List.mem_of_getElem? (i := 43) (by decide +kernel))) rfl
theorem mw_1724 : Cond.instanceMethod yX10_restore ∈ LW := LWm (tb8 (List.mem_of_getElem? (i := 44) (by decide +kernel))) rfl
theorem mw_1725 : Cond.selects RX10 yX10_restore yX10_restore ∈ LW := LWm (tb8 (List.mem_of_getElem? (i := 45) (by decide +kernel))) rfl
theorem mw_1726 : Cond.code yX10_restore cX10_restore 1 (some .int) ∈ LW := LWm (tb8 (List.mem_of_getElem? (i := 46) (by decide +kernel))) rfl
theorem mw_1727 : Cond.arrayClass .long ∈ LW := LWm (tb8 (List.mem_of_getElem? (i := 47) (by decide +kernel))) rfl
theorem mw_1728 : Cond.arrayClass .double ∈ LW := LWm (tb8 (List.mem_of_getElem? (i := 48) (by decide +kernel))) rfl
theorem mw_1730 : Cond.castable "java/lang/ArrayIndexOutOfBoundsException" "java/lang/IndexOutOfBoundsException" ∈ NW := NWm (tb8 (List.mem_of_getElem? (i := 50) (by decide +kernel))) rfl
theorem mw_1731 : Cond.castable "TinRoofScore" "java/lang/Object" ∈ NW := NWm (tb8 (List.mem_of_getElem? (i := 51) (by decide +kernel))) rfl
theorem mw_1732 : Cond.castable "TinRoofScore$Print" "java/lang/Object" ∈ NW := NWm (tb8 (List.mem_of_getElem? (i := 52) (by decide +kernel))) rfl
theorem mw_1733 : Cond.castable "TinRoofScore$Judge" "java/lang/Object" ∈ NW := NWm (tb8 (List.mem_of_getElem? (i := 53) (by decide +kernel))) rfl
theorem mw_1734 : Cond.castable "TinRoofScore$Proof" "java/lang/Object" ∈ NW := NWm (tb8 (List.mem_of_getElem? (i := 54) (by decide +kernel))) rfl
theorem mw_1735 : Cond.castable "TinRoofScore$Melody" "java/lang/Object" ∈ NW := NWm (tb8 (List.mem_of_getElem? (i := 55) (by decide +kernel))) rfl
theorem mw_1736 : Cond.castable "TinRoofScore$Ranking" "java/lang/Object" ∈ NW := NWm (tb8 (List.mem_of_getElem? (i := 56) (by decide +kernel))) rfl
theorem mw_1737 : Cond.castable "TinRoofScore$Line" "java/lang/Object" ∈ NW := NWm (tb8 (List.mem_of_getElem? (i := 57) (by decide +kernel))) rfl
theorem mw_1738 : Cond.castable "TinRoofScore$Text" "java/lang/Object" ∈ NW := NWm (tb8 (List.mem_of_getElem? (i := 58) (by decide +kernel))) rfl
theorem mw_1739 : Cond.castable "TinRoofScore$History" "java/lang/Object" ∈ NW := NWm (tb8 (List.mem_of_getElem? (i := 59) (by decide +kernel))) rfl
theorem mw_1740 : Cond.castable "TinRoofScoreModel" "java/lang/Object" ∈ NW := NWm (tb8 (List.mem_of_getElem? (i := 60) (by decide +kernel))) rfl
theorem mw_1741 : Cond.castable "TinRoofScore$Order" "java/lang/Object" ∈ NW := NWm (tb8 (List.mem_of_getElem? (i := 61) (by decide +kernel))) rfl
theorem mw_1742 : Cond.castable "java/lang/IndexOutOfBoundsException" "java/lang/Object" ∈ NW := NWm (tb8 (List.mem_of_getElem? (i := 62) (by decide +kernel))) rfl
theorem mw_1743 : Cond.castable "java/lang/IllegalArgumentException" "java/lang/Object" ∈ NW := NWm (tb8 (List.mem_of_getElem? (i := 63) (by decide +kernel))) rfl
theorem mw_1744 : Cond.castable "java/lang/UnsupportedOperationException" "java/lang/Object" ∈ NW := NWm (tb8 (List.mem_of_getElem? (i := 64) (by decide +kernel))) rfl
theorem mw_1745 : Cond.castable "java/lang/ArrayIndexOutOfBoundsException" "java/lang/Object" ∈ NW := NWm (tb8 (List.mem_of_getElem? (i := 65) (by decide +kernel))) rfl
theorem mw_1746 : Cond.castable "java/util/NoSuchElementException" "java/lang/Object" ∈ NW := NWm (tb8 (List.mem_of_getElem? (i := 66) (by decide +kernel))) rfl
theorem mw_1747 : Cond.castable "java/lang/IllegalStateException" "java/lang/Object" ∈ NW := NWm (tb8 (List.mem_of_getElem? (i := 67) (by decide +kernel))) rfl
theorem mw_1748 : Cond.castable "java/lang/ArithmeticException" "java/lang/Object" ∈ NW := NWm (tb8 (List.mem_of_getElem? (i := 68) (by decide +kernel))) rfl
theorem mw_1749 : Cond.castable "java/lang/Throwable" "java/lang/Object" ∈ NW := NWm (tb8 (List.mem_of_getElem? (i := 69) (by decide +kernel))) rfl
theorem mw_1750 : Cond.castable "java/lang/String" "java/lang/Object" ∈ NW := NWm (tb8 (List.mem_of_getElem? (i := 70) (by decide +kernel))) rfl
theorem mw_1751 : Cond.fieldLinkNest RX8 81 "TinRoofScore$Order" "word" "Ljava/lang/String;" RX9 ∈ NW := NWm (tb8 (List.mem_of_getElem? (i := 71) (by decide +kernel))) rfl
theorem mw_1752 : Cond.fieldLink RJ0 9 "java/lang/String" "value" "[B" ∈ LW := LWm (tb8 (List.mem_of_getElem? (i := 72) (by decide +kernel))) rfl
theorem mw_1753 : Cond.fieldLink RJ0 15 "java/lang/String" "coder" "B" ∈ LW := LWm (tb8 (List.mem_of_getElem? (i := 73) (by decide +kernel))) rfl
theorem mw_1754 : Cond.fieldLinkNest RX8 57 "TinRoofScore$Order" "digits" "Ljava/lang/String;" RX9 ∈ NW := NWm (tb8 (List.mem_of_getElem? (i := 74) (by decide +kernel))) rfl
theorem k_X0_countOfChanges : CKV yX0_countOfChanges cX0_countOfChanges 1 (some .int) 0 := ⟨mw_1227, LWs (q := (yX0_countOfChanges, 3)) (List.mem_append_right _ (List.mem_append_right _ (List.mem_append_right _ (List.mem_append_right _ (List.mem_append_right _ (List.mem_append_right _ (List.mem_append_left _ (List.mem_of_getElem? (i := 15) rfl)))))))) rfl, mw_9, mw_1228, by decide +kernel⟩
theorem k_X0_keep : CKV yX0_keep cX0_keep 3 none 1 := ⟨mw_637, LWs (q := (yX0_keep, 3)) (List.mem_append_right _ (List.mem_append_right _ (List.mem_append_right _ (List.mem_append_left _ (List.mem_of_getElem? (i := 3) rfl))))) rfl, mw_9, mw_638, by decide +kernel⟩
theorem k_X0_takeBack : CKV yX0_takeBack cX0_takeBack 4 none 1 := ⟨mw_1279, LWs (q := (yX0_takeBack, 3)) (List.mem_append_right _ (List.mem_append_right _ (List.mem_append_right _ (List.mem_append_right _ (List.mem_append_right _ (List.mem_append_right _ (List.mem_append_right _ (List.mem_append_left _ (List.mem_of_getElem? (i := 2) rfl))))))))) rfl, mw_9, mw_1280, by decide +kernel⟩
theorem k_X0_forget : CKV yX0_forget cX0_forget 1 none 0 := ⟨mw_1290, LWs (q := (yX0_forget, 3)) (List.mem_append_right _ (List.mem_append_right _ (List.mem_append_right _ (List.mem_append_right _ (List.mem_append_right _ (List.mem_append_right _ (List.mem_append_right _ (List.mem_append_left _ (List.mem_of_getElem? (i := 3) rfl))))))))) rfl, mw_9, mw_1291, by decide +kernel⟩
theorem k_X0_pageAt : CKV yX0_pageAt cX0_pageAt 2 (some (.object "TinRoofScore$Print")) 1 := ⟨mw_641, LWs (q := (yX0_pageAt, 3)) (List.mem_append_right _ (List.mem_append_right _ (List.mem_append_right _ (List.mem_append_left _ (List.mem_of_getElem? (i := 4) rfl))))) rfl, mw_9, mw_642, by decide +kernel⟩
theorem k_X1_hasRefused : CKV yX1_hasRefused cX1_hasRefused 1 (some .boolean) 0 := ⟨mw_1180, LWs (q := (yX1_hasRefused, 3)) (List.mem_append_right _ (List.mem_append_right _ (List.mem_append_right _ (List.mem_append_right _ (List.mem_append_right _ (List.mem_append_right _ (List.mem_append_left _ (List.mem_of_getElem? (i := 6) rfl)))))))) rfl, mw_3, mw_1181, by decide +kernel⟩
theorem k_X1_latestReason : CKV yX1_latestReason cX1_latestReason 1 (some .int) 0 := ⟨mw_1188, LWs (q := (yX1_latestReason, 3)) (List.mem_append_right _ (List.mem_append_right _ (List.mem_append_right _ (List.mem_append_right _ (List.mem_append_right _ (List.mem_append_right _ (List.mem_append_left _ (List.mem_of_getElem? (i := 8) rfl)))))))) rfl, mw_3, mw_1189, by decide +kernel⟩
theorem k_X1_latestDetail : CKV yX1_latestDetail cX1_latestDetail 1 (some .int) 0 := ⟨mw_1184, LWs (q := (yX1_latestDetail, 3)) (List.mem_append_right _ (List.mem_append_right _ (List.mem_append_right _ (List.mem_append_right _ (List.mem_append_right _ (List.mem_append_right _ (List.mem_append_left _ (List.mem_of_getElem? (i := 7) rfl)))))))) rfl, mw_3, mw_1185, by decide +kernel⟩
theorem k_X1_refuse : CKV yX1_refuse cX1_refuse 3 (some .int) 2 := ⟨mw_450, LWs (q := (yX1_refuse, 3)) (List.mem_append_right _ (List.mem_append_right _ (List.mem_append_left _ (List.mem_of_getElem? (i := 5) rfl)))) rfl, mw_3, mw_451, by decide +kernel⟩
theorem k_X1_verdict : CKV yX1_verdict cX1_verdict 5 (some .int) 4 := ⟨mw_437, LWs (q := (yX1_verdict, 3)) (List.mem_append_right _ (List.mem_append_right _ (List.mem_append_left _ (List.mem_of_getElem? (i := 3) rfl)))) rfl, mw_3, mw_438, by decide +kernel⟩
theorem k_X1_verdictOnBar : CKV yX1_verdictOnBar cX1_verdictOnBar 2 (some .int) 1 := ⟨mw_442, LWs (q := (yX1_verdictOnBar, 3)) (List.mem_append_right _ (List.mem_append_right _ (List.mem_append_left _ (List.mem_of_getElem? (i := 4) rfl)))) rfl, mw_3, mw_443, by decide +kernel⟩
theorem k_X1_verdictOnTin : CKV yX1_verdictOnTin cX1_verdictOnTin 5 (some .int) 4 := ⟨mw_460, LWs (q := (yX1_verdictOnTin, 3)) (List.mem_append_right _ (List.mem_append_right _ (List.mem_append_left _ (List.mem_of_getElem? (i := 7) rfl)))) rfl, mw_3, mw_461, by decide +kernel⟩
theorem k_X1_verdictOnDrop : CKV yX1_verdictOnDrop cX1_verdictOnDrop 4 (some .int) 3 := ⟨mw_476, LWs (q := (yX1_verdictOnDrop, 3)) (List.mem_append_right _ (List.mem_append_right _ (List.mem_append_left _ (List.mem_of_getElem? (i := 9) rfl)))) rfl, mw_3, mw_477, by decide +kernel⟩
theorem k_X1_verdictOnRest : CKV yX1_verdictOnRest cX1_verdictOnRest 2 (some .int) 1 := ⟨mw_491, LWs (q := (yX1_verdictOnRest, 3)) (List.mem_append_right _ (List.mem_append_right _ (List.mem_append_left _ (List.mem_of_getElem? (i := 12) rfl)))) rfl, mw_3, mw_492, by decide +kernel⟩
theorem k_X1_verdictOnRoom : CKV yX1_verdictOnRoom cX1_verdictOnRoom 3 (some .int) 1 := ⟨mw_480, LWs (q := (yX1_verdictOnRoom, 3)) (List.mem_append_right _ (List.mem_append_right _ (List.mem_append_left _ (List.mem_of_getElem? (i := 10) rfl)))) rfl, mw_3, mw_481, by decide +kernel⟩
theorem k_X1_verdictOnLimit : CKV yX1_verdictOnLimit cX1_verdictOnLimit 2 (some .int) 1 := ⟨mw_499, LWs (q := (yX1_verdictOnLimit, 3)) (List.mem_append_right _ (List.mem_append_right _ (List.mem_append_left _ (List.mem_of_getElem? (i := 13) rfl)))) rfl, mw_3, mw_500, by decide +kernel⟩
theorem k_X1_verdictOnTune : CKV yX1_verdictOnTune cX1_verdictOnTune 3 (some .int) 2 := ⟨mw_506, LWs (q := (yX1_verdictOnTune, 3)) (List.mem_append_right _ (List.mem_append_right _ (List.mem_append_left _ (List.mem_of_getElem? (i := 14) rfl)))) rfl, mw_3, mw_507, by decide +kernel⟩
theorem k_X1_carryOut : CKV yX1_carryOut cX1_carryOut 5 (some .int) 4 := ⟨mw_647, LWs (q := (yX1_carryOut, 3)) (List.mem_append_right _ (List.mem_append_right _ (List.mem_append_right _ (List.mem_append_left _ (List.mem_of_getElem? (i := 5) rfl))))) rfl, mw_3, mw_648, by decide +kernel⟩
theorem k_X2_hasSign : CKV yX2_hasSign cX2_hasSign 2 (some .boolean) 1 := ⟨mw_1016, LWs (q := (yX2_hasSign, 3)) (List.mem_append_right _ (List.mem_append_right _ (List.mem_append_right _ (List.mem_append_right _ (List.mem_append_right _ (List.mem_append_left _ (List.mem_of_getElem? (i := 5) rfl))))))) rfl, mw_7, mw_1017, by decide +kernel⟩
theorem k_X2_signAt : CKV yX2_signAt cX2_signAt 2 (some .char) 1 := ⟨mw_1021, LWs (q := (yX2_signAt, 3)) (List.mem_append_right _ (List.mem_append_right _ (List.mem_append_right _ (List.mem_append_right _ (List.mem_append_right _ (List.mem_append_left _ (List.mem_of_getElem? (i := 6) rfl))))))) rfl, mw_7, mw_1022, by decide +kernel⟩
theorem k_X2_writeBar : CKV yX2_writeBar cX2_writeBar 3 (some .int) 1 := ⟨mw_973, LWs (q := (yX2_writeBar, 3)) (List.mem_append_right _ (List.mem_append_right _ (List.mem_append_right _ (List.mem_append_right _ (List.mem_append_right _ (List.mem_append_left _ (List.mem_of_getElem? (i := 0) rfl))))))) rfl, mw_7, mw_974, by decide +kernel⟩
theorem k_X2_addPart : CKV yX2_addPart cX2_addPart 3 none 2 := ⟨mw_979, LWs (q := (yX2_addPart, 3)) (List.mem_append_right _ (List.mem_append_right _ (List.mem_append_right _ (List.mem_append_right _ (List.mem_append_right _ (List.mem_append_left _ (List.mem_of_getElem? (i := 1) rfl))))))) rfl, mw_7, mw_980, by decide +kernel⟩
theorem k_X2_writeTin : CKV yX2_writeTin cX2_writeTin 2 (some .int) 1 := ⟨mw_1003, LWs (q := (yX2_writeTin, 3)) (List.mem_append_right _ (List.mem_append_right _ (List.mem_append_right _ (List.mem_append_right _ (List.mem_append_right _ (List.mem_append_left _ (List.mem_of_getElem? (i := 4) rfl))))))) rfl, mw_7, mw_1004, by decide +kernel⟩
theorem k_X2_addNumber : CKV yX2_addNumber cX2_addNumber 2 none 1 := ⟨mw_990, LWs (q := (yX2_addNumber, 3)) (List.mem_append_right _ (List.mem_append_right _ (List.mem_append_right _ (List.mem_append_right _ (List.mem_append_right _ (List.mem_append_left _ (List.mem_of_getElem? (i := 3) rfl))))))) rfl, mw_7, mw_991, by decide +kernel⟩
theorem k_X2_addSign : CKV yX2_addSign cX2_addSign 2 none 1 := ⟨mw_984, LWs (q := (yX2_addSign, 3)) (List.mem_append_right _ (List.mem_append_right _ (List.mem_append_right _ (List.mem_append_right _ (List.mem_append_right _ (List.mem_append_left _ (List.mem_of_getElem? (i := 2) rfl))))))) rfl, mw_7, mw_985, by decide +kernel⟩
theorem k_X3_way : CKV yX3_way cX3_way 3 (some .int) 0 := ⟨mw_321, LWs (q := (yX3_way, 1)) (List.mem_append_right _ (List.mem_append_left _ (List.mem_of_getElem? (i := 3) rfl))) rfl, mw_5, mw_322, by decide +kernel⟩
theorem k_X3_wayBySteps : CKV yX3_wayBySteps cX3_wayBySteps 3 (some .int) 0 := ⟨mw_311, LWs (q := (yX3_wayBySteps, 1)) (List.mem_append_right _ (List.mem_append_left _ (List.mem_of_getElem? (i := 1) rfl))) rfl, mw_5, mw_312, by decide +kernel⟩
theorem k_X3_timesOver : CKV yX3_timesOver cX3_timesOver 6 (some .int) 1 := ⟨mw_315, LWs (q := (yX3_timesOver, 1)) (List.mem_append_right _ (List.mem_append_left _ (List.mem_of_getElem? (i := 2) rfl))) rfl, mw_5, mw_316, by decide +kernel⟩
theorem k_X3_riseTo : CKV yX3_riseTo cX3_riseTo 3 (some .int) 1 := ⟨mw_325, LWs (q := (yX3_riseTo, 1)) (List.mem_append_right _ (List.mem_append_left _ (List.mem_of_getElem? (i := 4) rfl))) rfl, mw_5, mw_326, by decide +kernel⟩
theorem k_X3_moves : CKV yX3_moves cX3_moves 5 (some .int) 1 := ⟨mw_336, LWs (q := (yX3_moves, 1)) (List.mem_append_right _ (List.mem_append_left _ (List.mem_of_getElem? (i := 5) rfl))) rfl, mw_5, mw_337, by decide +kernel⟩
theorem k_X3_width : CKV yX3_width cX3_width 5 (some .int) 0 := ⟨mw_344, LWs (q := (yX3_width, 1)) (List.mem_append_right _ (List.mem_append_left _ (List.mem_of_getElem? (i := 6) rfl))) rfl, mw_5, mw_345, by decide +kernel⟩
theorem k_X3_dropsAt : CKV yX3_dropsAt cX3_dropsAt 4 (some .int) 1 := ⟨mw_918, LWs (q := (yX3_dropsAt, 1)) (List.mem_append_right _ (List.mem_append_right _ (List.mem_append_right _ (List.mem_append_right _ (List.mem_append_left _ (List.mem_of_getElem? (i := 9) rfl)))))) rfl, mw_5, mw_919, by decide +kernel⟩
theorem k_X3_countOfDrops : CKV yX3_countOfDrops cX3_countOfDrops 1 (some .int) 0 := ⟨mw_1252, LWs (q := (yX3_countOfDrops, 1)) (List.mem_append_right _ (List.mem_append_right _ (List.mem_append_right _ (List.mem_append_right _ (List.mem_append_right _ (List.mem_append_right _ (List.mem_append_right _ (List.mem_append_left _ (List.mem_of_getElem? (i := 0) rfl))))))))) rfl, mw_5, mw_1253, by decide +kernel⟩
theorem k_X3_sumOfPitches : CKV yX3_sumOfPitches cX3_sumOfPitches 3 (some .int) 0 := ⟨mw_1260, LWs (q := (yX3_sumOfPitches, 1)) (List.mem_append_right _ (List.mem_append_right _ (List.mem_append_right _ (List.mem_append_right _ (List.mem_append_right _ (List.mem_append_right _ (List.mem_append_right _ (List.mem_append_left _ (List.mem_of_getElem? (i := 1) rfl))))))))) rfl, mw_5, mw_1261, by decide +kernel⟩
theorem k_X5_become : CKV yX5_become cX5_become 2 none 1 := ⟨mw_410, LWs (q := (yX5_become, 11)) (List.mem_append_right _ (List.mem_append_right _ (List.mem_append_left _ (List.mem_of_getElem? (i := 1) rfl)))) rfl, mw_2, mw_411, by decide +kernel⟩
theorem k_X5_addBar : CKV yX5_addBar cX5_addBar 2 (some .int) 1 := ⟨mw_651, LWs (q := (yX5_addBar, 11)) (List.mem_append_right _ (List.mem_append_right _ (List.mem_append_right _ (List.mem_append_left _ (List.mem_of_getElem? (i := 6) rfl))))) rfl, mw_2, mw_652, by decide +kernel⟩
theorem k_X5_addSound : CKV yX5_addSound cX5_addSound 4 (some .int) 3 := ⟨mw_664, LWs (q := (yX5_addSound, 11)) (List.mem_append_right _ (List.mem_append_right _ (List.mem_append_right _ (List.mem_append_left _ (List.mem_of_getElem? (i := 9) rfl))))) rfl, mw_2, mw_665, by decide +kernel⟩
theorem k_X5_takeLast : CKV yX5_takeLast cX5_takeLast 1 (some .int) 0 := ⟨mw_668, LWs (q := (yX5_takeLast, 11)) (List.mem_append_right _ (List.mem_append_right _ (List.mem_append_right _ (List.mem_append_left _ (List.mem_of_getElem? (i := 10) rfl))))) rfl, mw_2, mw_669, by decide +kernel⟩
theorem k_X5_setKey : CKV yX5_setKey cX5_setKey 4 (some .int) 2 := ⟨mw_656, LWs (q := (yX5_setKey, 11)) (List.mem_append_right _ (List.mem_append_right _ (List.mem_append_right _ (List.mem_append_left _ (List.mem_of_getElem? (i := 7) rfl))))) rfl, mw_2, mw_657, by decide +kernel⟩
theorem k_X5_setLeak : CKV yX5_setLeak cX5_setLeak 4 (some .int) 2 := ⟨mw_660, LWs (q := (yX5_setLeak, 11)) (List.mem_append_right _ (List.mem_append_right _ (List.mem_append_right _ (List.mem_append_left _ (List.mem_of_getElem? (i := 8) rfl))))) rfl, mw_2, mw_661, by decide +kernel⟩
theorem k_X5_setHeight : CKV yX5_setHeight cX5_setHeight 4 (some .int) 2 := ⟨mw_676, LWs (q := (yX5_setHeight, 11)) (List.mem_append_right _ (List.mem_append_right _ (List.mem_append_right _ (List.mem_append_left _ (List.mem_of_getElem? (i := 12) rfl))))) rfl, mw_2, mw_677, by decide +kernel⟩
theorem k_X5_setFarthest : CKV yX5_setFarthest cX5_setFarthest 3 (some .int) 1 := ⟨mw_672, LWs (q := (yX5_setFarthest, 11)) (List.mem_append_right _ (List.mem_append_right _ (List.mem_append_right _ (List.mem_append_left _ (List.mem_of_getElem? (i := 11) rfl))))) rfl, mw_2, mw_673, by decide +kernel⟩
theorem k_X5_countOfBars : CKV yX5_countOfBars cX5_countOfBars 1 (some .int) 0 := ⟨mw_242, LWs (q := (yX5_countOfBars, 11)) (List.mem_append_left _ (List.mem_of_getElem? (i := 3) rfl)) rfl, mw_2, mw_243, by decide +kernel⟩
theorem k_X5_countOfSounds : CKV yX5_countOfSounds cX5_countOfSounds 1 (some .int) 0 := ⟨mw_246, LWs (q := (yX5_countOfSounds, 11)) (List.mem_append_left _ (List.mem_of_getElem? (i := 4) rfl)) rfl, mw_2, mw_247, by decide +kernel⟩
theorem k_X5_limitNow : CKV yX5_limitNow cX5_limitNow 1 (some .int) 0 := ⟨mw_284, LWs (q := (yX5_limitNow, 11)) (List.mem_append_left _ (List.mem_of_getElem? (i := 12) rfl)) rfl, mw_2, mw_285, by decide +kernel⟩
theorem k_X5_setSoFar : CKV yX5_setSoFar cX5_setSoFar 1 (some .int) 0 := ⟨mw_1215, LWs (q := (yX5_setSoFar, 11)) (List.mem_append_right _ (List.mem_append_right _ (List.mem_append_right _ (List.mem_append_right _ (List.mem_append_right _ (List.mem_append_right _ (List.mem_append_left _ (List.mem_of_getElem? (i := 12) rfl)))))))) rfl, mw_2, mw_1216, by decide +kernel⟩
theorem k_X5_takenSoFar : CKV yX5_takenSoFar cX5_takenSoFar 1 (some .int) 0 := ⟨mw_1219, LWs (q := (yX5_takenSoFar, 11)) (List.mem_append_right _ (List.mem_append_right _ (List.mem_append_right _ (List.mem_append_right _ (List.mem_append_right _ (List.mem_append_right _ (List.mem_append_left _ (List.mem_of_getElem? (i := 13) rfl)))))))) rfl, mw_2, mw_1220, by decide +kernel⟩
theorem k_X5_hasBar : CKV yX5_hasBar cX5_hasBar 2 (some .boolean) 1 := ⟨mw_801, LWs (q := (yX5_hasBar, 11)) (List.mem_append_right _ (List.mem_append_right _ (List.mem_append_right _ (List.mem_append_right _ (List.mem_append_left _ (List.mem_of_getElem? (i := 0) rfl)))))) rfl, mw_2, mw_802, by decide +kernel⟩
theorem k_X5_hasSound : CKV yX5_hasSound cX5_hasSound 2 (some .boolean) 1 := ⟨mw_510, LWs (q := (yX5_hasSound, 11)) (List.mem_append_right _ (List.mem_append_right _ (List.mem_append_left _ (List.mem_of_getElem? (i := 15) rfl)))) rfl, mw_2, mw_511, by decide +kernel⟩
theorem k_X5_keyOf : CKV yX5_keyOf cX5_keyOf 2 (some .int) 1 := ⟨mw_456, LWs (q := (yX5_keyOf, 11)) (List.mem_append_right _ (List.mem_append_right _ (List.mem_append_left _ (List.mem_of_getElem? (i := 6) rfl)))) rfl, mw_2, mw_457, by decide +kernel⟩
theorem k_X5_leakOf : CKV yX5_leakOf cX5_leakOf 2 (some .int) 1 := ⟨mw_470, LWs (q := (yX5_leakOf, 11)) (List.mem_append_right _ (List.mem_append_right _ (List.mem_append_left _ (List.mem_of_getElem? (i := 8) rfl)))) rfl, mw_2, mw_471, by decide +kernel⟩
theorem k_X5_sizeOf : CKV yX5_sizeOf cX5_sizeOf 2 (some .int) 1 := ⟨mw_805, LWs (q := (yX5_sizeOf, 11)) (List.mem_append_right _ (List.mem_append_right _ (List.mem_append_right _ (List.mem_append_right _ (List.mem_append_left _ (List.mem_of_getElem? (i := 1) rfl)))))) rfl, mw_2, mw_806, by decide +kernel⟩
theorem k_X5_tinOfSound : CKV yX5_tinOfSound cX5_tinOfSound 2 (some .int) 1 := ⟨mw_784, LWs (q := (yX5_tinOfSound, 11)) (List.mem_append_right _ (List.mem_append_right _ (List.mem_append_right _ (List.mem_append_left _ (List.mem_of_getElem? (i := 15) rfl))))) rfl, mw_2, mw_785, by decide +kernel⟩
theorem k_X5_heightOf : CKV yX5_heightOf cX5_heightOf 2 (some .int) 1 := ⟨mw_520, LWs (q := (yX5_heightOf, 11)) (List.mem_append_right _ (List.mem_append_right _ (List.mem_append_right _ (List.mem_append_left _ (List.mem_of_getElem? (i := 1) rfl))))) rfl, mw_2, mw_521, by decide +kernel⟩
theorem k_X5_beatsOf : CKV yX5_beatsOf cX5_beatsOf 2 (some .int) 1 := ⟨mw_516, LWs (q := (yX5_beatsOf, 11)) (List.mem_append_right _ (List.mem_append_right _ (List.mem_append_right _ (List.mem_append_left _ (List.mem_of_getElem? (i := 0) rfl))))) rfl, mw_2, mw_517, by decide +kernel⟩
theorem k_X5_isRest : CKV yX5_isRest cX5_isRest 2 (some .boolean) 1 := ⟨mw_265, LWs (q := (yX5_isRest, 11)) (List.mem_append_left _ (List.mem_of_getElem? (i := 8) rfl)) rfl, mw_2, mw_266, by decide +kernel⟩
theorem k_X5_pitchOf : CKV yX5_pitchOf cX5_pitchOf 4 (some .int) 1 := ⟨mw_277, LWs (q := (yX5_pitchOf, 11)) (List.mem_append_left _ (List.mem_of_getElem? (i := 11) rfl)) rfl, mw_2, mw_278, by decide +kernel⟩
theorem k_X5_dropAhead : CKV yX5_dropAhead cX5_dropAhead 3 (some .int) 1 := ⟨mw_273, LWs (q := (yX5_dropAhead, 11)) (List.mem_append_left _ (List.mem_of_getElem? (i := 10) rfl)) rfl, mw_2, mw_274, by decide +kernel⟩
theorem k_X5_countOfRests : CKV yX5_countOfRests cX5_countOfRests 3 (some .int) 0 := ⟨mw_1205, LWs (q := (yX5_countOfRests, 11)) (List.mem_append_right _ (List.mem_append_right _ (List.mem_append_right _ (List.mem_append_right _ (List.mem_append_right _ (List.mem_append_right _ (List.mem_append_left _ (List.mem_of_getElem? (i := 10) rfl)))))))) rfl, mw_2, mw_1206, by decide +kernel⟩
theorem k_X5_countOfTin : CKV yX5_countOfTin cX5_countOfTin 5 (some .int) 2 := ⟨mw_767, LWs (q := (yX5_countOfTin, 11)) (List.mem_append_right _ (List.mem_append_right _ (List.mem_append_right _ (List.mem_append_left _ (List.mem_of_getElem? (i := 13) rfl))))) rfl, mw_2, mw_768, by decide +kernel⟩
theorem k_X5_beatsOfTin : CKV yX5_beatsOfTin cX5_beatsOfTin 4 (some .int) 1 := ⟨mw_772, LWs (q := (yX5_beatsOfTin, 11)) (List.mem_append_right _ (List.mem_append_right _ (List.mem_append_right _ (List.mem_append_left _ (List.mem_of_getElem? (i := 14) rfl))))) rfl, mw_2, mw_773, by decide +kernel⟩
theorem k_X5_startOfBar : CKV yX5_startOfBar cX5_startOfBar 4 (some .int) 1 := ⟨mw_254, LWs (q := (yX5_startOfBar, 11)) (List.mem_append_left _ (List.mem_of_getElem? (i := 6) rfl)) rfl, mw_2, mw_255, by decide +kernel⟩
theorem k_X5_startOfSound : CKV yX5_startOfSound cX5_startOfSound 4 (some .int) 1 := ⟨mw_296, LWs (q := (yX5_startOfSound, 11)) (List.mem_append_left _ (List.mem_of_getElem? (i := 15) rfl)) rfl, mw_2, mw_297, by decide +kernel⟩
theorem k_X5_allBeats : CKV yX5_allBeats cX5_allBeats 1 (some .int) 0 := ⟨mw_1200, LWs (q := (yX5_allBeats, 11)) (List.mem_append_right _ (List.mem_append_right _ (List.mem_append_right _ (List.mem_append_right _ (List.mem_append_right _ (List.mem_append_right _ (List.mem_append_left _ (List.mem_of_getElem? (i := 9) rfl)))))))) rfl, mw_2, mw_1201, by decide +kernel⟩
theorem k_X5_filledBeats : CKV yX5_filledBeats cX5_filledBeats 1 (some .int) 0 := ⟨mw_378, LWs (q := (yX5_filledBeats, 11)) (List.mem_append_right _ (List.mem_append_left _ (List.mem_of_getElem? (i := 11) rfl))) rfl, mw_2, mw_379, by decide +kernel⟩
theorem k_X5_freeBeats : CKV yX5_freeBeats cX5_freeBeats 1 (some .int) 0 := ⟨mw_485, LWs (q := (yX5_freeBeats, 11)) (List.mem_append_right _ (List.mem_append_right _ (List.mem_append_left _ (List.mem_of_getElem? (i := 11) rfl)))) rfl, mw_2, mw_486, by decide +kernel⟩
theorem k_X5_barAt : CKV yX5_barAt cX5_barAt 4 (some .int) 1 := ⟨mw_300, LWs (q := (yX5_barAt, 11)) (List.mem_append_right _ (List.mem_append_left _ (List.mem_of_getElem? (i := 0) rfl))) rfl, mw_2, mw_301, by decide +kernel⟩
theorem k_X5_soundAt : CKV yX5_soundAt cX5_soundAt 4 (some .int) 1 := ⟨mw_258, LWs (q := (yX5_soundAt, 11)) (List.mem_append_left _ (List.mem_of_getElem? (i := 7) rfl)) rfl, mw_2, mw_259, by decide +kernel⟩
theorem k_X5_overlap : CKV yX5_overlap cX5_overlap 7 (some .int) 2 := ⟨mw_395, LWs (q := (yX5_overlap, 11)) (List.mem_append_right _ (List.mem_append_left _ (List.mem_of_getElem? (i := 15) rfl))) rfl, mw_2, mw_396, by decide +kernel⟩
theorem k_X5_isTied : CKV yX5_isTied cX5_isTied 3 (some .boolean) 2 := ⟨mw_835, LWs (q := (yX5_isTied, 11)) (List.mem_append_right _ (List.mem_append_right _ (List.mem_append_right _ (List.mem_append_right _ (List.mem_append_left _ (List.mem_of_getElem? (i := 6) rfl)))))) rfl, mw_2, mw_836, by decide +kernel⟩
theorem k_X5_partsOfSound : CKV yX5_partsOfSound cX5_partsOfSound 3 (some .int) 1 := ⟨mw_292, LWs (q := (yX5_partsOfSound, 11)) (List.mem_append_left _ (List.mem_of_getElem? (i := 14) rfl)) rfl, mw_2, mw_293, by decide +kernel⟩
theorem k_X5_partsOfBar : CKV yX5_partsOfBar cX5_partsOfBar 4 (some .int) 1 := ⟨mw_814, LWs (q := (yX5_partsOfBar, 11)) (List.mem_append_right _ (List.mem_append_right _ (List.mem_append_right _ (List.mem_append_right _ (List.mem_append_left _ (List.mem_of_getElem? (i := 3) rfl)))))) rfl, mw_2, mw_815, by decide +kernel⟩
theorem k_X5_allParts : CKV yX5_allParts cX5_allParts 3 (some .int) 0 := ⟨mw_1209, LWs (q := (yX5_allParts, 11)) (List.mem_append_right _ (List.mem_append_right _ (List.mem_append_right _ (List.mem_append_right _ (List.mem_append_right _ (List.mem_append_right _ (List.mem_append_left _ (List.mem_of_getElem? (i := 11) rfl)))))))) rfl, mw_2, mw_1210, by decide +kernel⟩
theorem k_X5_beginningsIn : CKV yX5_beginningsIn cX5_beginningsIn 4 (some .int) 1 := ⟨mw_818, LWs (q := (yX5_beginningsIn, 11)) (List.mem_append_right _ (List.mem_append_right _ (List.mem_append_right _ (List.mem_append_right _ (List.mem_append_left _ (List.mem_of_getElem? (i := 4) rfl)))))) rfl, mw_2, mw_819, by decide +kernel⟩
theorem k_X5_filledOfBar : CKV yX5_filledOfBar cX5_filledOfBar 3 (some .int) 1 := ⟨mw_809, LWs (q := (yX5_filledOfBar, 11)) (List.mem_append_right _ (List.mem_append_right _ (List.mem_append_right _ (List.mem_append_right _ (List.mem_append_left _ (List.mem_of_getElem? (i := 2) rfl)))))) rfl, mw_2, mw_810, by decide +kernel⟩
theorem k_X5_soundOfPart : CKV yX5_soundOfPart cX5_soundOfPart 5 (some .int) 2 := ⟨mw_830, LWs (q := (yX5_soundOfPart, 11)) (List.mem_append_right _ (List.mem_append_right _ (List.mem_append_right _ (List.mem_append_right _ (List.mem_append_left _ (List.mem_of_getElem? (i := 5) rfl)))))) rfl, mw_2, mw_831, by decide +kernel⟩
theorem k_X5_arePartsWhole : CKV yX5_arePartsWhole cX5_arePartsWhole 4 (some .boolean) 0 := ⟨mw_391, LWs (q := (yX5_arePartsWhole, 11)) (List.mem_append_right _ (List.mem_append_left _ (List.mem_of_getElem? (i := 14) rfl))) rfl, mw_2, mw_392, by decide +kernel⟩
theorem k_X5_areBarsInBounds : CKV yX5_areBarsInBounds cX5_areBarsInBounds 4 (some .boolean) 0 := ⟨mw_402, LWs (q := (yX5_areBarsInBounds, 11)) (List.mem_append_right _ (List.mem_append_right _ (List.mem_append_left _ (List.mem_of_getElem? (i := 0) rfl)))) rfl, mw_2, mw_403, by decide +kernel⟩
theorem k_X6_isFault : CKV yX6_isFault cX6_isFault 4 (some .boolean) 2 := ⟨mw_250, LWs (q := (yX6_isFault, 1)) (List.mem_append_left _ (List.mem_of_getElem? (i := 5) rfl)) rfl, mw_4, mw_251, by decide +kernel⟩
theorem k_X6_isFar : CKV yX6_isFar cX6_isFar 3 (some .boolean) 1 := ⟨mw_269, LWs (q := (yX6_isFar, 1)) (List.mem_append_left _ (List.mem_of_getElem? (i := 9) rfl)) rfl, mw_4, mw_270, by decide +kernel⟩
theorem k_X6_isSame : CKV yX6_isSame cX6_isSame 3 (some .boolean) 1 := ⟨mw_288, LWs (q := (yX6_isSame, 1)) (List.mem_append_left _ (List.mem_of_getElem? (i := 13) rfl)) rfl, mw_4, mw_289, by decide +kernel⟩
theorem k_X6_mostParts : CKS yX6_mostParts cX6_mostParts 1 (some .int) 1 := ⟨mw_303, mw_4, mw_304, by decide +kernel⟩
theorem k_X6_places : CKV yX6_places cX6_places 2 (some .int) 1 := ⟨mw_238, LWs (q := (yX6_places, 1)) (List.mem_append_left _ (List.mem_of_getElem? (i := 2) rfl)) rfl, mw_4, mw_239, by decide +kernel⟩
theorem k_X6_count : CKV yX6_count cX6_count 5 (some .int) 1 := ⟨mw_234, LWs (q := (yX6_count, 1)) (List.mem_append_left _ (List.mem_of_getElem? (i := 1) rfl)) rfl, mw_4, mw_235, by decide +kernel⟩
theorem k_X6_first : CKV yX6_first cX6_first 4 (some .int) 1 := ⟨mw_886, LWs (q := (yX6_first, 1)) (List.mem_append_right _ (List.mem_append_right _ (List.mem_append_right _ (List.mem_append_right _ (List.mem_append_left _ (List.mem_of_getElem? (i := 7) rfl)))))) rfl, mw_4, mw_887, by decide +kernel⟩
theorem k_X6_countAll : CKV yX6_countAll cX6_countAll 3 (some .int) 0 := ⟨mw_230, LWs (q := (yX6_countAll, 1)) (List.mem_append_left _ (List.mem_of_getElem? (i := 0) rfl)) rfl, mw_4, mw_231, by decide +kernel⟩
theorem k_X6_countByBeats : CKV yX6_countByBeats cX6_countByBeats 2 (some .int) 1 := ⟨mw_370, LWs (q := (yX6_countByBeats, 1)) (List.mem_append_right _ (List.mem_append_left _ (List.mem_of_getElem? (i := 9) rfl))) rfl, mw_4, mw_371, by decide +kernel⟩
theorem k_X6_pitchesByBeats : CKV yX6_pitchesByBeats cX6_pitchesByBeats 11 (some .int) 1 := ⟨mw_383, LWs (q := (yX6_pitchesByBeats, 1)) (List.mem_append_right _ (List.mem_append_left _ (List.mem_of_getElem? (i := 12) rfl))) rfl, mw_4, mw_384, by decide +kernel⟩
theorem k_X6_restsAtBars : CKV yX6_restsAtBars cX6_restsAtBars 5 (some .int) 0 := ⟨mw_374, LWs (q := (yX6_restsAtBars, 1)) (List.mem_append_right _ (List.mem_append_left _ (List.mem_of_getElem? (i := 10) rfl))) rfl, mw_4, mw_375, by decide +kernel⟩
theorem k_X6_tiesByBeats : CKV yX6_tiesByBeats cX6_tiesByBeats 7 (some .int) 0 := ⟨mw_387, LWs (q := (yX6_tiesByBeats, 1)) (List.mem_append_right _ (List.mem_append_left _ (List.mem_of_getElem? (i := 13) rfl))) rfl, mw_4, mw_388, by decide +kernel⟩
theorem k_X6_countWith : CKV yX6_countWith cX6_countWith 5 (some .int) 2 := ⟨mw_898, LWs (q := (yX6_countWith, 1)) (List.mem_append_right _ (List.mem_append_right _ (List.mem_append_right _ (List.mem_append_right _ (List.mem_append_left _ (List.mem_of_getElem? (i := 8) rfl)))))) rfl, mw_4, mw_899, by decide +kernel⟩
theorem k_X6_isToldAlike : CKV yX6_isToldAlike cX6_isToldAlike 2 (some .boolean) 0 := ⟨mw_366, LWs (q := (yX6_isToldAlike, 1)) (List.mem_append_right _ (List.mem_append_left _ (List.mem_of_getElem? (i := 8) rfl))) rfl, mw_4, mw_367, by decide +kernel⟩
theorem k_X7_tinAt : CKV yX7_tinAt cX7_tinAt 3 (some .int) 1 := ⟨mw_929, LWs (q := (yX7_tinAt, 1)) (List.mem_append_right _ (List.mem_append_right _ (List.mem_append_right _ (List.mem_append_right _ (List.mem_append_left _ (List.mem_of_getElem? (i := 10) rfl)))))) rfl, mw_6, mw_930, by decide +kernel⟩
theorem k_X7_placeOfTin : CKV yX7_placeOfTin cX7_placeOfTin 4 (some .int) 1 := ⟨mw_933, LWs (q := (yX7_placeOfTin, 1)) (List.mem_append_right _ (List.mem_append_right _ (List.mem_append_right _ (List.mem_append_right _ (List.mem_append_left _ (List.mem_of_getElem? (i := 11) rfl)))))) rfl, mw_6, mw_934, by decide +kernel⟩
theorem k_X7_isTinAhead : CKV yX7_isTinAhead cX7_isTinAhead 5 (some .boolean) 2 := ⟨mw_937, LWs (q := (yX7_isTinAhead, 1)) (List.mem_append_right _ (List.mem_append_right _ (List.mem_append_right _ (List.mem_append_right _ (List.mem_append_left _ (List.mem_of_getElem? (i := 12) rfl)))))) rfl, mw_6, mw_938, by decide +kernel⟩
theorem k_X7_dropAt : CKV yX7_dropAt cX7_dropAt 3 (some .int) 1 := ⟨mw_950, LWs (q := (yX7_dropAt, 1)) (List.mem_append_right _ (List.mem_append_right _ (List.mem_append_right _ (List.mem_append_right _ (List.mem_append_left _ (List.mem_of_getElem? (i := 13) rfl)))))) rfl, mw_6, mw_951, by decide +kernel⟩
theorem k_X7_placeOfDrop : CKV yX7_placeOfDrop cX7_placeOfDrop 4 (some .int) 1 := ⟨mw_956, LWs (q := (yX7_placeOfDrop, 1)) (List.mem_append_right _ (List.mem_append_right _ (List.mem_append_right _ (List.mem_append_right _ (List.mem_append_left _ (List.mem_of_getElem? (i := 14) rfl)))))) rfl, mw_6, mw_957, by decide +kernel⟩
theorem k_X7_isDropAhead : CKV yX7_isDropAhead cX7_isDropAhead 5 (some .boolean) 2 := ⟨mw_960, LWs (q := (yX7_isDropAhead, 1)) (List.mem_append_right _ (List.mem_append_right _ (List.mem_append_right _ (List.mem_append_right _ (List.mem_append_left _ (List.mem_of_getElem? (i := 15) rfl)))))) rfl, mw_6, mw_961, by decide +kernel⟩
theorem k_X8_isFull : CKV yX8_isFull cX8_isFull 1 (some .boolean) 0 := ⟨mw_1033, LWs (q := (yX8_isFull, 7)) (List.mem_append_right _ (List.mem_append_right _ (List.mem_append_right _ (List.mem_append_right _ (List.mem_append_right _ (List.mem_append_left _ (List.mem_of_getElem? (i := 7) rfl))))))) rfl, mw_8, mw_1034, by decide +kernel⟩
theorem k_X8_add : CKV yX8_add cX8_add 2 (some .int) 1 := ⟨mw_1056, LWs (q := (yX8_add, 7)) (List.mem_append_right _ (List.mem_append_right _ (List.mem_append_right _ (List.mem_append_right _ (List.mem_append_right _ (List.mem_append_left _ (List.mem_of_getElem? (i := 8) rfl))))))) rfl, mw_8, mw_1057, by decide +kernel⟩
theorem k_X8_countOfSigns : CKV yX8_countOfSigns cX8_countOfSigns 1 (some .int) 0 := ⟨mw_1223, LWs (q := (yX8_countOfSigns, 7)) (List.mem_append_right _ (List.mem_append_right _ (List.mem_append_right _ (List.mem_append_right _ (List.mem_append_right _ (List.mem_append_right _ (List.mem_append_left _ (List.mem_of_getElem? (i := 14) rfl)))))))) rfl, mw_8, mw_1224, by decide +kernel⟩
theorem k_X8_placeOfError : CKV yX8_placeOfError cX8_placeOfError 1 (some .int) 0 := ⟨mw_358, LWs (q := (yX8_placeOfError, 7)) (List.mem_append_right _ (List.mem_append_left _ (List.mem_of_getElem? (i := 7) rfl))) rfl, mw_8, mw_359, by decide +kernel⟩
theorem k_X8_countOfOrders : CKV yX8_countOfOrders cX8_countOfOrders 1 (some .int) 0 := ⟨mw_1160, LWs (q := (yX8_countOfOrders, 7)) (List.mem_append_right _ (List.mem_append_right _ (List.mem_append_right _ (List.mem_append_right _ (List.mem_append_right _ (List.mem_append_right _ (List.mem_append_left _ (List.mem_of_getElem? (i := 3) rfl)))))))) rfl, mw_8, mw_1161, by decide +kernel⟩
theorem k_X8_orderAt : CKV yX8_orderAt cX8_orderAt 2 (some (.object "TinRoofScore$Order")) 1 := ⟨mw_1164, LWs (q := (yX8_orderAt, 7)) (List.mem_append_right _ (List.mem_append_right _ (List.mem_append_right _ (List.mem_append_right _ (List.mem_append_right _ (List.mem_append_right _ (List.mem_append_left _ (List.mem_of_getElem? (i := 4) rfl)))))))) rfl, mw_8, mw_1165, by decide +kernel⟩
theorem k_X8_numberAt : CKV yX8_numberAt cX8_numberAt 3 (some .int) 2 := ⟨mw_1168, LWs (q := (yX8_numberAt, 7)) (List.mem_append_right _ (List.mem_append_right _ (List.mem_append_right _ (List.mem_append_right _ (List.mem_append_right _ (List.mem_append_right _ (List.mem_append_left _ (List.mem_of_getElem? (i := 5) rfl)))))))) rfl, mw_8, mw_1169, by decide +kernel⟩
theorem k_X8_read : CKV yX8_read cX8_read 2 (some .boolean) 0 := ⟨mw_1067, LWs (q := (yX8_read, 7)) (List.mem_append_right _ (List.mem_append_right _ (List.mem_append_right _ (List.mem_append_right _ (List.mem_append_right _ (List.mem_append_left _ (List.mem_of_getElem? (i := 9) rfl))))))) rfl, mw_8, mw_1068, by decide +kernel⟩
theorem k_X8_readOrders : CKV yX8_readOrders cX8_readOrders 2 (some .boolean) 0 := ⟨mw_1071, LWs (q := (yX8_readOrders, 7)) (List.mem_append_right _ (List.mem_append_right _ (List.mem_append_right _ (List.mem_append_right _ (List.mem_append_right _ (List.mem_append_left _ (List.mem_of_getElem? (i := 10) rfl))))))) rfl, mw_8, mw_1072, by decide +kernel⟩
theorem k_X8_readOrder : CKV yX8_readOrder cX8_readOrder 4 (some .boolean) 0 := ⟨mw_1075, LWs (q := (yX8_readOrder, 7)) (List.mem_append_right _ (List.mem_append_right _ (List.mem_append_right _ (List.mem_append_right _ (List.mem_append_right _ (List.mem_append_left _ (List.mem_of_getElem? (i := 11) rfl))))))) rfl, mw_8, mw_1076, by decide +kernel⟩
theorem k_X8_readWord : CKV yX8_readWord cX8_readWord 5 (some (.object "TinRoofScore$Order")) 0 := ⟨mw_1079, LWs (q := (yX8_readWord, 7)) (List.mem_append_right _ (List.mem_append_right _ (List.mem_append_right _ (List.mem_append_right _ (List.mem_append_right _ (List.mem_append_left _ (List.mem_of_getElem? (i := 12) rfl))))))) rfl, mw_8, mw_1080, by decide +kernel⟩
theorem k_X8_lettersOf : CKV yX8_lettersOf cX8_lettersOf 3 (some .int) 1 := ⟨mw_1085, LWs (q := (yX8_lettersOf, 7)) (List.mem_append_right _ (List.mem_append_right _ (List.mem_append_right _ (List.mem_append_right _ (List.mem_append_right _ (List.mem_append_left _ (List.mem_of_getElem? (i := 13) rfl))))))) rfl, mw_8, mw_1086, by decide +kernel⟩
theorem k_X8_readNumber : CKV yX8_readNumber cX8_readNumber 4 (some .int) 1 := ⟨mw_1146, LWs (q := (yX8_readNumber, 7)) (List.mem_append_right _ (List.mem_append_right _ (List.mem_append_right _ (List.mem_append_right _ (List.mem_append_right _ (List.mem_append_right _ (List.mem_append_left _ (List.mem_of_getElem? (i := 0) rfl)))))))) rfl, mw_8, mw_1147, by decide +kernel⟩
theorem k_X8_readDigit : CKV yX8_readDigit cX8_readDigit 3 (some .int) 0 := ⟨mw_1150, LWs (q := (yX8_readDigit, 7)) (List.mem_append_right _ (List.mem_append_right _ (List.mem_append_right _ (List.mem_append_right _ (List.mem_append_right _ (List.mem_append_right _ (List.mem_append_left _ (List.mem_of_getElem? (i := 1) rfl)))))))) rfl, mw_8, mw_1151, by decide +kernel⟩
theorem k_X8_take : CKV yX8_take cX8_take 2 (some .boolean) 1 := ⟨mw_1142, LWs (q := (yX8_take, 7)) (List.mem_append_right _ (List.mem_append_right _ (List.mem_append_right _ (List.mem_append_right _ (List.mem_append_right _ (List.mem_append_left _ (List.mem_of_getElem? (i := 15) rfl))))))) rfl, mw_8, mw_1143, by decide +kernel⟩
theorem k_X8_isSign : CKV yX8_isSign cX8_isSign 3 (some .boolean) 2 := ⟨mw_1137, LWs (q := (yX8_isSign, 7)) (List.mem_append_right _ (List.mem_append_right _ (List.mem_append_right _ (List.mem_append_right _ (List.mem_append_right _ (List.mem_append_left _ (List.mem_of_getElem? (i := 14) rfl))))))) rfl, mw_8, mw_1138, by decide +kernel⟩
theorem k_X9_bar : CKV yX9_bar cX9_bar 2 (some .int) 1 := ⟨mw_426, mw_427, mw_1, mw_428, by decide +kernel⟩
theorem k_X9_key : CKV yX9_key cX9_key 3 (some .int) 2 := ⟨mw_703, mw_704, mw_1, mw_705, by decide +kernel⟩
theorem k_X9_leak : CKV yX9_leak cX9_leak 3 (some .int) 2 := ⟨mw_711, mw_712, mw_1, mw_713, by decide +kernel⟩
theorem k_X9_drop : CKV yX9_drop cX9_drop 4 (some .int) 3 := ⟨mw_719, mw_720, mw_1, mw_721, by decide +kernel⟩
theorem k_X9_rest : CKV yX9_rest cX9_rest 2 (some .int) 1 := ⟨mw_727, mw_728, mw_1, mw_729, by decide +kernel⟩
theorem k_X9_lift : CKV yX9_lift cX9_lift 1 (some .int) 0 := ⟨mw_735, mw_736, mw_1, mw_737, by decide +kernel⟩
theorem k_X9_limit : CKV yX9_limit cX9_limit 2 (some .int) 1 := ⟨mw_743, mw_744, mw_1, mw_745, by decide +kernel⟩
theorem k_X9_tune : CKV yX9_tune cX9_tune 3 (some .int) 2 := ⟨mw_751, mw_752, mw_1, mw_753, by decide +kernel⟩
theorem k_X9_tinOf : CKV yX9_tinOf cX9_tinOf 3 (some .int) 2 := ⟨mw_759, mw_760, mw_1, mw_761, by decide +kernel⟩
theorem k_X9_soundOf : CKV yX9_soundOf cX9_soundOf 3 (some .int) 2 := ⟨mw_778, mw_779, mw_1, mw_780, by decide +kernel⟩
theorem k_X9_barOf : CKV yX9_barOf cX9_barOf 3 (some .int) 2 := ⟨mw_796, mw_797, mw_1, mw_798, by decide +kernel⟩
theorem k_X9_partOf : CKV yX9_partOf cX9_partOf 5 (some .int) 3 := ⟨mw_825, mw_826, mw_1, mw_827, by decide +kernel⟩
theorem k_X9_at : CKV yX9_at cX9_at 2 (some .int) 1 := ⟨mw_842, mw_843, mw_1, mw_844, by decide +kernel⟩
theorem k_X9_faults : CKV yX9_faults cX9_faults 3 (some .int) 2 := ⟨mw_872, mw_873, mw_1, mw_874, by decide +kernel⟩
theorem k_X9_firstFault : CKV yX9_firstFault cX9_firstFault 2 (some .int) 1 := ⟨mw_881, mw_882, mw_1, mw_883, by decide +kernel⟩
theorem k_X9_isClean : CKV yX9_isClean cX9_isClean 1 (some .boolean) 0 := ⟨mw_225, mw_226, mw_1, mw_227, by decide +kernel⟩
theorem k_X9_wouldFault : CKV yX9_wouldFault cX9_wouldFault 3 (some .int) 2 := ⟨mw_892, mw_893, mw_1, mw_894, by decide +kernel⟩
theorem k_X9_bestHeight : CKV yX9_bestHeight cX9_bestHeight 6 (some .int) 1 := ⟨mw_906, mw_907, mw_1, mw_908, by decide +kernel⟩
theorem k_X9_walk : CKV yX9_walk cX9_walk 2 (some .int) 1 := ⟨mw_306, mw_307, mw_1, mw_308, by decide +kernel⟩
theorem k_X9_goes : CKV yX9_goes cX9_goes 2 (some .int) 1 := ⟨mw_331, mw_332, mw_1, mw_333, by decide +kernel⟩
theorem k_X9_span : CKV yX9_span cX9_span 1 (some .int) 0 := ⟨mw_339, mw_340, mw_1, mw_341, by decide +kernel⟩
theorem k_X9_withPitch : CKV yX9_withPitch cX9_withPitch 2 (some .int) 1 := ⟨mw_913, mw_914, mw_1, mw_915, by decide +kernel⟩
theorem k_X9_loudest : CKV yX9_loudest cX9_loudest 2 (some .int) 1 := ⟨mw_924, mw_925, mw_1, mw_926, by decide +kernel⟩
theorem k_X9_highest : CKV yX9_highest cX9_highest 2 (some .int) 1 := ⟨mw_945, mw_946, mw_1, mw_947, by decide +kernel⟩
theorem k_X9_line : CKV yX9_line cX9_line 2 (some .int) 1 := ⟨mw_968, mw_969, mw_1, mw_970, by decide +kernel⟩
theorem k_X9_tinLine : CKV yX9_tinLine cX9_tinLine 2 (some .int) 1 := ⟨mw_998, mw_999, mw_1, mw_1000, by decide +kernel⟩
theorem k_X9_character : CKV yX9_character cX9_character 2 (some .char) 1 := ⟨mw_1011, mw_1012, mw_1, mw_1013, by decide +kernel⟩
theorem k_X9_append : CKV yX9_append cX9_append 2 (some .int) 1 := ⟨mw_1028, mw_1029, mw_1, mw_1030, by decide +kernel⟩
theorem k_X9_run : CKV yX9_run cX9_run 2 (some .int) 0 := ⟨mw_1062, mw_1063, mw_1, mw_1064, by decide +kernel⟩
theorem k_X9_errorPosition : CKV yX9_errorPosition cX9_errorPosition 1 (some .int) 0 := ⟨mw_353, mw_354, mw_1, mw_355, by decide +kernel⟩
theorem k_X9_refusal : CKV yX9_refusal cX9_refusal 2 (some .int) 1 := ⟨mw_1175, mw_1176, mw_1, mw_1177, by decide +kernel⟩
theorem k_X9_account : CKV yX9_account cX9_account 2 (some .int) 1 := ⟨mw_1194, mw_1195, mw_1, mw_1196, by decide +kernel⟩
theorem k_X9_isWell : CKV yX9_isWell cX9_isWell 1 (some .boolean) 0 := ⟨mw_361, mw_362, mw_1, mw_363, by decide +kernel⟩
theorem k_X9_meanPitch : CKV yX9_meanPitch cX9_meanPitch 2 (some .double) 0 := ⟨mw_1247, mw_1248, mw_1, mw_1249, by decide +kernel⟩
theorem k_X9_filledShare : CKV yX9_filledShare cX9_filledShare 2 (some .float) 0 := ⟨mw_1266, mw_1267, mw_1, mw_1268, by decide +kernel⟩
theorem k_X9_undo : CKV yX9_undo cX9_undo 1 (some .int) 0 := ⟨mw_1274, mw_1275, mw_1, mw_1276, by decide +kernel⟩
theorem k_X9_save : CKV yX9_save cX9_save 1 (some .int) 0 := ⟨mw_405, mw_406, mw_1, mw_407, by decide +kernel⟩
theorem k_X9_restore : CKV yX9_restore cX9_restore 1 (some .int) 0 := ⟨mw_1285, mw_1286, mw_1, mw_1287, by decide +kernel⟩
theorem k_X9_change : CKV yX9_change cX9_change 6 (some .int) 4 := ⟨mw_433, LWs (q := (yX9_change, 11)) (List.mem_append_right _ (List.mem_append_right _ (List.mem_append_left _ (List.mem_of_getElem? (i := 2) rfl)))) rfl, mw_1, mw_434, by decide +kernel⟩
theorem k_X9_carryOutText : CKV yX9_carryOutText cX9_carryOutText 7 (some .int) 0 := ⟨mw_1156, LWs (q := (yX9_carryOutText, 11)) (List.mem_append_right _ (List.mem_append_right _ (List.mem_append_right _ (List.mem_append_right _ (List.mem_append_right _ (List.mem_append_right _ (List.mem_append_left _ (List.mem_of_getElem? (i := 2) rfl)))))))) rfl, mw_1, mw_1157, by decide +kernel⟩
theorem k_X9_needPlace : CKS yX9_needPlace cX9_needPlace 1 none 1 := ⟨mw_523, mw_1, mw_524, by decide +kernel⟩
theorem k_X9_needRange : CKS yX9_needRange cX9_needRange 1 none 1 := ⟨mw_598, mw_1, mw_599, by decide +kernel⟩
theorem k_X9_needConsent : CKS yX9_needConsent cX9_needConsent 1 none 1 := ⟨mw_617, mw_1, mw_618, by decide +kernel⟩
theorem k_X9_needElement : CKS yX9_needElement cX9_needElement 1 none 1 := ⟨mw_850, mw_1, mw_851, by decide +kernel⟩
theorem k_X9_needState : CKS yX9_needState cX9_needState 1 none 1 := ⟨mw_1036, mw_1, mw_1037, by decide +kernel⟩
theorem k_X9_found : CKS yX9_found cX9_found 1 (some .int) 1 := ⟨mw_847, mw_1, mw_848, by decide +kernel⟩
theorem k_X9_isWithin : CKS yX9_isWithin cX9_isWithin 3 (some .boolean) 3 := ⟨mw_445, mw_1, mw_446, by decide +kernel⟩
theorem k_X9_isTin : CKS yX9_isTin cX9_isTin 1 (some .boolean) 1 := ⟨mw_463, mw_1, mw_464, by decide +kernel⟩
theorem k_X9_cell : CKS yX9_cell cX9_cell 2 (some .int) 2 := ⟨mw_261, mw_1, mw_262, by decide +kernel⟩
theorem k_X9_put : CKS yX9_put cX9_put 3 none 3 := ⟨mw_417, mw_1, mw_418, by decide +kernel⟩
theorem k_X9_copyRow : CKS yX9_copyRow cX9_copyRow 3 none 2 := ⟨mw_413, mw_1, mw_414, by decide +kernel⟩
theorem k_X10_thrown : CKV yX10_thrown cX10_thrown 1 (some .int) 0 := ⟨mw_1357, mw_1358, mw_10, mw_1359, by decide +kernel⟩
theorem k_X10_in : CKS yX10_in cX10_in 3 (some .boolean) 3 := ⟨mw_1380, mw_10, mw_1381, by decide +kernel⟩
theorem k_X10_keep : CKV yX10_keep cX10_keep 1 none 0 := ⟨mw_1370, LWs (q := (yX10_keep, 19)) (List.mem_append_right _ (List.mem_append_right _ (List.mem_append_right _ (List.mem_append_right _ (List.mem_append_right _ (List.mem_append_right _ (List.mem_append_right _ (List.mem_append_left _ (List.mem_of_getElem? (i := 4) rfl))))))))) rfl, mw_10, mw_1371, by decide +kernel⟩
theorem k_X10_ends : CKV yX10_ends cX10_ends 2 (some .int) 1 := ⟨mw_1392, LWs (q := (yX10_ends, 19)) (List.mem_append_right _ (List.mem_append_right _ (List.mem_append_right _ (List.mem_append_right _ (List.mem_append_right _ (List.mem_append_right _ (List.mem_append_right _ (List.mem_append_left _ (List.mem_of_getElem? (i := 8) rfl))))))))) rfl, mw_10, mw_1393, by decide +kernel⟩
theorem k_X10_fails : CKV yX10_fails cX10_fails 2 (some .int) 1 := ⟨mw_1384, LWs (q := (yX10_fails, 19)) (List.mem_append_right _ (List.mem_append_right _ (List.mem_append_right _ (List.mem_append_right _ (List.mem_append_right _ (List.mem_append_right _ (List.mem_append_right _ (List.mem_append_left _ (List.mem_of_getElem? (i := 6) rfl))))))))) rfl, mw_10, mw_1385, by decide +kernel⟩
theorem k_X10_refuse : CKV yX10_refuse cX10_refuse 4 (some .int) 3 := ⟨mw_1388, LWs (q := (yX10_refuse, 19)) (List.mem_append_right _ (List.mem_append_right _ (List.mem_append_right _ (List.mem_append_right _ (List.mem_append_right _ (List.mem_append_right _ (List.mem_append_right _ (List.mem_append_left _ (List.mem_of_getElem? (i := 7) rfl))))))))) rfl, mw_10, mw_1389, by decide +kernel⟩
theorem k_X10_refusal : CKV yX10_refusal cX10_refusal 2 (some .int) 1 := ⟨mw_1361, mw_1362, mw_10, mw_1363, by decide +kernel⟩
theorem k_X10_isBar : CKV yX10_isBar cX10_isBar 2 (some .boolean) 1 := ⟨mw_1513, LWs (q := (yX10_isBar, 19)) (List.mem_append_right _ (List.mem_append_right _ (List.mem_append_right _ (List.mem_append_right _ (List.mem_append_right _ (List.mem_append_right _ (List.mem_append_right _ (List.mem_append_right _ (List.mem_append_left _ (List.mem_of_getElem? (i := 11) rfl)))))))))) rfl, mw_10, mw_1514, by decide +kernel⟩
theorem k_X10_isTin : CKS yX10_isTin cX10_isTin 1 (some .boolean) 1 := ⟨mw_1403, mw_10, mw_1404, by decide +kernel⟩
theorem k_X10_isSound : CKV yX10_isSound cX10_isSound 2 (some .boolean) 1 := ⟨mw_1471, LWs (q := (yX10_isSound, 19)) (List.mem_append_right _ (List.mem_append_right _ (List.mem_append_right _ (List.mem_append_right _ (List.mem_append_right _ (List.mem_append_right _ (List.mem_append_right _ (List.mem_append_right _ (List.mem_append_left _ (List.mem_of_getElem? (i := 4) rfl)))))))))) rfl, mw_10, mw_1472, by decide +kernel⟩
theorem k_X10_of : CKV yX10_of cX10_of 3 (some .int) 2 := ⟨mw_1435, LWs (q := (yX10_of, 19)) (List.mem_append_right _ (List.mem_append_right _ (List.mem_append_right _ (List.mem_append_right _ (List.mem_append_right _ (List.mem_append_right _ (List.mem_append_right _ (List.mem_append_left _ (List.mem_of_getElem? (i := 15) rfl))))))))) rfl, mw_10, mw_1436, by decide +kernel⟩
theorem k_X10_isDrop : CKV yX10_isDrop cX10_isDrop 2 (some .boolean) 1 := ⟨mw_1483, LWs (q := (yX10_isDrop, 19)) (List.mem_append_right _ (List.mem_append_right _ (List.mem_append_right _ (List.mem_append_right _ (List.mem_append_right _ (List.mem_append_right _ (List.mem_append_right _ (List.mem_append_right _ (List.mem_append_left _ (List.mem_of_getElem? (i := 6) rfl)))))))))) rfl, mw_10, mw_1484, by decide +kernel⟩
theorem k_X10_barBegin : CKV yX10_barBegin cX10_barBegin 4 (some .int) 1 := ⟨mw_1427, LWs (q := (yX10_barBegin, 19)) (List.mem_append_right _ (List.mem_append_right _ (List.mem_append_right _ (List.mem_append_right _ (List.mem_append_right _ (List.mem_append_right _ (List.mem_append_right _ (List.mem_append_left _ (List.mem_of_getElem? (i := 13) rfl))))))))) rfl, mw_10, mw_1428, by decide +kernel⟩
theorem k_X10_begin : CKV yX10_begin cX10_begin 4 (some .int) 1 := ⟨mw_1431, LWs (q := (yX10_begin, 19)) (List.mem_append_right _ (List.mem_append_right _ (List.mem_append_right _ (List.mem_append_right _ (List.mem_append_right _ (List.mem_append_right _ (List.mem_append_right _ (List.mem_append_left _ (List.mem_of_getElem? (i := 14) rfl))))))))) rfl, mw_10, mw_1432, by decide +kernel⟩
theorem k_X10_free : CKV yX10_free cX10_free 1 (some .int) 0 := ⟨mw_1423, LWs (q := (yX10_free, 19)) (List.mem_append_right _ (List.mem_append_right _ (List.mem_append_right _ (List.mem_append_right _ (List.mem_append_right _ (List.mem_append_right _ (List.mem_append_right _ (List.mem_append_left _ (List.mem_of_getElem? (i := 12) rfl))))))))) rfl, mw_10, mw_1424, by decide +kernel⟩
theorem k_X10_doBar : CKV yX10_doBar cX10_doBar 3 (some .int) 1 := ⟨mw_1377, LWs (q := (yX10_doBar, 19)) (List.mem_append_right _ (List.mem_append_right _ (List.mem_append_right _ (List.mem_append_right _ (List.mem_append_right _ (List.mem_append_right _ (List.mem_append_right _ (List.mem_append_left _ (List.mem_of_getElem? (i := 5) rfl))))))))) rfl, mw_10, mw_1378, by decide +kernel⟩
theorem k_X10_bar : CKV yX10_bar cX10_bar 2 (some .int) 1 := ⟨mw_1365, mw_1366, mw_10, mw_1367, by decide +kernel⟩
theorem k_X10_doTin : CKV yX10_doTin cX10_doTin 6 (some .int) 3 := ⟨mw_1400, LWs (q := (yX10_doTin, 19)) (List.mem_append_right _ (List.mem_append_right _ (List.mem_append_right _ (List.mem_append_right _ (List.mem_append_right _ (List.mem_append_right _ (List.mem_append_right _ (List.mem_append_left _ (List.mem_of_getElem? (i := 9) rfl))))))))) rfl, mw_10, mw_1401, by decide +kernel⟩
theorem k_X10_key : CKV yX10_key cX10_key 3 (some .int) 2 := ⟨mw_1395, mw_1396, mw_10, mw_1397, by decide +kernel⟩
theorem k_X10_leak : CKV yX10_leak cX10_leak 3 (some .int) 2 := ⟨mw_1406, mw_1407, mw_10, mw_1408, by decide +kernel⟩
theorem k_X10_sets : CKV yX10_sets cX10_sets 7 (some .int) 4 := ⟨mw_1419, LWs (q := (yX10_sets, 19)) (List.mem_append_right _ (List.mem_append_right _ (List.mem_append_right _ (List.mem_append_right _ (List.mem_append_right _ (List.mem_append_right _ (List.mem_append_right _ (List.mem_append_left _ (List.mem_of_getElem? (i := 11) rfl))))))))) rfl, mw_10, mw_1420, by decide +kernel⟩
theorem k_X10_doDrop : CKV yX10_doDrop cX10_doDrop 4 (some .int) 3 := ⟨mw_1415, LWs (q := (yX10_doDrop, 19)) (List.mem_append_right _ (List.mem_append_right _ (List.mem_append_right _ (List.mem_append_right _ (List.mem_append_right _ (List.mem_append_right _ (List.mem_append_right _ (List.mem_append_left _ (List.mem_of_getElem? (i := 10) rfl))))))))) rfl, mw_10, mw_1416, by decide +kernel⟩
theorem k_X10_drop : CKV yX10_drop cX10_drop 4 (some .int) 3 := ⟨mw_1410, mw_1411, mw_10, mw_1412, by decide +kernel⟩
theorem k_X10_doRest : CKV yX10_doRest cX10_doRest 3 (some .int) 1 := ⟨mw_1443, LWs (q := (yX10_doRest, 19)) (List.mem_append_right _ (List.mem_append_right _ (List.mem_append_right _ (List.mem_append_right _ (List.mem_append_right _ (List.mem_append_right _ (List.mem_append_right _ (List.mem_append_right _ (List.mem_append_left _ (List.mem_of_getElem? (i := 0) rfl)))))))))) rfl, mw_10, mw_1444, by decide +kernel⟩
theorem k_X10_rest : CKV yX10_rest cX10_rest 2 (some .int) 1 := ⟨mw_1438, mw_1439, mw_10, mw_1440, by decide +kernel⟩
theorem k_X10_doLift : CKV yX10_doLift cX10_doLift 2 (some .int) 0 := ⟨mw_1451, LWs (q := (yX10_doLift, 19)) (List.mem_append_right _ (List.mem_append_right _ (List.mem_append_right _ (List.mem_append_right _ (List.mem_append_right _ (List.mem_append_right _ (List.mem_append_right _ (List.mem_append_right _ (List.mem_append_left _ (List.mem_of_getElem? (i := 1) rfl)))))))))) rfl, mw_10, mw_1452, by decide +kernel⟩
theorem k_X10_lift : CKV yX10_lift cX10_lift 1 (some .int) 0 := ⟨mw_1446, mw_1447, mw_10, mw_1448, by decide +kernel⟩
theorem k_X10_doLimit : CKV yX10_doLimit cX10_doLimit 3 (some .int) 1 := ⟨mw_1459, LWs (q := (yX10_doLimit, 19)) (List.mem_append_right _ (List.mem_append_right _ (List.mem_append_right _ (List.mem_append_right _ (List.mem_append_right _ (List.mem_append_right _ (List.mem_append_right _ (List.mem_append_right _ (List.mem_append_left _ (List.mem_of_getElem? (i := 2) rfl)))))))))) rfl, mw_10, mw_1460, by decide +kernel⟩
theorem k_X10_limit : CKV yX10_limit cX10_limit 2 (some .int) 1 := ⟨mw_1454, mw_1455, mw_10, mw_1456, by decide +kernel⟩
theorem k_X10_doTune : CKV yX10_doTune cX10_doTune 4 (some .int) 2 := ⟨mw_1467, LWs (q := (yX10_doTune, 19)) (List.mem_append_right _ (List.mem_append_right _ (List.mem_append_right _ (List.mem_append_right _ (List.mem_append_right _ (List.mem_append_right _ (List.mem_append_right _ (List.mem_append_right _ (List.mem_append_left _ (List.mem_of_getElem? (i := 3) rfl)))))))))) rfl, mw_10, mw_1468, by decide +kernel⟩
theorem k_X10_tune : CKV yX10_tune cX10_tune 3 (some .int) 2 := ⟨mw_1462, mw_1463, mw_10, mw_1464, by decide +kernel⟩
theorem k_X10_pitch : CKV yX10_pitch cX10_pitch 2 (some .int) 1 := ⟨mw_1491, LWs (q := (yX10_pitch, 19)) (List.mem_append_right _ (List.mem_append_right _ (List.mem_append_right _ (List.mem_append_right _ (List.mem_append_right _ (List.mem_append_right _ (List.mem_append_right _ (List.mem_append_right _ (List.mem_append_left _ (List.mem_of_getElem? (i := 7) rfl)))))))))) rfl, mw_10, mw_1492, by decide +kernel⟩
theorem k_X10_beatsIn : CKV yX10_beatsIn cX10_beatsIn 5 (some .int) 2 := ⟨mw_1499, LWs (q := (yX10_beatsIn, 19)) (List.mem_append_right _ (List.mem_append_right _ (List.mem_append_right _ (List.mem_append_right _ (List.mem_append_right _ (List.mem_append_right _ (List.mem_append_right _ (List.mem_append_right _ (List.mem_append_left _ (List.mem_of_getElem? (i := 9) rfl)))))))))) rfl, mw_10, mw_1500, by decide +kernel⟩
theorem k_X10_parts : CKV yX10_parts cX10_parts 4 (some .int) 1 := ⟨mw_1495, LWs (q := (yX10_parts, 19)) (List.mem_append_right _ (List.mem_append_right _ (List.mem_append_right _ (List.mem_append_right _ (List.mem_append_right _ (List.mem_append_right _ (List.mem_append_right _ (List.mem_append_right _ (List.mem_append_left _ (List.mem_of_getElem? (i := 8) rfl)))))))))) rfl, mw_10, mw_1496, by decide +kernel⟩
theorem k_X10_partsIn : CKV yX10_partsIn cX10_partsIn 4 (some .int) 1 := ⟨mw_1521, LWs (q := (yX10_partsIn, 19)) (List.mem_append_right _ (List.mem_append_right _ (List.mem_append_right _ (List.mem_append_right _ (List.mem_append_right _ (List.mem_append_right _ (List.mem_append_right _ (List.mem_append_right _ (List.mem_append_left _ (List.mem_of_getElem? (i := 13) rfl)))))))))) rfl, mw_10, mw_1522, by decide +kernel⟩
theorem k_X10_filled : CKV yX10_filled cX10_filled 4 (some .int) 1 := ⟨mw_1517, LWs (q := (yX10_filled, 19)) (List.mem_append_right _ (List.mem_append_right _ (List.mem_append_right _ (List.mem_append_right _ (List.mem_append_right _ (List.mem_append_right _ (List.mem_append_right _ (List.mem_append_right _ (List.mem_append_left _ (List.mem_of_getElem? (i := 12) rfl)))))))))) rfl, mw_10, mw_1518, by decide +kernel⟩
theorem k_X10_soundAt : CKV yX10_soundAt cX10_soundAt 4 (some .int) 1 := ⟨mw_1545, LWs (q := (yX10_soundAt, 19)) (List.mem_append_right _ (List.mem_append_right _ (List.mem_append_right _ (List.mem_append_right _ (List.mem_append_right _ (List.mem_append_right _ (List.mem_append_right _ (List.mem_append_right _ (List.mem_append_right _ (List.mem_append_left _ (List.mem_of_getElem? (i := 1) rfl))))))))))) rfl, mw_10, mw_1546, by decide +kernel⟩
theorem k_X10_dropAhead : CKV yX10_dropAhead cX10_dropAhead 4 (some .int) 1 := ⟨mw_1561, LWs (q := (yX10_dropAhead, 19)) (List.mem_append_right _ (List.mem_append_right _ (List.mem_append_right _ (List.mem_append_right _ (List.mem_append_right _ (List.mem_append_right _ (List.mem_append_right _ (List.mem_append_right _ (List.mem_append_right _ (List.mem_append_left _ (List.mem_of_getElem? (i := 4) rfl))))))))))) rfl, mw_10, mw_1562, by decide +kernel⟩
theorem k_X10_soundsOf : CKV yX10_soundsOf cX10_soundsOf 6 (some .int) 2 := ⟨mw_1479, LWs (q := (yX10_soundsOf, 19)) (List.mem_append_right _ (List.mem_append_right _ (List.mem_append_right _ (List.mem_append_right _ (List.mem_append_right _ (List.mem_append_right _ (List.mem_append_right _ (List.mem_append_right _ (List.mem_append_left _ (List.mem_of_getElem? (i := 5) rfl)))))))))) rfl, mw_10, mw_1480, by decide +kernel⟩
theorem k_X10_tinOf : CKV yX10_tinOf cX10_tinOf 3 (some .int) 2 := ⟨mw_1474, mw_1475, mw_10, mw_1476, by decide +kernel⟩
theorem k_X10_barAt : CKV yX10_barAt cX10_barAt 3 (some .int) 1 := ⟨mw_1505, LWs (q := (yX10_barAt, 19)) (List.mem_append_right _ (List.mem_append_right _ (List.mem_append_right _ (List.mem_append_right _ (List.mem_append_right _ (List.mem_append_right _ (List.mem_append_right _ (List.mem_append_right _ (List.mem_append_left _ (List.mem_of_getElem? (i := 10) rfl)))))))))) rfl, mw_10, mw_1506, by decide +kernel⟩
theorem k_X10_soundOf : CKV yX10_soundOf cX10_soundOf 3 (some .int) 2 := ⟨mw_1486, mw_1487, mw_10, mw_1488, by decide +kernel⟩
theorem k_X10_begunIn : CKV yX10_begunIn cX10_begunIn 4 (some .int) 1 := ⟨mw_1525, LWs (q := (yX10_begunIn, 19)) (List.mem_append_right _ (List.mem_append_right _ (List.mem_append_right _ (List.mem_append_right _ (List.mem_append_right _ (List.mem_append_right _ (List.mem_append_right _ (List.mem_append_right _ (List.mem_append_left _ (List.mem_of_getElem? (i := 14) rfl)))))))))) rfl, mw_10, mw_1526, by decide +kernel⟩
theorem k_X10_barOf : CKV yX10_barOf cX10_barOf 3 (some .int) 2 := ⟨mw_1508, mw_1509, mw_10, mw_1510, by decide +kernel⟩
theorem k_X10_partAt : CKV yX10_partAt cX10_partAt 7 (some .int) 2 := ⟨mw_1533, LWs (q := (yX10_partAt, 19)) (List.mem_append_right _ (List.mem_append_right _ (List.mem_append_right _ (List.mem_append_right _ (List.mem_append_right _ (List.mem_append_right _ (List.mem_append_right _ (List.mem_append_right _ (List.mem_append_left _ (List.mem_of_getElem? (i := 15) rfl)))))))))) rfl, mw_10, mw_1534, by decide +kernel⟩
theorem k_X10_isTied : CKV yX10_isTied cX10_isTied 3 (some .boolean) 2 := ⟨mw_1537, LWs (q := (yX10_isTied, 19)) (List.mem_append_right _ (List.mem_append_right _ (List.mem_append_right _ (List.mem_append_right _ (List.mem_append_right _ (List.mem_append_right _ (List.mem_append_right _ (List.mem_append_right _ (List.mem_append_right _ (List.mem_append_left _ (List.mem_of_getElem? (i := 0) rfl))))))))))) rfl, mw_10, mw_1538, by decide +kernel⟩
theorem k_X10_partOf : CKV yX10_partOf cX10_partOf 5 (some .int) 3 := ⟨mw_1528, mw_1529, mw_10, mw_1530, by decide +kernel⟩
theorem k_X10_at : CKV yX10_at cX10_at 3 (some .int) 1 := ⟨mw_1540, mw_1541, mw_10, mw_1542, by decide +kernel⟩
theorem k_X10_isFault : CKV yX10_isFault cX10_isFault 5 (some .boolean) 2 := ⟨mw_1557, LWs (q := (yX10_isFault, 19)) (List.mem_append_right _ (List.mem_append_right _ (List.mem_append_right _ (List.mem_append_right _ (List.mem_append_right _ (List.mem_append_right _ (List.mem_append_right _ (List.mem_append_right _ (List.mem_append_right _ (List.mem_append_left _ (List.mem_of_getElem? (i := 3) rfl))))))))))) rfl, mw_10, mw_1558, by decide +kernel⟩
theorem k_X10_faultMany : CKV yX10_faultMany cX10_faultMany 4 (some .int) 1 := ⟨mw_1553, LWs (q := (yX10_faultMany, 19)) (List.mem_append_right _ (List.mem_append_right _ (List.mem_append_right _ (List.mem_append_right _ (List.mem_append_right _ (List.mem_append_right _ (List.mem_append_right _ (List.mem_append_right _ (List.mem_append_right _ (List.mem_append_left _ (List.mem_of_getElem? (i := 2) rfl))))))))))) rfl, mw_10, mw_1554, by decide +kernel⟩
theorem k_X10_allFaults : CKV yX10_allFaults cX10_allFaults 1 (some .int) 0 := ⟨mw_1574, LWs (q := (yX10_allFaults, 19)) (List.mem_append_right _ (List.mem_append_right _ (List.mem_append_right _ (List.mem_append_right _ (List.mem_append_right _ (List.mem_append_right _ (List.mem_append_right _ (List.mem_append_right _ (List.mem_append_right _ (List.mem_append_left _ (List.mem_of_getElem? (i := 5) rfl))))))))))) rfl, mw_10, mw_1575, by decide +kernel⟩
theorem k_X10_faults : CKV yX10_faults cX10_faults 3 (some .int) 2 := ⟨mw_1548, mw_1549, mw_10, mw_1550, by decide +kernel⟩
theorem k_X10_firstFault : CKV yX10_firstFault cX10_firstFault 3 (some .int) 1 := ⟨mw_1565, mw_1566, mw_10, mw_1567, by decide +kernel⟩
theorem k_X10_isClean : CKV yX10_isClean cX10_isClean 1 (some .boolean) 0 := ⟨mw_1569, mw_1570, mw_10, mw_1571, by decide +kernel⟩
theorem k_X10_faultsWith : CKV yX10_faultsWith cX10_faultsWith 6 (some .int) 2 := ⟨mw_1582, LWs (q := (yX10_faultsWith, 19)) (List.mem_append_right _ (List.mem_append_right _ (List.mem_append_right _ (List.mem_append_right _ (List.mem_append_right _ (List.mem_append_right _ (List.mem_append_right _ (List.mem_append_right _ (List.mem_append_right _ (List.mem_append_left _ (List.mem_of_getElem? (i := 6) rfl))))))))))) rfl, mw_10, mw_1583, by decide +kernel⟩
theorem k_X10_wouldFault : CKV yX10_wouldFault cX10_wouldFault 3 (some .int) 2 := ⟨mw_1577, mw_1578, mw_10, mw_1579, by decide +kernel⟩
theorem k_X10_bestHeight : CKV yX10_bestHeight cX10_bestHeight 4 (some .int) 1 := ⟨mw_1585, mw_1586, mw_10, mw_1587, by decide +kernel⟩
theorem k_X10_walk : CKV yX10_walk cX10_walk 5 (some .int) 1 := ⟨mw_1589, mw_1590, mw_10, mw_1591, by decide +kernel⟩
theorem k_X10_goes : CKV yX10_goes cX10_goes 6 (some .int) 1 := ⟨mw_1593, mw_1594, mw_10, mw_1595, by decide +kernel⟩
theorem k_X10_drops : CKV yX10_drops cX10_drops 3 (some .int) 0 := ⟨mw_1602, LWs (q := (yX10_drops, 19)) (List.mem_append_right _ (List.mem_append_right _ (List.mem_append_right _ (List.mem_append_right _ (List.mem_append_right _ (List.mem_append_right _ (List.mem_append_right _ (List.mem_append_right _ (List.mem_append_right _ (List.mem_append_left _ (List.mem_of_getElem? (i := 7) rfl))))))))))) rfl, mw_10, mw_1603, by decide +kernel⟩
theorem k_X10_span : CKV yX10_span cX10_span 4 (some .int) 0 := ⟨mw_1597, mw_1598, mw_10, mw_1599, by decide +kernel⟩
theorem k_X10_withPitch : CKV yX10_withPitch cX10_withPitch 4 (some .int) 1 := ⟨mw_1605, mw_1606, mw_10, mw_1607, by decide +kernel⟩
theorem k_X10_ahead : CKV yX10_ahead cX10_ahead 5 (some .int) 3 := ⟨mw_1618, LWs (q := (yX10_ahead, 19)) (List.mem_append_right _ (List.mem_append_right _ (List.mem_append_right _ (List.mem_append_right _ (List.mem_append_right _ (List.mem_append_right _ (List.mem_append_right _ (List.mem_append_right _ (List.mem_append_right _ (List.mem_append_left _ (List.mem_of_getElem? (i := 9) rfl))))))))))) rfl, mw_10, mw_1619, by decide +kernel⟩
theorem k_X10_placed : CKV yX10_placed cX10_placed 10 (some .int) 3 := ⟨mw_1614, LWs (q := (yX10_placed, 19)) (List.mem_append_right _ (List.mem_append_right _ (List.mem_append_right _ (List.mem_append_right _ (List.mem_append_right _ (List.mem_append_right _ (List.mem_append_right _ (List.mem_append_right _ (List.mem_append_right _ (List.mem_append_left _ (List.mem_of_getElem? (i := 8) rfl))))))))))) rfl, mw_10, mw_1615, by decide +kernel⟩
theorem k_X10_loudest : CKV yX10_loudest cX10_loudest 2 (some .int) 1 := ⟨mw_1609, mw_1610, mw_10, mw_1611, by decide +kernel⟩
theorem k_X10_highest : CKV yX10_highest cX10_highest 2 (some .int) 1 := ⟨mw_1621, mw_1622, mw_10, mw_1623, by decide +kernel⟩
theorem k_X10_says : CKV yX10_says cX10_says 2 none 1 := ⟨mw_1630, LWs (q := (yX10_says, 19)) (List.mem_append_right _ (List.mem_append_right _ (List.mem_append_right _ (List.mem_append_right _ (List.mem_append_right _ (List.mem_append_right _ (List.mem_append_right _ (List.mem_append_right _ (List.mem_append_right _ (List.mem_append_left _ (List.mem_of_getElem? (i := 10) rfl))))))))))) rfl, mw_10, mw_1631, by decide +kernel⟩
theorem k_X10_saysNumber : CKV yX10_saysNumber cX10_saysNumber 2 none 1 := ⟨mw_1634, LWs (q := (yX10_saysNumber, 19)) (List.mem_append_right _ (List.mem_append_right _ (List.mem_append_right _ (List.mem_append_right _ (List.mem_append_right _ (List.mem_append_right _ (List.mem_append_right _ (List.mem_append_right _ (List.mem_append_right _ (List.mem_append_left _ (List.mem_of_getElem? (i := 11) rfl))))))))))) rfl, mw_10, mw_1635, by decide +kernel⟩
theorem k_X10_line : CKV yX10_line cX10_line 3 (some .int) 1 := ⟨mw_1625, mw_1626, mw_10, mw_1627, by decide +kernel⟩
theorem k_X10_tinLine : CKV yX10_tinLine cX10_tinLine 2 (some .int) 1 := ⟨mw_1637, mw_1638, mw_10, mw_1639, by decide +kernel⟩
theorem k_X10_character : CKV yX10_character cX10_character 2 (some .char) 1 := ⟨mw_1641, mw_1642, mw_10, mw_1643, by decide +kernel⟩
theorem k_X10_append : CKV yX10_append cX10_append 2 (some .int) 1 := ⟨mw_1645, mw_1646, mw_10, mw_1647, by decide +kernel⟩
theorem k_X10_isHere : CKV yX10_isHere cX10_isHere 3 (some .boolean) 2 := ⟨mw_1680, LWs (q := (yX10_isHere, 19)) (List.mem_append_right _ (List.mem_append_right _ (List.mem_append_right _ (List.mem_append_right _ (List.mem_append_right _ (List.mem_append_right _ (List.mem_append_right _ (List.mem_append_right _ (List.mem_append_right _ (List.mem_append_right _ (List.mem_of_getElem? (i := 0) rfl))))))))))) rfl, mw_10, mw_1681, by decide +kernel⟩
theorem k_X10_sign : CKV yX10_sign cX10_sign 3 (some .int) 2 := ⟨mw_1676, LWs (q := (yX10_sign, 19)) (List.mem_append_right _ (List.mem_append_right _ (List.mem_append_right _ (List.mem_append_right _ (List.mem_append_right _ (List.mem_append_right _ (List.mem_append_right _ (List.mem_append_right _ (List.mem_append_right _ (List.mem_append_left _ (List.mem_of_getElem? (i := 15) rfl))))))))))) rfl, mw_10, mw_1677, by decide +kernel⟩
theorem k_X10_skip : CKV yX10_skip cX10_skip 4 none 1 := ⟨mw_1670, LWs (q := (yX10_skip, 19)) (List.mem_append_right _ (List.mem_append_right _ (List.mem_append_right _ (List.mem_append_right _ (List.mem_append_right _ (List.mem_append_right _ (List.mem_append_right _ (List.mem_append_right _ (List.mem_append_right _ (List.mem_append_left _ (List.mem_of_getElem? (i := 14) rfl))))))))))) rfl, mw_10, mw_1671, by decide +kernel⟩
theorem k_X10_number : CKV yX10_number cX10_number 3 (some .int) 1 := ⟨mw_1684, LWs (q := (yX10_number, 19)) (List.mem_append_right _ (List.mem_append_right _ (List.mem_append_right _ (List.mem_append_right _ (List.mem_append_right _ (List.mem_append_right _ (List.mem_append_right _ (List.mem_append_right _ (List.mem_append_right _ (List.mem_append_right _ (List.mem_of_getElem? (i := 1) rfl))))))))))) rfl, mw_10, mw_1685, by decide +kernel⟩
theorem k_X10_behind : CKV yX10_behind cX10_behind 2 (some .char) 1 := ⟨mw_1658, LWs (q := (yX10_behind, 19)) (List.mem_append_right _ (List.mem_append_right _ (List.mem_append_right _ (List.mem_append_right _ (List.mem_append_right _ (List.mem_append_right _ (List.mem_append_right _ (List.mem_append_right _ (List.mem_append_right _ (List.mem_append_left _ (List.mem_of_getElem? (i := 13) rfl))))))))))) rfl, mw_10, mw_1659, by decide +kernel⟩
theorem k_X10_readOrder : CKV yX10_readOrder cX10_readOrder 4 none 0 := ⟨mw_1654, LWs (q := (yX10_readOrder, 19)) (List.mem_append_right _ (List.mem_append_right _ (List.mem_append_right _ (List.mem_append_right _ (List.mem_append_right _ (List.mem_append_right _ (List.mem_append_right _ (List.mem_append_right _ (List.mem_append_right _ (List.mem_append_left _ (List.mem_of_getElem? (i := 12) rfl))))))))))) rfl, mw_10, mw_1655, by decide +kernel⟩
theorem k_X10_does : CKV yX10_does cX10_does 5 none 1 := ⟨mw_1689, LWs (q := (yX10_does, 19)) (List.mem_append_right _ (List.mem_append_right _ (List.mem_append_right _ (List.mem_append_right _ (List.mem_append_right _ (List.mem_append_right _ (List.mem_append_right _ (List.mem_append_right _ (List.mem_append_right _ (List.mem_append_right _ (List.mem_of_getElem? (i := 2) rfl))))))))))) rfl, mw_10, mw_1690, by decide +kernel⟩
theorem k_X10_run : CKV yX10_run cX10_run 2 (some .int) 0 := ⟨mw_1649, mw_1650, mw_10, mw_1651, by decide +kernel⟩
theorem k_X10_errorPosition : CKV yX10_errorPosition cX10_errorPosition 1 (some .int) 0 := ⟨mw_1692, mw_1693, mw_10, mw_1694, by decide +kernel⟩
theorem k_X10_allParts : CKV yX10_allParts cX10_allParts 3 (some .int) 0 := ⟨mw_1701, LWs (q := (yX10_allParts, 19)) (List.mem_append_right _ (List.mem_append_right _ (List.mem_append_right _ (List.mem_append_right _ (List.mem_append_right _ (List.mem_append_right _ (List.mem_append_right _ (List.mem_append_right _ (List.mem_append_right _ (List.mem_append_right _ (List.mem_of_getElem? (i := 3) rfl))))))))))) rfl, mw_10, mw_1702, by decide +kernel⟩
theorem k_X10_account : CKV yX10_account cX10_account 2 (some .int) 1 := ⟨mw_1696, mw_1697, mw_10, mw_1698, by decide +kernel⟩
theorem k_X10_isWell : CKV yX10_isWell cX10_isWell 1 (some .boolean) 0 := ⟨mw_1704, mw_1705, mw_10, mw_1706, by decide +kernel⟩
theorem k_X10_meanPitch : CKV yX10_meanPitch cX10_meanPitch 4 (some .double) 0 := ⟨mw_1708, mw_1709, mw_10, mw_1710, by decide +kernel⟩
theorem k_X10_filledShare : CKV yX10_filledShare cX10_filledShare 2 (some .float) 0 := ⟨mw_1712, mw_1713, mw_10, mw_1714, by decide +kernel⟩
theorem k_X10_undo : CKV yX10_undo cX10_undo 1 (some .int) 0 := ⟨mw_1716, mw_1717, mw_10, mw_1718, by decide +kernel⟩
theorem k_X10_save : CKV yX10_save cX10_save 1 (some .int) 0 := ⟨mw_1720, mw_1721, mw_10, mw_1722, by decide +kernel⟩
theorem k_X10_restore : CKV yX10_restore cX10_restore 1 (some .int) 0 := ⟨mw_1724, mw_1725, mw_10, mw_1726, by decide +kernel⟩
theorem k_J9_abs_0f7a4 : CKS yJ9_abs_0f7a4 cJ9_abs_0f7a4 1 (some .int) 1 := ⟨mw_280, mw_19, mw_281, by decide +kernel⟩
theorem k_J9_max_7cf53 : CKS yJ9_max_7cf53 cJ9_max_7cf53 2 (some .int) 2 := ⟨mw_350, mw_19, mw_351, by decide +kernel⟩
theorem k_J9_min_7cf53 : CKS yJ9_min_7cf53 cJ9_min_7cf53 2 (some .int) 2 := ⟨mw_347, mw_19, mw_348, by decide +kernel⟩
theorem k_J0_length_8abf5 : CKV yJ0_length_8abf5 cJ0_length_8abf5 1 (some .int) 0 := ⟨mw_1088, mw_1089, mw_22, mw_1090, by decide +kernel⟩
theorem k_J0_charAt_5068e : CKV yJ0_charAt_5068e cJ0_charAt_5068e 2 (some .char) 1 := ⟨mw_1098, mw_1099, mw_22, mw_1100, by decide +kernel⟩
theorem k_J0_coder_7d493 : CKV yJ0_coder_7d493 cJ0_coder_7d493 1 (some .byte) 0 := ⟨mw_1092, mw_1093, mw_22, mw_1094, by decide +kernel⟩
theorem k_J0_isLatin1_aae02 : CKV yJ0_isLatin1_aae02 cJ0_isLatin1_aae02 1 (some .boolean) 0 := ⟨mw_1102, mw_1103, mw_22, mw_1104, by decide +kernel⟩
theorem k_J0_checkIndex_df160 : CKS yJ0_checkIndex_df160 cJ0_checkIndex_df160 2 none 2 := ⟨mw_1109, mw_22, mw_1110, by decide +kernel⟩
theorem k_J1_charAt_3b067 : CKS yJ1_charAt_3b067 cJ1_charAt_3b067 2 (some .char) 2 := ⟨mw_1106, mw_25, mw_1107, by decide +kernel⟩
theorem k_J2_getChar_3b067 : CKS yJ2_getChar_3b067 cJ2_getChar_3b067 2 (some .char) 2 := ⟨mw_1127, mw_27, mw_1128, by decide +kernel⟩
theorem k_J2_length_9d52b : CKS yJ2_length_9d52b cJ2_length_9d52b 1 (some .int) 1 := ⟨mw_1123, mw_27, mw_1124, by decide +kernel⟩
theorem k_J2_charAt_3b067 : CKS yJ2_charAt_3b067 cJ2_charAt_3b067 2 (some .char) 2 := ⟨mw_1117, mw_27, mw_1118, by decide +kernel⟩
theorem k_J2_checkIndex_2214a : CKS yJ2_checkIndex_2214a cJ2_checkIndex_2214a 2 none 2 := ⟨mw_1120, mw_27, mw_1121, by decide +kernel⟩
theorem k_J3_checkIndex_8e157 : CKS yJ3_checkIndex_8e157 cJ3_checkIndex_8e157 3 (some .int) 3 := ⟨mw_1114, mw_26, mw_1115, by decide +kernel⟩
theorem i_X0 : ∀ w ∈ u_ws RX0 TX0 3, w ∈ LW := fun w h => LWf ((by decide +kernel : ∀ w ∈ u_ws RX0 TX0 3, w ∈ lw_tbl) w h) ((by decide +kernel : ∀ w ∈ u_ws RX0 TX0 3, goodWord w = true) w h)
theorem i_X1 : ∀ w ∈ u_ws RX1 TX1 3, w ∈ LW := fun w h => LWf ((by decide +kernel : ∀ w ∈ u_ws RX1 TX1 3, w ∈ lw_tbl) w h) ((by decide +kernel : ∀ w ∈ u_ws RX1 TX1 3, goodWord w = true) w h)
theorem i_X2 : ∀ w ∈ u_ws RX2 TX2 3, w ∈ LW := fun w h => LWf ((by decide +kernel : ∀ w ∈ u_ws RX2 TX2 3, w ∈ lw_tbl) w h) ((by decide +kernel : ∀ w ∈ u_ws RX2 TX2 3, goodWord w = true) w h)
theorem i_X3 : ∀ w ∈ u_ws RX3 TX3 1, w ∈ LW := fun w h => LWf ((by decide +kernel : ∀ w ∈ u_ws RX3 TX3 1, w ∈ lw_tbl) w h) ((by decide +kernel : ∀ w ∈ u_ws RX3 TX3 1, goodWord w = true) w h)
theorem i_X5 : ∀ w ∈ u_ws RX5 TX5 11, w ∈ LW := fun w h => LWf ((by decide +kernel : ∀ w ∈ u_ws RX5 TX5 11, w ∈ lw_tbl) w h) ((by decide +kernel : ∀ w ∈ u_ws RX5 TX5 11, goodWord w = true) w h)
theorem i_X6 : ∀ w ∈ u_ws RX6 TX6 1, w ∈ LW := fun w h => LWf ((by decide +kernel : ∀ w ∈ u_ws RX6 TX6 1, w ∈ lw_tbl) w h) ((by decide +kernel : ∀ w ∈ u_ws RX6 TX6 1, goodWord w = true) w h)
theorem i_X7 : ∀ w ∈ u_ws RX7 TX7 1, w ∈ LW := fun w h => LWf ((by decide +kernel : ∀ w ∈ u_ws RX7 TX7 1, w ∈ lw_tbl) w h) ((by decide +kernel : ∀ w ∈ u_ws RX7 TX7 1, goodWord w = true) w h)
theorem i_X8 : ∀ w ∈ u_ws RX8 TX8 7, w ∈ LW := fun w h => LWf ((by decide +kernel : ∀ w ∈ u_ws RX8 TX8 7, w ∈ lw_tbl) w h) ((by decide +kernel : ∀ w ∈ u_ws RX8 TX8 7, goodWord w = true) w h)
theorem i_X9 : ∀ w ∈ u_ws RX9 TX9 11, w ∈ LW := fun w h => LWf ((by decide +kernel : ∀ w ∈ u_ws RX9 TX9 11, w ∈ lw_tbl) w h) ((by decide +kernel : ∀ w ∈ u_ws RX9 TX9 11, goodWord w = true) w h)
theorem i_X10 : ∀ w ∈ u_ws RX10 TX10 19, w ∈ LW := fun w h => LWf ((by decide +kernel : ∀ w ∈ u_ws RX10 TX10 19, w ∈ lw_tbl) w h) ((by decide +kernel : ∀ w ∈ u_ws RX10 TX10 19, goodWord w = true) w h)
