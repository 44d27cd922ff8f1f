/-! further words -/
theorem tw_131 : Cond.code objectInit ⟨#[0xb1]⟩ 1 none ∈ wTab := mw (tt_1 _ (List.mem_of_getElem? (i := 29) (by decide +kernel))) rfl
theorem tw_116 : Cond.initialized RX6 ∈ wTab := mw (tt_1 _ (List.mem_of_getElem? (i := 14) (by decide +kernel))) rfl
theorem tw_117 : Cond.initialized RJ0 ∈ wTab := mw (tt_1 _ (List.mem_of_getElem? (i := 15) (by decide +kernel))) rfl
theorem tw_118 : Cond.initialized RJ1 ∈ wTab := mw (tt_1 _ (List.mem_of_getElem? (i := 16) (by decide +kernel))) rfl
theorem tw_119 : Cond.initialized RJ3 ∈ wTab := mw (tt_1 _ (List.mem_of_getElem? (i := 17) (by decide +kernel))) rfl
theorem tw_120 : Cond.initialized RJ2 ∈ wTab := mw (tt_1 _ (List.mem_of_getElem? (i := 18) (by decide +kernel))) rfl
theorem tw_121 : Cond.initialized RX9 ∈ wTab := mw (tt_1 _ (List.mem_of_getElem? (i := 19) (by decide +kernel))) rfl
theorem tw_124 : Cond.classLink RL 7 RX11 ∈ wTab := mw (tt_1 _ (List.mem_of_getElem? (i := 22) (by decide +kernel))) rfl
theorem tw_125 : Cond.instantiable RX11 16 ∈ wTab := mw (tt_1 _ (List.mem_of_getElem? (i := 23) (by decide +kernel))) rfl
theorem tw_126 : Cond.methodLink RL 9 yX11_init ∈ wTab := mw (tt_1 _ (List.mem_of_getElem? (i := 24) (by decide +kernel))) rfl
theorem tw_127 : Cond.instanceMethod yX11_init ∈ wTab := mw (tt_1 _ (List.mem_of_getElem? (i := 25) (by decide +kernel))) rfl
theorem tw_128 : Cond.code yX11_init cX11_init 1 none ∈ wTab := mw (tt_1 _ (List.mem_of_getElem? (i := 26) (by decide +kernel))) rfl
theorem tw_129 : Cond.methodLink RX11 1 objectInit ∈ wTab := mw (tt_1 _ (List.mem_of_getElem? (i := 27) (by decide +kernel))) rfl
theorem tw_130 : Cond.instanceMethod objectInit ∈ wTab := mw (tt_1 _ (List.mem_of_getElem? (i := 28) (by decide +kernel))) rfl
theorem tw_132 : Cond.classLink RX11 7 RX0 ∈ wTab := mw (tt_1 _ (List.mem_of_getElem? (i := 30) (by decide +kernel))) rfl
theorem tw_133 : Cond.instantiable RX0 17 ∈ wTab := mw (tt_1 _ (List.mem_of_getElem? (i := 31) (by decide +kernel))) rfl
theorem tw_134 : Cond.methodLink RX11 9 yX0_init ∈ wTab := mw (tt_1 _ (List.mem_of_getElem? (i := 32) (by decide +kernel))) rfl
theorem tw_135 : Cond.instanceMethod yX0_init ∈ wTab := mw (tt_1 _ (List.mem_of_getElem? (i := 33) (by decide +kernel))) rfl
theorem tw_136 : Cond.code yX0_init cX0_init 2 none ∈ wTab := mw (tt_1 _ (List.mem_of_getElem? (i := 34) (by decide +kernel))) rfl
theorem tw_137 : Cond.methodLink RX0 3 objectInit ∈ wTab := mw (tt_1 _ (List.mem_of_getElem? (i := 35) (by decide +kernel))) rfl
theorem tw_138 : Cond.classLink RX0 9 RX4 ∈ wTab := mw (tt_1 _ (List.mem_of_getElem? (i := 36) (by decide +kernel))) rfl
theorem tw_139 : Cond.instantiable RX4 10 ∈ wTab := mw (tt_1 _ (List.mem_of_getElem? (i := 37) (by decide +kernel))) rfl
theorem tw_141 : Cond.instanceMethod yX4_init ∈ wTab := mw (tt_1 _ (List.mem_of_getElem? (i := 39) (by decide +kernel))) rfl
theorem tw_142 : Cond.code yX4_init cX4_init 1 none ∈ wTab := mw (tt_1 _ (List.mem_of_getElem? (i := 40) (by decide +kernel))) rfl
theorem tw_143 : Cond.methodLink RX4 3 objectInit ∈ wTab := mw (tt_1 _ (List.mem_of_getElem? (i := 41) (by decide +kernel))) rfl
theorem tw_191 : Cond.arrayClass .int ∈ wTab := mw (tt_1 _ (List.mem_of_getElem? (i := 89) (by decide +kernel))) rfl
theorem tw_192 : Cond.classLink RX0 18 RX1 ∈ wTab := mw (tt_1 _ (List.mem_of_getElem? (i := 90) (by decide +kernel))) rfl
theorem tw_193 : Cond.instantiable RX1 15 ∈ wTab := mw (tt_1 _ (List.mem_of_getElem? (i := 91) (by decide +kernel))) rfl
theorem tw_195 : Cond.instanceMethod yX1_init ∈ wTab := mw (tt_1 _ (List.mem_of_getElem? (i := 93) (by decide +kernel))) rfl
theorem tw_196 : Cond.code yX1_init cX1_init 1 none ∈ wTab := mw (tt_1 _ (List.mem_of_getElem? (i := 94) (by decide +kernel))) rfl
theorem tw_197 : Cond.methodLink RX1 3 objectInit ∈ wTab := mw (tt_1 _ (List.mem_of_getElem? (i := 95) (by decide +kernel))) rfl
theorem tw_265 : Cond.classLink RX0 25 RX10 ∈ wTab := mw (tt_1 _ (List.mem_of_getElem? (i := 163) (by decide +kernel))) rfl
theorem tw_266 : Cond.instantiable RX10 11 ∈ wTab := mw (tt_1 _ (List.mem_of_getElem? (i := 164) (by decide +kernel))) rfl
theorem tw_268 : Cond.instanceMethod yX10_init ∈ wTab := mw (tt_1 _ (List.mem_of_getElem? (i := 166) (by decide +kernel))) rfl
theorem tw_269 : Cond.code yX10_init cX10_init 1 none ∈ wTab := mw (tt_1 _ (List.mem_of_getElem? (i := 167) (by decide +kernel))) rfl
theorem tw_270 : Cond.methodLink RX10 3 objectInit ∈ wTab := mw (tt_1 _ (List.mem_of_getElem? (i := 168) (by decide +kernel))) rfl
theorem tw_315 : Cond.classLink RX0 32 RX7 ∈ wTab := mw (tt_1 _ (List.mem_of_getElem? (i := 213) (by decide +kernel))) rfl
theorem tw_316 : Cond.instantiable RX7 2 ∈ wTab := mw (tt_1 _ (List.mem_of_getElem? (i := 214) (by decide +kernel))) rfl
theorem tw_317 : Cond.methodLink RX0 34 yX7_init ∈ wTab := mw (tt_1 _ (List.mem_of_getElem? (i := 215) (by decide +kernel))) rfl
theorem tw_318 : Cond.instanceMethod yX7_init ∈ wTab := mw (tt_1 _ (List.mem_of_getElem? (i := 216) (by decide +kernel))) rfl
theorem tw_319 : Cond.code yX7_init cX7_init 1 none ∈ wTab := mw (tt_1 _ (List.mem_of_getElem? (i := 217) (by decide +kernel))) rfl
theorem tw_320 : Cond.methodLink RX7 3 objectInit ∈ wTab := mw (tt_1 _ (List.mem_of_getElem? (i := 218) (by decide +kernel))) rfl
theorem tw_321 : Cond.classLink RX7 15 RX6 ∈ wTab := mw (tt_1 _ (List.mem_of_getElem? (i := 219) (by decide +kernel))) rfl
theorem tw_323 : Cond.methodLink RX7 21 yJ7_fill_53178 ∈ wTab := mw (tt_1 _ (List.mem_of_getElem? (i := 221) (by decide +kernel))) rfl
theorem tw_336 : Cond.classLink RX0 39 RX2 ∈ wTab := mw (tt_1 _ (List.mem_of_getElem? (i := 234) (by decide +kernel))) rfl
theorem tw_337 : Cond.instantiable RX2 4 ∈ wTab := mw (tt_1 _ (List.mem_of_getElem? (i := 235) (by decide +kernel))) rfl
theorem tw_339 : Cond.instanceMethod yX2_init ∈ wTab := mw (tt_1 _ (List.mem_of_getElem? (i := 237) (by decide +kernel))) rfl
theorem tw_340 : Cond.code yX2_init cX2_init 1 none ∈ wTab := mw (tt_1 _ (List.mem_of_getElem? (i := 238) (by decide +kernel))) rfl
theorem tw_341 : Cond.methodLink RX2 3 objectInit ∈ wTab := mw (tt_1 _ (List.mem_of_getElem? (i := 239) (by decide +kernel))) rfl
theorem tw_342 : Cond.classLink RX2 9 RX9 ∈ wTab := mw (tt_2 _ (List.mem_of_getElem? (i := 0) (by decide +kernel))) rfl
theorem tw_360 : Cond.classLink RX0 46 RX3 ∈ wTab := mw (tt_2 _ (List.mem_of_getElem? (i := 18) (by decide +kernel))) rfl
theorem tw_361 : Cond.instantiable RX3 6 ∈ wTab := mw (tt_2 _ (List.mem_of_getElem? (i := 19) (by decide +kernel))) rfl
theorem tw_363 : Cond.instanceMethod yX3_init ∈ wTab := mw (tt_2 _ (List.mem_of_getElem? (i := 21) (by decide +kernel))) rfl
theorem tw_364 : Cond.code yX3_init cX3_init 1 none ∈ wTab := mw (tt_2 _ (List.mem_of_getElem? (i := 22) (by decide +kernel))) rfl
theorem tw_365 : Cond.methodLink RX3 3 objectInit ∈ wTab := mw (tt_2 _ (List.mem_of_getElem? (i := 23) (by decide +kernel))) rfl
theorem tw_453 : Cond.arrayClass .long ∈ wTab := mw (tt_2 _ (List.mem_of_getElem? (i := 111) (by decide +kernel))) rfl
theorem tw_454 : Cond.classLink RX11 27 RX8 ∈ wTab := mw (tt_2 _ (List.mem_of_getElem? (i := 112) (by decide +kernel))) rfl
theorem tw_455 : Cond.instantiable RX8 4 ∈ wTab := mw (tt_2 _ (List.mem_of_getElem? (i := 113) (by decide +kernel))) rfl
theorem tw_457 : Cond.instanceMethod yX8_init ∈ wTab := mw (tt_2 _ (List.mem_of_getElem? (i := 115) (by decide +kernel))) rfl
theorem tw_458 : Cond.code yX8_init cX8_init 1 none ∈ wTab := mw (tt_2 _ (List.mem_of_getElem? (i := 116) (by decide +kernel))) rfl
theorem tw_459 : Cond.methodLink RX8 3 objectInit ∈ wTab := mw (tt_2 _ (List.mem_of_getElem? (i := 117) (by decide +kernel))) rfl
theorem tw_476 : Cond.arrayClass .double ∈ wTab := mw (tt_2 _ (List.mem_of_getElem? (i := 134) (by decide +kernel))) rfl
theorem tw_477 : Cond.classLink RX11 34 RX5 ∈ wTab := mw (tt_2 _ (List.mem_of_getElem? (i := 135) (by decide +kernel))) rfl
theorem tw_478 : Cond.instantiable RX5 17 ∈ wTab := mw (tt_2 _ (List.mem_of_getElem? (i := 136) (by decide +kernel))) rfl
theorem tw_480 : Cond.instanceMethod yX5_init ∈ wTab := mw (tt_2 _ (List.mem_of_getElem? (i := 138) (by decide +kernel))) rfl
theorem tw_481 : Cond.code yX5_init cX5_init 1 none ∈ wTab := mw (tt_2 _ (List.mem_of_getElem? (i := 139) (by decide +kernel))) rfl
theorem tw_482 : Cond.methodLink RX5 3 objectInit ∈ wTab := mw (tt_2 _ (List.mem_of_getElem? (i := 140) (by decide +kernel))) rfl
theorem tw_595 : Cond.methodLink RL 13 yX11_person ∈ wTab := mw (tt_3 _ (List.mem_of_getElem? (i := 13) (by decide +kernel))) rfl
theorem tw_615 : Cond.methodLink RL 18 yX11_heed ∈ wTab := mw (tt_3 _ (List.mem_of_getElem? (i := 33) (by decide +kernel))) rfl
theorem tw_623 : Cond.methodLink RL 23 yX11_goes ∈ wTab := mw (tt_3 _ (List.mem_of_getElem? (i := 41) (by decide +kernel))) rfl
theorem tw_627 : Cond.methodLink RL 27 yX11_coin ∈ wTab := mw (tt_3 _ (List.mem_of_getElem? (i := 45) (by decide +kernel))) rfl
theorem tw_639 : Cond.methodLink RL 31 yX11_give ∈ wTab := mw (tt_3 _ (List.mem_of_getElem? (i := 57) (by decide +kernel))) rfl
theorem tw_646 : Cond.methodLink RL 36 yX11_estate ∈ wTab := mw (tt_3 _ (List.mem_of_getElem? (i := 64) (by decide +kernel))) rfl
theorem tw_654 : Cond.methodLink RL 40 yX11_field ∈ wTab := mw (tt_3 _ (List.mem_of_getElem? (i := 72) (by decide +kernel))) rfl
theorem tw_671 : Cond.methodLink RL 45 yX11_of ∈ wTab := mw (tt_3 _ (List.mem_of_getElem? (i := 89) (by decide +kernel))) rfl
theorem tw_679 : Cond.methodLink RL 49 yX11_tells ∈ wTab := mw (tt_3 _ (List.mem_of_getElem? (i := 97) (by decide +kernel))) rfl
theorem tw_768 : Cond.methodLink RL 53 yX11_owner ∈ wTab := mw (tt_3 _ (List.mem_of_getElem? (i := 186) (by decide +kernel))) rfl
theorem tw_772 : Cond.methodLink RL 57 yX11_fund ∈ wTab := mw (tt_3 _ (List.mem_of_getElem? (i := 190) (by decide +kernel))) rfl
theorem tw_776 : Cond.methodLink RL 62 yX11_price ∈ wTab := mw (tt_3 _ (List.mem_of_getElem? (i := 194) (by decide +kernel))) rfl
theorem tw_783 : Cond.methodLink RL 66 yX11_row ∈ wTab := mw (tt_3 _ (List.mem_of_getElem? (i := 201) (by decide +kernel))) rfl
theorem tw_799 : Cond.classLink RX11 366 RX6 ∈ wTab := mw (tt_3 _ (List.mem_of_getElem? (i := 217) (by decide +kernel))) rfl
theorem tw_800 : Cond.instantiable RX6 2 ∈ wTab := mw (tt_3 _ (List.mem_of_getElem? (i := 218) (by decide +kernel))) rfl
theorem tw_810 : Cond.constantDouble RX8 42 (13830554455654793216) ∈ wTab := mw (tt_3 _ (List.mem_of_getElem? (i := 228) (by decide +kernel))) rfl
theorem tw_813 : Cond.constantDouble RX8 40 (4611686018427387904) ∈ wTab := mw (tt_3 _ (List.mem_of_getElem? (i := 231) (by decide +kernel))) rfl
theorem tw_814 : Cond.constantDouble RX8 49 (4652007308841189376) ∈ wTab := mw (tt_3 _ (List.mem_of_getElem? (i := 232) (by decide +kernel))) rfl
theorem tw_816 : Cond.instanceMethod yX6_init ∈ wTab := mw (tt_3 _ (List.mem_of_getElem? (i := 234) (by decide +kernel))) rfl
theorem tw_817 : Cond.code yX6_init cX6_init 3 none ∈ wTab := mw (tt_3 _ (List.mem_of_getElem? (i := 235) (by decide +kernel))) rfl
theorem tw_818 : Cond.methodLink RX6 1 objectInit ∈ wTab := mw (tt_3 _ (List.mem_of_getElem? (i := 236) (by decide +kernel))) rfl
theorem tw_819 : Cond.methodLink RX6 13 Lib.Math.max.name ∈ wTab := mw (tt_3 _ (List.mem_of_getElem? (i := 237) (by decide +kernel))) rfl
theorem tw_838 : Cond.constantDouble RX11 381 (4636737291354636288) ∈ wTab := mw (tt_4 _ (List.mem_of_getElem? (i := 16) (by decide +kernel))) rfl
theorem tw_839 : Cond.methodLink RL 70 yX11_crop ∈ wTab := mw (tt_4 _ (List.mem_of_getElem? (i := 17) (by decide +kernel))) rfl
theorem tw_847 : Cond.methodLink RL 74 yX11_feed ∈ wTab := mw (tt_4 _ (List.mem_of_getElem? (i := 25) (by decide +kernel))) rfl
theorem tw_855 : Cond.methodLink RL 79 yX11_end ∈ wTab := mw (tt_4 _ (List.mem_of_getElem? (i := 33) (by decide +kernel))) rfl
theorem tw_859 : Cond.methodLink RL 83 yX11_text ∈ wTab := mw (tt_4 _ (List.mem_of_getElem? (i := 37) (by decide +kernel))) rfl
theorem tw_890 : Cond.instanceMethod yJ0_length_8abf5 ∈ wTab := mw (tt_4 _ (List.mem_of_getElem? (i := 68) (by decide +kernel))) rfl
theorem tw_891 : Cond.selects RJ0 yJ0_length_8abf5 yJ0_length_8abf5 ∈ wTab := mw (tt_4 _ (List.mem_of_getElem? (i := 69) (by decide +kernel))) rfl
theorem tw_892 : Cond.code yJ0_length_8abf5 cJ0_length_8abf5 1 (some .int) ∈ wTab := mw (tt_4 _ (List.mem_of_getElem? (i := 70) (by decide +kernel))) rfl
theorem tw_893 : Cond.methodLink RJ0 335 yJ0_coder_7d493 ∈ wTab := mw (tt_4 _ (List.mem_of_getElem? (i := 71) (by decide +kernel))) rfl
theorem tw_894 : Cond.instanceMethod yJ0_coder_7d493 ∈ wTab := mw (tt_4 _ (List.mem_of_getElem? (i := 72) (by decide +kernel))) rfl
theorem tw_895 : Cond.selects RJ0 yJ0_coder_7d493 yJ0_coder_7d493 ∈ wTab := mw (tt_4 _ (List.mem_of_getElem? (i := 73) (by decide +kernel))) rfl
theorem tw_896 : Cond.code yJ0_coder_7d493 cJ0_coder_7d493 1 (some .byte) ∈ wTab := mw (tt_4 _ (List.mem_of_getElem? (i := 74) (by decide +kernel))) rfl
theorem tw_900 : Cond.instanceMethod yJ0_charAt_5068e ∈ wTab := mw (tt_4 _ (List.mem_of_getElem? (i := 78) (by decide +kernel))) rfl
theorem tw_901 : Cond.selects RJ0 yJ0_charAt_5068e yJ0_charAt_5068e ∈ wTab := mw (tt_4 _ (List.mem_of_getElem? (i := 79) (by decide +kernel))) rfl
theorem tw_902 : Cond.code yJ0_charAt_5068e cJ0_charAt_5068e 2 (some .char) ∈ wTab := mw (tt_4 _ (List.mem_of_getElem? (i := 80) (by decide +kernel))) rfl
theorem tw_903 : Cond.methodLink RJ0 492 yJ0_isLatin1_aae02 ∈ wTab := mw (tt_4 _ (List.mem_of_getElem? (i := 81) (by decide +kernel))) rfl
theorem tw_904 : Cond.instanceMethod yJ0_isLatin1_aae02 ∈ wTab := mw (tt_4 _ (List.mem_of_getElem? (i := 82) (by decide +kernel))) rfl
theorem tw_905 : Cond.selects RJ0 yJ0_isLatin1_aae02 yJ0_isLatin1_aae02 ∈ wTab := mw (tt_4 _ (List.mem_of_getElem? (i := 83) (by decide +kernel))) rfl
theorem tw_906 : Cond.code yJ0_isLatin1_aae02 cJ0_isLatin1_aae02 1 (some .boolean) ∈ wTab := mw (tt_4 _ (List.mem_of_getElem? (i := 84) (by decide +kernel))) rfl
theorem tw_907 : Cond.methodLink RJ0 495 yJ1_charAt_3b067 ∈ wTab := mw (tt_4 _ (List.mem_of_getElem? (i := 85) (by decide +kernel))) rfl
theorem tw_908 : Cond.static yJ1_charAt_3b067 ∈ wTab := mw (tt_4 _ (List.mem_of_getElem? (i := 86) (by decide +kernel))) rfl
theorem tw_909 : Cond.code yJ1_charAt_3b067 cJ1_charAt_3b067 2 (some .char) ∈ wTab := mw (tt_4 _ (List.mem_of_getElem? (i := 87) (by decide +kernel))) rfl
theorem tw_910 : Cond.methodLink RJ1 9 yJ0_checkIndex_df160 ∈ wTab := mw (tt_4 _ (List.mem_of_getElem? (i := 88) (by decide +kernel))) rfl
theorem tw_911 : Cond.static yJ0_checkIndex_df160 ∈ wTab := mw (tt_4 _ (List.mem_of_getElem? (i := 89) (by decide +kernel))) rfl
theorem tw_912 : Cond.code yJ0_checkIndex_df160 cJ0_checkIndex_df160 2 none ∈ wTab := mw (tt_4 _ (List.mem_of_getElem? (i := 90) (by decide +kernel))) rfl
theorem tw_915 : Cond.methodLink RJ0 1059 yJ3_checkIndex_8e157 ∈ wTab := mw (tt_4 _ (List.mem_of_getElem? (i := 93) (by decide +kernel))) rfl
theorem tw_916 : Cond.static yJ3_checkIndex_8e157 ∈ wTab := mw (tt_4 _ (List.mem_of_getElem? (i := 94) (by decide +kernel))) rfl
theorem tw_917 : Cond.code yJ3_checkIndex_8e157 cJ3_checkIndex_8e157 3 (some .int) ∈ wTab := mw (tt_4 _ (List.mem_of_getElem? (i := 95) (by decide +kernel))) rfl
theorem tw_918 : Cond.methodLink RJ0 498 yJ2_charAt_3b067 ∈ wTab := mw (tt_4 _ (List.mem_of_getElem? (i := 96) (by decide +kernel))) rfl
theorem tw_919 : Cond.static yJ2_charAt_3b067 ∈ wTab := mw (tt_4 _ (List.mem_of_getElem? (i := 97) (by decide +kernel))) rfl
theorem tw_920 : Cond.code yJ2_charAt_3b067 cJ2_charAt_3b067 2 (some .char) ∈ wTab := mw (tt_4 _ (List.mem_of_getElem? (i := 98) (by decide +kernel))) rfl
theorem tw_921 : Cond.methodLink RJ2 67 yJ2_checkIndex_2214a ∈ wTab := mw (tt_4 _ (List.mem_of_getElem? (i := 99) (by decide +kernel))) rfl
theorem tw_922 : Cond.static yJ2_checkIndex_2214a ∈ wTab := mw (tt_4 _ (List.mem_of_getElem? (i := 100) (by decide +kernel))) rfl
theorem tw_923 : Cond.code yJ2_checkIndex_2214a cJ2_checkIndex_2214a 2 none ∈ wTab := mw (tt_4 _ (List.mem_of_getElem? (i := 101) (by decide +kernel))) rfl
theorem tw_924 : Cond.methodLink RJ2 48 yJ2_length_9d52b ∈ wTab := mw (tt_4 _ (List.mem_of_getElem? (i := 102) (by decide +kernel))) rfl
theorem tw_925 : Cond.static yJ2_length_9d52b ∈ wTab := mw (tt_4 _ (List.mem_of_getElem? (i := 103) (by decide +kernel))) rfl
theorem tw_926 : Cond.code yJ2_length_9d52b cJ2_length_9d52b 1 (some .int) ∈ wTab := mw (tt_4 _ (List.mem_of_getElem? (i := 104) (by decide +kernel))) rfl
theorem tw_927 : Cond.methodLink RJ2 414 yJ0_checkIndex_df160 ∈ wTab := mw (tt_4 _ (List.mem_of_getElem? (i := 105) (by decide +kernel))) rfl
theorem tw_928 : Cond.methodLink RJ2 71 yJ2_getChar_3b067 ∈ wTab := mw (tt_4 _ (List.mem_of_getElem? (i := 106) (by decide +kernel))) rfl
theorem tw_929 : Cond.static yJ2_getChar_3b067 ∈ wTab := mw (tt_4 _ (List.mem_of_getElem? (i := 107) (by decide +kernel))) rfl
theorem tw_930 : Cond.code yJ2_getChar_3b067 cJ2_getChar_3b067 2 (some .char) ∈ wTab := mw (tt_4 _ (List.mem_of_getElem? (i := 108) (by decide +kernel))) rfl
theorem tw_985 : Cond.classLink RX5 75 RX9 ∈ wTab := mw (tt_4 _ (List.mem_of_getElem? (i := 163) (by decide +kernel))) rfl
theorem tw_986 : Cond.instantiable RX9 10 ∈ wTab := mw (tt_4 _ (List.mem_of_getElem? (i := 164) (by decide +kernel))) rfl
theorem tw_988 : Cond.instanceMethod yX9_init ∈ wTab := mw (tt_4 _ (List.mem_of_getElem? (i := 166) (by decide +kernel))) rfl
theorem tw_989 : Cond.code yX9_init cX9_init 3 none ∈ wTab := mw (tt_4 _ (List.mem_of_getElem? (i := 167) (by decide +kernel))) rfl
theorem tw_990 : Cond.methodLink RX9 3 objectInit ∈ wTab := mw (tt_4 _ (List.mem_of_getElem? (i := 168) (by decide +kernel))) rfl
theorem tw_991 : Cond.methodLink RX9 30 yJ7_copyOf_59c91 ∈ wTab := mw (tt_4 _ (List.mem_of_getElem? (i := 169) (by decide +kernel))) rfl
theorem tw_992 : Cond.static yJ7_copyOf_59c91 ∈ wTab := mw (tt_4 _ (List.mem_of_getElem? (i := 170) (by decide +kernel))) rfl
theorem tw_993 : Cond.code yJ7_copyOf_59c91 cJ7_copyOf_59c91 3 (some (.array .int)) ∈ wTab := mw (tt_4 _ (List.mem_of_getElem? (i := 171) (by decide +kernel))) rfl
theorem tw_1000 : Cond.classLink RJ7 317 "[I" ∈ wTab := mw (tt_4 _ (List.mem_of_getElem? (i := 178) (by decide +kernel))) rfl
theorem tw_1001 : Cond.methodLink RJ7 304 Lib.Math.min.name ∈ wTab := mw (tt_4 _ (List.mem_of_getElem? (i := 179) (by decide +kernel))) rfl
theorem tw_1002 : Cond.methodLink RJ7 150 arraycopyName ∈ wTab := mw (tt_4 _ (List.mem_of_getElem? (i := 180) (by decide +kernel))) rfl
theorem tw_1005 : Cond.methodLink RX9 59 Lib.Math.max.name ∈ wTab := mw (tt_4 _ (List.mem_of_getElem? (i := 183) (by decide +kernel))) rfl
theorem tw_1054 : Cond.methodLink RL 87 yX11_fault ∈ wTab := mw (tt_4 _ (List.mem_of_getElem? (i := 232) (by decide +kernel))) rfl
theorem tw_1058 : Cond.methodLink RL 91 yX11_force ∈ wTab := mw (tt_4 _ (List.mem_of_getElem? (i := 236) (by decide +kernel))) rfl
theorem tw_1068 : Cond.methodLink RL 95 yX11_holds ∈ wTab := mw (tt_5 _ (List.mem_of_getElem? (i := 6) (by decide +kernel))) rfl
theorem tw_1076 : Cond.methodLink RL 99 yX11_writ ∈ wTab := mw (tt_5 _ (List.mem_of_getElem? (i := 14) (by decide +kernel))) rfl
theorem tw_1089 : Cond.methodLink RL 103 yX11_avoid ∈ wTab := mw (tt_5 _ (List.mem_of_getElem? (i := 27) (by decide +kernel))) rfl
theorem tw_1093 : Cond.methodLink RL 107 yX11_guard ∈ wTab := mw (tt_5 _ (List.mem_of_getElem? (i := 31) (by decide +kernel))) rfl
theorem tw_1101 : Cond.methodLink RL 111 yX11_take ∈ wTab := mw (tt_5 _ (List.mem_of_getElem? (i := 39) (by decide +kernel))) rfl
theorem tw_1106 : Cond.methodLink RL 115 yX11_go ∈ wTab := mw (tt_5 _ (List.mem_of_getElem? (i := 44) (by decide +kernel))) rfl
theorem tw_1176 : Cond.methodLink RL 119 yX11_deal ∈ wTab := mw (tt_5 _ (List.mem_of_getElem? (i := 114) (by decide +kernel))) rfl
theorem tw_1189 : Cond.methodLink RL 123 yX11_brave ∈ wTab := mw (tt_5 _ (List.mem_of_getElem? (i := 127) (by decide +kernel))) rfl
theorem tw_1193 : Cond.methodLink RL 127 yX11_keeps ∈ wTab := mw (tt_5 _ (List.mem_of_getElem? (i := 131) (by decide +kernel))) rfl
theorem tw_1197 : Cond.methodLink RL 131 yX11_broke ∈ wTab := mw (tt_5 _ (List.mem_of_getElem? (i := 135) (by decide +kernel))) rfl
theorem tw_1207 : Cond.methodLink RL 135 yX11_last ∈ wTab := mw (tt_5 _ (List.mem_of_getElem? (i := 145) (by decide +kernel))) rfl
theorem tw_1211 : Cond.methodLink RL 139 yX11_least ∈ wTab := mw (tt_5 _ (List.mem_of_getElem? (i := 149) (by decide +kernel))) rfl
theorem tw_1226 : Cond.methodLink RL 143 yX11_offer ∈ wTab := mw (tt_5 _ (List.mem_of_getElem? (i := 164) (by decide +kernel))) rfl
theorem tw_1234 : Cond.methodLink RL 147 yX11_agree ∈ wTab := mw (tt_5 _ (List.mem_of_getElem? (i := 172) (by decide +kernel))) rfl
theorem tw_1249 : Cond.constant RJ6 265 (1431655765) ∈ wTab := mw (tt_5 _ (List.mem_of_getElem? (i := 187) (by decide +kernel))) rfl
theorem tw_1250 : Cond.constant RJ6 266 (858993459) ∈ wTab := mw (tt_5 _ (List.mem_of_getElem? (i := 188) (by decide +kernel))) rfl
theorem tw_1251 : Cond.constant RJ6 267 (252645135) ∈ wTab := mw (tt_5 _ (List.mem_of_getElem? (i := 189) (by decide +kernel))) rfl
theorem tw_1252 : Cond.methodLink RL 151 yX11_wish ∈ wTab := mw (tt_5 _ (List.mem_of_getElem? (i := 190) (by decide +kernel))) rfl
theorem tw_1260 : Cond.methodLink RL 155 yX11_clear ∈ wTab := mw (tt_5 _ (List.mem_of_getElem? (i := 198) (by decide +kernel))) rfl
theorem tw_1264 : Cond.methodLink RL 159 yX11_crops ∈ wTab := mw (tt_5 _ (List.mem_of_getElem? (i := 202) (by decide +kernel))) rfl
theorem tw_1268 : Cond.methodLink RL 163 yX11_choose ∈ wTab := mw (tt_5 _ (List.mem_of_getElem? (i := 206) (by decide +kernel))) rfl
theorem tw_1323 : Cond.methodLink RL 167 yX11_chosen ∈ wTab := mw (tt_6 _ (List.mem_of_getElem? (i := 21) (by decide +kernel))) rfl
theorem tw_1327 : Cond.methodLink RL 171 yX11_judge ∈ wTab := mw (tt_6 _ (List.mem_of_getElem? (i := 25) (by decide +kernel))) rfl
theorem tw_1331 : Cond.methodLink RL 175 yX11_beside ∈ wTab := mw (tt_6 _ (List.mem_of_getElem? (i := 29) (by decide +kernel))) rfl
theorem tw_1340 : Cond.methodLink RL 180 yX11_seal ∈ wTab := mw (tt_6 _ (List.mem_of_getElem? (i := 38) (by decide +kernel))) rfl
theorem tw_1356 : Cond.methodLink RL 184 yX11_alter ∈ wTab := mw (tt_6 _ (List.mem_of_getElem? (i := 54) (by decide +kernel))) rfl
theorem tw_1360 : Cond.methodLink RL 188 yX11_found ∈ wTab := mw (tt_6 _ (List.mem_of_getElem? (i := 58) (by decide +kernel))) rfl
theorem tw_1368 : Cond.methodLink RL 192 yX11_image ∈ wTab := mw (tt_6 _ (List.mem_of_getElem? (i := 66) (by decide +kernel))) rfl
theorem tw_1372 : Cond.methodLink RL 196 yX11_back ∈ wTab := mw (tt_6 _ (List.mem_of_getElem? (i := 70) (by decide +kernel))) rfl
theorem tw_1376 : Cond.methodLink RL 200 yX11_count ∈ wTab := mw (tt_6 _ (List.mem_of_getElem? (i := 74) (by decide +kernel))) rfl
theorem tw_1380 : Cond.methodLink RL 204 yX11_status ∈ wTab := mw (tt_6 _ (List.mem_of_getElem? (i := 78) (by decide +kernel))) rfl
theorem tw_1384 : Cond.classLink RL 10 RX12 ∈ wTab := mw (tt_6 _ (List.mem_of_getElem? (i := 82) (by decide +kernel))) rfl
theorem tw_1385 : Cond.instantiable RX12 52 ∈ wTab := mw (tt_6 _ (List.mem_of_getElem? (i := 83) (by decide +kernel))) rfl
theorem tw_1386 : Cond.methodLink RL 12 yX12_init ∈ wTab := mw (tt_6 _ (List.mem_of_getElem? (i := 84) (by decide +kernel))) rfl
theorem tw_1387 : Cond.instanceMethod yX12_init ∈ wTab := mw (tt_6 _ (List.mem_of_getElem? (i := 85) (by decide +kernel))) rfl
theorem tw_1388 : Cond.code yX12_init cX12_init 1 none ∈ wTab := mw (tt_6 _ (List.mem_of_getElem? (i := 86) (by decide +kernel))) rfl
theorem tw_1389 : Cond.methodLink RX12 1 objectInit ∈ wTab := mw (tt_6 _ (List.mem_of_getElem? (i := 87) (by decide +kernel))) rfl
theorem tw_1391 : Cond.constant RX12 14 (71884) ∈ wTab := mw (tt_6 _ (List.mem_of_getElem? (i := 89) (by decide +kernel))) rfl
theorem tw_1549 : Cond.arrayClass .boolean ∈ wTab := mw (tt_7 _ (List.mem_of_getElem? (i := 7) (by decide +kernel))) rfl
theorem tw_1550 : Cond.methodLink RL 195 yX12_image ∈ wTab := mw (tt_7 _ (List.mem_of_getElem? (i := 8) (by decide +kernel))) rfl
theorem tw_1561 : Cond.methodLink RL 199 yX12_back ∈ wTab := mw (tt_7 _ (List.mem_of_getElem? (i := 19) (by decide +kernel))) rfl
theorem tw_1565 : Cond.methodLink RL 17 yX12_person ∈ wTab := mw (tt_7 _ (List.mem_of_getElem? (i := 23) (by decide +kernel))) rfl
theorem tw_1579 : Cond.methodLink RL 22 yX12_heed ∈ wTab := mw (tt_7 _ (List.mem_of_getElem? (i := 37) (by decide +kernel))) rfl
theorem tw_1587 : Cond.methodLink RL 26 yX12_goes ∈ wTab := mw (tt_7 _ (List.mem_of_getElem? (i := 45) (by decide +kernel))) rfl
theorem tw_1592 : Cond.methodLink RL 30 yX12_coin ∈ wTab := mw (tt_7 _ (List.mem_of_getElem? (i := 50) (by decide +kernel))) rfl
theorem tw_1602 : Cond.methodLink RL 35 yX12_give ∈ wTab := mw (tt_7 _ (List.mem_of_getElem? (i := 60) (by decide +kernel))) rfl
theorem tw_1607 : Cond.methodLink RL 39 yX12_estate ∈ wTab := mw (tt_7 _ (List.mem_of_getElem? (i := 65) (by decide +kernel))) rfl
theorem tw_1614 : Cond.methodLink RL 44 yX12_field ∈ wTab := mw (tt_7 _ (List.mem_of_getElem? (i := 72) (by decide +kernel))) rfl
theorem tw_1627 : Cond.methodLink RL 48 yX12_of ∈ wTab := mw (tt_7 _ (List.mem_of_getElem? (i := 85) (by decide +kernel))) rfl
theorem tw_1635 : Cond.methodLink RL 52 yX12_tells ∈ wTab := mw (tt_7 _ (List.mem_of_getElem? (i := 93) (by decide +kernel))) rfl
theorem tw_1707 : Cond.methodLink RL 56 yX12_owner ∈ wTab := mw (tt_7 _ (List.mem_of_getElem? (i := 165) (by decide +kernel))) rfl
theorem tw_1711 : Cond.methodLink RL 61 yX12_fund ∈ wTab := mw (tt_7 _ (List.mem_of_getElem? (i := 169) (by decide +kernel))) rfl
theorem tw_1715 : Cond.methodLink RL 65 yX12_price ∈ wTab := mw (tt_7 _ (List.mem_of_getElem? (i := 173) (by decide +kernel))) rfl
theorem tw_1724 : Cond.methodLink RL 69 yX12_row ∈ wTab := mw (tt_7 _ (List.mem_of_getElem? (i := 182) (by decide +kernel))) rfl
theorem tw_1734 : Cond.constantDouble RX12 170 (4611686018427387904) ∈ wTab := mw (tt_7 _ (List.mem_of_getElem? (i := 192) (by decide +kernel))) rfl
theorem tw_1735 : Cond.constantDouble RX12 172 (4652007308841189376) ∈ wTab := mw (tt_7 _ (List.mem_of_getElem? (i := 193) (by decide +kernel))) rfl
theorem tw_1740 : Cond.constantDouble RX12 184 (4636737291354636288) ∈ wTab := mw (tt_7 _ (List.mem_of_getElem? (i := 198) (by decide +kernel))) rfl
theorem tw_1741 : Cond.methodLink RL 73 yX12_crop ∈ wTab := mw (tt_7 _ (List.mem_of_getElem? (i := 199) (by decide +kernel))) rfl
theorem tw_1745 : Cond.methodLink RL 78 yX12_feed ∈ wTab := mw (tt_7 _ (List.mem_of_getElem? (i := 203) (by decide +kernel))) rfl
theorem tw_1753 : Cond.methodLink RL 82 yX12_end ∈ wTab := mw (tt_7 _ (List.mem_of_getElem? (i := 211) (by decide +kernel))) rfl
theorem tw_1757 : Cond.methodLink RL 90 yX12_fault ∈ wTab := mw (tt_7 _ (List.mem_of_getElem? (i := 215) (by decide +kernel))) rfl
theorem tw_1761 : Cond.methodLink RL 86 yX12_text ∈ wTab := mw (tt_7 _ (List.mem_of_getElem? (i := 219) (by decide +kernel))) rfl
theorem tw_1905 : Cond.methodLink RL 94 yX12_force ∈ wTab := mw (tt_8 _ (List.mem_of_getElem? (i := 123) (by decide +kernel))) rfl
theorem tw_1909 : Cond.methodLink RL 98 yX12_holds ∈ wTab := mw (tt_8 _ (List.mem_of_getElem? (i := 127) (by decide +kernel))) rfl
theorem tw_1913 : Cond.methodLink RL 118 yX12_go ∈ wTab := mw (tt_8 _ (List.mem_of_getElem? (i := 131) (by decide +kernel))) rfl
theorem tw_1950 : Cond.methodLink RL 102 yX12_writ ∈ wTab := mw (tt_8 _ (List.mem_of_getElem? (i := 168) (by decide +kernel))) rfl
theorem tw_1954 : Cond.methodLink RL 106 yX12_avoid ∈ wTab := mw (tt_8 _ (List.mem_of_getElem? (i := 172) (by decide +kernel))) rfl
theorem tw_1958 : Cond.methodLink RL 110 yX12_guard ∈ wTab := mw (tt_8 _ (List.mem_of_getElem? (i := 176) (by decide +kernel))) rfl
theorem tw_1962 : Cond.methodLink RL 114 yX12_take ∈ wTab := mw (tt_8 _ (List.mem_of_getElem? (i := 180) (by decide +kernel))) rfl
theorem tw_1966 : Cond.methodLink RL 122 yX12_deal ∈ wTab := mw (tt_8 _ (List.mem_of_getElem? (i := 184) (by decide +kernel))) rfl
theorem tw_1978 : Cond.methodLink RL 126 yX12_brave ∈ wTab := mw (tt_8 _ (List.mem_of_getElem? (i := 196) (by decide +kernel))) rfl
theorem tw_1983 : Cond.methodLink RL 130 yX12_keeps ∈ wTab := mw (tt_8 _ (List.mem_of_getElem? (i := 201) (by decide +kernel))) rfl
theorem tw_1987 : Cond.methodLink RL 134 yX12_broke ∈ wTab := mw (tt_8 _ (List.mem_of_getElem? (i := 205) (by decide +kernel))) rfl
theorem tw_1992 : Cond.methodLink RL 138 yX12_last ∈ wTab := mw (tt_8 _ (List.mem_of_getElem? (i := 210) (by decide +kernel))) rfl
theorem tw_1996 : Cond.methodLink RL 142 yX12_least ∈ wTab := mw (tt_8 _ (List.mem_of_getElem? (i := 214) (by decide +kernel))) rfl
theorem tw_2005 : Cond.methodLink RL 146 yX12_offer ∈ wTab := mw (tt_8 _ (List.mem_of_getElem? (i := 223) (by decide +kernel))) rfl
theorem tw_2010 : Cond.methodLink RL 150 yX12_agree ∈ wTab := mw (tt_8 _ (List.mem_of_getElem? (i := 228) (by decide +kernel))) rfl
theorem tw_2015 : Cond.methodLink RL 154 yX12_wish ∈ wTab := mw (tt_8 _ (List.mem_of_getElem? (i := 233) (by decide +kernel))) rfl
theorem tw_2019 : Cond.methodLink RL 158 yX12_clear ∈ wTab := mw (tt_8 _ (List.mem_of_getElem? (i := 237) (by decide +kernel))) rfl
theorem tw_2023 : Cond.methodLink RL 162 yX12_crops ∈ wTab := mw (tt_9 _ (List.mem_of_getElem? (i := 1) (by decide +kernel))) rfl
theorem tw_2027 : Cond.methodLink RL 166 yX12_choose ∈ wTab := mw (tt_9 _ (List.mem_of_getElem? (i := 5) (by decide +kernel))) rfl
theorem tw_2051 : Cond.methodLink RL 170 yX12_chosen ∈ wTab := mw (tt_9 _ (List.mem_of_getElem? (i := 29) (by decide +kernel))) rfl
theorem tw_2055 : Cond.methodLink RL 174 yX12_judge ∈ wTab := mw (tt_9 _ (List.mem_of_getElem? (i := 33) (by decide +kernel))) rfl
theorem tw_2059 : Cond.methodLink RL 179 yX12_beside ∈ wTab := mw (tt_9 _ (List.mem_of_getElem? (i := 37) (by decide +kernel))) rfl
theorem tw_2068 : Cond.methodLink RL 183 yX12_seal ∈ wTab := mw (tt_9 _ (List.mem_of_getElem? (i := 46) (by decide +kernel))) rfl
theorem tw_2076 : Cond.methodLink RL 187 yX12_alter ∈ wTab := mw (tt_9 _ (List.mem_of_getElem? (i := 54) (by decide +kernel))) rfl
theorem tw_2081 : Cond.methodLink RL 191 yX12_found ∈ wTab := mw (tt_9 _ (List.mem_of_getElem? (i := 59) (by decide +kernel))) rfl
theorem tw_2085 : Cond.methodLink RL 203 yX12_count ∈ wTab := mw (tt_9 _ (List.mem_of_getElem? (i := 63) (by decide +kernel))) rfl
theorem tw_2089 : Cond.methodLink RL 207 yX12_status ∈ wTab := mw (tt_9 _ (List.mem_of_getElem? (i := 67) (by decide +kernel))) rfl
