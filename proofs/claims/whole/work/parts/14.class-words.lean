/-! words of the class: one list for all its methods -/
def wsC_1 : List Cond := [.initialized RX1, .initialized RX0, .instantiable RX1 4, .instanceMethod yX1_init, .code yX1_init cX1_init 1 none, .methodLink RX1 1 objectInit, .classLink RX1 16 "SectorSeal$Aes", .instantiable RX0 1, .instanceMethod yX0_init, .code yX0_init cX0_init 1 none, .methodLink RX0 3 objectInit, .fieldLink RX0 9 "SectorSeal$Aes" "schedule" "[I", .methodLink RX1 26 yX0_expand, .instanceMethod yX0_expand, .selects RX0 yX0_expand yX0_expand, .code yX0_expand cX0_expand 9 none, .methodLink RX0 13 yX0_highInt, .static yX0_highInt, .code yX0_highInt cX0_highInt 2 (some .int), .methodLink RX0 17 yX0_turn, .static yX0_turn, .code yX0_turn cX0_turn 2 (some .int), .fieldLink RX0 21 "SectorSeal$Aes" "S_BOX" "[I", .methodLink RX0 24 yX0_substitute, .static yX0_substitute, .code yX0_substitute cX0_substitute 5 (some .int), .methodLink RX0 28 yX0_doubleEach, .static yX0_doubleEach, .code yX0_doubleEach cX0_doubleEach 1 (some .int), .constant RX0 45 (2139062143), .constant RX0 46 (16843009), .fieldLink RX1 9 "SectorSeal" "longs" "[J", .fieldLink RX1 13 "SectorSeal" "tweak" "[J", .fieldLink RX1 19 "SectorSeal" "dataCipher" "LSectorSeal$Aes;", .fieldLink RX1 23 "SectorSeal" "tweakCipher" "LSectorSeal$Aes;", .instanceMethod yX1_key, .selects RX1 yX1_key yX1_key, .code yX1_key cX1_key 9 none, .instanceMethod yX1_sum, .selects RX1 yX1_sum yX1_sum, .code yX1_sum cX1_sum 4 (some .long), .instanceMethod yX1_put, .selects RX1 yX1_put yX1_put, .code yX1_put cX1_put 6 (some .long), .classLink RX1 30 "java/lang/IndexOutOfBoundsException", .instanceMethod yX1_get, .selects RX1 yX1_get yX1_get, .code yX1_get cX1_get 2 (some .long), .instanceMethod yX1_sector, .selects RX1 yX1_sector yX1_sector, .code yX1_sector cX1_sector 4 (some .long), .classLink RX1 37 "java/lang/IllegalArgumentException", .methodLink RX1 42 yX1_startTweak, .instanceMethod yX1_startTweak, .code yX1_startTweak cX1_startTweak 2 none, .methodLink RX1 61 yX1_lowestByteFirst, .static yX1_lowestByteFirst, .code yX1_lowestByteFirst cX1_lowestByteFirst 5 (some .long), .constantLong RX1 65 (255), .methodLink RX1 49 yX0_encipher, .instanceMethod yX0_encipher, .selects RX0 yX0_encipher yX0_encipher, .code yX0_encipher cX0_encipher 14 none, .methodLink RX0 32 yX0_mix, .static yX0_mix, .code yX0_mix cX0_mix 2 (some .int), .methodLink RX0 35 yX0_join, .static yX0_join, .code yX0_join cX0_join 2 (some .long), .constantLong RX0 47 (4294967295), .methodLink RX1 46 yX1_mask, .instanceMethod yX1_mask, .code yX1_mask cX1_mask 2 none, .methodLink RX1 53 yX0_decipher, .instanceMethod yX0_decipher, .selects RX0 yX0_decipher yX0_decipher, .code yX0_decipher cX0_decipher 15 none, .fieldLink RX0 39 "SectorSeal$Aes" "INVERSE_S_BOX" "[I", .methodLink RX0 42 yX0_unmix, .static yX0_unmix, .code yX0_unmix cX0_unmix 2 (some .int), .methodLink RX1 56 yX1_doubleTweak, .instanceMethod yX1_doubleTweak, .code yX1_doubleTweak cX1_doubleTweak 9 none, .methodLink RX1 67 yX1_doubleBytes, .static yX1_doubleBytes, .code yX1_doubleBytes cX1_doubleBytes 2 (some .long), .constantLong RX1 73 (9187201950435737471), .constantLong RX1 75 (282578800148737), .constantLong RX1 71 (135), .instanceMethod yX1_block, .selects RX1 yX1_block yX1_block, .code yX1_block cX1_block 6 (some .long), .selects RX1 yX1_startTweak yX1_startTweak, .selects RX1 yX1_mask yX1_mask, .selects RX1 yX1_doubleTweak yX1_doubleTweak, .instanceMethod objectInit, .code objectInit ⟨#[0xb1]⟩ 1 none, .arrayClass .int, .arrayClass .long, .initialized "java/lang/IndexOutOfBoundsException", .initialized "java/lang/IllegalArgumentException"]
def wsC_2 : List Cond := (vx_atS RX1 34 "java/lang/IndexOutOfBoundsException" ["java/lang/RuntimeException", "java/lang/Exception"]).filter goodWord
def wsC_3 : List Cond := (vx_atS RX1 41 "java/lang/IllegalArgumentException" ["java/lang/RuntimeException", "java/lang/Exception"]).filter goodWord
def wsC_a : List Cond := wsC_1 ++ (wsX10 ++ (wsX00 ++ (wsC_2 ++ wsC_3)))
theorem inC1 : ∀ w ∈ wsX10, w ∈ wsC_a := fun _ h => List.mem_append_right _ (List.mem_append_left _ h)
theorem inC0 : ∀ w ∈ wsX00, w ∈ wsC_a := fun _ h => List.mem_append_right _ (List.mem_append_right _ (List.mem_append_left _ h))
theorem inC2 : ∀ w ∈ wsC_2, w ∈ wsC_a := fun _ h => List.mem_append_right _ (List.mem_append_right _ (List.mem_append_right _ (List.mem_append_left _ h)))
theorem inC3 : ∀ w ∈ wsC_3, w ∈ wsC_a := fun _ h => List.mem_append_right _ (List.mem_append_right _ (List.mem_append_right _ (List.mem_append_right _ h)))
set_option maxRecDepth 20000 in
theorem wsC_good : wsC_a.all goodWord = true := by decide +kernel
theorem mS_initialized : Cond.initialized RX1 ∈ wsC_a := List.mem_append_left _ (List.mem_of_getElem? (i := 0) rfl)
theorem mA_initialized : Cond.initialized RX0 ∈ wsC_a := List.mem_append_left _ (List.mem_of_getElem? (i := 1) rfl)
theorem mS_instantiable : Cond.instantiable RX1 4 ∈ wsC_a := List.mem_append_left _ (List.mem_of_getElem? (i := 2) rfl)
theorem mS_instanceMethod_init : Cond.instanceMethod yX1_init ∈ wsC_a := List.mem_append_left _ (List.mem_of_getElem? (i := 3) rfl)
theorem mS_code_init : Cond.code yX1_init cX1_init 1 none ∈ wsC_a := List.mem_append_left _ (List.mem_of_getElem? (i := 4) rfl)
theorem mS_l1 : Cond.methodLink RX1 1 objectInit ∈ wsC_a := List.mem_append_left _ (List.mem_of_getElem? (i := 5) rfl)
theorem mS_c16 : Cond.classLink RX1 16 "SectorSeal$Aes" ∈ wsC_a := List.mem_append_left _ (List.mem_of_getElem? (i := 6) rfl)
theorem mA_instantiable : Cond.instantiable RX0 1 ∈ wsC_a := List.mem_append_left _ (List.mem_of_getElem? (i := 7) rfl)
theorem mA_instanceMethod_init : Cond.instanceMethod yX0_init ∈ wsC_a := List.mem_append_left _ (List.mem_of_getElem? (i := 8) rfl)
theorem mA_code_init : Cond.code yX0_init cX0_init 1 none ∈ wsC_a := List.mem_append_left _ (List.mem_of_getElem? (i := 9) rfl)
theorem mA_l3 : Cond.methodLink RX0 3 objectInit ∈ wsC_a := List.mem_append_left _ (List.mem_of_getElem? (i := 10) rfl)
theorem mA_f9 : Cond.fieldLink RX0 9 "SectorSeal$Aes" "schedule" "[I" ∈ wsC_a := List.mem_append_left _ (List.mem_of_getElem? (i := 11) rfl)
theorem mS_l26 : Cond.methodLink RX1 26 yX0_expand ∈ wsC_a := List.mem_append_left _ (List.mem_of_getElem? (i := 12) rfl)
theorem mA_instanceMethod_expand : Cond.instanceMethod yX0_expand ∈ wsC_a := List.mem_append_left _ (List.mem_of_getElem? (i := 13) rfl)
theorem mA_selects_expand : Cond.selects RX0 yX0_expand yX0_expand ∈ wsC_a := List.mem_append_left _ (List.mem_of_getElem? (i := 14) rfl)
theorem mA_code_expand : Cond.code yX0_expand cX0_expand 9 none ∈ wsC_a := List.mem_append_left _ (List.mem_of_getElem? (i := 15) rfl)
theorem mA_l13 : Cond.methodLink RX0 13 yX0_highInt ∈ wsC_a := List.mem_append_left _ (List.mem_of_getElem? (i := 16) rfl)
theorem mA_static_highInt : Cond.static yX0_highInt ∈ wsC_a := List.mem_append_left _ (List.mem_of_getElem? (i := 17) rfl)
theorem mA_code_highInt : Cond.code yX0_highInt cX0_highInt 2 (some .int) ∈ wsC_a := List.mem_append_left _ (List.mem_of_getElem? (i := 18) rfl)
theorem mA_l17 : Cond.methodLink RX0 17 yX0_turn ∈ wsC_a := List.mem_append_left _ (List.mem_of_getElem? (i := 19) rfl)
theorem mA_static_turn : Cond.static yX0_turn ∈ wsC_a := List.mem_append_left _ (List.mem_of_getElem? (i := 20) rfl)
theorem mA_code_turn : Cond.code yX0_turn cX0_turn 2 (some .int) ∈ wsC_a := List.mem_append_left _ (List.mem_of_getElem? (i := 21) rfl)
theorem mA_f21 : Cond.fieldLink RX0 21 "SectorSeal$Aes" "S_BOX" "[I" ∈ wsC_a := List.mem_append_left _ (List.mem_of_getElem? (i := 22) rfl)
theorem mA_l24 : Cond.methodLink RX0 24 yX0_substitute ∈ wsC_a := List.mem_append_left _ (List.mem_of_getElem? (i := 23) rfl)
theorem mA_static_substitute : Cond.static yX0_substitute ∈ wsC_a := List.mem_append_left _ (List.mem_of_getElem? (i := 24) rfl)
theorem mA_code_substitute : Cond.code yX0_substitute cX0_substitute 5 (some .int) ∈ wsC_a := List.mem_append_left _ (List.mem_of_getElem? (i := 25) rfl)
theorem mA_l28 : Cond.methodLink RX0 28 yX0_doubleEach ∈ wsC_a := List.mem_append_left _ (List.mem_of_getElem? (i := 26) rfl)
theorem mA_static_doubleEach : Cond.static yX0_doubleEach ∈ wsC_a := List.mem_append_left _ (List.mem_of_getElem? (i := 27) rfl)
theorem mA_code_doubleEach : Cond.code yX0_doubleEach cX0_doubleEach 1 (some .int) ∈ wsC_a := List.mem_append_left _ (List.mem_of_getElem? (i := 28) rfl)
theorem mA_k45 : Cond.constant RX0 45 (2139062143) ∈ wsC_a := List.mem_append_left _ (List.mem_of_getElem? (i := 29) rfl)
theorem mA_k46 : Cond.constant RX0 46 (16843009) ∈ wsC_a := List.mem_append_left _ (List.mem_of_getElem? (i := 30) rfl)
theorem mS_f9 : Cond.fieldLink RX1 9 "SectorSeal" "longs" "[J" ∈ wsC_a := List.mem_append_left _ (List.mem_of_getElem? (i := 31) rfl)
theorem mS_f13 : Cond.fieldLink RX1 13 "SectorSeal" "tweak" "[J" ∈ wsC_a := List.mem_append_left _ (List.mem_of_getElem? (i := 32) rfl)
theorem mS_f19 : Cond.fieldLink RX1 19 "SectorSeal" "dataCipher" "LSectorSeal$Aes;" ∈ wsC_a := List.mem_append_left _ (List.mem_of_getElem? (i := 33) rfl)
theorem mS_f23 : Cond.fieldLink RX1 23 "SectorSeal" "tweakCipher" "LSectorSeal$Aes;" ∈ wsC_a := List.mem_append_left _ (List.mem_of_getElem? (i := 34) rfl)
theorem mS_instanceMethod_key : Cond.instanceMethod yX1_key ∈ wsC_a := List.mem_append_left _ (List.mem_of_getElem? (i := 35) rfl)
theorem mS_selects_key : Cond.selects RX1 yX1_key yX1_key ∈ wsC_a := List.mem_append_left _ (List.mem_of_getElem? (i := 36) rfl)
theorem mS_code_key : Cond.code yX1_key cX1_key 9 none ∈ wsC_a := List.mem_append_left _ (List.mem_of_getElem? (i := 37) rfl)
theorem mS_instanceMethod_sum : Cond.instanceMethod yX1_sum ∈ wsC_a := List.mem_append_left _ (List.mem_of_getElem? (i := 38) rfl)
theorem mS_selects_sum : Cond.selects RX1 yX1_sum yX1_sum ∈ wsC_a := List.mem_append_left _ (List.mem_of_getElem? (i := 39) rfl)
theorem mS_code_sum : Cond.code yX1_sum cX1_sum 4 (some .long) ∈ wsC_a := List.mem_append_left _ (List.mem_of_getElem? (i := 40) rfl)
theorem mS_instanceMethod_put : Cond.instanceMethod yX1_put ∈ wsC_a := List.mem_append_left _ (List.mem_of_getElem? (i := 41) rfl)
theorem mS_selects_put : Cond.selects RX1 yX1_put yX1_put ∈ wsC_a := List.mem_append_left _ (List.mem_of_getElem? (i := 42) rfl)
theorem mS_code_put : Cond.code yX1_put cX1_put 6 (some .long) ∈ wsC_a := List.mem_append_left _ (List.mem_of_getElem? (i := 43) rfl)
theorem mS_c30 : Cond.classLink RX1 30 "java/lang/IndexOutOfBoundsException" ∈ wsC_a := List.mem_append_left _ (List.mem_of_getElem? (i := 44) rfl)
theorem mS_instanceMethod_get : Cond.instanceMethod yX1_get ∈ wsC_a := List.mem_append_left _ (List.mem_of_getElem? (i := 45) rfl)
theorem mS_selects_get : Cond.selects RX1 yX1_get yX1_get ∈ wsC_a := List.mem_append_left _ (List.mem_of_getElem? (i := 46) rfl)
theorem mS_code_get : Cond.code yX1_get cX1_get 2 (some .long) ∈ wsC_a := List.mem_append_left _ (List.mem_of_getElem? (i := 47) rfl)
theorem mS_instanceMethod_sector : Cond.instanceMethod yX1_sector ∈ wsC_a := List.mem_append_left _ (List.mem_of_getElem? (i := 48) rfl)
theorem mS_selects_sector : Cond.selects RX1 yX1_sector yX1_sector ∈ wsC_a := List.mem_append_left _ (List.mem_of_getElem? (i := 49) rfl)
theorem mS_code_sector : Cond.code yX1_sector cX1_sector 4 (some .long) ∈ wsC_a := List.mem_append_left _ (List.mem_of_getElem? (i := 50) rfl)
theorem mS_c37 : Cond.classLink RX1 37 "java/lang/IllegalArgumentException" ∈ wsC_a := List.mem_append_left _ (List.mem_of_getElem? (i := 51) rfl)
theorem mS_l42 : Cond.methodLink RX1 42 yX1_startTweak ∈ wsC_a := List.mem_append_left _ (List.mem_of_getElem? (i := 52) rfl)
theorem mS_instanceMethod_startTweak : Cond.instanceMethod yX1_startTweak ∈ wsC_a := List.mem_append_left _ (List.mem_of_getElem? (i := 53) rfl)
theorem mS_code_startTweak : Cond.code yX1_startTweak cX1_startTweak 2 none ∈ wsC_a := List.mem_append_left _ (List.mem_of_getElem? (i := 54) rfl)
theorem mS_l61 : Cond.methodLink RX1 61 yX1_lowestByteFirst ∈ wsC_a := List.mem_append_left _ (List.mem_of_getElem? (i := 55) rfl)
theorem mS_static_lowestByteFirst : Cond.static yX1_lowestByteFirst ∈ wsC_a := List.mem_append_left _ (List.mem_of_getElem? (i := 56) rfl)
theorem mS_code_lowestByteFirst : Cond.code yX1_lowestByteFirst cX1_lowestByteFirst 5 (some .long) ∈ wsC_a := List.mem_append_left _ (List.mem_of_getElem? (i := 57) rfl)
theorem mS_k65 : Cond.constantLong RX1 65 (255) ∈ wsC_a := List.mem_append_left _ (List.mem_of_getElem? (i := 58) rfl)
theorem mS_l49 : Cond.methodLink RX1 49 yX0_encipher ∈ wsC_a := List.mem_append_left _ (List.mem_of_getElem? (i := 59) rfl)
theorem mA_instanceMethod_encipher : Cond.instanceMethod yX0_encipher ∈ wsC_a := List.mem_append_left _ (List.mem_of_getElem? (i := 60) rfl)
theorem mA_selects_encipher : Cond.selects RX0 yX0_encipher yX0_encipher ∈ wsC_a := List.mem_append_left _ (List.mem_of_getElem? (i := 61) rfl)
theorem mA_code_encipher : Cond.code yX0_encipher cX0_encipher 14 none ∈ wsC_a := List.mem_append_left _ (List.mem_of_getElem? (i := 62) rfl)
theorem mA_l32 : Cond.methodLink RX0 32 yX0_mix ∈ wsC_a := List.mem_append_left _ (List.mem_of_getElem? (i := 63) rfl)
theorem mA_static_mix : Cond.static yX0_mix ∈ wsC_a := List.mem_append_left _ (List.mem_of_getElem? (i := 64) rfl)
theorem mA_code_mix : Cond.code yX0_mix cX0_mix 2 (some .int) ∈ wsC_a := List.mem_append_left _ (List.mem_of_getElem? (i := 65) rfl)
theorem mA_l35 : Cond.methodLink RX0 35 yX0_join ∈ wsC_a := List.mem_append_left _ (List.mem_of_getElem? (i := 66) rfl)
theorem mA_static_join : Cond.static yX0_join ∈ wsC_a := List.mem_append_left _ (List.mem_of_getElem? (i := 67) rfl)
theorem mA_code_join : Cond.code yX0_join cX0_join 2 (some .long) ∈ wsC_a := List.mem_append_left _ (List.mem_of_getElem? (i := 68) rfl)
theorem mA_k47 : Cond.constantLong RX0 47 (4294967295) ∈ wsC_a := List.mem_append_left _ (List.mem_of_getElem? (i := 69) rfl)
theorem mS_l46 : Cond.methodLink RX1 46 yX1_mask ∈ wsC_a := List.mem_append_left _ (List.mem_of_getElem? (i := 70) rfl)
theorem mS_instanceMethod_mask : Cond.instanceMethod yX1_mask ∈ wsC_a := List.mem_append_left _ (List.mem_of_getElem? (i := 71) rfl)
theorem mS_code_mask : Cond.code yX1_mask cX1_mask 2 none ∈ wsC_a := List.mem_append_left _ (List.mem_of_getElem? (i := 72) rfl)
theorem mS_l53 : Cond.methodLink RX1 53 yX0_decipher ∈ wsC_a := List.mem_append_left _ (List.mem_of_getElem? (i := 73) rfl)
theorem mA_instanceMethod_decipher : Cond.instanceMethod yX0_decipher ∈ wsC_a := List.mem_append_left _ (List.mem_of_getElem? (i := 74) rfl)
theorem mA_selects_decipher : Cond.selects RX0 yX0_decipher yX0_decipher ∈ wsC_a := List.mem_append_left _ (List.mem_of_getElem? (i := 75) rfl)
theorem mA_code_decipher : Cond.code yX0_decipher cX0_decipher 15 none ∈ wsC_a := List.mem_append_left _ (List.mem_of_getElem? (i := 76) rfl)
theorem mA_f39 : Cond.fieldLink RX0 39 "SectorSeal$Aes" "INVERSE_S_BOX" "[I" ∈ wsC_a := List.mem_append_left _ (List.mem_of_getElem? (i := 77) rfl)
theorem mA_l42 : Cond.methodLink RX0 42 yX0_unmix ∈ wsC_a := List.mem_append_left _ (List.mem_of_getElem? (i := 78) rfl)
theorem mA_static_unmix : Cond.static yX0_unmix ∈ wsC_a := List.mem_append_left _ (List.mem_of_getElem? (i := 79) rfl)
theorem mA_code_unmix : Cond.code yX0_unmix cX0_unmix 2 (some .int) ∈ wsC_a := List.mem_append_left _ (List.mem_of_getElem? (i := 80) rfl)
theorem mS_l56 : Cond.methodLink RX1 56 yX1_doubleTweak ∈ wsC_a := List.mem_append_left _ (List.mem_of_getElem? (i := 81) rfl)
theorem mS_instanceMethod_doubleTweak : Cond.instanceMethod yX1_doubleTweak ∈ wsC_a := List.mem_append_left _ (List.mem_of_getElem? (i := 82) rfl)
theorem mS_code_doubleTweak : Cond.code yX1_doubleTweak cX1_doubleTweak 9 none ∈ wsC_a := List.mem_append_left _ (List.mem_of_getElem? (i := 83) rfl)
theorem mS_l67 : Cond.methodLink RX1 67 yX1_doubleBytes ∈ wsC_a := List.mem_append_left _ (List.mem_of_getElem? (i := 84) rfl)
theorem mS_static_doubleBytes : Cond.static yX1_doubleBytes ∈ wsC_a := List.mem_append_left _ (List.mem_of_getElem? (i := 85) rfl)
theorem mS_code_doubleBytes : Cond.code yX1_doubleBytes cX1_doubleBytes 2 (some .long) ∈ wsC_a := List.mem_append_left _ (List.mem_of_getElem? (i := 86) rfl)
theorem mS_k73 : Cond.constantLong RX1 73 (9187201950435737471) ∈ wsC_a := List.mem_append_left _ (List.mem_of_getElem? (i := 87) rfl)
theorem mS_k75 : Cond.constantLong RX1 75 (282578800148737) ∈ wsC_a := List.mem_append_left _ (List.mem_of_getElem? (i := 88) rfl)
theorem mS_k71 : Cond.constantLong RX1 71 (135) ∈ wsC_a := List.mem_append_left _ (List.mem_of_getElem? (i := 89) rfl)
theorem mS_instanceMethod_block : Cond.instanceMethod yX1_block ∈ wsC_a := List.mem_append_left _ (List.mem_of_getElem? (i := 90) rfl)
theorem mS_selects_block : Cond.selects RX1 yX1_block yX1_block ∈ wsC_a := List.mem_append_left _ (List.mem_of_getElem? (i := 91) rfl)
theorem mS_code_block : Cond.code yX1_block cX1_block 6 (some .long) ∈ wsC_a := List.mem_append_left _ (List.mem_of_getElem? (i := 92) rfl)
theorem mS_selects_startTweak : Cond.selects RX1 yX1_startTweak yX1_startTweak ∈ wsC_a := List.mem_append_left _ (List.mem_of_getElem? (i := 93) rfl)
theorem mS_selects_mask : Cond.selects RX1 yX1_mask yX1_mask ∈ wsC_a := List.mem_append_left _ (List.mem_of_getElem? (i := 94) rfl)
theorem mS_selects_doubleTweak : Cond.selects RX1 yX1_doubleTweak yX1_doubleTweak ∈ wsC_a := List.mem_append_left _ (List.mem_of_getElem? (i := 95) rfl)
theorem mC_instanceMethod_obj : Cond.instanceMethod objectInit ∈ wsC_a := List.mem_append_left _ (List.mem_of_getElem? (i := 96) rfl)
theorem mC_code_obj : Cond.code objectInit ⟨#[0xb1]⟩ 1 none ∈ wsC_a := List.mem_append_left _ (List.mem_of_getElem? (i := 97) rfl)
theorem mC_arrayInt : Cond.arrayClass .int ∈ wsC_a := List.mem_append_left _ (List.mem_of_getElem? (i := 98) rfl)
theorem mC_arrayLong : Cond.arrayClass .long ∈ wsC_a := List.mem_append_left _ (List.mem_of_getElem? (i := 99) rfl)
theorem mC_initIOOBE : Cond.initialized "java/lang/IndexOutOfBoundsException" ∈ wsC_a := List.mem_append_left _ (List.mem_of_getElem? (i := 100) rfl)
theorem mC_initIAE : Cond.initialized "java/lang/IllegalArgumentException" ∈ wsC_a := List.mem_append_left _ (List.mem_of_getElem? (i := 101) rfl)
abbrev wsC_X1_init : List Cond := .code yX1_init cX1_init 1 none :: wsC_a
abbrev wsC_X0_init : List Cond := .code yX0_init cX0_init 1 none :: wsC_a
abbrev wsC_X0_expand : List Cond := .code yX0_expand cX0_expand 9 none :: wsC_a
abbrev wsC_X0_highInt : List Cond := .code yX0_highInt cX0_highInt 2 (some .int) :: wsC_a
abbrev wsC_X0_turn : List Cond := .code yX0_turn cX0_turn 2 (some .int) :: wsC_a
abbrev wsC_X0_substitute : List Cond := .code yX0_substitute cX0_substitute 5 (some .int) :: wsC_a
abbrev wsC_X0_doubleEach : List Cond := .code yX0_doubleEach cX0_doubleEach 1 (some .int) :: wsC_a
abbrev wsC_X1_key : List Cond := .code yX1_key cX1_key 9 none :: wsC_a
abbrev wsC_X1_sum : List Cond := .code yX1_sum cX1_sum 4 (some .long) :: wsC_a
abbrev wsC_X1_put : List Cond := .code yX1_put cX1_put 6 (some .long) :: wsC_a
abbrev wsC_X1_get : List Cond := .code yX1_get cX1_get 2 (some .long) :: wsC_a
abbrev wsC_X1_sector : List Cond := .code yX1_sector cX1_sector 4 (some .long) :: wsC_a
abbrev wsC_X1_startTweak : List Cond := .code yX1_startTweak cX1_startTweak 2 none :: wsC_a
abbrev wsC_X1_lowestByteFirst : List Cond := .code yX1_lowestByteFirst cX1_lowestByteFirst 5 (some .long) :: wsC_a
abbrev wsC_X0_encipher : List Cond := .code yX0_encipher cX0_encipher 14 none :: wsC_a
abbrev wsC_X0_mix : List Cond := .code yX0_mix cX0_mix 2 (some .int) :: wsC_a
abbrev wsC_X0_join : List Cond := .code yX0_join cX0_join 2 (some .long) :: wsC_a
abbrev wsC_X1_mask : List Cond := .code yX1_mask cX1_mask 2 none :: wsC_a
abbrev wsC_X0_decipher : List Cond := .code yX0_decipher cX0_decipher 15 none :: wsC_a
abbrev wsC_X0_unmix : List Cond := .code yX0_unmix cX0_unmix 2 (some .int) :: wsC_a
abbrev wsC_X1_doubleTweak : List Cond := .code yX1_doubleTweak cX1_doubleTweak 9 none :: wsC_a
abbrev wsC_X1_doubleBytes : List Cond := .code yX1_doubleBytes cX1_doubleBytes 2 (some .long) :: wsC_a
abbrev wsC_X1_block : List Cond := .code yX1_block cX1_block 6 (some .long) :: wsC_a
