/-! names of the reference, by program out of the Statement and javap's listing -/
def RM : String := "SectorSealModel"
def TM : u_T := fun k => match k with
  | 0 => ("SectorSealModel", "key", "[I", true)
  | 1 => ("SectorSealModel", "sector", "[I", true)
  | 2 => ("SectorSealModel", "box", "[I", true)
  | 3 => ("SectorSealModel", "back", "[I", true)
  | 4 => ("SectorSealModel", "keys", "[I", true)
  | 5 => ("SectorSealModel", "state", "[I", true)
  | 6 => ("SectorSealModel", "row", "[I", true)
  | 7 => ("SectorSealModel", "tweak", "[I", true)
  | _ => ("SectorSealModel", "thrown", "I", false)
def tyM : Nat → FieldType := fun k => match k with
  | 0 => .array .int
  | 1 => .array .int
  | 2 => .array .int
  | 3 => .array .int
  | 4 => .array .int
  | 5 => .array .int
  | 6 => .array .int
  | 7 => .array .int
  | _ => .int
abbrev wsM0 : List Cond := u_ws RM TM 9
theorem nmM : ∀ a, a < 9 → ∀ b, b < 9 → a ≠ b → (TM a).2.1 ≠ (TM b).2.1 := by decide +kernel
theorem tyM_ok : ∀ k, k < 9 → parseFieldDescriptor (TM k).2.2.1 = some (tyM k) := by decide +kernel
abbrev cM_init : ByteArray := prog_4_method_1_code
def yM_init : MethodName := ⟨RM, "<init>", "()V"⟩
abbrev cM_substitute : ByteArray := prog_4_method_4_code
def yM_substitute : MethodName := ⟨RM, "substitute", "(I)I"⟩
abbrev cM_times : ByteArray := prog_4_method_3_code
def yM_times : MethodName := ⟨RM, "times", "(II)I"⟩
abbrev cM_thrown : ByteArray := prog_4_method_2_code
def yM_thrown : MethodName := ⟨RM, "thrown", "()I"⟩
abbrev cM_key : ByteArray := prog_4_method_7_code
def yM_key : MethodName := ⟨RM, "key", "(JJJJ)V"⟩
abbrev cM_lay : ByteArray := prog_4_method_5_code
def yM_lay : MethodName := ⟨RM, "lay", "([IIJ)V"⟩
abbrev cM_put : ByteArray := prog_4_method_9_code
def yM_put : MethodName := ⟨RM, "put", "(IJ)J"⟩
abbrev cM_isIn : ByteArray := prog_4_method_8_code
def yM_isIn : MethodName := ⟨RM, "isIn", "(II)Z"⟩
abbrev cM_read : ByteArray := prog_4_method_6_code
def yM_read : MethodName := ⟨RM, "read", "([II)J"⟩
abbrev cM_get : ByteArray := prog_4_method_10_code
def yM_get : MethodName := ⟨RM, "get", "(I)J"⟩
abbrev cM_block : ByteArray := prog_4_method_17_code
def yM_block : MethodName := ⟨RM, "block", "(IZZ)J"⟩
abbrev cM_decipher : ByteArray := prog_4_method_16_code
def yM_decipher : MethodName := ⟨RM, "decipher", "(I)V"⟩
abbrev cM_expand : ByteArray := prog_4_method_11_code
def yM_expand : MethodName := ⟨RM, "expand", "(I)V"⟩
abbrev cM_add : ByteArray := prog_4_method_12_code
def yM_add : MethodName := ⟨RM, "add", "(I)V"⟩
abbrev cM_mix : ByteArray := prog_4_method_13_code
def yM_mix : MethodName := ⟨RM, "mix", "(IIII)V"⟩
abbrev cM_turn : ByteArray := prog_4_method_14_code
def yM_turn : MethodName := ⟨RM, "turn", "(I)V"⟩
abbrev cM_encipher : ByteArray := prog_4_method_15_code
def yM_encipher : MethodName := ⟨RM, "encipher", "(I)V"⟩
abbrev cM_sector : ByteArray := prog_4_method_19_code
def yM_sector : MethodName := ⟨RM, "sector", "(IZ)J"⟩
abbrev cM_makeTweak : ByteArray := prog_4_method_18_code
def yM_makeTweak : MethodName := ⟨RM, "makeTweak", "(II)V"⟩
abbrev cM_sum : ByteArray := prog_4_method_20_code
def yM_sum : MethodName := ⟨RM, "sum", "()J"⟩
abbrev mCl : List vw_C := [(RX0, TX0, 1), (RX1, TX1, 4), (RM, TM, 9)]
def wsM_1 : List Cond := [.initialized RM, .instantiable RM 9, .instanceMethod yM_init, .code yM_init cM_init 2 none, .methodLink RM 1 objectInit, .methodLink RM 34 yM_substitute, .static yM_substitute, .code yM_substitute cM_substitute 4 (some .int), .methodLink RM 42 yM_times, .static yM_times, .code yM_times cM_times 5 (some .int), .fieldLink RM 7 "SectorSealModel" "key" "[I", .fieldLink RM 13 "SectorSealModel" "sector" "[I", .fieldLink RM 16 "SectorSealModel" "box" "[I", .fieldLink RM 19 "SectorSealModel" "back" "[I", .fieldLink RM 22 "SectorSealModel" "keys" "[I", .fieldLink RM 25 "SectorSealModel" "state" "[I", .fieldLink RM 28 "SectorSealModel" "row" "[I", .fieldLink RM 31 "SectorSealModel" "tweak" "[I", .fieldLink RM 38 "SectorSealModel" "thrown" "I", .instanceMethod yM_thrown, .selects RM yM_thrown yM_thrown, .code yM_thrown cM_thrown 1 (some .int), .instanceMethod yM_key, .selects RM yM_key yM_key, .code yM_key cM_key 9 none, .methodLink RM 46 yM_lay, .static yM_lay, .code yM_lay cM_lay 5 none, .instanceMethod yM_put, .selects RM yM_put yM_put, .code yM_put cM_put 6 (some .long), .methodLink RM 50 yM_isIn, .instanceMethod yM_isIn, .code yM_isIn cM_isIn 3 (some .boolean), .methodLink RM 54 yM_read, .static yM_read, .code yM_read cM_read 5 (some .long), .instanceMethod yM_get, .selects RM yM_get yM_get, .code yM_get cM_get 2 (some .long), .instanceMethod yM_block, .selects RM yM_block yM_block, .code yM_block cM_block 5 (some .long), .methodLink RM 72 yM_decipher, .instanceMethod yM_decipher, .code yM_decipher cM_decipher 4 none, .methodLink RM 58 yM_expand, .instanceMethod yM_expand, .code yM_expand cM_expand 6 none, .methodLink RM 62 yM_add, .instanceMethod yM_add, .code yM_add cM_add 3 none, .methodLink RM 68 yM_mix, .instanceMethod yM_mix, .code yM_mix cM_mix 8 none, .methodLink RM 65 yM_turn, .instanceMethod yM_turn, .code yM_turn cM_turn 3 none, .methodLink RM 75 yM_encipher, .instanceMethod yM_encipher, .code yM_encipher cM_encipher 4 none, .instanceMethod yM_sector, .selects RM yM_sector yM_sector, .code yM_sector cM_sector 5 (some .long), .methodLink RM 78 yM_makeTweak, .instanceMethod yM_makeTweak, .code yM_makeTweak cM_makeTweak 7 none, .instanceMethod yM_sum, .selects RM yM_sum yM_sum, .code yM_sum cM_sum 4 (some .long), .selects RM yM_isIn yM_isIn, .selects RM yM_decipher yM_decipher, .selects RM yM_expand yM_expand, .selects RM yM_add yM_add, .selects RM yM_mix yM_mix, .selects RM yM_turn yM_turn, .selects RM yM_encipher yM_encipher, .selects RM yM_makeTweak yM_makeTweak, .instanceMethod objectInit, .code objectInit ⟨#[0xb1]⟩ 1 none, .arrayClass .int]
def wsM_a : List Cond := wsM_1 ++ wsM0
theorem inM0 : ∀ w ∈ wsM0, w ∈ wsM_a := fun _ h => List.mem_append_right _ h
set_option maxRecDepth 20000 in
theorem wsM_good : wsM_a.all goodWord = true := by decide +kernel
theorem mM_initialized : Cond.initialized RM ∈ wsM_a := List.mem_append_left _ (List.mem_of_getElem? (i := 0) rfl)
theorem mM_instantiable : Cond.instantiable RM 9 ∈ wsM_a := List.mem_append_left _ (List.mem_of_getElem? (i := 1) rfl)
theorem mM_instanceMethod_init : Cond.instanceMethod yM_init ∈ wsM_a := List.mem_append_left _ (List.mem_of_getElem? (i := 2) rfl)
theorem mM_code_init : Cond.code yM_init cM_init 2 none ∈ wsM_a := List.mem_append_left _ (List.mem_of_getElem? (i := 3) rfl)
theorem mM_l1 : Cond.methodLink RM 1 objectInit ∈ wsM_a := List.mem_append_left _ (List.mem_of_getElem? (i := 4) rfl)
theorem mM_l34 : Cond.methodLink RM 34 yM_substitute ∈ wsM_a := List.mem_append_left _ (List.mem_of_getElem? (i := 5) rfl)
theorem mM_static_substitute : Cond.static yM_substitute ∈ wsM_a := List.mem_append_left _ (List.mem_of_getElem? (i := 6) rfl)
theorem mM_code_substitute : Cond.code yM_substitute cM_substitute 4 (some .int) ∈ wsM_a := List.mem_append_left _ (List.mem_of_getElem? (i := 7) rfl)
theorem mM_l42 : Cond.methodLink RM 42 yM_times ∈ wsM_a := List.mem_append_left _ (List.mem_of_getElem? (i := 8) rfl)
theorem mM_static_times : Cond.static yM_times ∈ wsM_a := List.mem_append_left _ (List.mem_of_getElem? (i := 9) rfl)
theorem mM_code_times : Cond.code yM_times cM_times 5 (some .int) ∈ wsM_a := List.mem_append_left _ (List.mem_of_getElem? (i := 10) rfl)
theorem mM_f7 : Cond.fieldLink RM 7 "SectorSealModel" "key" "[I" ∈ wsM_a := List.mem_append_left _ (List.mem_of_getElem? (i := 11) rfl)
theorem mM_f13 : Cond.fieldLink RM 13 "SectorSealModel" "sector" "[I" ∈ wsM_a := List.mem_append_left _ (List.mem_of_getElem? (i := 12) rfl)
theorem mM_f16 : Cond.fieldLink RM 16 "SectorSealModel" "box" "[I" ∈ wsM_a := List.mem_append_left _ (List.mem_of_getElem? (i := 13) rfl)
theorem mM_f19 : Cond.fieldLink RM 19 "SectorSealModel" "back" "[I" ∈ wsM_a := List.mem_append_left _ (List.mem_of_getElem? (i := 14) rfl)
theorem mM_f22 : Cond.fieldLink RM 22 "SectorSealModel" "keys" "[I" ∈ wsM_a := List.mem_append_left _ (List.mem_of_getElem? (i := 15) rfl)
theorem mM_f25 : Cond.fieldLink RM 25 "SectorSealModel" "state" "[I" ∈ wsM_a := List.mem_append_left _ (List.mem_of_getElem? (i := 16) rfl)
theorem mM_f28 : Cond.fieldLink RM 28 "SectorSealModel" "row" "[I" ∈ wsM_a := List.mem_append_left _ (List.mem_of_getElem? (i := 17) rfl)
theorem mM_f31 : Cond.fieldLink RM 31 "SectorSealModel" "tweak" "[I" ∈ wsM_a := List.mem_append_left _ (List.mem_of_getElem? (i := 18) rfl)
theorem mM_f38 : Cond.fieldLink RM 38 "SectorSealModel" "thrown" "I" ∈ wsM_a := List.mem_append_left _ (List.mem_of_getElem? (i := 19) rfl)
theorem mM_instanceMethod_thrown : Cond.instanceMethod yM_thrown ∈ wsM_a := List.mem_append_left _ (List.mem_of_getElem? (i := 20) rfl)
theorem mM_selects_thrown : Cond.selects RM yM_thrown yM_thrown ∈ wsM_a := List.mem_append_left _ (List.mem_of_getElem? (i := 21) rfl)
theorem mM_code_thrown : Cond.code yM_thrown cM_thrown 1 (some .int) ∈ wsM_a := List.mem_append_left _ (List.mem_of_getElem? (i := 22) rfl)
theorem mM_instanceMethod_key : Cond.instanceMethod yM_key ∈ wsM_a := List.mem_append_left _ (List.mem_of_getElem? (i := 23) rfl)
theorem mM_selects_key : Cond.selects RM yM_key yM_key ∈ wsM_a := List.mem_append_left _ (List.mem_of_getElem? (i := 24) rfl)
theorem mM_code_key : Cond.code yM_key cM_key 9 none ∈ wsM_a := List.mem_append_left _ (List.mem_of_getElem? (i := 25) rfl)
theorem mM_l46 : Cond.methodLink RM 46 yM_lay ∈ wsM_a := List.mem_append_left _ (List.mem_of_getElem? (i := 26) rfl)
theorem mM_static_lay : Cond.static yM_lay ∈ wsM_a := List.mem_append_left _ (List.mem_of_getElem? (i := 27) rfl)
theorem mM_code_lay : Cond.code yM_lay cM_lay 5 none ∈ wsM_a := List.mem_append_left _ (List.mem_of_getElem? (i := 28) rfl)
theorem mM_instanceMethod_put : Cond.instanceMethod yM_put ∈ wsM_a := List.mem_append_left _ (List.mem_of_getElem? (i := 29) rfl)
theorem mM_selects_put : Cond.selects RM yM_put yM_put ∈ wsM_a := List.mem_append_left _ (List.mem_of_getElem? (i := 30) rfl)
theorem mM_code_put : Cond.code yM_put cM_put 6 (some .long) ∈ wsM_a := List.mem_append_left _ (List.mem_of_getElem? (i := 31) rfl)
theorem mM_l50 : Cond.methodLink RM 50 yM_isIn ∈ wsM_a := List.mem_append_left _ (List.mem_of_getElem? (i := 32) rfl)
theorem mM_instanceMethod_isIn : Cond.instanceMethod yM_isIn ∈ wsM_a := List.mem_append_left _ (List.mem_of_getElem? (i := 33) rfl)
theorem mM_code_isIn : Cond.code yM_isIn cM_isIn 3 (some .boolean) ∈ wsM_a := List.mem_append_left _ (List.mem_of_getElem? (i := 34) rfl)
theorem mM_l54 : Cond.methodLink RM 54 yM_read ∈ wsM_a := List.mem_append_left _ (List.mem_of_getElem? (i := 35) rfl)
theorem mM_static_read : Cond.static yM_read ∈ wsM_a := List.mem_append_left _ (List.mem_of_getElem? (i := 36) rfl)
theorem mM_code_read : Cond.code yM_read cM_read 5 (some .long) ∈ wsM_a := List.mem_append_left _ (List.mem_of_getElem? (i := 37) rfl)
theorem mM_instanceMethod_get : Cond.instanceMethod yM_get ∈ wsM_a := List.mem_append_left _ (List.mem_of_getElem? (i := 38) rfl)
theorem mM_selects_get : Cond.selects RM yM_get yM_get ∈ wsM_a := List.mem_append_left _ (List.mem_of_getElem? (i := 39) rfl)
theorem mM_code_get : Cond.code yM_get cM_get 2 (some .long) ∈ wsM_a := List.mem_append_left _ (List.mem_of_getElem? (i := 40) rfl)
theorem mM_instanceMethod_block : Cond.instanceMethod yM_block ∈ wsM_a := List.mem_append_left _ (List.mem_of_getElem? (i := 41) rfl)
theorem mM_selects_block : Cond.selects RM yM_block yM_block ∈ wsM_a := List.mem_append_left _ (List.mem_of_getElem? (i := 42) rfl)
theorem mM_code_block : Cond.code yM_block cM_block 5 (some .long) ∈ wsM_a := List.mem_append_left _ (List.mem_of_getElem? (i := 43) rfl)
theorem mM_l72 : Cond.methodLink RM 72 yM_decipher ∈ wsM_a := List.mem_append_left _ (List.mem_of_getElem? (i := 44) rfl)
theorem mM_instanceMethod_decipher : Cond.instanceMethod yM_decipher ∈ wsM_a := List.mem_append_left _ (List.mem_of_getElem? (i := 45) rfl)
theorem mM_code_decipher : Cond.code yM_decipher cM_decipher 4 none ∈ wsM_a := List.mem_append_left _ (List.mem_of_getElem? (i := 46) rfl)
theorem mM_l58 : Cond.methodLink RM 58 yM_expand ∈ wsM_a := List.mem_append_left _ (List.mem_of_getElem? (i := 47) rfl)
theorem mM_instanceMethod_expand : Cond.instanceMethod yM_expand ∈ wsM_a := List.mem_append_left _ (List.mem_of_getElem? (i := 48) rfl)
theorem mM_code_expand : Cond.code yM_expand cM_expand 6 none ∈ wsM_a := List.mem_append_left _ (List.mem_of_getElem? (i := 49) rfl)
theorem mM_l62 : Cond.methodLink RM 62 yM_add ∈ wsM_a := List.mem_append_left _ (List.mem_of_getElem? (i := 50) rfl)
theorem mM_instanceMethod_add : Cond.instanceMethod yM_add ∈ wsM_a := List.mem_append_left _ (List.mem_of_getElem? (i := 51) rfl)
theorem mM_code_add : Cond.code yM_add cM_add 3 none ∈ wsM_a := List.mem_append_left _ (List.mem_of_getElem? (i := 52) rfl)
theorem mM_l68 : Cond.methodLink RM 68 yM_mix ∈ wsM_a := List.mem_append_left _ (List.mem_of_getElem? (i := 53) rfl)
theorem mM_instanceMethod_mix : Cond.instanceMethod yM_mix ∈ wsM_a := List.mem_append_left _ (List.mem_of_getElem? (i := 54) rfl)
theorem mM_code_mix : Cond.code yM_mix cM_mix 8 none ∈ wsM_a := List.mem_append_left _ (List.mem_of_getElem? (i := 55) rfl)
theorem mM_l65 : Cond.methodLink RM 65 yM_turn ∈ wsM_a := List.mem_append_left _ (List.mem_of_getElem? (i := 56) rfl)
theorem mM_instanceMethod_turn : Cond.instanceMethod yM_turn ∈ wsM_a := List.mem_append_left _ (List.mem_of_getElem? (i := 57) rfl)
theorem mM_code_turn : Cond.code yM_turn cM_turn 3 none ∈ wsM_a := List.mem_append_left _ (List.mem_of_getElem? (i := 58) rfl)
theorem mM_l75 : Cond.methodLink RM 75 yM_encipher ∈ wsM_a := List.mem_append_left _ (List.mem_of_getElem? (i := 59) rfl)
theorem mM_instanceMethod_encipher : Cond.instanceMethod yM_encipher ∈ wsM_a := List.mem_append_left _ (List.mem_of_getElem? (i := 60) rfl)
theorem mM_code_encipher : Cond.code yM_encipher cM_encipher 4 none ∈ wsM_a := List.mem_append_left _ (List.mem_of_getElem? (i := 61) rfl)
theorem mM_instanceMethod_sector : Cond.instanceMethod yM_sector ∈ wsM_a := List.mem_append_left _ (List.mem_of_getElem? (i := 62) rfl)
theorem mM_selects_sector : Cond.selects RM yM_sector yM_sector ∈ wsM_a := List.mem_append_left _ (List.mem_of_getElem? (i := 63) rfl)
theorem mM_code_sector : Cond.code yM_sector cM_sector 5 (some .long) ∈ wsM_a := List.mem_append_left _ (List.mem_of_getElem? (i := 64) rfl)
theorem mM_l78 : Cond.methodLink RM 78 yM_makeTweak ∈ wsM_a := List.mem_append_left _ (List.mem_of_getElem? (i := 65) rfl)
theorem mM_instanceMethod_makeTweak : Cond.instanceMethod yM_makeTweak ∈ wsM_a := List.mem_append_left _ (List.mem_of_getElem? (i := 66) rfl)
theorem mM_code_makeTweak : Cond.code yM_makeTweak cM_makeTweak 7 none ∈ wsM_a := List.mem_append_left _ (List.mem_of_getElem? (i := 67) rfl)
theorem mM_instanceMethod_sum : Cond.instanceMethod yM_sum ∈ wsM_a := List.mem_append_left _ (List.mem_of_getElem? (i := 68) rfl)
theorem mM_selects_sum : Cond.selects RM yM_sum yM_sum ∈ wsM_a := List.mem_append_left _ (List.mem_of_getElem? (i := 69) rfl)
theorem mM_code_sum : Cond.code yM_sum cM_sum 4 (some .long) ∈ wsM_a := List.mem_append_left _ (List.mem_of_getElem? (i := 70) rfl)
theorem mM_selects_isIn : Cond.selects RM yM_isIn yM_isIn ∈ wsM_a := List.mem_append_left _ (List.mem_of_getElem? (i := 71) rfl)
theorem mM_selects_decipher : Cond.selects RM yM_decipher yM_decipher ∈ wsM_a := List.mem_append_left _ (List.mem_of_getElem? (i := 72) rfl)
theorem mM_selects_expand : Cond.selects RM yM_expand yM_expand ∈ wsM_a := List.mem_append_left _ (List.mem_of_getElem? (i := 73) rfl)
theorem mM_selects_add : Cond.selects RM yM_add yM_add ∈ wsM_a := List.mem_append_left _ (List.mem_of_getElem? (i := 74) rfl)
theorem mM_selects_mix : Cond.selects RM yM_mix yM_mix ∈ wsM_a := List.mem_append_left _ (List.mem_of_getElem? (i := 75) rfl)
theorem mM_selects_turn : Cond.selects RM yM_turn yM_turn ∈ wsM_a := List.mem_append_left _ (List.mem_of_getElem? (i := 76) rfl)
theorem mM_selects_encipher : Cond.selects RM yM_encipher yM_encipher ∈ wsM_a := List.mem_append_left _ (List.mem_of_getElem? (i := 77) rfl)
theorem mM_selects_makeTweak : Cond.selects RM yM_makeTweak yM_makeTweak ∈ wsM_a := List.mem_append_left _ (List.mem_of_getElem? (i := 78) rfl)
theorem mM_instanceMethod_obj : Cond.instanceMethod objectInit ∈ wsM_a := List.mem_append_left _ (List.mem_of_getElem? (i := 79) rfl)
theorem mM_code_obj : Cond.code objectInit ⟨#[0xb1]⟩ 1 none ∈ wsM_a := List.mem_append_left _ (List.mem_of_getElem? (i := 80) rfl)
theorem mM_arrayClass : Cond.arrayClass .int ∈ wsM_a := List.mem_append_left _ (List.mem_of_getElem? (i := 81) rfl)
abbrev wsM_init : List Cond := .code yM_init cM_init 2 none :: wsM_a
abbrev wsM_substitute : List Cond := .code yM_substitute cM_substitute 4 (some .int) :: wsM_a
abbrev wsM_times : List Cond := .code yM_times cM_times 5 (some .int) :: wsM_a
abbrev wsM_thrown : List Cond := .code yM_thrown cM_thrown 1 (some .int) :: wsM_a
abbrev wsM_key : List Cond := .code yM_key cM_key 9 none :: wsM_a
abbrev wsM_lay : List Cond := .code yM_lay cM_lay 5 none :: wsM_a
abbrev wsM_put : List Cond := .code yM_put cM_put 6 (some .long) :: wsM_a
abbrev wsM_isIn : List Cond := .code yM_isIn cM_isIn 3 (some .boolean) :: wsM_a
abbrev wsM_read : List Cond := .code yM_read cM_read 5 (some .long) :: wsM_a
abbrev wsM_get : List Cond := .code yM_get cM_get 2 (some .long) :: wsM_a
abbrev wsM_block : List Cond := .code yM_block cM_block 5 (some .long) :: wsM_a
abbrev wsM_decipher : List Cond := .code yM_decipher cM_decipher 4 none :: wsM_a
abbrev wsM_expand : List Cond := .code yM_expand cM_expand 6 none :: wsM_a
abbrev wsM_add : List Cond := .code yM_add cM_add 3 none :: wsM_a
abbrev wsM_mix : List Cond := .code yM_mix cM_mix 8 none :: wsM_a
abbrev wsM_turn : List Cond := .code yM_turn cM_turn 3 none :: wsM_a
abbrev wsM_encipher : List Cond := .code yM_encipher cM_encipher 4 none :: wsM_a
abbrev wsM_sector : List Cond := .code yM_sector cM_sector 5 (some .long) :: wsM_a
abbrev wsM_makeTweak : List Cond := .code yM_makeTweak cM_makeTweak 7 none :: wsM_a
abbrev wsM_sum : List Cond := .code yM_sum cM_sum 4 (some .long) :: wsM_a
theorem dM_init_0 : decode cM_init 0 = .ok (.aload_n 0, 1) := by decide +kernel
theorem dM_init_1 : decode cM_init 1 = .ok (.invokespecial 1, 3) := by decide +kernel
theorem dM_init_4 : decode cM_init 4 = .ok (.aload_n 0, 1) := by decide +kernel
theorem dM_init_5 : decode cM_init 5 = .ok (.bipush 32, 2) := by decide +kernel
theorem dM_init_7 : decode cM_init 7 = .ok (.newarray .int, 2) := by decide +kernel
theorem dM_init_9 : decode cM_init 9 = .ok (.putfield 7, 3) := by decide +kernel
theorem dM_init_12 : decode cM_init 12 = .ok (.aload_n 0, 1) := by decide +kernel
theorem dM_init_13 : decode cM_init 13 = .ok (.sipush 128, 3) := by decide +kernel
theorem dM_init_16 : decode cM_init 16 = .ok (.newarray .int, 2) := by decide +kernel
theorem dM_init_18 : decode cM_init 18 = .ok (.putfield 13, 3) := by decide +kernel
theorem dM_init_21 : decode cM_init 21 = .ok (.aload_n 0, 1) := by decide +kernel
theorem dM_init_22 : decode cM_init 22 = .ok (.sipush 256, 3) := by decide +kernel
theorem dM_init_25 : decode cM_init 25 = .ok (.newarray .int, 2) := by decide +kernel
theorem dM_init_27 : decode cM_init 27 = .ok (.putfield 16, 3) := by decide +kernel
theorem dM_init_30 : decode cM_init 30 = .ok (.aload_n 0, 1) := by decide +kernel
theorem dM_init_31 : decode cM_init 31 = .ok (.sipush 256, 3) := by decide +kernel
theorem dM_init_34 : decode cM_init 34 = .ok (.newarray .int, 2) := by decide +kernel
theorem dM_init_36 : decode cM_init 36 = .ok (.putfield 19, 3) := by decide +kernel
theorem dM_init_39 : decode cM_init 39 = .ok (.aload_n 0, 1) := by decide +kernel
theorem dM_init_40 : decode cM_init 40 = .ok (.sipush 176, 3) := by decide +kernel
theorem dM_init_43 : decode cM_init 43 = .ok (.newarray .int, 2) := by decide +kernel
theorem dM_init_45 : decode cM_init 45 = .ok (.putfield 22, 3) := by decide +kernel
theorem dM_init_48 : decode cM_init 48 = .ok (.aload_n 0, 1) := by decide +kernel
theorem dM_init_49 : decode cM_init 49 = .ok (.bipush 16, 2) := by decide +kernel
theorem dM_init_51 : decode cM_init 51 = .ok (.newarray .int, 2) := by decide +kernel
theorem dM_init_53 : decode cM_init 53 = .ok (.putfield 25, 3) := by decide +kernel
theorem dM_init_56 : decode cM_init 56 = .ok (.aload_n 0, 1) := by decide +kernel
theorem dM_init_57 : decode cM_init 57 = .ok (.bipush 16, 2) := by decide +kernel
theorem dM_init_59 : decode cM_init 59 = .ok (.newarray .int, 2) := by decide +kernel
theorem dM_init_61 : decode cM_init 61 = .ok (.putfield 28, 3) := by decide +kernel
theorem dM_init_64 : decode cM_init 64 = .ok (.aload_n 0, 1) := by decide +kernel
theorem dM_init_65 : decode cM_init 65 = .ok (.bipush 16, 2) := by decide +kernel
theorem dM_init_67 : decode cM_init 67 = .ok (.newarray .int, 2) := by decide +kernel
theorem dM_init_69 : decode cM_init 69 = .ok (.putfield 31, 3) := by decide +kernel
theorem dM_init_72 : decode cM_init 72 = .ok (.iconst 0, 1) := by decide +kernel
theorem dM_init_73 : decode cM_init 73 = .ok (.istore_n 1, 1) := by decide +kernel
theorem dM_init_74 : decode cM_init 74 = .ok (.iload_n 1, 1) := by decide +kernel
theorem dM_init_75 : decode cM_init 75 = .ok (.sipush 256, 3) := by decide +kernel
theorem dM_init_78 : decode cM_init 78 = .ok (.if_icmp .ge 31, 3) := by decide +kernel
theorem dM_init_81 : decode cM_init 81 = .ok (.aload_n 0, 1) := by decide +kernel
theorem dM_init_82 : decode cM_init 82 = .ok (.getfield 16, 3) := by decide +kernel
theorem dM_init_85 : decode cM_init 85 = .ok (.iload_n 1, 1) := by decide +kernel
theorem dM_init_86 : decode cM_init 86 = .ok (.iload_n 1, 1) := by decide +kernel
theorem dM_init_87 : decode cM_init 87 = .ok (.invokestatic 34, 3) := by decide +kernel
theorem dM_init_90 : decode cM_init 90 = .ok (.iastore, 1) := by decide +kernel
theorem dM_init_91 : decode cM_init 91 = .ok (.aload_n 0, 1) := by decide +kernel
theorem dM_init_92 : decode cM_init 92 = .ok (.getfield 19, 3) := by decide +kernel
theorem dM_init_95 : decode cM_init 95 = .ok (.aload_n 0, 1) := by decide +kernel
theorem dM_init_96 : decode cM_init 96 = .ok (.getfield 16, 3) := by decide +kernel
theorem dM_init_99 : decode cM_init 99 = .ok (.iload_n 1, 1) := by decide +kernel
theorem dM_init_100 : decode cM_init 100 = .ok (.iaload, 1) := by decide +kernel
theorem dM_init_101 : decode cM_init 101 = .ok (.iload_n 1, 1) := by decide +kernel
theorem dM_init_102 : decode cM_init 102 = .ok (.iastore, 1) := by decide +kernel
theorem dM_init_103 : decode cM_init 103 = .ok (.iinc 1 1, 3) := by decide +kernel
theorem dM_init_106 : decode cM_init 106 = .ok (.goto (-32), 3) := by decide +kernel
theorem dM_init_109 : decode cM_init 109 = .ok (.return_, 1) := by decide +kernel
theorem dM_thrown_0 : decode cM_thrown 0 = .ok (.aload_n 0, 1) := by decide +kernel
theorem dM_thrown_1 : decode cM_thrown 1 = .ok (.getfield 38, 3) := by decide +kernel
theorem dM_thrown_4 : decode cM_thrown 4 = .ok (.ireturn, 1) := by decide +kernel
theorem dM_times_0 : decode cM_times 0 = .ok (.iconst 0, 1) := by decide +kernel
theorem dM_times_1 : decode cM_times 1 = .ok (.istore_n 2, 1) := by decide +kernel
theorem dM_times_2 : decode cM_times 2 = .ok (.iload_n 0, 1) := by decide +kernel
theorem dM_times_3 : decode cM_times 3 = .ok (.istore_n 3, 1) := by decide +kernel
theorem dM_times_4 : decode cM_times 4 = .ok (.iconst 0, 1) := by decide +kernel
theorem dM_times_5 : decode cM_times 5 = .ok (.istore 4, 2) := by decide +kernel
theorem dM_times_7 : decode cM_times 7 = .ok (.iload 4, 2) := by decide +kernel
theorem dM_times_9 : decode cM_times 9 = .ok (.bipush 8, 2) := by decide +kernel
theorem dM_times_11 : decode cM_times 11 = .ok (.if_icmp .ge 41, 3) := by decide +kernel
theorem dM_times_14 : decode cM_times 14 = .ok (.iload_n 1, 1) := by decide +kernel
theorem dM_times_15 : decode cM_times 15 = .ok (.iload 4, 2) := by decide +kernel
theorem dM_times_17 : decode cM_times 17 = .ok (.ishr, 1) := by decide +kernel
theorem dM_times_18 : decode cM_times 18 = .ok (.iconst 1, 1) := by decide +kernel
theorem dM_times_19 : decode cM_times 19 = .ok (.iand, 1) := by decide +kernel
theorem dM_times_20 : decode cM_times 20 = .ok (.iconst 1, 1) := by decide +kernel
theorem dM_times_21 : decode cM_times 21 = .ok (.if_icmp .ne 7, 3) := by decide +kernel
theorem dM_times_24 : decode cM_times 24 = .ok (.iload_n 2, 1) := by decide +kernel
theorem dM_times_25 : decode cM_times 25 = .ok (.iload_n 3, 1) := by decide +kernel
theorem dM_times_26 : decode cM_times 26 = .ok (.ixor, 1) := by decide +kernel
theorem dM_times_27 : decode cM_times 27 = .ok (.istore_n 2, 1) := by decide +kernel
theorem dM_times_28 : decode cM_times 28 = .ok (.iload_n 3, 1) := by decide +kernel
theorem dM_times_29 : decode cM_times 29 = .ok (.iconst 1, 1) := by decide +kernel
theorem dM_times_30 : decode cM_times 30 = .ok (.ishl, 1) := by decide +kernel
theorem dM_times_31 : decode cM_times 31 = .ok (.iload_n 3, 1) := by decide +kernel
theorem dM_times_32 : decode cM_times 32 = .ok (.bipush 127, 2) := by decide +kernel
theorem dM_times_34 : decode cM_times 34 = .ok (.if_icmp .le 9, 3) := by decide +kernel
theorem dM_times_37 : decode cM_times 37 = .ok (.sipush 283, 3) := by decide +kernel
theorem dM_times_40 : decode cM_times 40 = .ok (.goto 4, 3) := by decide +kernel
theorem dM_times_43 : decode cM_times 43 = .ok (.iconst 0, 1) := by decide +kernel
theorem dM_times_44 : decode cM_times 44 = .ok (.ixor, 1) := by decide +kernel
theorem dM_times_45 : decode cM_times 45 = .ok (.istore_n 3, 1) := by decide +kernel
theorem dM_times_46 : decode cM_times 46 = .ok (.iinc 4 1, 3) := by decide +kernel
theorem dM_times_49 : decode cM_times 49 = .ok (.goto (-42), 3) := by decide +kernel
theorem dM_times_52 : decode cM_times 52 = .ok (.iload_n 2, 1) := by decide +kernel
theorem dM_times_53 : decode cM_times 53 = .ok (.ireturn, 1) := by decide +kernel
theorem dM_substitute_0 : decode cM_substitute 0 = .ok (.iconst 0, 1) := by decide +kernel
theorem dM_substitute_1 : decode cM_substitute 1 = .ok (.istore_n 1, 1) := by decide +kernel
theorem dM_substitute_2 : decode cM_substitute 2 = .ok (.iconst 1, 1) := by decide +kernel
theorem dM_substitute_3 : decode cM_substitute 3 = .ok (.istore_n 2, 1) := by decide +kernel
theorem dM_substitute_4 : decode cM_substitute 4 = .ok (.iload_n 2, 1) := by decide +kernel
theorem dM_substitute_5 : decode cM_substitute 5 = .ok (.sipush 256, 3) := by decide +kernel
theorem dM_substitute_8 : decode cM_substitute 8 = .ok (.if_icmp .ge 24, 3) := by decide +kernel
theorem dM_substitute_11 : decode cM_substitute 11 = .ok (.iload_n 1, 1) := by decide +kernel
theorem dM_substitute_12 : decode cM_substitute 12 = .ok (.ifCond .ne 20, 3) := by decide +kernel
theorem dM_substitute_15 : decode cM_substitute 15 = .ok (.iload_n 0, 1) := by decide +kernel
theorem dM_substitute_16 : decode cM_substitute 16 = .ok (.iload_n 2, 1) := by decide +kernel
theorem dM_substitute_17 : decode cM_substitute 17 = .ok (.invokestatic 42, 3) := by decide +kernel
theorem dM_substitute_20 : decode cM_substitute 20 = .ok (.iconst 1, 1) := by decide +kernel
theorem dM_substitute_21 : decode cM_substitute 21 = .ok (.if_icmp .ne 5, 3) := by decide +kernel
theorem dM_substitute_24 : decode cM_substitute 24 = .ok (.iload_n 2, 1) := by decide +kernel
theorem dM_substitute_25 : decode cM_substitute 25 = .ok (.istore_n 1, 1) := by decide +kernel
theorem dM_substitute_26 : decode cM_substitute 26 = .ok (.iinc 2 1, 3) := by decide +kernel
theorem dM_substitute_29 : decode cM_substitute 29 = .ok (.goto (-25), 3) := by decide +kernel
theorem dM_substitute_32 : decode cM_substitute 32 = .ok (.bipush 99, 2) := by decide +kernel
theorem dM_substitute_34 : decode cM_substitute 34 = .ok (.istore_n 2, 1) := by decide +kernel
theorem dM_substitute_35 : decode cM_substitute 35 = .ok (.iconst 0, 1) := by decide +kernel
theorem dM_substitute_36 : decode cM_substitute 36 = .ok (.istore_n 3, 1) := by decide +kernel
theorem dM_substitute_37 : decode cM_substitute 37 = .ok (.iload_n 3, 1) := by decide +kernel
theorem dM_substitute_38 : decode cM_substitute 38 = .ok (.iconst 5, 1) := by decide +kernel
theorem dM_substitute_39 : decode cM_substitute 39 = .ok (.if_icmp .ge 26, 3) := by decide +kernel
theorem dM_substitute_42 : decode cM_substitute 42 = .ok (.iload_n 2, 1) := by decide +kernel
theorem dM_substitute_43 : decode cM_substitute 43 = .ok (.iload_n 1, 1) := by decide +kernel
theorem dM_substitute_44 : decode cM_substitute 44 = .ok (.iload_n 3, 1) := by decide +kernel
theorem dM_substitute_45 : decode cM_substitute 45 = .ok (.ishl, 1) := by decide +kernel
theorem dM_substitute_46 : decode cM_substitute 46 = .ok (.iload_n 1, 1) := by decide +kernel
theorem dM_substitute_47 : decode cM_substitute 47 = .ok (.bipush 8, 2) := by decide +kernel
theorem dM_substitute_49 : decode cM_substitute 49 = .ok (.iload_n 3, 1) := by decide +kernel
theorem dM_substitute_50 : decode cM_substitute 50 = .ok (.isub, 1) := by decide +kernel
theorem dM_substitute_51 : decode cM_substitute 51 = .ok (.ishr, 1) := by decide +kernel
theorem dM_substitute_52 : decode cM_substitute 52 = .ok (.ior, 1) := by decide +kernel
theorem dM_substitute_53 : decode cM_substitute 53 = .ok (.sipush 255, 3) := by decide +kernel
theorem dM_substitute_56 : decode cM_substitute 56 = .ok (.iand, 1) := by decide +kernel
theorem dM_substitute_57 : decode cM_substitute 57 = .ok (.ixor, 1) := by decide +kernel
theorem dM_substitute_58 : decode cM_substitute 58 = .ok (.istore_n 2, 1) := by decide +kernel
theorem dM_substitute_59 : decode cM_substitute 59 = .ok (.iinc 3 1, 3) := by decide +kernel
theorem dM_substitute_62 : decode cM_substitute 62 = .ok (.goto (-25), 3) := by decide +kernel
theorem dM_substitute_65 : decode cM_substitute 65 = .ok (.iload_n 2, 1) := by decide +kernel
theorem dM_substitute_66 : decode cM_substitute 66 = .ok (.ireturn, 1) := by decide +kernel
theorem dM_lay_0 : decode cM_lay 0 = .ok (.iconst 0, 1) := by decide +kernel
theorem dM_lay_1 : decode cM_lay 1 = .ok (.istore 4, 2) := by decide +kernel
theorem dM_lay_3 : decode cM_lay 3 = .ok (.iload 4, 2) := by decide +kernel
theorem dM_lay_5 : decode cM_lay 5 = .ok (.bipush 8, 2) := by decide +kernel
theorem dM_lay_7 : decode cM_lay 7 = .ok (.if_icmp .ge 30, 3) := by decide +kernel
theorem dM_lay_10 : decode cM_lay 10 = .ok (.aload_n 0, 1) := by decide +kernel
theorem dM_lay_11 : decode cM_lay 11 = .ok (.iload_n 1, 1) := by decide +kernel
theorem dM_lay_12 : decode cM_lay 12 = .ok (.iload 4, 2) := by decide +kernel
theorem dM_lay_14 : decode cM_lay 14 = .ok (.iadd, 1) := by decide +kernel
theorem dM_lay_15 : decode cM_lay 15 = .ok (.lload_n 2, 1) := by decide +kernel
theorem dM_lay_16 : decode cM_lay 16 = .ok (.bipush 56, 2) := by decide +kernel
theorem dM_lay_18 : decode cM_lay 18 = .ok (.bipush 8, 2) := by decide +kernel
theorem dM_lay_20 : decode cM_lay 20 = .ok (.iload 4, 2) := by decide +kernel
theorem dM_lay_22 : decode cM_lay 22 = .ok (.imul, 1) := by decide +kernel
theorem dM_lay_23 : decode cM_lay 23 = .ok (.isub, 1) := by decide +kernel
theorem dM_lay_24 : decode cM_lay 24 = .ok (.lshr, 1) := by decide +kernel
theorem dM_lay_25 : decode cM_lay 25 = .ok (.l2i, 1) := by decide +kernel
theorem dM_lay_26 : decode cM_lay 26 = .ok (.sipush 255, 3) := by decide +kernel
theorem dM_lay_29 : decode cM_lay 29 = .ok (.iand, 1) := by decide +kernel
theorem dM_lay_30 : decode cM_lay 30 = .ok (.iastore, 1) := by decide +kernel
theorem dM_lay_31 : decode cM_lay 31 = .ok (.iinc 4 1, 3) := by decide +kernel
theorem dM_lay_34 : decode cM_lay 34 = .ok (.goto (-31), 3) := by decide +kernel
theorem dM_lay_37 : decode cM_lay 37 = .ok (.return_, 1) := by decide +kernel
theorem dM_read_0 : decode cM_read 0 = .ok (.lconst 0, 1) := by decide +kernel
theorem dM_read_1 : decode cM_read 1 = .ok (.lstore_n 2, 1) := by decide +kernel
theorem dM_read_2 : decode cM_read 2 = .ok (.iconst 0, 1) := by decide +kernel
theorem dM_read_3 : decode cM_read 3 = .ok (.istore 4, 2) := by decide +kernel
theorem dM_read_5 : decode cM_read 5 = .ok (.iload 4, 2) := by decide +kernel
theorem dM_read_7 : decode cM_read 7 = .ok (.bipush 8, 2) := by decide +kernel
theorem dM_read_9 : decode cM_read 9 = .ok (.if_icmp .ge 22, 3) := by decide +kernel
theorem dM_read_12 : decode cM_read 12 = .ok (.lload_n 2, 1) := by decide +kernel
theorem dM_read_13 : decode cM_read 13 = .ok (.bipush 8, 2) := by decide +kernel
theorem dM_read_15 : decode cM_read 15 = .ok (.lshl, 1) := by decide +kernel
theorem dM_read_16 : decode cM_read 16 = .ok (.aload_n 0, 1) := by decide +kernel
theorem dM_read_17 : decode cM_read 17 = .ok (.iload_n 1, 1) := by decide +kernel
theorem dM_read_18 : decode cM_read 18 = .ok (.iload 4, 2) := by decide +kernel
theorem dM_read_20 : decode cM_read 20 = .ok (.iadd, 1) := by decide +kernel
theorem dM_read_21 : decode cM_read 21 = .ok (.iaload, 1) := by decide +kernel
theorem dM_read_22 : decode cM_read 22 = .ok (.i2l, 1) := by decide +kernel
theorem dM_read_23 : decode cM_read 23 = .ok (.lor, 1) := by decide +kernel
theorem dM_read_24 : decode cM_read 24 = .ok (.lstore_n 2, 1) := by decide +kernel
theorem dM_read_25 : decode cM_read 25 = .ok (.iinc 4 1, 3) := by decide +kernel
theorem dM_read_28 : decode cM_read 28 = .ok (.goto (-23), 3) := by decide +kernel
theorem dM_read_31 : decode cM_read 31 = .ok (.lload_n 2, 1) := by decide +kernel
theorem dM_read_32 : decode cM_read 32 = .ok (.lreturn, 1) := by decide +kernel
theorem dM_key_0 : decode cM_key 0 = .ok (.aload_n 0, 1) := by decide +kernel
theorem dM_key_1 : decode cM_key 1 = .ok (.iconst 0, 1) := by decide +kernel
theorem dM_key_2 : decode cM_key 2 = .ok (.putfield 38, 3) := by decide +kernel
theorem dM_key_5 : decode cM_key 5 = .ok (.aload_n 0, 1) := by decide +kernel
theorem dM_key_6 : decode cM_key 6 = .ok (.getfield 7, 3) := by decide +kernel
theorem dM_key_9 : decode cM_key 9 = .ok (.iconst 0, 1) := by decide +kernel
theorem dM_key_10 : decode cM_key 10 = .ok (.lload_n 1, 1) := by decide +kernel
theorem dM_key_11 : decode cM_key 11 = .ok (.invokestatic 46, 3) := by decide +kernel
theorem dM_key_14 : decode cM_key 14 = .ok (.aload_n 0, 1) := by decide +kernel
theorem dM_key_15 : decode cM_key 15 = .ok (.getfield 7, 3) := by decide +kernel
theorem dM_key_18 : decode cM_key 18 = .ok (.bipush 8, 2) := by decide +kernel
theorem dM_key_20 : decode cM_key 20 = .ok (.lload_n 3, 1) := by decide +kernel
theorem dM_key_21 : decode cM_key 21 = .ok (.invokestatic 46, 3) := by decide +kernel
theorem dM_key_24 : decode cM_key 24 = .ok (.aload_n 0, 1) := by decide +kernel
theorem dM_key_25 : decode cM_key 25 = .ok (.getfield 7, 3) := by decide +kernel
theorem dM_key_28 : decode cM_key 28 = .ok (.bipush 16, 2) := by decide +kernel
theorem dM_key_30 : decode cM_key 30 = .ok (.lload 5, 2) := by decide +kernel
theorem dM_key_32 : decode cM_key 32 = .ok (.invokestatic 46, 3) := by decide +kernel
theorem dM_key_35 : decode cM_key 35 = .ok (.aload_n 0, 1) := by decide +kernel
theorem dM_key_36 : decode cM_key 36 = .ok (.getfield 7, 3) := by decide +kernel
theorem dM_key_39 : decode cM_key 39 = .ok (.bipush 24, 2) := by decide +kernel
theorem dM_key_41 : decode cM_key 41 = .ok (.lload 7, 2) := by decide +kernel
theorem dM_key_43 : decode cM_key 43 = .ok (.invokestatic 46, 3) := by decide +kernel
theorem dM_key_46 : decode cM_key 46 = .ok (.return_, 1) := by decide +kernel
theorem dM_isIn_0 : decode cM_isIn 0 = .ok (.aload_n 0, 1) := by decide +kernel
theorem dM_isIn_1 : decode cM_isIn 1 = .ok (.iload_n 1, 1) := by decide +kernel
theorem dM_isIn_2 : decode cM_isIn 2 = .ok (.ifCond .lt 8, 3) := by decide +kernel
theorem dM_isIn_5 : decode cM_isIn 5 = .ok (.iload_n 1, 1) := by decide +kernel
theorem dM_isIn_6 : decode cM_isIn 6 = .ok (.iload_n 2, 1) := by decide +kernel
theorem dM_isIn_7 : decode cM_isIn 7 = .ok (.if_icmp .lt 7, 3) := by decide +kernel
theorem dM_isIn_10 : decode cM_isIn 10 = .ok (.iconst 1, 1) := by decide +kernel
theorem dM_isIn_11 : decode cM_isIn 11 = .ok (.goto 4, 3) := by decide +kernel
theorem dM_isIn_14 : decode cM_isIn 14 = .ok (.iconst 0, 1) := by decide +kernel
theorem dM_isIn_15 : decode cM_isIn 15 = .ok (.putfield 38, 3) := by decide +kernel
theorem dM_isIn_18 : decode cM_isIn 18 = .ok (.aload_n 0, 1) := by decide +kernel
theorem dM_isIn_19 : decode cM_isIn 19 = .ok (.getfield 38, 3) := by decide +kernel
theorem dM_isIn_22 : decode cM_isIn 22 = .ok (.ifCond .ne 7, 3) := by decide +kernel
theorem dM_isIn_25 : decode cM_isIn 25 = .ok (.iconst 1, 1) := by decide +kernel
theorem dM_isIn_26 : decode cM_isIn 26 = .ok (.goto 4, 3) := by decide +kernel
theorem dM_isIn_29 : decode cM_isIn 29 = .ok (.iconst 0, 1) := by decide +kernel
theorem dM_isIn_30 : decode cM_isIn 30 = .ok (.ireturn, 1) := by decide +kernel
theorem dM_put_0 : decode cM_put 0 = .ok (.aload_n 0, 1) := by decide +kernel
theorem dM_put_1 : decode cM_put 1 = .ok (.iload_n 1, 1) := by decide +kernel
theorem dM_put_2 : decode cM_put 2 = .ok (.bipush 16, 2) := by decide +kernel
theorem dM_put_4 : decode cM_put 4 = .ok (.invokevirtual 50, 3) := by decide +kernel
theorem dM_put_7 : decode cM_put 7 = .ok (.ifCond .ne 5, 3) := by decide +kernel
theorem dM_put_10 : decode cM_put 10 = .ok (.lconst 0, 1) := by decide +kernel
theorem dM_put_11 : decode cM_put 11 = .ok (.lreturn, 1) := by decide +kernel
theorem dM_put_12 : decode cM_put 12 = .ok (.aload_n 0, 1) := by decide +kernel
theorem dM_put_13 : decode cM_put 13 = .ok (.getfield 13, 3) := by decide +kernel
theorem dM_put_16 : decode cM_put 16 = .ok (.bipush 8, 2) := by decide +kernel
theorem dM_put_18 : decode cM_put 18 = .ok (.iload_n 1, 1) := by decide +kernel
theorem dM_put_19 : decode cM_put 19 = .ok (.imul, 1) := by decide +kernel
theorem dM_put_20 : decode cM_put 20 = .ok (.invokestatic 54, 3) := by decide +kernel
theorem dM_put_23 : decode cM_put 23 = .ok (.lstore 4, 2) := by decide +kernel
theorem dM_put_25 : decode cM_put 25 = .ok (.aload_n 0, 1) := by decide +kernel
theorem dM_put_26 : decode cM_put 26 = .ok (.getfield 13, 3) := by decide +kernel
theorem dM_put_29 : decode cM_put 29 = .ok (.bipush 8, 2) := by decide +kernel
theorem dM_put_31 : decode cM_put 31 = .ok (.iload_n 1, 1) := by decide +kernel
theorem dM_put_32 : decode cM_put 32 = .ok (.imul, 1) := by decide +kernel
theorem dM_put_33 : decode cM_put 33 = .ok (.lload_n 2, 1) := by decide +kernel
theorem dM_put_34 : decode cM_put 34 = .ok (.invokestatic 46, 3) := by decide +kernel
theorem dM_put_37 : decode cM_put 37 = .ok (.lload 4, 2) := by decide +kernel
theorem dM_put_39 : decode cM_put 39 = .ok (.lreturn, 1) := by decide +kernel
theorem dM_get_0 : decode cM_get 0 = .ok (.aload_n 0, 1) := by decide +kernel
theorem dM_get_1 : decode cM_get 1 = .ok (.iload_n 1, 1) := by decide +kernel
theorem dM_get_2 : decode cM_get 2 = .ok (.bipush 16, 2) := by decide +kernel
theorem dM_get_4 : decode cM_get 4 = .ok (.invokevirtual 50, 3) := by decide +kernel
theorem dM_get_7 : decode cM_get 7 = .ok (.ifCond .eq 17, 3) := by decide +kernel
theorem dM_get_10 : decode cM_get 10 = .ok (.aload_n 0, 1) := by decide +kernel
theorem dM_get_11 : decode cM_get 11 = .ok (.getfield 13, 3) := by decide +kernel
theorem dM_get_14 : decode cM_get 14 = .ok (.bipush 8, 2) := by decide +kernel
theorem dM_get_16 : decode cM_get 16 = .ok (.iload_n 1, 1) := by decide +kernel
theorem dM_get_17 : decode cM_get 17 = .ok (.imul, 1) := by decide +kernel
theorem dM_get_18 : decode cM_get 18 = .ok (.invokestatic 54, 3) := by decide +kernel
theorem dM_get_21 : decode cM_get 21 = .ok (.goto 4, 3) := by decide +kernel
theorem dM_get_24 : decode cM_get 24 = .ok (.lconst 0, 1) := by decide +kernel
theorem dM_get_25 : decode cM_get 25 = .ok (.lreturn, 1) := by decide +kernel
theorem dM_expand_0 : decode cM_expand 0 = .ok (.iconst 1, 1) := by decide +kernel
theorem dM_expand_1 : decode cM_expand 1 = .ok (.istore_n 2, 1) := by decide +kernel
theorem dM_expand_2 : decode cM_expand 2 = .ok (.iconst 0, 1) := by decide +kernel
theorem dM_expand_3 : decode cM_expand 3 = .ok (.istore_n 3, 1) := by decide +kernel
theorem dM_expand_4 : decode cM_expand 4 = .ok (.iload_n 3, 1) := by decide +kernel
theorem dM_expand_5 : decode cM_expand 5 = .ok (.sipush 176, 3) := by decide +kernel
theorem dM_expand_8 : decode cM_expand 8 = .ok (.if_icmp .ge 135, 3) := by decide +kernel
theorem dM_expand_11 : decode cM_expand 11 = .ok (.iload_n 3, 1) := by decide +kernel
theorem dM_expand_12 : decode cM_expand 12 = .ok (.bipush 16, 2) := by decide +kernel
theorem dM_expand_14 : decode cM_expand 14 = .ok (.if_icmp .ge 23, 3) := by decide +kernel
theorem dM_expand_17 : decode cM_expand 17 = .ok (.aload_n 0, 1) := by decide +kernel
theorem dM_expand_18 : decode cM_expand 18 = .ok (.getfield 22, 3) := by decide +kernel
theorem dM_expand_21 : decode cM_expand 21 = .ok (.iload_n 3, 1) := by decide +kernel
theorem dM_expand_22 : decode cM_expand 22 = .ok (.aload_n 0, 1) := by decide +kernel
theorem dM_expand_23 : decode cM_expand 23 = .ok (.getfield 7, 3) := by decide +kernel
theorem dM_expand_26 : decode cM_expand 26 = .ok (.bipush 16, 2) := by decide +kernel
theorem dM_expand_28 : decode cM_expand 28 = .ok (.iload_n 1, 1) := by decide +kernel
theorem dM_expand_29 : decode cM_expand 29 = .ok (.imul, 1) := by decide +kernel
theorem dM_expand_30 : decode cM_expand 30 = .ok (.iload_n 3, 1) := by decide +kernel
theorem dM_expand_31 : decode cM_expand 31 = .ok (.iadd, 1) := by decide +kernel
theorem dM_expand_32 : decode cM_expand 32 = .ok (.iaload, 1) := by decide +kernel
theorem dM_expand_33 : decode cM_expand 33 = .ok (.iastore, 1) := by decide +kernel
theorem dM_expand_34 : decode cM_expand 34 = .ok (.goto 103, 3) := by decide +kernel
theorem dM_expand_37 : decode cM_expand 37 = .ok (.iload_n 3, 1) := by decide +kernel
theorem dM_expand_38 : decode cM_expand 38 = .ok (.bipush 16, 2) := by decide +kernel
theorem dM_expand_40 : decode cM_expand 40 = .ok (.irem, 1) := by decide +kernel
theorem dM_expand_41 : decode cM_expand 41 = .ok (.iconst 4, 1) := by decide +kernel
theorem dM_expand_42 : decode cM_expand 42 = .ok (.if_icmp .ge 7, 3) := by decide +kernel
theorem dM_expand_45 : decode cM_expand 45 = .ok (.iconst 1, 1) := by decide +kernel
theorem dM_expand_46 : decode cM_expand 46 = .ok (.goto 4, 3) := by decide +kernel
theorem dM_expand_49 : decode cM_expand 49 = .ok (.iconst 0, 1) := by decide +kernel
theorem dM_expand_50 : decode cM_expand 50 = .ok (.istore 4, 2) := by decide +kernel
theorem dM_expand_52 : decode cM_expand 52 = .ok (.iload 4, 2) := by decide +kernel
theorem dM_expand_54 : decode cM_expand 54 = .ok (.ifCond .eq 29, 3) := by decide +kernel
theorem dM_expand_57 : decode cM_expand 57 = .ok (.aload_n 0, 1) := by decide +kernel
theorem dM_expand_58 : decode cM_expand 58 = .ok (.getfield 16, 3) := by decide +kernel
theorem dM_expand_61 : decode cM_expand 61 = .ok (.aload_n 0, 1) := by decide +kernel
theorem dM_expand_62 : decode cM_expand 62 = .ok (.getfield 22, 3) := by decide +kernel
theorem dM_expand_65 : decode cM_expand 65 = .ok (.iload_n 3, 1) := by decide +kernel
theorem dM_expand_66 : decode cM_expand 66 = .ok (.iload_n 3, 1) := by decide +kernel
theorem dM_expand_67 : decode cM_expand 67 = .ok (.iconst 4, 1) := by decide +kernel
theorem dM_expand_68 : decode cM_expand 68 = .ok (.irem, 1) := by decide +kernel
theorem dM_expand_69 : decode cM_expand 69 = .ok (.isub, 1) := by decide +kernel
theorem dM_expand_70 : decode cM_expand 70 = .ok (.iconst 4, 1) := by decide +kernel
theorem dM_expand_71 : decode cM_expand 71 = .ok (.isub, 1) := by decide +kernel
theorem dM_expand_72 : decode cM_expand 72 = .ok (.iload_n 3, 1) := by decide +kernel
theorem dM_expand_73 : decode cM_expand 73 = .ok (.iconst 1, 1) := by decide +kernel
theorem dM_expand_74 : decode cM_expand 74 = .ok (.iadd, 1) := by decide +kernel
theorem dM_expand_75 : decode cM_expand 75 = .ok (.iconst 4, 1) := by decide +kernel
theorem dM_expand_76 : decode cM_expand 76 = .ok (.irem, 1) := by decide +kernel
theorem dM_expand_77 : decode cM_expand 77 = .ok (.iadd, 1) := by decide +kernel
theorem dM_expand_78 : decode cM_expand 78 = .ok (.iaload, 1) := by decide +kernel
theorem dM_expand_79 : decode cM_expand 79 = .ok (.iaload, 1) := by decide +kernel
theorem dM_expand_80 : decode cM_expand 80 = .ok (.goto 11, 3) := by decide +kernel
theorem dM_expand_83 : decode cM_expand 83 = .ok (.aload_n 0, 1) := by decide +kernel
theorem dM_expand_84 : decode cM_expand 84 = .ok (.getfield 22, 3) := by decide +kernel
theorem dM_expand_87 : decode cM_expand 87 = .ok (.iload_n 3, 1) := by decide +kernel
theorem dM_expand_88 : decode cM_expand 88 = .ok (.iconst 4, 1) := by decide +kernel
theorem dM_expand_89 : decode cM_expand 89 = .ok (.isub, 1) := by decide +kernel
theorem dM_expand_90 : decode cM_expand 90 = .ok (.iaload, 1) := by decide +kernel
theorem dM_expand_91 : decode cM_expand 91 = .ok (.istore 5, 2) := by decide +kernel
theorem dM_expand_93 : decode cM_expand 93 = .ok (.aload_n 0, 1) := by decide +kernel
theorem dM_expand_94 : decode cM_expand 94 = .ok (.getfield 22, 3) := by decide +kernel
theorem dM_expand_97 : decode cM_expand 97 = .ok (.iload_n 3, 1) := by decide +kernel
theorem dM_expand_98 : decode cM_expand 98 = .ok (.aload_n 0, 1) := by decide +kernel
theorem dM_expand_99 : decode cM_expand 99 = .ok (.getfield 22, 3) := by decide +kernel
theorem dM_expand_102 : decode cM_expand 102 = .ok (.iload_n 3, 1) := by decide +kernel
theorem dM_expand_103 : decode cM_expand 103 = .ok (.bipush 16, 2) := by decide +kernel
theorem dM_expand_105 : decode cM_expand 105 = .ok (.isub, 1) := by decide +kernel
theorem dM_expand_106 : decode cM_expand 106 = .ok (.iaload, 1) := by decide +kernel
theorem dM_expand_107 : decode cM_expand 107 = .ok (.iload 5, 2) := by decide +kernel
theorem dM_expand_109 : decode cM_expand 109 = .ok (.ixor, 1) := by decide +kernel
theorem dM_expand_110 : decode cM_expand 110 = .ok (.iload_n 3, 1) := by decide +kernel
theorem dM_expand_111 : decode cM_expand 111 = .ok (.bipush 16, 2) := by decide +kernel
theorem dM_expand_113 : decode cM_expand 113 = .ok (.irem, 1) := by decide +kernel
theorem dM_expand_114 : decode cM_expand 114 = .ok (.ifCond .ne 7, 3) := by decide +kernel
theorem dM_expand_117 : decode cM_expand 117 = .ok (.iload_n 2, 1) := by decide +kernel
theorem dM_expand_118 : decode cM_expand 118 = .ok (.goto 4, 3) := by decide +kernel
theorem dM_expand_121 : decode cM_expand 121 = .ok (.iconst 0, 1) := by decide +kernel
theorem dM_expand_122 : decode cM_expand 122 = .ok (.ixor, 1) := by decide +kernel
theorem dM_expand_123 : decode cM_expand 123 = .ok (.iastore, 1) := by decide +kernel
theorem dM_expand_124 : decode cM_expand 124 = .ok (.iload_n 3, 1) := by decide +kernel
theorem dM_expand_125 : decode cM_expand 125 = .ok (.bipush 16, 2) := by decide +kernel
theorem dM_expand_127 : decode cM_expand 127 = .ok (.irem, 1) := by decide +kernel
theorem dM_expand_128 : decode cM_expand 128 = .ok (.ifCond .ne 9, 3) := by decide +kernel
theorem dM_expand_131 : decode cM_expand 131 = .ok (.iload_n 2, 1) := by decide +kernel
theorem dM_expand_132 : decode cM_expand 132 = .ok (.iconst 2, 1) := by decide +kernel
theorem dM_expand_133 : decode cM_expand 133 = .ok (.invokestatic 42, 3) := by decide +kernel
theorem dM_expand_136 : decode cM_expand 136 = .ok (.istore_n 2, 1) := by decide +kernel
theorem dM_expand_137 : decode cM_expand 137 = .ok (.iinc 3 1, 3) := by decide +kernel
theorem dM_expand_140 : decode cM_expand 140 = .ok (.goto (-136), 3) := by decide +kernel
theorem dM_expand_143 : decode cM_expand 143 = .ok (.return_, 1) := by decide +kernel
theorem dM_add_0 : decode cM_add 0 = .ok (.iconst 0, 1) := by decide +kernel
theorem dM_add_1 : decode cM_add 1 = .ok (.istore_n 2, 1) := by decide +kernel
theorem dM_add_2 : decode cM_add 2 = .ok (.iload_n 2, 1) := by decide +kernel
theorem dM_add_3 : decode cM_add 3 = .ok (.bipush 16, 2) := by decide +kernel
theorem dM_add_5 : decode cM_add 5 = .ok (.if_icmp .ge 33, 3) := by decide +kernel
theorem dM_add_8 : decode cM_add 8 = .ok (.aload_n 0, 1) := by decide +kernel
theorem dM_add_9 : decode cM_add 9 = .ok (.getfield 25, 3) := by decide +kernel
theorem dM_add_12 : decode cM_add 12 = .ok (.iload_n 2, 1) := by decide +kernel
theorem dM_add_13 : decode cM_add 13 = .ok (.aload_n 0, 1) := by decide +kernel
theorem dM_add_14 : decode cM_add 14 = .ok (.getfield 25, 3) := by decide +kernel
theorem dM_add_17 : decode cM_add 17 = .ok (.iload_n 2, 1) := by decide +kernel
theorem dM_add_18 : decode cM_add 18 = .ok (.iaload, 1) := by decide +kernel
theorem dM_add_19 : decode cM_add 19 = .ok (.aload_n 0, 1) := by decide +kernel
theorem dM_add_20 : decode cM_add 20 = .ok (.getfield 22, 3) := by decide +kernel
theorem dM_add_23 : decode cM_add 23 = .ok (.bipush 16, 2) := by decide +kernel
theorem dM_add_25 : decode cM_add 25 = .ok (.iload_n 1, 1) := by decide +kernel
theorem dM_add_26 : decode cM_add 26 = .ok (.imul, 1) := by decide +kernel
theorem dM_add_27 : decode cM_add 27 = .ok (.iload_n 2, 1) := by decide +kernel
theorem dM_add_28 : decode cM_add 28 = .ok (.iadd, 1) := by decide +kernel
theorem dM_add_29 : decode cM_add 29 = .ok (.iaload, 1) := by decide +kernel
theorem dM_add_30 : decode cM_add 30 = .ok (.ixor, 1) := by decide +kernel
theorem dM_add_31 : decode cM_add 31 = .ok (.iastore, 1) := by decide +kernel
theorem dM_add_32 : decode cM_add 32 = .ok (.iinc 2 1, 3) := by decide +kernel
theorem dM_add_35 : decode cM_add 35 = .ok (.goto (-33), 3) := by decide +kernel
theorem dM_add_38 : decode cM_add 38 = .ok (.return_, 1) := by decide +kernel
theorem dM_mix_0 : decode cM_mix 0 = .ok (.iconst 0, 1) := by decide +kernel
theorem dM_mix_1 : decode cM_mix 1 = .ok (.istore 5, 2) := by decide +kernel
theorem dM_mix_3 : decode cM_mix 3 = .ok (.iload 5, 2) := by decide +kernel
theorem dM_mix_5 : decode cM_mix 5 = .ok (.bipush 16, 2) := by decide +kernel
theorem dM_mix_7 : decode cM_mix 7 = .ok (.if_icmp .ge 23, 3) := by decide +kernel
theorem dM_mix_10 : decode cM_mix 10 = .ok (.aload_n 0, 1) := by decide +kernel
theorem dM_mix_11 : decode cM_mix 11 = .ok (.getfield 28, 3) := by decide +kernel
theorem dM_mix_14 : decode cM_mix 14 = .ok (.iload 5, 2) := by decide +kernel
theorem dM_mix_16 : decode cM_mix 16 = .ok (.aload_n 0, 1) := by decide +kernel
theorem dM_mix_17 : decode cM_mix 17 = .ok (.getfield 25, 3) := by decide +kernel
theorem dM_mix_20 : decode cM_mix 20 = .ok (.iload 5, 2) := by decide +kernel
theorem dM_mix_22 : decode cM_mix 22 = .ok (.iaload, 1) := by decide +kernel
theorem dM_mix_23 : decode cM_mix 23 = .ok (.iastore, 1) := by decide +kernel
theorem dM_mix_24 : decode cM_mix 24 = .ok (.iinc 5 1, 3) := by decide +kernel
theorem dM_mix_27 : decode cM_mix 27 = .ok (.goto (-24), 3) := by decide +kernel
theorem dM_mix_30 : decode cM_mix 30 = .ok (.iconst 0, 1) := by decide +kernel
theorem dM_mix_31 : decode cM_mix 31 = .ok (.istore 5, 2) := by decide +kernel
theorem dM_mix_33 : decode cM_mix 33 = .ok (.iload 5, 2) := by decide +kernel
theorem dM_mix_35 : decode cM_mix 35 = .ok (.bipush 16, 2) := by decide +kernel
theorem dM_mix_37 : decode cM_mix 37 = .ok (.if_icmp .ge 99, 3) := by decide +kernel
theorem dM_mix_40 : decode cM_mix 40 = .ok (.iload 5, 2) := by decide +kernel
theorem dM_mix_42 : decode cM_mix 42 = .ok (.iconst 4, 1) := by decide +kernel
theorem dM_mix_43 : decode cM_mix 43 = .ok (.idiv, 1) := by decide +kernel
theorem dM_mix_44 : decode cM_mix 44 = .ok (.iconst 4, 1) := by decide +kernel
theorem dM_mix_45 : decode cM_mix 45 = .ok (.imul, 1) := by decide +kernel
theorem dM_mix_46 : decode cM_mix 46 = .ok (.istore 6, 2) := by decide +kernel
theorem dM_mix_48 : decode cM_mix 48 = .ok (.iload 5, 2) := by decide +kernel
theorem dM_mix_50 : decode cM_mix 50 = .ok (.iconst 4, 1) := by decide +kernel
theorem dM_mix_51 : decode cM_mix 51 = .ok (.irem, 1) := by decide +kernel
theorem dM_mix_52 : decode cM_mix 52 = .ok (.istore 7, 2) := by decide +kernel
theorem dM_mix_54 : decode cM_mix 54 = .ok (.aload_n 0, 1) := by decide +kernel
theorem dM_mix_55 : decode cM_mix 55 = .ok (.getfield 25, 3) := by decide +kernel
theorem dM_mix_58 : decode cM_mix 58 = .ok (.iload 5, 2) := by decide +kernel
theorem dM_mix_60 : decode cM_mix 60 = .ok (.aload_n 0, 1) := by decide +kernel
theorem dM_mix_61 : decode cM_mix 61 = .ok (.getfield 28, 3) := by decide +kernel
theorem dM_mix_64 : decode cM_mix 64 = .ok (.iload 5, 2) := by decide +kernel
theorem dM_mix_66 : decode cM_mix 66 = .ok (.iaload, 1) := by decide +kernel
theorem dM_mix_67 : decode cM_mix 67 = .ok (.iload_n 1, 1) := by decide +kernel
theorem dM_mix_68 : decode cM_mix 68 = .ok (.invokestatic 42, 3) := by decide +kernel
theorem dM_mix_71 : decode cM_mix 71 = .ok (.aload_n 0, 1) := by decide +kernel
theorem dM_mix_72 : decode cM_mix 72 = .ok (.getfield 28, 3) := by decide +kernel
theorem dM_mix_75 : decode cM_mix 75 = .ok (.iload 6, 2) := by decide +kernel
theorem dM_mix_77 : decode cM_mix 77 = .ok (.iload 7, 2) := by decide +kernel
theorem dM_mix_79 : decode cM_mix 79 = .ok (.iconst 1, 1) := by decide +kernel
theorem dM_mix_80 : decode cM_mix 80 = .ok (.iadd, 1) := by decide +kernel
theorem dM_mix_81 : decode cM_mix 81 = .ok (.iconst 4, 1) := by decide +kernel
theorem dM_mix_82 : decode cM_mix 82 = .ok (.irem, 1) := by decide +kernel
theorem dM_mix_83 : decode cM_mix 83 = .ok (.iadd, 1) := by decide +kernel
theorem dM_mix_84 : decode cM_mix 84 = .ok (.iaload, 1) := by decide +kernel
theorem dM_mix_85 : decode cM_mix 85 = .ok (.iload_n 2, 1) := by decide +kernel
theorem dM_mix_86 : decode cM_mix 86 = .ok (.invokestatic 42, 3) := by decide +kernel
theorem dM_mix_89 : decode cM_mix 89 = .ok (.ixor, 1) := by decide +kernel
theorem dM_mix_90 : decode cM_mix 90 = .ok (.aload_n 0, 1) := by decide +kernel
theorem dM_mix_91 : decode cM_mix 91 = .ok (.getfield 28, 3) := by decide +kernel
theorem dM_mix_94 : decode cM_mix 94 = .ok (.iload 6, 2) := by decide +kernel
theorem dM_mix_96 : decode cM_mix 96 = .ok (.iload 7, 2) := by decide +kernel
theorem dM_mix_98 : decode cM_mix 98 = .ok (.iconst 2, 1) := by decide +kernel
theorem dM_mix_99 : decode cM_mix 99 = .ok (.iadd, 1) := by decide +kernel
theorem dM_mix_100 : decode cM_mix 100 = .ok (.iconst 4, 1) := by decide +kernel
theorem dM_mix_101 : decode cM_mix 101 = .ok (.irem, 1) := by decide +kernel
theorem dM_mix_102 : decode cM_mix 102 = .ok (.iadd, 1) := by decide +kernel
theorem dM_mix_103 : decode cM_mix 103 = .ok (.iaload, 1) := by decide +kernel
theorem dM_mix_104 : decode cM_mix 104 = .ok (.iload_n 3, 1) := by decide +kernel
theorem dM_mix_105 : decode cM_mix 105 = .ok (.invokestatic 42, 3) := by decide +kernel
theorem dM_mix_108 : decode cM_mix 108 = .ok (.ixor, 1) := by decide +kernel
theorem dM_mix_109 : decode cM_mix 109 = .ok (.aload_n 0, 1) := by decide +kernel
theorem dM_mix_110 : decode cM_mix 110 = .ok (.getfield 28, 3) := by decide +kernel
theorem dM_mix_113 : decode cM_mix 113 = .ok (.iload 6, 2) := by decide +kernel
theorem dM_mix_115 : decode cM_mix 115 = .ok (.iload 7, 2) := by decide +kernel
theorem dM_mix_117 : decode cM_mix 117 = .ok (.iconst 3, 1) := by decide +kernel
theorem dM_mix_118 : decode cM_mix 118 = .ok (.iadd, 1) := by decide +kernel
theorem dM_mix_119 : decode cM_mix 119 = .ok (.iconst 4, 1) := by decide +kernel
theorem dM_mix_120 : decode cM_mix 120 = .ok (.irem, 1) := by decide +kernel
theorem dM_mix_121 : decode cM_mix 121 = .ok (.iadd, 1) := by decide +kernel
theorem dM_mix_122 : decode cM_mix 122 = .ok (.iaload, 1) := by decide +kernel
theorem dM_mix_123 : decode cM_mix 123 = .ok (.iload 4, 2) := by decide +kernel
theorem dM_mix_125 : decode cM_mix 125 = .ok (.invokestatic 42, 3) := by decide +kernel
theorem dM_mix_128 : decode cM_mix 128 = .ok (.ixor, 1) := by decide +kernel
theorem dM_mix_129 : decode cM_mix 129 = .ok (.iastore, 1) := by decide +kernel
theorem dM_mix_130 : decode cM_mix 130 = .ok (.iinc 5 1, 3) := by decide +kernel
theorem dM_mix_133 : decode cM_mix 133 = .ok (.goto (-100), 3) := by decide +kernel
theorem dM_mix_136 : decode cM_mix 136 = .ok (.return_, 1) := by decide +kernel
theorem dM_turn_0 : decode cM_turn 0 = .ok (.iconst 0, 1) := by decide +kernel
theorem dM_turn_1 : decode cM_turn 1 = .ok (.istore_n 2, 1) := by decide +kernel
theorem dM_turn_2 : decode cM_turn 2 = .ok (.iload_n 2, 1) := by decide +kernel
theorem dM_turn_3 : decode cM_turn 3 = .ok (.bipush 16, 2) := by decide +kernel
theorem dM_turn_5 : decode cM_turn 5 = .ok (.if_icmp .ge 21, 3) := by decide +kernel
theorem dM_turn_8 : decode cM_turn 8 = .ok (.aload_n 0, 1) := by decide +kernel
theorem dM_turn_9 : decode cM_turn 9 = .ok (.getfield 28, 3) := by decide +kernel
theorem dM_turn_12 : decode cM_turn 12 = .ok (.iload_n 2, 1) := by decide +kernel
theorem dM_turn_13 : decode cM_turn 13 = .ok (.aload_n 0, 1) := by decide +kernel
theorem dM_turn_14 : decode cM_turn 14 = .ok (.getfield 25, 3) := by decide +kernel
theorem dM_turn_17 : decode cM_turn 17 = .ok (.iload_n 2, 1) := by decide +kernel
theorem dM_turn_18 : decode cM_turn 18 = .ok (.iaload, 1) := by decide +kernel
theorem dM_turn_19 : decode cM_turn 19 = .ok (.iastore, 1) := by decide +kernel
theorem dM_turn_20 : decode cM_turn 20 = .ok (.iinc 2 1, 3) := by decide +kernel
theorem dM_turn_23 : decode cM_turn 23 = .ok (.goto (-21), 3) := by decide +kernel
theorem dM_turn_26 : decode cM_turn 26 = .ok (.iconst 0, 1) := by decide +kernel
theorem dM_turn_27 : decode cM_turn 27 = .ok (.istore_n 2, 1) := by decide +kernel
theorem dM_turn_28 : decode cM_turn 28 = .ok (.iload_n 2, 1) := by decide +kernel
theorem dM_turn_29 : decode cM_turn 29 = .ok (.bipush 16, 2) := by decide +kernel
theorem dM_turn_31 : decode cM_turn 31 = .ok (.if_icmp .ge 40, 3) := by decide +kernel
theorem dM_turn_34 : decode cM_turn 34 = .ok (.aload_n 0, 1) := by decide +kernel
theorem dM_turn_35 : decode cM_turn 35 = .ok (.getfield 25, 3) := by decide +kernel
theorem dM_turn_38 : decode cM_turn 38 = .ok (.iload_n 2, 1) := by decide +kernel
theorem dM_turn_39 : decode cM_turn 39 = .ok (.aload_n 0, 1) := by decide +kernel
theorem dM_turn_40 : decode cM_turn 40 = .ok (.getfield 28, 3) := by decide +kernel
theorem dM_turn_43 : decode cM_turn 43 = .ok (.iconst 4, 1) := by decide +kernel
theorem dM_turn_44 : decode cM_turn 44 = .ok (.iload_n 2, 1) := by decide +kernel
theorem dM_turn_45 : decode cM_turn 45 = .ok (.iconst 4, 1) := by decide +kernel
theorem dM_turn_46 : decode cM_turn 46 = .ok (.idiv, 1) := by decide +kernel
theorem dM_turn_47 : decode cM_turn 47 = .ok (.iload_n 1, 1) := by decide +kernel
theorem dM_turn_48 : decode cM_turn 48 = .ok (.iload_n 2, 1) := by decide +kernel
theorem dM_turn_49 : decode cM_turn 49 = .ok (.iconst 4, 1) := by decide +kernel
theorem dM_turn_50 : decode cM_turn 50 = .ok (.irem, 1) := by decide +kernel
theorem dM_turn_51 : decode cM_turn 51 = .ok (.imul, 1) := by decide +kernel
theorem dM_turn_52 : decode cM_turn 52 = .ok (.iadd, 1) := by decide +kernel
theorem dM_turn_53 : decode cM_turn 53 = .ok (.bipush 16, 2) := by decide +kernel
theorem dM_turn_55 : decode cM_turn 55 = .ok (.iadd, 1) := by decide +kernel
theorem dM_turn_56 : decode cM_turn 56 = .ok (.iconst 4, 1) := by decide +kernel
theorem dM_turn_57 : decode cM_turn 57 = .ok (.irem, 1) := by decide +kernel
theorem dM_turn_58 : decode cM_turn 58 = .ok (.imul, 1) := by decide +kernel
theorem dM_turn_59 : decode cM_turn 59 = .ok (.iload_n 2, 1) := by decide +kernel
theorem dM_turn_60 : decode cM_turn 60 = .ok (.iconst 4, 1) := by decide +kernel
theorem dM_turn_61 : decode cM_turn 61 = .ok (.irem, 1) := by decide +kernel
theorem dM_turn_62 : decode cM_turn 62 = .ok (.iadd, 1) := by decide +kernel
theorem dM_turn_63 : decode cM_turn 63 = .ok (.iaload, 1) := by decide +kernel
theorem dM_turn_64 : decode cM_turn 64 = .ok (.iastore, 1) := by decide +kernel
theorem dM_turn_65 : decode cM_turn 65 = .ok (.iinc 2 1, 3) := by decide +kernel
theorem dM_turn_68 : decode cM_turn 68 = .ok (.goto (-40), 3) := by decide +kernel
theorem dM_turn_71 : decode cM_turn 71 = .ok (.return_, 1) := by decide +kernel
theorem dM_encipher_0 : decode cM_encipher 0 = .ok (.aload_n 0, 1) := by decide +kernel
theorem dM_encipher_1 : decode cM_encipher 1 = .ok (.iload_n 1, 1) := by decide +kernel
theorem dM_encipher_2 : decode cM_encipher 2 = .ok (.invokevirtual 58, 3) := by decide +kernel
theorem dM_encipher_5 : decode cM_encipher 5 = .ok (.aload_n 0, 1) := by decide +kernel
theorem dM_encipher_6 : decode cM_encipher 6 = .ok (.iconst 0, 1) := by decide +kernel
theorem dM_encipher_7 : decode cM_encipher 7 = .ok (.invokevirtual 62, 3) := by decide +kernel
theorem dM_encipher_10 : decode cM_encipher 10 = .ok (.iconst 1, 1) := by decide +kernel
theorem dM_encipher_11 : decode cM_encipher 11 = .ok (.istore_n 2, 1) := by decide +kernel
theorem dM_encipher_12 : decode cM_encipher 12 = .ok (.iload_n 2, 1) := by decide +kernel
theorem dM_encipher_13 : decode cM_encipher 13 = .ok (.bipush 10, 2) := by decide +kernel
theorem dM_encipher_15 : decode cM_encipher 15 = .ok (.if_icmp .gt 64, 3) := by decide +kernel
theorem dM_encipher_18 : decode cM_encipher 18 = .ok (.iconst 0, 1) := by decide +kernel
theorem dM_encipher_19 : decode cM_encipher 19 = .ok (.istore_n 3, 1) := by decide +kernel
theorem dM_encipher_20 : decode cM_encipher 20 = .ok (.iload_n 3, 1) := by decide +kernel
theorem dM_encipher_21 : decode cM_encipher 21 = .ok (.bipush 16, 2) := by decide +kernel
theorem dM_encipher_23 : decode cM_encipher 23 = .ok (.if_icmp .ge 26, 3) := by decide +kernel
theorem dM_encipher_26 : decode cM_encipher 26 = .ok (.aload_n 0, 1) := by decide +kernel
theorem dM_encipher_27 : decode cM_encipher 27 = .ok (.getfield 25, 3) := by decide +kernel
theorem dM_encipher_30 : decode cM_encipher 30 = .ok (.iload_n 3, 1) := by decide +kernel
theorem dM_encipher_31 : decode cM_encipher 31 = .ok (.aload_n 0, 1) := by decide +kernel
theorem dM_encipher_32 : decode cM_encipher 32 = .ok (.getfield 16, 3) := by decide +kernel
theorem dM_encipher_35 : decode cM_encipher 35 = .ok (.aload_n 0, 1) := by decide +kernel
theorem dM_encipher_36 : decode cM_encipher 36 = .ok (.getfield 25, 3) := by decide +kernel
theorem dM_encipher_39 : decode cM_encipher 39 = .ok (.iload_n 3, 1) := by decide +kernel
theorem dM_encipher_40 : decode cM_encipher 40 = .ok (.iaload, 1) := by decide +kernel
theorem dM_encipher_41 : decode cM_encipher 41 = .ok (.iaload, 1) := by decide +kernel
theorem dM_encipher_42 : decode cM_encipher 42 = .ok (.iastore, 1) := by decide +kernel
theorem dM_encipher_43 : decode cM_encipher 43 = .ok (.iinc 3 1, 3) := by decide +kernel
theorem dM_encipher_46 : decode cM_encipher 46 = .ok (.goto (-26), 3) := by decide +kernel
theorem dM_encipher_49 : decode cM_encipher 49 = .ok (.aload_n 0, 1) := by decide +kernel
theorem dM_encipher_50 : decode cM_encipher 50 = .ok (.iconst 1, 1) := by decide +kernel
theorem dM_encipher_51 : decode cM_encipher 51 = .ok (.invokevirtual 65, 3) := by decide +kernel
theorem dM_encipher_54 : decode cM_encipher 54 = .ok (.iload_n 2, 1) := by decide +kernel
theorem dM_encipher_55 : decode cM_encipher 55 = .ok (.bipush 10, 2) := by decide +kernel
theorem dM_encipher_57 : decode cM_encipher 57 = .ok (.if_icmp .ge 11, 3) := by decide +kernel
theorem dM_encipher_60 : decode cM_encipher 60 = .ok (.aload_n 0, 1) := by decide +kernel
theorem dM_encipher_61 : decode cM_encipher 61 = .ok (.iconst 2, 1) := by decide +kernel
theorem dM_encipher_62 : decode cM_encipher 62 = .ok (.iconst 3, 1) := by decide +kernel
theorem dM_encipher_63 : decode cM_encipher 63 = .ok (.iconst 1, 1) := by decide +kernel
theorem dM_encipher_64 : decode cM_encipher 64 = .ok (.iconst 1, 1) := by decide +kernel
theorem dM_encipher_65 : decode cM_encipher 65 = .ok (.invokevirtual 68, 3) := by decide +kernel
theorem dM_encipher_68 : decode cM_encipher 68 = .ok (.aload_n 0, 1) := by decide +kernel
theorem dM_encipher_69 : decode cM_encipher 69 = .ok (.iload_n 2, 1) := by decide +kernel
theorem dM_encipher_70 : decode cM_encipher 70 = .ok (.invokevirtual 62, 3) := by decide +kernel
theorem dM_encipher_73 : decode cM_encipher 73 = .ok (.iinc 2 1, 3) := by decide +kernel
theorem dM_encipher_76 : decode cM_encipher 76 = .ok (.goto (-64), 3) := by decide +kernel
theorem dM_encipher_79 : decode cM_encipher 79 = .ok (.return_, 1) := by decide +kernel
theorem dM_decipher_0 : decode cM_decipher 0 = .ok (.aload_n 0, 1) := by decide +kernel
theorem dM_decipher_1 : decode cM_decipher 1 = .ok (.iload_n 1, 1) := by decide +kernel
theorem dM_decipher_2 : decode cM_decipher 2 = .ok (.invokevirtual 58, 3) := by decide +kernel
theorem dM_decipher_5 : decode cM_decipher 5 = .ok (.bipush 10, 2) := by decide +kernel
theorem dM_decipher_7 : decode cM_decipher 7 = .ok (.istore_n 2, 1) := by decide +kernel
theorem dM_decipher_8 : decode cM_decipher 8 = .ok (.iload_n 2, 1) := by decide +kernel
theorem dM_decipher_9 : decode cM_decipher 9 = .ok (.iconst 1, 1) := by decide +kernel
theorem dM_decipher_10 : decode cM_decipher 10 = .ok (.if_icmp .lt 68, 3) := by decide +kernel
theorem dM_decipher_13 : decode cM_decipher 13 = .ok (.aload_n 0, 1) := by decide +kernel
theorem dM_decipher_14 : decode cM_decipher 14 = .ok (.iload_n 2, 1) := by decide +kernel
theorem dM_decipher_15 : decode cM_decipher 15 = .ok (.invokevirtual 62, 3) := by decide +kernel
theorem dM_decipher_18 : decode cM_decipher 18 = .ok (.iload_n 2, 1) := by decide +kernel
theorem dM_decipher_19 : decode cM_decipher 19 = .ok (.bipush 10, 2) := by decide +kernel
theorem dM_decipher_21 : decode cM_decipher 21 = .ok (.if_icmp .ge 15, 3) := by decide +kernel
theorem dM_decipher_24 : decode cM_decipher 24 = .ok (.aload_n 0, 1) := by decide +kernel
theorem dM_decipher_25 : decode cM_decipher 25 = .ok (.bipush 14, 2) := by decide +kernel
theorem dM_decipher_27 : decode cM_decipher 27 = .ok (.bipush 11, 2) := by decide +kernel
theorem dM_decipher_29 : decode cM_decipher 29 = .ok (.bipush 13, 2) := by decide +kernel
theorem dM_decipher_31 : decode cM_decipher 31 = .ok (.bipush 9, 2) := by decide +kernel
theorem dM_decipher_33 : decode cM_decipher 33 = .ok (.invokevirtual 68, 3) := by decide +kernel
theorem dM_decipher_36 : decode cM_decipher 36 = .ok (.aload_n 0, 1) := by decide +kernel
theorem dM_decipher_37 : decode cM_decipher 37 = .ok (.iconst (-1), 1) := by decide +kernel
theorem dM_decipher_38 : decode cM_decipher 38 = .ok (.invokevirtual 65, 3) := by decide +kernel
theorem dM_decipher_41 : decode cM_decipher 41 = .ok (.iconst 0, 1) := by decide +kernel
theorem dM_decipher_42 : decode cM_decipher 42 = .ok (.istore_n 3, 1) := by decide +kernel
theorem dM_decipher_43 : decode cM_decipher 43 = .ok (.iload_n 3, 1) := by decide +kernel
theorem dM_decipher_44 : decode cM_decipher 44 = .ok (.bipush 16, 2) := by decide +kernel
theorem dM_decipher_46 : decode cM_decipher 46 = .ok (.if_icmp .ge 26, 3) := by decide +kernel
theorem dM_decipher_49 : decode cM_decipher 49 = .ok (.aload_n 0, 1) := by decide +kernel
theorem dM_decipher_50 : decode cM_decipher 50 = .ok (.getfield 25, 3) := by decide +kernel
theorem dM_decipher_53 : decode cM_decipher 53 = .ok (.iload_n 3, 1) := by decide +kernel
theorem dM_decipher_54 : decode cM_decipher 54 = .ok (.aload_n 0, 1) := by decide +kernel
theorem dM_decipher_55 : decode cM_decipher 55 = .ok (.getfield 19, 3) := by decide +kernel
theorem dM_decipher_58 : decode cM_decipher 58 = .ok (.aload_n 0, 1) := by decide +kernel
theorem dM_decipher_59 : decode cM_decipher 59 = .ok (.getfield 25, 3) := by decide +kernel
theorem dM_decipher_62 : decode cM_decipher 62 = .ok (.iload_n 3, 1) := by decide +kernel
theorem dM_decipher_63 : decode cM_decipher 63 = .ok (.iaload, 1) := by decide +kernel
theorem dM_decipher_64 : decode cM_decipher 64 = .ok (.iaload, 1) := by decide +kernel
theorem dM_decipher_65 : decode cM_decipher 65 = .ok (.iastore, 1) := by decide +kernel
theorem dM_decipher_66 : decode cM_decipher 66 = .ok (.iinc 3 1, 3) := by decide +kernel
theorem dM_decipher_69 : decode cM_decipher 69 = .ok (.goto (-26), 3) := by decide +kernel
theorem dM_decipher_72 : decode cM_decipher 72 = .ok (.iinc 2 (-1), 3) := by decide +kernel
theorem dM_decipher_75 : decode cM_decipher 75 = .ok (.goto (-67), 3) := by decide +kernel
theorem dM_decipher_78 : decode cM_decipher 78 = .ok (.aload_n 0, 1) := by decide +kernel
theorem dM_decipher_79 : decode cM_decipher 79 = .ok (.iconst 0, 1) := by decide +kernel
theorem dM_decipher_80 : decode cM_decipher 80 = .ok (.invokevirtual 62, 3) := by decide +kernel
theorem dM_decipher_83 : decode cM_decipher 83 = .ok (.return_, 1) := by decide +kernel
theorem dM_block_0 : decode cM_block 0 = .ok (.aload_n 0, 1) := by decide +kernel
theorem dM_block_1 : decode cM_block 1 = .ok (.iload_n 1, 1) := by decide +kernel
theorem dM_block_2 : decode cM_block 2 = .ok (.bipush 8, 2) := by decide +kernel
theorem dM_block_4 : decode cM_block 4 = .ok (.invokevirtual 50, 3) := by decide +kernel
theorem dM_block_7 : decode cM_block 7 = .ok (.ifCond .ne 5, 3) := by decide +kernel
theorem dM_block_10 : decode cM_block 10 = .ok (.lconst 0, 1) := by decide +kernel
theorem dM_block_11 : decode cM_block 11 = .ok (.lreturn, 1) := by decide +kernel
theorem dM_block_12 : decode cM_block 12 = .ok (.iconst 0, 1) := by decide +kernel
theorem dM_block_13 : decode cM_block 13 = .ok (.istore 4, 2) := by decide +kernel
theorem dM_block_15 : decode cM_block 15 = .ok (.iload 4, 2) := by decide +kernel
theorem dM_block_17 : decode cM_block 17 = .ok (.bipush 16, 2) := by decide +kernel
theorem dM_block_19 : decode cM_block 19 = .ok (.if_icmp .ge 28, 3) := by decide +kernel
theorem dM_block_22 : decode cM_block 22 = .ok (.aload_n 0, 1) := by decide +kernel
theorem dM_block_23 : decode cM_block 23 = .ok (.getfield 25, 3) := by decide +kernel
theorem dM_block_26 : decode cM_block 26 = .ok (.iload 4, 2) := by decide +kernel
theorem dM_block_28 : decode cM_block 28 = .ok (.aload_n 0, 1) := by decide +kernel
theorem dM_block_29 : decode cM_block 29 = .ok (.getfield 13, 3) := by decide +kernel
theorem dM_block_32 : decode cM_block 32 = .ok (.bipush 16, 2) := by decide +kernel
theorem dM_block_34 : decode cM_block 34 = .ok (.iload_n 1, 1) := by decide +kernel
theorem dM_block_35 : decode cM_block 35 = .ok (.imul, 1) := by decide +kernel
theorem dM_block_36 : decode cM_block 36 = .ok (.iload 4, 2) := by decide +kernel
theorem dM_block_38 : decode cM_block 38 = .ok (.iadd, 1) := by decide +kernel
theorem dM_block_39 : decode cM_block 39 = .ok (.iaload, 1) := by decide +kernel
theorem dM_block_40 : decode cM_block 40 = .ok (.iastore, 1) := by decide +kernel
theorem dM_block_41 : decode cM_block 41 = .ok (.iinc 4 1, 3) := by decide +kernel
theorem dM_block_44 : decode cM_block 44 = .ok (.goto (-29), 3) := by decide +kernel
theorem dM_block_47 : decode cM_block 47 = .ok (.iload_n 2, 1) := by decide +kernel
theorem dM_block_48 : decode cM_block 48 = .ok (.ifCond .eq 19, 3) := by decide +kernel
theorem dM_block_51 : decode cM_block 51 = .ok (.aload_n 0, 1) := by decide +kernel
theorem dM_block_52 : decode cM_block 52 = .ok (.iload_n 3, 1) := by decide +kernel
theorem dM_block_53 : decode cM_block 53 = .ok (.ifCond .eq 7, 3) := by decide +kernel
theorem dM_block_56 : decode cM_block 56 = .ok (.iconst 1, 1) := by decide +kernel
theorem dM_block_57 : decode cM_block 57 = .ok (.goto 4, 3) := by decide +kernel
theorem dM_block_60 : decode cM_block 60 = .ok (.iconst 0, 1) := by decide +kernel
theorem dM_block_61 : decode cM_block 61 = .ok (.invokevirtual 72, 3) := by decide +kernel
theorem dM_block_64 : decode cM_block 64 = .ok (.goto 16, 3) := by decide +kernel
theorem dM_block_67 : decode cM_block 67 = .ok (.aload_n 0, 1) := by decide +kernel
theorem dM_block_68 : decode cM_block 68 = .ok (.iload_n 3, 1) := by decide +kernel
theorem dM_block_69 : decode cM_block 69 = .ok (.ifCond .eq 7, 3) := by decide +kernel
theorem dM_block_72 : decode cM_block 72 = .ok (.iconst 1, 1) := by decide +kernel
theorem dM_block_73 : decode cM_block 73 = .ok (.goto 4, 3) := by decide +kernel
theorem dM_block_76 : decode cM_block 76 = .ok (.iconst 0, 1) := by decide +kernel
theorem dM_block_77 : decode cM_block 77 = .ok (.invokevirtual 75, 3) := by decide +kernel
theorem dM_block_80 : decode cM_block 80 = .ok (.iconst 0, 1) := by decide +kernel
theorem dM_block_81 : decode cM_block 81 = .ok (.istore 4, 2) := by decide +kernel
theorem dM_block_83 : decode cM_block 83 = .ok (.iload 4, 2) := by decide +kernel
theorem dM_block_85 : decode cM_block 85 = .ok (.bipush 16, 2) := by decide +kernel
theorem dM_block_87 : decode cM_block 87 = .ok (.if_icmp .ge 28, 3) := by decide +kernel
theorem dM_block_90 : decode cM_block 90 = .ok (.aload_n 0, 1) := by decide +kernel
theorem dM_block_91 : decode cM_block 91 = .ok (.getfield 13, 3) := by decide +kernel
theorem dM_block_94 : decode cM_block 94 = .ok (.bipush 16, 2) := by decide +kernel
theorem dM_block_96 : decode cM_block 96 = .ok (.iload_n 1, 1) := by decide +kernel
theorem dM_block_97 : decode cM_block 97 = .ok (.imul, 1) := by decide +kernel
theorem dM_block_98 : decode cM_block 98 = .ok (.iload 4, 2) := by decide +kernel
theorem dM_block_100 : decode cM_block 100 = .ok (.iadd, 1) := by decide +kernel
theorem dM_block_101 : decode cM_block 101 = .ok (.aload_n 0, 1) := by decide +kernel
theorem dM_block_102 : decode cM_block 102 = .ok (.getfield 25, 3) := by decide +kernel
theorem dM_block_105 : decode cM_block 105 = .ok (.iload 4, 2) := by decide +kernel
theorem dM_block_107 : decode cM_block 107 = .ok (.iaload, 1) := by decide +kernel
theorem dM_block_108 : decode cM_block 108 = .ok (.iastore, 1) := by decide +kernel
theorem dM_block_109 : decode cM_block 109 = .ok (.iinc 4 1, 3) := by decide +kernel
theorem dM_block_112 : decode cM_block 112 = .ok (.goto (-29), 3) := by decide +kernel
theorem dM_block_115 : decode cM_block 115 = .ok (.aload_n 0, 1) := by decide +kernel
theorem dM_block_116 : decode cM_block 116 = .ok (.getfield 13, 3) := by decide +kernel
theorem dM_block_119 : decode cM_block 119 = .ok (.bipush 16, 2) := by decide +kernel
theorem dM_block_121 : decode cM_block 121 = .ok (.iload_n 1, 1) := by decide +kernel
theorem dM_block_122 : decode cM_block 122 = .ok (.imul, 1) := by decide +kernel
theorem dM_block_123 : decode cM_block 123 = .ok (.invokestatic 54, 3) := by decide +kernel
theorem dM_block_126 : decode cM_block 126 = .ok (.lreturn, 1) := by decide +kernel
theorem dM_makeTweak_0 : decode cM_makeTweak 0 = .ok (.iconst 0, 1) := by decide +kernel
theorem dM_makeTweak_1 : decode cM_makeTweak 1 = .ok (.istore_n 3, 1) := by decide +kernel
theorem dM_makeTweak_2 : decode cM_makeTweak 2 = .ok (.iload_n 3, 1) := by decide +kernel
theorem dM_makeTweak_3 : decode cM_makeTweak 3 = .ok (.bipush 16, 2) := by decide +kernel
theorem dM_makeTweak_5 : decode cM_makeTweak 5 = .ok (.if_icmp .ge 34, 3) := by decide +kernel
theorem dM_makeTweak_8 : decode cM_makeTweak 8 = .ok (.aload_n 0, 1) := by decide +kernel
theorem dM_makeTweak_9 : decode cM_makeTweak 9 = .ok (.getfield 25, 3) := by decide +kernel
theorem dM_makeTweak_12 : decode cM_makeTweak 12 = .ok (.iload_n 3, 1) := by decide +kernel
theorem dM_makeTweak_13 : decode cM_makeTweak 13 = .ok (.iload_n 3, 1) := by decide +kernel
theorem dM_makeTweak_14 : decode cM_makeTweak 14 = .ok (.iconst 4, 1) := by decide +kernel
theorem dM_makeTweak_15 : decode cM_makeTweak 15 = .ok (.if_icmp .ge 16, 3) := by decide +kernel
theorem dM_makeTweak_18 : decode cM_makeTweak 18 = .ok (.iload_n 1, 1) := by decide +kernel
theorem dM_makeTweak_19 : decode cM_makeTweak 19 = .ok (.bipush 8, 2) := by decide +kernel
theorem dM_makeTweak_21 : decode cM_makeTweak 21 = .ok (.iload_n 3, 1) := by decide +kernel
theorem dM_makeTweak_22 : decode cM_makeTweak 22 = .ok (.imul, 1) := by decide +kernel
theorem dM_makeTweak_23 : decode cM_makeTweak 23 = .ok (.iushr, 1) := by decide +kernel
theorem dM_makeTweak_24 : decode cM_makeTweak 24 = .ok (.sipush 255, 3) := by decide +kernel
theorem dM_makeTweak_27 : decode cM_makeTweak 27 = .ok (.iand, 1) := by decide +kernel
theorem dM_makeTweak_28 : decode cM_makeTweak 28 = .ok (.goto 4, 3) := by decide +kernel
theorem dM_makeTweak_31 : decode cM_makeTweak 31 = .ok (.iconst 0, 1) := by decide +kernel
theorem dM_makeTweak_32 : decode cM_makeTweak 32 = .ok (.iastore, 1) := by decide +kernel
theorem dM_makeTweak_33 : decode cM_makeTweak 33 = .ok (.iinc 3 1, 3) := by decide +kernel
theorem dM_makeTweak_36 : decode cM_makeTweak 36 = .ok (.goto (-34), 3) := by decide +kernel
theorem dM_makeTweak_39 : decode cM_makeTweak 39 = .ok (.aload_n 0, 1) := by decide +kernel
theorem dM_makeTweak_40 : decode cM_makeTweak 40 = .ok (.iconst 1, 1) := by decide +kernel
theorem dM_makeTweak_41 : decode cM_makeTweak 41 = .ok (.invokevirtual 75, 3) := by decide +kernel
theorem dM_makeTweak_44 : decode cM_makeTweak 44 = .ok (.iconst 0, 1) := by decide +kernel
theorem dM_makeTweak_45 : decode cM_makeTweak 45 = .ok (.istore_n 3, 1) := by decide +kernel
theorem dM_makeTweak_46 : decode cM_makeTweak 46 = .ok (.iload_n 3, 1) := by decide +kernel
theorem dM_makeTweak_47 : decode cM_makeTweak 47 = .ok (.bipush 16, 2) := by decide +kernel
theorem dM_makeTweak_49 : decode cM_makeTweak 49 = .ok (.if_icmp .ge 21, 3) := by decide +kernel
theorem dM_makeTweak_52 : decode cM_makeTweak 52 = .ok (.aload_n 0, 1) := by decide +kernel
theorem dM_makeTweak_53 : decode cM_makeTweak 53 = .ok (.getfield 31, 3) := by decide +kernel
theorem dM_makeTweak_56 : decode cM_makeTweak 56 = .ok (.iload_n 3, 1) := by decide +kernel
theorem dM_makeTweak_57 : decode cM_makeTweak 57 = .ok (.aload_n 0, 1) := by decide +kernel
theorem dM_makeTweak_58 : decode cM_makeTweak 58 = .ok (.getfield 25, 3) := by decide +kernel
theorem dM_makeTweak_61 : decode cM_makeTweak 61 = .ok (.iload_n 3, 1) := by decide +kernel
theorem dM_makeTweak_62 : decode cM_makeTweak 62 = .ok (.iaload, 1) := by decide +kernel
theorem dM_makeTweak_63 : decode cM_makeTweak 63 = .ok (.iastore, 1) := by decide +kernel
theorem dM_makeTweak_64 : decode cM_makeTweak 64 = .ok (.iinc 3 1, 3) := by decide +kernel
theorem dM_makeTweak_67 : decode cM_makeTweak 67 = .ok (.goto (-21), 3) := by decide +kernel
theorem dM_makeTweak_70 : decode cM_makeTweak 70 = .ok (.iconst 0, 1) := by decide +kernel
theorem dM_makeTweak_71 : decode cM_makeTweak 71 = .ok (.istore_n 3, 1) := by decide +kernel
theorem dM_makeTweak_72 : decode cM_makeTweak 72 = .ok (.iload_n 3, 1) := by decide +kernel
theorem dM_makeTweak_73 : decode cM_makeTweak 73 = .ok (.iload_n 2, 1) := by decide +kernel
theorem dM_makeTweak_74 : decode cM_makeTweak 74 = .ok (.if_icmp .ge 84, 3) := by decide +kernel
theorem dM_makeTweak_77 : decode cM_makeTweak 77 = .ok (.iconst 0, 1) := by decide +kernel
theorem dM_makeTweak_78 : decode cM_makeTweak 78 = .ok (.istore 4, 2) := by decide +kernel
theorem dM_makeTweak_80 : decode cM_makeTweak 80 = .ok (.iconst 0, 1) := by decide +kernel
theorem dM_makeTweak_81 : decode cM_makeTweak 81 = .ok (.istore 5, 2) := by decide +kernel
theorem dM_makeTweak_83 : decode cM_makeTweak 83 = .ok (.iload 5, 2) := by decide +kernel
theorem dM_makeTweak_85 : decode cM_makeTweak 85 = .ok (.bipush 16, 2) := by decide +kernel
theorem dM_makeTweak_87 : decode cM_makeTweak 87 = .ok (.if_icmp .ge 43, 3) := by decide +kernel
theorem dM_makeTweak_90 : decode cM_makeTweak 90 = .ok (.aload_n 0, 1) := by decide +kernel
theorem dM_makeTweak_91 : decode cM_makeTweak 91 = .ok (.getfield 31, 3) := by decide +kernel
theorem dM_makeTweak_94 : decode cM_makeTweak 94 = .ok (.iload 5, 2) := by decide +kernel
theorem dM_makeTweak_96 : decode cM_makeTweak 96 = .ok (.iaload, 1) := by decide +kernel
theorem dM_makeTweak_97 : decode cM_makeTweak 97 = .ok (.iconst 1, 1) := by decide +kernel
theorem dM_makeTweak_98 : decode cM_makeTweak 98 = .ok (.ishl, 1) := by decide +kernel
theorem dM_makeTweak_99 : decode cM_makeTweak 99 = .ok (.iload 4, 2) := by decide +kernel
theorem dM_makeTweak_101 : decode cM_makeTweak 101 = .ok (.ior, 1) := by decide +kernel
theorem dM_makeTweak_102 : decode cM_makeTweak 102 = .ok (.istore 6, 2) := by decide +kernel
theorem dM_makeTweak_104 : decode cM_makeTweak 104 = .ok (.aload_n 0, 1) := by decide +kernel
theorem dM_makeTweak_105 : decode cM_makeTweak 105 = .ok (.getfield 31, 3) := by decide +kernel
theorem dM_makeTweak_108 : decode cM_makeTweak 108 = .ok (.iload 5, 2) := by decide +kernel
theorem dM_makeTweak_110 : decode cM_makeTweak 110 = .ok (.iload 6, 2) := by decide +kernel
theorem dM_makeTweak_112 : decode cM_makeTweak 112 = .ok (.sipush 255, 3) := by decide +kernel
theorem dM_makeTweak_115 : decode cM_makeTweak 115 = .ok (.iand, 1) := by decide +kernel
theorem dM_makeTweak_116 : decode cM_makeTweak 116 = .ok (.iastore, 1) := by decide +kernel
theorem dM_makeTweak_117 : decode cM_makeTweak 117 = .ok (.iload 6, 2) := by decide +kernel
theorem dM_makeTweak_119 : decode cM_makeTweak 119 = .ok (.bipush 8, 2) := by decide +kernel
theorem dM_makeTweak_121 : decode cM_makeTweak 121 = .ok (.ishr, 1) := by decide +kernel
theorem dM_makeTweak_122 : decode cM_makeTweak 122 = .ok (.istore 4, 2) := by decide +kernel
theorem dM_makeTweak_124 : decode cM_makeTweak 124 = .ok (.iinc 5 1, 3) := by decide +kernel
theorem dM_makeTweak_127 : decode cM_makeTweak 127 = .ok (.goto (-44), 3) := by decide +kernel
theorem dM_makeTweak_130 : decode cM_makeTweak 130 = .ok (.iload 4, 2) := by decide +kernel
theorem dM_makeTweak_132 : decode cM_makeTweak 132 = .ok (.iconst 1, 1) := by decide +kernel
theorem dM_makeTweak_133 : decode cM_makeTweak 133 = .ok (.if_icmp .ne 19, 3) := by decide +kernel
theorem dM_makeTweak_136 : decode cM_makeTweak 136 = .ok (.aload_n 0, 1) := by decide +kernel
theorem dM_makeTweak_137 : decode cM_makeTweak 137 = .ok (.getfield 31, 3) := by decide +kernel
theorem dM_makeTweak_140 : decode cM_makeTweak 140 = .ok (.iconst 0, 1) := by decide +kernel
theorem dM_makeTweak_141 : decode cM_makeTweak 141 = .ok (.aload_n 0, 1) := by decide +kernel
theorem dM_makeTweak_142 : decode cM_makeTweak 142 = .ok (.getfield 31, 3) := by decide +kernel
theorem dM_makeTweak_145 : decode cM_makeTweak 145 = .ok (.iconst 0, 1) := by decide +kernel
theorem dM_makeTweak_146 : decode cM_makeTweak 146 = .ok (.iaload, 1) := by decide +kernel
theorem dM_makeTweak_147 : decode cM_makeTweak 147 = .ok (.sipush 135, 3) := by decide +kernel
theorem dM_makeTweak_150 : decode cM_makeTweak 150 = .ok (.ixor, 1) := by decide +kernel
theorem dM_makeTweak_151 : decode cM_makeTweak 151 = .ok (.iastore, 1) := by decide +kernel
theorem dM_makeTweak_152 : decode cM_makeTweak 152 = .ok (.iinc 3 1, 3) := by decide +kernel
theorem dM_makeTweak_155 : decode cM_makeTweak 155 = .ok (.goto (-83), 3) := by decide +kernel
theorem dM_makeTweak_158 : decode cM_makeTweak 158 = .ok (.return_, 1) := by decide +kernel
theorem dM_sector_0 : decode cM_sector 0 = .ok (.aload_n 0, 1) := by decide +kernel
theorem dM_sector_1 : decode cM_sector 1 = .ok (.iload_n 1, 1) := by decide +kernel
theorem dM_sector_2 : decode cM_sector 2 = .ok (.ifCond .ge 7, 3) := by decide +kernel
theorem dM_sector_5 : decode cM_sector 5 = .ok (.iconst 1, 1) := by decide +kernel
theorem dM_sector_6 : decode cM_sector 6 = .ok (.goto 4, 3) := by decide +kernel
theorem dM_sector_9 : decode cM_sector 9 = .ok (.iconst 0, 1) := by decide +kernel
theorem dM_sector_10 : decode cM_sector 10 = .ok (.putfield 38, 3) := by decide +kernel
theorem dM_sector_13 : decode cM_sector 13 = .ok (.aload_n 0, 1) := by decide +kernel
theorem dM_sector_14 : decode cM_sector 14 = .ok (.getfield 38, 3) := by decide +kernel
theorem dM_sector_17 : decode cM_sector 17 = .ok (.ifCond .eq 5, 3) := by decide +kernel
theorem dM_sector_20 : decode cM_sector 20 = .ok (.lconst 0, 1) := by decide +kernel
theorem dM_sector_21 : decode cM_sector 21 = .ok (.lreturn, 1) := by decide +kernel
theorem dM_sector_22 : decode cM_sector 22 = .ok (.iconst 0, 1) := by decide +kernel
theorem dM_sector_23 : decode cM_sector 23 = .ok (.istore_n 3, 1) := by decide +kernel
theorem dM_sector_24 : decode cM_sector 24 = .ok (.iload_n 3, 1) := by decide +kernel
theorem dM_sector_25 : decode cM_sector 25 = .ok (.bipush 8, 2) := by decide +kernel
theorem dM_sector_27 : decode cM_sector 27 = .ok (.if_icmp .ge 118, 3) := by decide +kernel
theorem dM_sector_30 : decode cM_sector 30 = .ok (.aload_n 0, 1) := by decide +kernel
theorem dM_sector_31 : decode cM_sector 31 = .ok (.iload_n 1, 1) := by decide +kernel
theorem dM_sector_32 : decode cM_sector 32 = .ok (.iload_n 3, 1) := by decide +kernel
theorem dM_sector_33 : decode cM_sector 33 = .ok (.invokevirtual 78, 3) := by decide +kernel
theorem dM_sector_36 : decode cM_sector 36 = .ok (.iconst 0, 1) := by decide +kernel
theorem dM_sector_37 : decode cM_sector 37 = .ok (.istore 4, 2) := by decide +kernel
theorem dM_sector_39 : decode cM_sector 39 = .ok (.iload 4, 2) := by decide +kernel
theorem dM_sector_41 : decode cM_sector 41 = .ok (.bipush 16, 2) := by decide +kernel
theorem dM_sector_43 : decode cM_sector 43 = .ok (.if_icmp .ge 36, 3) := by decide +kernel
theorem dM_sector_46 : decode cM_sector 46 = .ok (.aload_n 0, 1) := by decide +kernel
theorem dM_sector_47 : decode cM_sector 47 = .ok (.getfield 25, 3) := by decide +kernel
theorem dM_sector_50 : decode cM_sector 50 = .ok (.iload 4, 2) := by decide +kernel
theorem dM_sector_52 : decode cM_sector 52 = .ok (.aload_n 0, 1) := by decide +kernel
theorem dM_sector_53 : decode cM_sector 53 = .ok (.getfield 13, 3) := by decide +kernel
theorem dM_sector_56 : decode cM_sector 56 = .ok (.bipush 16, 2) := by decide +kernel
theorem dM_sector_58 : decode cM_sector 58 = .ok (.iload_n 3, 1) := by decide +kernel
theorem dM_sector_59 : decode cM_sector 59 = .ok (.imul, 1) := by decide +kernel
theorem dM_sector_60 : decode cM_sector 60 = .ok (.iload 4, 2) := by decide +kernel
theorem dM_sector_62 : decode cM_sector 62 = .ok (.iadd, 1) := by decide +kernel
theorem dM_sector_63 : decode cM_sector 63 = .ok (.iaload, 1) := by decide +kernel
theorem dM_sector_64 : decode cM_sector 64 = .ok (.aload_n 0, 1) := by decide +kernel
theorem dM_sector_65 : decode cM_sector 65 = .ok (.getfield 31, 3) := by decide +kernel
theorem dM_sector_68 : decode cM_sector 68 = .ok (.iload 4, 2) := by decide +kernel
theorem dM_sector_70 : decode cM_sector 70 = .ok (.iaload, 1) := by decide +kernel
theorem dM_sector_71 : decode cM_sector 71 = .ok (.ixor, 1) := by decide +kernel
theorem dM_sector_72 : decode cM_sector 72 = .ok (.iastore, 1) := by decide +kernel
theorem dM_sector_73 : decode cM_sector 73 = .ok (.iinc 4 1, 3) := by decide +kernel
theorem dM_sector_76 : decode cM_sector 76 = .ok (.goto (-37), 3) := by decide +kernel
theorem dM_sector_79 : decode cM_sector 79 = .ok (.iload_n 2, 1) := by decide +kernel
theorem dM_sector_80 : decode cM_sector 80 = .ok (.ifCond .eq 11, 3) := by decide +kernel
theorem dM_sector_83 : decode cM_sector 83 = .ok (.aload_n 0, 1) := by decide +kernel
theorem dM_sector_84 : decode cM_sector 84 = .ok (.iconst 0, 1) := by decide +kernel
theorem dM_sector_85 : decode cM_sector 85 = .ok (.invokevirtual 75, 3) := by decide +kernel
theorem dM_sector_88 : decode cM_sector 88 = .ok (.goto 8, 3) := by decide +kernel
theorem dM_sector_91 : decode cM_sector 91 = .ok (.aload_n 0, 1) := by decide +kernel
theorem dM_sector_92 : decode cM_sector 92 = .ok (.iconst 0, 1) := by decide +kernel
theorem dM_sector_93 : decode cM_sector 93 = .ok (.invokevirtual 72, 3) := by decide +kernel
theorem dM_sector_96 : decode cM_sector 96 = .ok (.iconst 0, 1) := by decide +kernel
theorem dM_sector_97 : decode cM_sector 97 = .ok (.istore 4, 2) := by decide +kernel
theorem dM_sector_99 : decode cM_sector 99 = .ok (.iload 4, 2) := by decide +kernel
theorem dM_sector_101 : decode cM_sector 101 = .ok (.bipush 16, 2) := by decide +kernel
theorem dM_sector_103 : decode cM_sector 103 = .ok (.if_icmp .ge 36, 3) := by decide +kernel
theorem dM_sector_106 : decode cM_sector 106 = .ok (.aload_n 0, 1) := by decide +kernel
theorem dM_sector_107 : decode cM_sector 107 = .ok (.getfield 13, 3) := by decide +kernel
theorem dM_sector_110 : decode cM_sector 110 = .ok (.bipush 16, 2) := by decide +kernel
theorem dM_sector_112 : decode cM_sector 112 = .ok (.iload_n 3, 1) := by decide +kernel
theorem dM_sector_113 : decode cM_sector 113 = .ok (.imul, 1) := by decide +kernel
theorem dM_sector_114 : decode cM_sector 114 = .ok (.iload 4, 2) := by decide +kernel
theorem dM_sector_116 : decode cM_sector 116 = .ok (.iadd, 1) := by decide +kernel
theorem dM_sector_117 : decode cM_sector 117 = .ok (.aload_n 0, 1) := by decide +kernel
theorem dM_sector_118 : decode cM_sector 118 = .ok (.getfield 25, 3) := by decide +kernel
theorem dM_sector_121 : decode cM_sector 121 = .ok (.iload 4, 2) := by decide +kernel
theorem dM_sector_123 : decode cM_sector 123 = .ok (.iaload, 1) := by decide +kernel
theorem dM_sector_124 : decode cM_sector 124 = .ok (.aload_n 0, 1) := by decide +kernel
theorem dM_sector_125 : decode cM_sector 125 = .ok (.getfield 31, 3) := by decide +kernel
theorem dM_sector_128 : decode cM_sector 128 = .ok (.iload 4, 2) := by decide +kernel
theorem dM_sector_130 : decode cM_sector 130 = .ok (.iaload, 1) := by decide +kernel
theorem dM_sector_131 : decode cM_sector 131 = .ok (.ixor, 1) := by decide +kernel
theorem dM_sector_132 : decode cM_sector 132 = .ok (.iastore, 1) := by decide +kernel
theorem dM_sector_133 : decode cM_sector 133 = .ok (.iinc 4 1, 3) := by decide +kernel
theorem dM_sector_136 : decode cM_sector 136 = .ok (.goto (-37), 3) := by decide +kernel
theorem dM_sector_139 : decode cM_sector 139 = .ok (.iinc 3 1, 3) := by decide +kernel
theorem dM_sector_142 : decode cM_sector 142 = .ok (.goto (-118), 3) := by decide +kernel
theorem dM_sector_145 : decode cM_sector 145 = .ok (.aload_n 0, 1) := by decide +kernel
theorem dM_sector_146 : decode cM_sector 146 = .ok (.getfield 13, 3) := by decide +kernel
theorem dM_sector_149 : decode cM_sector 149 = .ok (.iconst 0, 1) := by decide +kernel
theorem dM_sector_150 : decode cM_sector 150 = .ok (.invokestatic 54, 3) := by decide +kernel
theorem dM_sector_153 : decode cM_sector 153 = .ok (.lreturn, 1) := by decide +kernel
theorem dM_sum_0 : decode cM_sum 0 = .ok (.aload_n 0, 1) := by decide +kernel
theorem dM_sum_1 : decode cM_sum 1 = .ok (.iconst 0, 1) := by decide +kernel
theorem dM_sum_2 : decode cM_sum 2 = .ok (.putfield 38, 3) := by decide +kernel
theorem dM_sum_5 : decode cM_sum 5 = .ok (.lconst 0, 1) := by decide +kernel
theorem dM_sum_6 : decode cM_sum 6 = .ok (.lstore_n 1, 1) := by decide +kernel
theorem dM_sum_7 : decode cM_sum 7 = .ok (.iconst 0, 1) := by decide +kernel
theorem dM_sum_8 : decode cM_sum 8 = .ok (.istore_n 3, 1) := by decide +kernel
theorem dM_sum_9 : decode cM_sum 9 = .ok (.iload_n 3, 1) := by decide +kernel
theorem dM_sum_10 : decode cM_sum 10 = .ok (.bipush 16, 2) := by decide +kernel
theorem dM_sum_12 : decode cM_sum 12 = .ok (.if_icmp .ge 23, 3) := by decide +kernel
theorem dM_sum_15 : decode cM_sum 15 = .ok (.lload_n 1, 1) := by decide +kernel
theorem dM_sum_16 : decode cM_sum 16 = .ok (.aload_n 0, 1) := by decide +kernel
theorem dM_sum_17 : decode cM_sum 17 = .ok (.getfield 13, 3) := by decide +kernel
theorem dM_sum_20 : decode cM_sum 20 = .ok (.bipush 8, 2) := by decide +kernel
theorem dM_sum_22 : decode cM_sum 22 = .ok (.iload_n 3, 1) := by decide +kernel
theorem dM_sum_23 : decode cM_sum 23 = .ok (.imul, 1) := by decide +kernel
theorem dM_sum_24 : decode cM_sum 24 = .ok (.invokestatic 54, 3) := by decide +kernel
theorem dM_sum_27 : decode cM_sum 27 = .ok (.lxor, 1) := by decide +kernel
theorem dM_sum_28 : decode cM_sum 28 = .ok (.lstore_n 1, 1) := by decide +kernel
theorem dM_sum_29 : decode cM_sum 29 = .ok (.iinc 3 1, 3) := by decide +kernel
theorem dM_sum_32 : decode cM_sum 32 = .ok (.goto (-23), 3) := by decide +kernel
theorem dM_sum_35 : decode cM_sum 35 = .ok (.lload_n 1, 1) := by decide +kernel
theorem dM_sum_36 : decode cM_sum 36 = .ok (.lreturn, 1) := by decide +kernel
