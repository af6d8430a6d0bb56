/-! names of the class and of the law: printed by the kit's program (names, fields, decode rows) -/
def RX0 : String := "SectorSeal$Aes"
def TX0 : u_T := fun k => match k with
  | _ => ("SectorSeal$Aes", "schedule", "[I", true)
def tyX0 : Nat → FieldType := fun k => match k with
  | _ => .array .int
abbrev wsX00 : List Cond := u_ws RX0 TX0 1
theorem nmX0 : ∀ a, a < 1 → ∀ b, b < 1 → a ≠ b → (TX0 a).2.1 ≠ (TX0 b).2.1 := by decide +kernel
theorem tyX0_ok : ∀ k, k < 1 → parseFieldDescriptor (TX0 k).2.2.1 = some (tyX0 k) := by decide +kernel
abbrev cX0_init : ByteArray := prog_2_method_1_code
def yX0_init : MethodName := ⟨RX0, "<init>", "()V"⟩
abbrev cX0_expand : ByteArray := prog_2_method_2_code
def yX0_expand : MethodName := ⟨RX0, "expand", "(JJ)V"⟩
abbrev cX0_encipher : ByteArray := prog_2_method_3_code
def yX0_encipher : MethodName := ⟨RX0, "encipher", "([JI)V"⟩
abbrev cX0_decipher : ByteArray := prog_2_method_4_code
def yX0_decipher : MethodName := ⟨RX0, "decipher", "([JI)V"⟩
abbrev cX0_substitute : ByteArray := prog_2_method_5_code
def yX0_substitute : MethodName := ⟨RX0, "substitute", "([IIIII)I"⟩
abbrev cX0_mix : ByteArray := prog_2_method_6_code
def yX0_mix : MethodName := ⟨RX0, "mix", "(I)I"⟩
abbrev cX0_unmix : ByteArray := prog_2_method_7_code
def yX0_unmix : MethodName := ⟨RX0, "unmix", "(I)I"⟩
abbrev cX0_doubleEach : ByteArray := prog_2_method_8_code
def yX0_doubleEach : MethodName := ⟨RX0, "doubleEach", "(I)I"⟩
abbrev cX0_turn : ByteArray := prog_2_method_9_code
def yX0_turn : MethodName := ⟨RX0, "turn", "(II)I"⟩
abbrev cX0_highInt : ByteArray := prog_2_method_10_code
def yX0_highInt : MethodName := ⟨RX0, "highInt", "(J)I"⟩
abbrev cX0_join : ByteArray := prog_2_method_11_code
def yX0_join : MethodName := ⟨RX0, "join", "(II)J"⟩
def RX1 : String := "SectorSeal"
def TX1 : u_T := fun k => match k with
  | 0 => ("SectorSeal", "longs", "[J", true)
  | 1 => ("SectorSeal", "tweak", "[J", true)
  | 2 => ("SectorSeal", "dataCipher", "LSectorSeal$Aes;", true)
  | _ => ("SectorSeal", "tweakCipher", "LSectorSeal$Aes;", true)
def tyX1 : Nat → FieldType := fun k => match k with
  | 0 => .array .long
  | 1 => .array .long
  | 2 => .object "SectorSeal$Aes"
  | _ => .object "SectorSeal$Aes"
abbrev wsX10 : List Cond := u_ws RX1 TX1 4
theorem nmX1 : ∀ a, a < 4 → ∀ b, b < 4 → a ≠ b → (TX1 a).2.1 ≠ (TX1 b).2.1 := by decide +kernel
theorem tyX1_ok : ∀ k, k < 4 → parseFieldDescriptor (TX1 k).2.2.1 = some (tyX1 k) := by decide +kernel
abbrev cX1_init : ByteArray := prog_1_method_1_code
def yX1_init : MethodName := ⟨RX1, "<init>", "()V"⟩
abbrev cX1_key : ByteArray := prog_1_method_2_code
def yX1_key : MethodName := ⟨RX1, "key", "(JJJJ)V"⟩
abbrev cX1_put : ByteArray := prog_1_method_3_code
def yX1_put : MethodName := ⟨RX1, "put", "(IJ)J"⟩
abbrev cX1_get : ByteArray := prog_1_method_4_code
def yX1_get : MethodName := ⟨RX1, "get", "(I)J"⟩
abbrev cX1_sector : ByteArray := prog_1_method_5_code
def yX1_sector : MethodName := ⟨RX1, "sector", "(IZ)J"⟩
abbrev cX1_block : ByteArray := prog_1_method_6_code
def yX1_block : MethodName := ⟨RX1, "block", "(IZZ)J"⟩
abbrev cX1_sum : ByteArray := prog_1_method_7_code
def yX1_sum : MethodName := ⟨RX1, "sum", "()J"⟩
abbrev cX1_startTweak : ByteArray := prog_1_method_8_code
def yX1_startTweak : MethodName := ⟨RX1, "startTweak", "(I)V"⟩
abbrev cX1_lowestByteFirst : ByteArray := prog_1_method_9_code
def yX1_lowestByteFirst : MethodName := ⟨RX1, "lowestByteFirst", "(I)J"⟩
abbrev cX1_mask : ByteArray := prog_1_method_10_code
def yX1_mask : MethodName := ⟨RX1, "mask", "(I)V"⟩
abbrev cX1_doubleTweak : ByteArray := prog_1_method_11_code
def yX1_doubleTweak : MethodName := ⟨RX1, "doubleTweak", "()V"⟩
abbrev cX1_doubleBytes : ByteArray := prog_1_method_12_code
def yX1_doubleBytes : MethodName := ⟨RX1, "doubleBytes", "(J)J"⟩
def RL : String := "SectorSealLaw"
abbrev cL_put : ByteArray := method_3_code
def yL_put : MethodName := ⟨RL, "put", "(LSectorSeal;IJ[J)I"⟩
abbrev cL_get : ByteArray := method_4_code
def yL_get : MethodName := ⟨RL, "get", "(LSectorSeal;I[J)I"⟩
abbrev cL_sector : ByteArray := method_5_code
def yL_sector : MethodName := ⟨RL, "sector", "(LSectorSeal;IZ[J)I"⟩
abbrev cL_block : ByteArray := method_6_code
def yL_block : MethodName := ⟨RL, "block", "(LSectorSeal;IZZ[J)I"⟩
abbrev cL_law : ByteArray := code
def yL_law : MethodName := ⟨RL, "law", "([I)Z"⟩
theorem dX0_init_0 : decode cX0_init 0 = .ok (.aload_n 0, 1) := by decide +kernel
theorem dX0_init_1 : decode cX0_init 1 = .ok (.invokespecial 3, 3) := by decide +kernel
theorem dX0_init_4 : decode cX0_init 4 = .ok (.aload_n 0, 1) := by decide +kernel
theorem dX0_init_5 : decode cX0_init 5 = .ok (.bipush 44, 2) := by decide +kernel
theorem dX0_init_7 : decode cX0_init 7 = .ok (.newarray .int, 2) := by decide +kernel
theorem dX0_init_9 : decode cX0_init 9 = .ok (.putfield 9, 3) := by decide +kernel
theorem dX0_init_12 : decode cX0_init 12 = .ok (.return_, 1) := by decide +kernel
theorem dX0_expand_0 : decode cX0_expand 0 = .ok (.aload_n 0, 1) := by decide +kernel
theorem dX0_expand_1 : decode cX0_expand 1 = .ok (.getfield 9, 3) := by decide +kernel
theorem dX0_expand_4 : decode cX0_expand 4 = .ok (.iconst 0, 1) := by decide +kernel
theorem dX0_expand_5 : decode cX0_expand 5 = .ok (.lload_n 1, 1) := by decide +kernel
theorem dX0_expand_6 : decode cX0_expand 6 = .ok (.invokestatic 13, 3) := by decide +kernel
theorem dX0_expand_9 : decode cX0_expand 9 = .ok (.iastore, 1) := by decide +kernel
theorem dX0_expand_10 : decode cX0_expand 10 = .ok (.aload_n 0, 1) := by decide +kernel
theorem dX0_expand_11 : decode cX0_expand 11 = .ok (.getfield 9, 3) := by decide +kernel
theorem dX0_expand_14 : decode cX0_expand 14 = .ok (.iconst 1, 1) := by decide +kernel
theorem dX0_expand_15 : decode cX0_expand 15 = .ok (.lload_n 1, 1) := by decide +kernel
theorem dX0_expand_16 : decode cX0_expand 16 = .ok (.l2i, 1) := by decide +kernel
theorem dX0_expand_17 : decode cX0_expand 17 = .ok (.iastore, 1) := by decide +kernel
theorem dX0_expand_18 : decode cX0_expand 18 = .ok (.aload_n 0, 1) := by decide +kernel
theorem dX0_expand_19 : decode cX0_expand 19 = .ok (.getfield 9, 3) := by decide +kernel
theorem dX0_expand_22 : decode cX0_expand 22 = .ok (.iconst 2, 1) := by decide +kernel
theorem dX0_expand_23 : decode cX0_expand 23 = .ok (.lload_n 3, 1) := by decide +kernel
theorem dX0_expand_24 : decode cX0_expand 24 = .ok (.invokestatic 13, 3) := by decide +kernel
theorem dX0_expand_27 : decode cX0_expand 27 = .ok (.iastore, 1) := by decide +kernel
theorem dX0_expand_28 : decode cX0_expand 28 = .ok (.aload_n 0, 1) := by decide +kernel
theorem dX0_expand_29 : decode cX0_expand 29 = .ok (.getfield 9, 3) := by decide +kernel
theorem dX0_expand_32 : decode cX0_expand 32 = .ok (.iconst 3, 1) := by decide +kernel
theorem dX0_expand_33 : decode cX0_expand 33 = .ok (.lload_n 3, 1) := by decide +kernel
theorem dX0_expand_34 : decode cX0_expand 34 = .ok (.l2i, 1) := by decide +kernel
theorem dX0_expand_35 : decode cX0_expand 35 = .ok (.iastore, 1) := by decide +kernel
theorem dX0_expand_36 : decode cX0_expand 36 = .ok (.iconst 1, 1) := by decide +kernel
theorem dX0_expand_37 : decode cX0_expand 37 = .ok (.istore 5, 2) := by decide +kernel
theorem dX0_expand_39 : decode cX0_expand 39 = .ok (.iconst 4, 1) := by decide +kernel
theorem dX0_expand_40 : decode cX0_expand 40 = .ok (.istore 6, 2) := by decide +kernel
theorem dX0_expand_42 : decode cX0_expand 42 = .ok (.iload 6, 2) := by decide +kernel
theorem dX0_expand_44 : decode cX0_expand 44 = .ok (.bipush 44, 2) := by decide +kernel
theorem dX0_expand_46 : decode cX0_expand 46 = .ok (.if_icmp .ge 84, 3) := by decide +kernel
theorem dX0_expand_49 : decode cX0_expand 49 = .ok (.aload_n 0, 1) := by decide +kernel
theorem dX0_expand_50 : decode cX0_expand 50 = .ok (.getfield 9, 3) := by decide +kernel
theorem dX0_expand_53 : decode cX0_expand 53 = .ok (.iload 6, 2) := by decide +kernel
theorem dX0_expand_55 : decode cX0_expand 55 = .ok (.iconst 1, 1) := by decide +kernel
theorem dX0_expand_56 : decode cX0_expand 56 = .ok (.isub, 1) := by decide +kernel
theorem dX0_expand_57 : decode cX0_expand 57 = .ok (.iaload, 1) := by decide +kernel
theorem dX0_expand_58 : decode cX0_expand 58 = .ok (.istore 7, 2) := by decide +kernel
theorem dX0_expand_60 : decode cX0_expand 60 = .ok (.iload 6, 2) := by decide +kernel
theorem dX0_expand_62 : decode cX0_expand 62 = .ok (.iconst 4, 1) := by decide +kernel
theorem dX0_expand_63 : decode cX0_expand 63 = .ok (.irem, 1) := by decide +kernel
theorem dX0_expand_64 : decode cX0_expand 64 = .ok (.ifCond .ne 41, 3) := by decide +kernel
theorem dX0_expand_67 : decode cX0_expand 67 = .ok (.iload 7, 2) := by decide +kernel
theorem dX0_expand_69 : decode cX0_expand 69 = .ok (.bipush 8, 2) := by decide +kernel
theorem dX0_expand_71 : decode cX0_expand 71 = .ok (.invokestatic 17, 3) := by decide +kernel
theorem dX0_expand_74 : decode cX0_expand 74 = .ok (.istore 8, 2) := by decide +kernel
theorem dX0_expand_76 : decode cX0_expand 76 = .ok (.getstatic 21, 3) := by decide +kernel
theorem dX0_expand_79 : decode cX0_expand 79 = .ok (.iload 8, 2) := by decide +kernel
theorem dX0_expand_81 : decode cX0_expand 81 = .ok (.iload 8, 2) := by decide +kernel
theorem dX0_expand_83 : decode cX0_expand 83 = .ok (.iload 8, 2) := by decide +kernel
theorem dX0_expand_85 : decode cX0_expand 85 = .ok (.iload 8, 2) := by decide +kernel
theorem dX0_expand_87 : decode cX0_expand 87 = .ok (.invokestatic 24, 3) := by decide +kernel
theorem dX0_expand_90 : decode cX0_expand 90 = .ok (.iload 5, 2) := by decide +kernel
theorem dX0_expand_92 : decode cX0_expand 92 = .ok (.bipush 24, 2) := by decide +kernel
theorem dX0_expand_94 : decode cX0_expand 94 = .ok (.ishl, 1) := by decide +kernel
theorem dX0_expand_95 : decode cX0_expand 95 = .ok (.ixor, 1) := by decide +kernel
theorem dX0_expand_96 : decode cX0_expand 96 = .ok (.istore 7, 2) := by decide +kernel
theorem dX0_expand_98 : decode cX0_expand 98 = .ok (.iload 5, 2) := by decide +kernel
theorem dX0_expand_100 : decode cX0_expand 100 = .ok (.invokestatic 28, 3) := by decide +kernel
theorem dX0_expand_103 : decode cX0_expand 103 = .ok (.istore 5, 2) := by decide +kernel
theorem dX0_expand_105 : decode cX0_expand 105 = .ok (.aload_n 0, 1) := by decide +kernel
theorem dX0_expand_106 : decode cX0_expand 106 = .ok (.getfield 9, 3) := by decide +kernel
theorem dX0_expand_109 : decode cX0_expand 109 = .ok (.iload 6, 2) := by decide +kernel
theorem dX0_expand_111 : decode cX0_expand 111 = .ok (.aload_n 0, 1) := by decide +kernel
theorem dX0_expand_112 : decode cX0_expand 112 = .ok (.getfield 9, 3) := by decide +kernel
theorem dX0_expand_115 : decode cX0_expand 115 = .ok (.iload 6, 2) := by decide +kernel
theorem dX0_expand_117 : decode cX0_expand 117 = .ok (.iconst 4, 1) := by decide +kernel
theorem dX0_expand_118 : decode cX0_expand 118 = .ok (.isub, 1) := by decide +kernel
theorem dX0_expand_119 : decode cX0_expand 119 = .ok (.iaload, 1) := by decide +kernel
theorem dX0_expand_120 : decode cX0_expand 120 = .ok (.iload 7, 2) := by decide +kernel
theorem dX0_expand_122 : decode cX0_expand 122 = .ok (.ixor, 1) := by decide +kernel
theorem dX0_expand_123 : decode cX0_expand 123 = .ok (.iastore, 1) := by decide +kernel
theorem dX0_expand_124 : decode cX0_expand 124 = .ok (.iinc 6 1, 3) := by decide +kernel
theorem dX0_expand_127 : decode cX0_expand 127 = .ok (.goto (-85), 3) := by decide +kernel
theorem dX0_expand_130 : decode cX0_expand 130 = .ok (.return_, 1) := by decide +kernel
theorem dX0_encipher_0 : decode cX0_encipher 0 = .ok (.aload_n 1, 1) := by decide +kernel
theorem dX0_encipher_1 : decode cX0_encipher 1 = .ok (.iload_n 2, 1) := by decide +kernel
theorem dX0_encipher_2 : decode cX0_encipher 2 = .ok (.laload, 1) := by decide +kernel
theorem dX0_encipher_3 : decode cX0_encipher 3 = .ok (.invokestatic 13, 3) := by decide +kernel
theorem dX0_encipher_6 : decode cX0_encipher 6 = .ok (.aload_n 0, 1) := by decide +kernel
theorem dX0_encipher_7 : decode cX0_encipher 7 = .ok (.getfield 9, 3) := by decide +kernel
theorem dX0_encipher_10 : decode cX0_encipher 10 = .ok (.iconst 0, 1) := by decide +kernel
theorem dX0_encipher_11 : decode cX0_encipher 11 = .ok (.iaload, 1) := by decide +kernel
theorem dX0_encipher_12 : decode cX0_encipher 12 = .ok (.ixor, 1) := by decide +kernel
theorem dX0_encipher_13 : decode cX0_encipher 13 = .ok (.istore_n 3, 1) := by decide +kernel
theorem dX0_encipher_14 : decode cX0_encipher 14 = .ok (.aload_n 1, 1) := by decide +kernel
theorem dX0_encipher_15 : decode cX0_encipher 15 = .ok (.iload_n 2, 1) := by decide +kernel
theorem dX0_encipher_16 : decode cX0_encipher 16 = .ok (.laload, 1) := by decide +kernel
theorem dX0_encipher_17 : decode cX0_encipher 17 = .ok (.l2i, 1) := by decide +kernel
theorem dX0_encipher_18 : decode cX0_encipher 18 = .ok (.aload_n 0, 1) := by decide +kernel
theorem dX0_encipher_19 : decode cX0_encipher 19 = .ok (.getfield 9, 3) := by decide +kernel
theorem dX0_encipher_22 : decode cX0_encipher 22 = .ok (.iconst 1, 1) := by decide +kernel
theorem dX0_encipher_23 : decode cX0_encipher 23 = .ok (.iaload, 1) := by decide +kernel
theorem dX0_encipher_24 : decode cX0_encipher 24 = .ok (.ixor, 1) := by decide +kernel
theorem dX0_encipher_25 : decode cX0_encipher 25 = .ok (.istore 4, 2) := by decide +kernel
theorem dX0_encipher_27 : decode cX0_encipher 27 = .ok (.aload_n 1, 1) := by decide +kernel
theorem dX0_encipher_28 : decode cX0_encipher 28 = .ok (.iload_n 2, 1) := by decide +kernel
theorem dX0_encipher_29 : decode cX0_encipher 29 = .ok (.iconst 1, 1) := by decide +kernel
theorem dX0_encipher_30 : decode cX0_encipher 30 = .ok (.iadd, 1) := by decide +kernel
theorem dX0_encipher_31 : decode cX0_encipher 31 = .ok (.laload, 1) := by decide +kernel
theorem dX0_encipher_32 : decode cX0_encipher 32 = .ok (.invokestatic 13, 3) := by decide +kernel
theorem dX0_encipher_35 : decode cX0_encipher 35 = .ok (.aload_n 0, 1) := by decide +kernel
theorem dX0_encipher_36 : decode cX0_encipher 36 = .ok (.getfield 9, 3) := by decide +kernel
theorem dX0_encipher_39 : decode cX0_encipher 39 = .ok (.iconst 2, 1) := by decide +kernel
theorem dX0_encipher_40 : decode cX0_encipher 40 = .ok (.iaload, 1) := by decide +kernel
theorem dX0_encipher_41 : decode cX0_encipher 41 = .ok (.ixor, 1) := by decide +kernel
theorem dX0_encipher_42 : decode cX0_encipher 42 = .ok (.istore 5, 2) := by decide +kernel
theorem dX0_encipher_44 : decode cX0_encipher 44 = .ok (.aload_n 1, 1) := by decide +kernel
theorem dX0_encipher_45 : decode cX0_encipher 45 = .ok (.iload_n 2, 1) := by decide +kernel
theorem dX0_encipher_46 : decode cX0_encipher 46 = .ok (.iconst 1, 1) := by decide +kernel
theorem dX0_encipher_47 : decode cX0_encipher 47 = .ok (.iadd, 1) := by decide +kernel
theorem dX0_encipher_48 : decode cX0_encipher 48 = .ok (.laload, 1) := by decide +kernel
theorem dX0_encipher_49 : decode cX0_encipher 49 = .ok (.l2i, 1) := by decide +kernel
theorem dX0_encipher_50 : decode cX0_encipher 50 = .ok (.aload_n 0, 1) := by decide +kernel
theorem dX0_encipher_51 : decode cX0_encipher 51 = .ok (.getfield 9, 3) := by decide +kernel
theorem dX0_encipher_54 : decode cX0_encipher 54 = .ok (.iconst 3, 1) := by decide +kernel
theorem dX0_encipher_55 : decode cX0_encipher 55 = .ok (.iaload, 1) := by decide +kernel
theorem dX0_encipher_56 : decode cX0_encipher 56 = .ok (.ixor, 1) := by decide +kernel
theorem dX0_encipher_57 : decode cX0_encipher 57 = .ok (.istore 6, 2) := by decide +kernel
theorem dX0_encipher_59 : decode cX0_encipher 59 = .ok (.iconst 1, 1) := by decide +kernel
theorem dX0_encipher_60 : decode cX0_encipher 60 = .ok (.istore 7, 2) := by decide +kernel
theorem dX0_encipher_62 : decode cX0_encipher 62 = .ok (.iload 7, 2) := by decide +kernel
theorem dX0_encipher_64 : decode cX0_encipher 64 = .ok (.bipush 10, 2) := by decide +kernel
theorem dX0_encipher_66 : decode cX0_encipher 66 = .ok (.if_icmp .gt 194, 3) := by decide +kernel
theorem dX0_encipher_69 : decode cX0_encipher 69 = .ok (.getstatic 21, 3) := by decide +kernel
theorem dX0_encipher_72 : decode cX0_encipher 72 = .ok (.iload_n 3, 1) := by decide +kernel
theorem dX0_encipher_73 : decode cX0_encipher 73 = .ok (.iload 4, 2) := by decide +kernel
theorem dX0_encipher_75 : decode cX0_encipher 75 = .ok (.iload 5, 2) := by decide +kernel
theorem dX0_encipher_77 : decode cX0_encipher 77 = .ok (.iload 6, 2) := by decide +kernel
theorem dX0_encipher_79 : decode cX0_encipher 79 = .ok (.invokestatic 24, 3) := by decide +kernel
theorem dX0_encipher_82 : decode cX0_encipher 82 = .ok (.istore 8, 2) := by decide +kernel
theorem dX0_encipher_84 : decode cX0_encipher 84 = .ok (.getstatic 21, 3) := by decide +kernel
theorem dX0_encipher_87 : decode cX0_encipher 87 = .ok (.iload 4, 2) := by decide +kernel
theorem dX0_encipher_89 : decode cX0_encipher 89 = .ok (.iload 5, 2) := by decide +kernel
theorem dX0_encipher_91 : decode cX0_encipher 91 = .ok (.iload 6, 2) := by decide +kernel
theorem dX0_encipher_93 : decode cX0_encipher 93 = .ok (.iload_n 3, 1) := by decide +kernel
theorem dX0_encipher_94 : decode cX0_encipher 94 = .ok (.invokestatic 24, 3) := by decide +kernel
theorem dX0_encipher_97 : decode cX0_encipher 97 = .ok (.istore 9, 2) := by decide +kernel
theorem dX0_encipher_99 : decode cX0_encipher 99 = .ok (.getstatic 21, 3) := by decide +kernel
theorem dX0_encipher_102 : decode cX0_encipher 102 = .ok (.iload 5, 2) := by decide +kernel
theorem dX0_encipher_104 : decode cX0_encipher 104 = .ok (.iload 6, 2) := by decide +kernel
theorem dX0_encipher_106 : decode cX0_encipher 106 = .ok (.iload_n 3, 1) := by decide +kernel
theorem dX0_encipher_107 : decode cX0_encipher 107 = .ok (.iload 4, 2) := by decide +kernel
theorem dX0_encipher_109 : decode cX0_encipher 109 = .ok (.invokestatic 24, 3) := by decide +kernel
theorem dX0_encipher_112 : decode cX0_encipher 112 = .ok (.istore 10, 2) := by decide +kernel
theorem dX0_encipher_114 : decode cX0_encipher 114 = .ok (.getstatic 21, 3) := by decide +kernel
theorem dX0_encipher_117 : decode cX0_encipher 117 = .ok (.iload 6, 2) := by decide +kernel
theorem dX0_encipher_119 : decode cX0_encipher 119 = .ok (.iload_n 3, 1) := by decide +kernel
theorem dX0_encipher_120 : decode cX0_encipher 120 = .ok (.iload 4, 2) := by decide +kernel
theorem dX0_encipher_122 : decode cX0_encipher 122 = .ok (.iload 5, 2) := by decide +kernel
theorem dX0_encipher_124 : decode cX0_encipher 124 = .ok (.invokestatic 24, 3) := by decide +kernel
theorem dX0_encipher_127 : decode cX0_encipher 127 = .ok (.istore 11, 2) := by decide +kernel
theorem dX0_encipher_129 : decode cX0_encipher 129 = .ok (.iload 7, 2) := by decide +kernel
theorem dX0_encipher_131 : decode cX0_encipher 131 = .ok (.bipush 10, 2) := by decide +kernel
theorem dX0_encipher_133 : decode cX0_encipher 133 = .ok (.if_icmp .ge 7, 3) := by decide +kernel
theorem dX0_encipher_136 : decode cX0_encipher 136 = .ok (.iconst 1, 1) := by decide +kernel
theorem dX0_encipher_137 : decode cX0_encipher 137 = .ok (.goto 4, 3) := by decide +kernel
theorem dX0_encipher_140 : decode cX0_encipher 140 = .ok (.iconst 0, 1) := by decide +kernel
theorem dX0_encipher_141 : decode cX0_encipher 141 = .ok (.istore 12, 2) := by decide +kernel
theorem dX0_encipher_143 : decode cX0_encipher 143 = .ok (.iconst 4, 1) := by decide +kernel
theorem dX0_encipher_144 : decode cX0_encipher 144 = .ok (.iload 7, 2) := by decide +kernel
theorem dX0_encipher_146 : decode cX0_encipher 146 = .ok (.imul, 1) := by decide +kernel
theorem dX0_encipher_147 : decode cX0_encipher 147 = .ok (.istore 13, 2) := by decide +kernel
theorem dX0_encipher_149 : decode cX0_encipher 149 = .ok (.iload 12, 2) := by decide +kernel
theorem dX0_encipher_151 : decode cX0_encipher 151 = .ok (.ifCond .eq 11, 3) := by decide +kernel
theorem dX0_encipher_154 : decode cX0_encipher 154 = .ok (.iload 8, 2) := by decide +kernel
theorem dX0_encipher_156 : decode cX0_encipher 156 = .ok (.invokestatic 32, 3) := by decide +kernel
theorem dX0_encipher_159 : decode cX0_encipher 159 = .ok (.goto 5, 3) := by decide +kernel
theorem dX0_encipher_162 : decode cX0_encipher 162 = .ok (.iload 8, 2) := by decide +kernel
theorem dX0_encipher_164 : decode cX0_encipher 164 = .ok (.aload_n 0, 1) := by decide +kernel
theorem dX0_encipher_165 : decode cX0_encipher 165 = .ok (.getfield 9, 3) := by decide +kernel
theorem dX0_encipher_168 : decode cX0_encipher 168 = .ok (.iload 13, 2) := by decide +kernel
theorem dX0_encipher_170 : decode cX0_encipher 170 = .ok (.iaload, 1) := by decide +kernel
theorem dX0_encipher_171 : decode cX0_encipher 171 = .ok (.ixor, 1) := by decide +kernel
theorem dX0_encipher_172 : decode cX0_encipher 172 = .ok (.istore_n 3, 1) := by decide +kernel
theorem dX0_encipher_173 : decode cX0_encipher 173 = .ok (.iload 12, 2) := by decide +kernel
theorem dX0_encipher_175 : decode cX0_encipher 175 = .ok (.ifCond .eq 11, 3) := by decide +kernel
theorem dX0_encipher_178 : decode cX0_encipher 178 = .ok (.iload 9, 2) := by decide +kernel
theorem dX0_encipher_180 : decode cX0_encipher 180 = .ok (.invokestatic 32, 3) := by decide +kernel
theorem dX0_encipher_183 : decode cX0_encipher 183 = .ok (.goto 5, 3) := by decide +kernel
theorem dX0_encipher_186 : decode cX0_encipher 186 = .ok (.iload 9, 2) := by decide +kernel
theorem dX0_encipher_188 : decode cX0_encipher 188 = .ok (.aload_n 0, 1) := by decide +kernel
theorem dX0_encipher_189 : decode cX0_encipher 189 = .ok (.getfield 9, 3) := by decide +kernel
theorem dX0_encipher_192 : decode cX0_encipher 192 = .ok (.iload 13, 2) := by decide +kernel
theorem dX0_encipher_194 : decode cX0_encipher 194 = .ok (.iconst 1, 1) := by decide +kernel
theorem dX0_encipher_195 : decode cX0_encipher 195 = .ok (.iadd, 1) := by decide +kernel
theorem dX0_encipher_196 : decode cX0_encipher 196 = .ok (.iaload, 1) := by decide +kernel
theorem dX0_encipher_197 : decode cX0_encipher 197 = .ok (.ixor, 1) := by decide +kernel
theorem dX0_encipher_198 : decode cX0_encipher 198 = .ok (.istore 4, 2) := by decide +kernel
theorem dX0_encipher_200 : decode cX0_encipher 200 = .ok (.iload 12, 2) := by decide +kernel
theorem dX0_encipher_202 : decode cX0_encipher 202 = .ok (.ifCond .eq 11, 3) := by decide +kernel
theorem dX0_encipher_205 : decode cX0_encipher 205 = .ok (.iload 10, 2) := by decide +kernel
theorem dX0_encipher_207 : decode cX0_encipher 207 = .ok (.invokestatic 32, 3) := by decide +kernel
theorem dX0_encipher_210 : decode cX0_encipher 210 = .ok (.goto 5, 3) := by decide +kernel
theorem dX0_encipher_213 : decode cX0_encipher 213 = .ok (.iload 10, 2) := by decide +kernel
theorem dX0_encipher_215 : decode cX0_encipher 215 = .ok (.aload_n 0, 1) := by decide +kernel
theorem dX0_encipher_216 : decode cX0_encipher 216 = .ok (.getfield 9, 3) := by decide +kernel
theorem dX0_encipher_219 : decode cX0_encipher 219 = .ok (.iload 13, 2) := by decide +kernel
theorem dX0_encipher_221 : decode cX0_encipher 221 = .ok (.iconst 2, 1) := by decide +kernel
theorem dX0_encipher_222 : decode cX0_encipher 222 = .ok (.iadd, 1) := by decide +kernel
theorem dX0_encipher_223 : decode cX0_encipher 223 = .ok (.iaload, 1) := by decide +kernel
theorem dX0_encipher_224 : decode cX0_encipher 224 = .ok (.ixor, 1) := by decide +kernel
theorem dX0_encipher_225 : decode cX0_encipher 225 = .ok (.istore 5, 2) := by decide +kernel
theorem dX0_encipher_227 : decode cX0_encipher 227 = .ok (.iload 12, 2) := by decide +kernel
theorem dX0_encipher_229 : decode cX0_encipher 229 = .ok (.ifCond .eq 11, 3) := by decide +kernel
theorem dX0_encipher_232 : decode cX0_encipher 232 = .ok (.iload 11, 2) := by decide +kernel
theorem dX0_encipher_234 : decode cX0_encipher 234 = .ok (.invokestatic 32, 3) := by decide +kernel
theorem dX0_encipher_237 : decode cX0_encipher 237 = .ok (.goto 5, 3) := by decide +kernel
theorem dX0_encipher_240 : decode cX0_encipher 240 = .ok (.iload 11, 2) := by decide +kernel
theorem dX0_encipher_242 : decode cX0_encipher 242 = .ok (.aload_n 0, 1) := by decide +kernel
theorem dX0_encipher_243 : decode cX0_encipher 243 = .ok (.getfield 9, 3) := by decide +kernel
theorem dX0_encipher_246 : decode cX0_encipher 246 = .ok (.iload 13, 2) := by decide +kernel
theorem dX0_encipher_248 : decode cX0_encipher 248 = .ok (.iconst 3, 1) := by decide +kernel
theorem dX0_encipher_249 : decode cX0_encipher 249 = .ok (.iadd, 1) := by decide +kernel
theorem dX0_encipher_250 : decode cX0_encipher 250 = .ok (.iaload, 1) := by decide +kernel
theorem dX0_encipher_251 : decode cX0_encipher 251 = .ok (.ixor, 1) := by decide +kernel
theorem dX0_encipher_252 : decode cX0_encipher 252 = .ok (.istore 6, 2) := by decide +kernel
theorem dX0_encipher_254 : decode cX0_encipher 254 = .ok (.iinc 7 1, 3) := by decide +kernel
theorem dX0_encipher_257 : decode cX0_encipher 257 = .ok (.goto (-195), 3) := by decide +kernel
theorem dX0_encipher_260 : decode cX0_encipher 260 = .ok (.aload_n 1, 1) := by decide +kernel
theorem dX0_encipher_261 : decode cX0_encipher 261 = .ok (.iload_n 2, 1) := by decide +kernel
theorem dX0_encipher_262 : decode cX0_encipher 262 = .ok (.iload_n 3, 1) := by decide +kernel
theorem dX0_encipher_263 : decode cX0_encipher 263 = .ok (.iload 4, 2) := by decide +kernel
theorem dX0_encipher_265 : decode cX0_encipher 265 = .ok (.invokestatic 35, 3) := by decide +kernel
theorem dX0_encipher_268 : decode cX0_encipher 268 = .ok (.lastore, 1) := by decide +kernel
theorem dX0_encipher_269 : decode cX0_encipher 269 = .ok (.aload_n 1, 1) := by decide +kernel
theorem dX0_encipher_270 : decode cX0_encipher 270 = .ok (.iload_n 2, 1) := by decide +kernel
theorem dX0_encipher_271 : decode cX0_encipher 271 = .ok (.iconst 1, 1) := by decide +kernel
theorem dX0_encipher_272 : decode cX0_encipher 272 = .ok (.iadd, 1) := by decide +kernel
theorem dX0_encipher_273 : decode cX0_encipher 273 = .ok (.iload 5, 2) := by decide +kernel
theorem dX0_encipher_275 : decode cX0_encipher 275 = .ok (.iload 6, 2) := by decide +kernel
theorem dX0_encipher_277 : decode cX0_encipher 277 = .ok (.invokestatic 35, 3) := by decide +kernel
theorem dX0_encipher_280 : decode cX0_encipher 280 = .ok (.lastore, 1) := by decide +kernel
theorem dX0_encipher_281 : decode cX0_encipher 281 = .ok (.return_, 1) := by decide +kernel
theorem dX0_decipher_0 : decode cX0_decipher 0 = .ok (.bipush 40, 2) := by decide +kernel
theorem dX0_decipher_2 : decode cX0_decipher 2 = .ok (.istore_n 3, 1) := by decide +kernel
theorem dX0_decipher_3 : decode cX0_decipher 3 = .ok (.aload_n 1, 1) := by decide +kernel
theorem dX0_decipher_4 : decode cX0_decipher 4 = .ok (.iload_n 2, 1) := by decide +kernel
theorem dX0_decipher_5 : decode cX0_decipher 5 = .ok (.laload, 1) := by decide +kernel
theorem dX0_decipher_6 : decode cX0_decipher 6 = .ok (.invokestatic 13, 3) := by decide +kernel
theorem dX0_decipher_9 : decode cX0_decipher 9 = .ok (.aload_n 0, 1) := by decide +kernel
theorem dX0_decipher_10 : decode cX0_decipher 10 = .ok (.getfield 9, 3) := by decide +kernel
theorem dX0_decipher_13 : decode cX0_decipher 13 = .ok (.iload_n 3, 1) := by decide +kernel
theorem dX0_decipher_14 : decode cX0_decipher 14 = .ok (.iaload, 1) := by decide +kernel
theorem dX0_decipher_15 : decode cX0_decipher 15 = .ok (.ixor, 1) := by decide +kernel
theorem dX0_decipher_16 : decode cX0_decipher 16 = .ok (.istore 4, 2) := by decide +kernel
theorem dX0_decipher_18 : decode cX0_decipher 18 = .ok (.aload_n 1, 1) := by decide +kernel
theorem dX0_decipher_19 : decode cX0_decipher 19 = .ok (.iload_n 2, 1) := by decide +kernel
theorem dX0_decipher_20 : decode cX0_decipher 20 = .ok (.laload, 1) := by decide +kernel
theorem dX0_decipher_21 : decode cX0_decipher 21 = .ok (.l2i, 1) := by decide +kernel
theorem dX0_decipher_22 : decode cX0_decipher 22 = .ok (.aload_n 0, 1) := by decide +kernel
theorem dX0_decipher_23 : decode cX0_decipher 23 = .ok (.getfield 9, 3) := by decide +kernel
theorem dX0_decipher_26 : decode cX0_decipher 26 = .ok (.iload_n 3, 1) := by decide +kernel
theorem dX0_decipher_27 : decode cX0_decipher 27 = .ok (.iconst 1, 1) := by decide +kernel
theorem dX0_decipher_28 : decode cX0_decipher 28 = .ok (.iadd, 1) := by decide +kernel
theorem dX0_decipher_29 : decode cX0_decipher 29 = .ok (.iaload, 1) := by decide +kernel
theorem dX0_decipher_30 : decode cX0_decipher 30 = .ok (.ixor, 1) := by decide +kernel
theorem dX0_decipher_31 : decode cX0_decipher 31 = .ok (.istore 5, 2) := by decide +kernel
theorem dX0_decipher_33 : decode cX0_decipher 33 = .ok (.aload_n 1, 1) := by decide +kernel
theorem dX0_decipher_34 : decode cX0_decipher 34 = .ok (.iload_n 2, 1) := by decide +kernel
theorem dX0_decipher_35 : decode cX0_decipher 35 = .ok (.iconst 1, 1) := by decide +kernel
theorem dX0_decipher_36 : decode cX0_decipher 36 = .ok (.iadd, 1) := by decide +kernel
theorem dX0_decipher_37 : decode cX0_decipher 37 = .ok (.laload, 1) := by decide +kernel
theorem dX0_decipher_38 : decode cX0_decipher 38 = .ok (.invokestatic 13, 3) := by decide +kernel
theorem dX0_decipher_41 : decode cX0_decipher 41 = .ok (.aload_n 0, 1) := by decide +kernel
theorem dX0_decipher_42 : decode cX0_decipher 42 = .ok (.getfield 9, 3) := by decide +kernel
theorem dX0_decipher_45 : decode cX0_decipher 45 = .ok (.iload_n 3, 1) := by decide +kernel
theorem dX0_decipher_46 : decode cX0_decipher 46 = .ok (.iconst 2, 1) := by decide +kernel
theorem dX0_decipher_47 : decode cX0_decipher 47 = .ok (.iadd, 1) := by decide +kernel
theorem dX0_decipher_48 : decode cX0_decipher 48 = .ok (.iaload, 1) := by decide +kernel
theorem dX0_decipher_49 : decode cX0_decipher 49 = .ok (.ixor, 1) := by decide +kernel
theorem dX0_decipher_50 : decode cX0_decipher 50 = .ok (.istore 6, 2) := by decide +kernel
theorem dX0_decipher_52 : decode cX0_decipher 52 = .ok (.aload_n 1, 1) := by decide +kernel
theorem dX0_decipher_53 : decode cX0_decipher 53 = .ok (.iload_n 2, 1) := by decide +kernel
theorem dX0_decipher_54 : decode cX0_decipher 54 = .ok (.iconst 1, 1) := by decide +kernel
theorem dX0_decipher_55 : decode cX0_decipher 55 = .ok (.iadd, 1) := by decide +kernel
theorem dX0_decipher_56 : decode cX0_decipher 56 = .ok (.laload, 1) := by decide +kernel
theorem dX0_decipher_57 : decode cX0_decipher 57 = .ok (.l2i, 1) := by decide +kernel
theorem dX0_decipher_58 : decode cX0_decipher 58 = .ok (.aload_n 0, 1) := by decide +kernel
theorem dX0_decipher_59 : decode cX0_decipher 59 = .ok (.getfield 9, 3) := by decide +kernel
theorem dX0_decipher_62 : decode cX0_decipher 62 = .ok (.iload_n 3, 1) := by decide +kernel
theorem dX0_decipher_63 : decode cX0_decipher 63 = .ok (.iconst 3, 1) := by decide +kernel
theorem dX0_decipher_64 : decode cX0_decipher 64 = .ok (.iadd, 1) := by decide +kernel
theorem dX0_decipher_65 : decode cX0_decipher 65 = .ok (.iaload, 1) := by decide +kernel
theorem dX0_decipher_66 : decode cX0_decipher 66 = .ok (.ixor, 1) := by decide +kernel
theorem dX0_decipher_67 : decode cX0_decipher 67 = .ok (.istore 7, 2) := by decide +kernel
theorem dX0_decipher_69 : decode cX0_decipher 69 = .ok (.bipush 9, 2) := by decide +kernel
theorem dX0_decipher_71 : decode cX0_decipher 71 = .ok (.istore 8, 2) := by decide +kernel
theorem dX0_decipher_73 : decode cX0_decipher 73 = .ok (.iload 8, 2) := by decide +kernel
theorem dX0_decipher_75 : decode cX0_decipher 75 = .ok (.ifCond .lt 197, 3) := by decide +kernel
theorem dX0_decipher_78 : decode cX0_decipher 78 = .ok (.iconst 4, 1) := by decide +kernel
theorem dX0_decipher_79 : decode cX0_decipher 79 = .ok (.iload 8, 2) := by decide +kernel
theorem dX0_decipher_81 : decode cX0_decipher 81 = .ok (.imul, 1) := by decide +kernel
theorem dX0_decipher_82 : decode cX0_decipher 82 = .ok (.istore 9, 2) := by decide +kernel
theorem dX0_decipher_84 : decode cX0_decipher 84 = .ok (.getstatic 39, 3) := by decide +kernel
theorem dX0_decipher_87 : decode cX0_decipher 87 = .ok (.iload 4, 2) := by decide +kernel
theorem dX0_decipher_89 : decode cX0_decipher 89 = .ok (.iload 7, 2) := by decide +kernel
theorem dX0_decipher_91 : decode cX0_decipher 91 = .ok (.iload 6, 2) := by decide +kernel
theorem dX0_decipher_93 : decode cX0_decipher 93 = .ok (.iload 5, 2) := by decide +kernel
theorem dX0_decipher_95 : decode cX0_decipher 95 = .ok (.invokestatic 24, 3) := by decide +kernel
theorem dX0_decipher_98 : decode cX0_decipher 98 = .ok (.aload_n 0, 1) := by decide +kernel
theorem dX0_decipher_99 : decode cX0_decipher 99 = .ok (.getfield 9, 3) := by decide +kernel
theorem dX0_decipher_102 : decode cX0_decipher 102 = .ok (.iload 9, 2) := by decide +kernel
theorem dX0_decipher_104 : decode cX0_decipher 104 = .ok (.iaload, 1) := by decide +kernel
theorem dX0_decipher_105 : decode cX0_decipher 105 = .ok (.ixor, 1) := by decide +kernel
theorem dX0_decipher_106 : decode cX0_decipher 106 = .ok (.istore 10, 2) := by decide +kernel
theorem dX0_decipher_108 : decode cX0_decipher 108 = .ok (.getstatic 39, 3) := by decide +kernel
theorem dX0_decipher_111 : decode cX0_decipher 111 = .ok (.iload 5, 2) := by decide +kernel
theorem dX0_decipher_113 : decode cX0_decipher 113 = .ok (.iload 4, 2) := by decide +kernel
theorem dX0_decipher_115 : decode cX0_decipher 115 = .ok (.iload 7, 2) := by decide +kernel
theorem dX0_decipher_117 : decode cX0_decipher 117 = .ok (.iload 6, 2) := by decide +kernel
theorem dX0_decipher_119 : decode cX0_decipher 119 = .ok (.invokestatic 24, 3) := by decide +kernel
theorem dX0_decipher_122 : decode cX0_decipher 122 = .ok (.aload_n 0, 1) := by decide +kernel
theorem dX0_decipher_123 : decode cX0_decipher 123 = .ok (.getfield 9, 3) := by decide +kernel
theorem dX0_decipher_126 : decode cX0_decipher 126 = .ok (.iload 9, 2) := by decide +kernel
theorem dX0_decipher_128 : decode cX0_decipher 128 = .ok (.iconst 1, 1) := by decide +kernel
theorem dX0_decipher_129 : decode cX0_decipher 129 = .ok (.iadd, 1) := by decide +kernel
theorem dX0_decipher_130 : decode cX0_decipher 130 = .ok (.iaload, 1) := by decide +kernel
theorem dX0_decipher_131 : decode cX0_decipher 131 = .ok (.ixor, 1) := by decide +kernel
theorem dX0_decipher_132 : decode cX0_decipher 132 = .ok (.istore 11, 2) := by decide +kernel
theorem dX0_decipher_134 : decode cX0_decipher 134 = .ok (.getstatic 39, 3) := by decide +kernel
theorem dX0_decipher_137 : decode cX0_decipher 137 = .ok (.iload 6, 2) := by decide +kernel
theorem dX0_decipher_139 : decode cX0_decipher 139 = .ok (.iload 5, 2) := by decide +kernel
theorem dX0_decipher_141 : decode cX0_decipher 141 = .ok (.iload 4, 2) := by decide +kernel
theorem dX0_decipher_143 : decode cX0_decipher 143 = .ok (.iload 7, 2) := by decide +kernel
theorem dX0_decipher_145 : decode cX0_decipher 145 = .ok (.invokestatic 24, 3) := by decide +kernel
theorem dX0_decipher_148 : decode cX0_decipher 148 = .ok (.aload_n 0, 1) := by decide +kernel
theorem dX0_decipher_149 : decode cX0_decipher 149 = .ok (.getfield 9, 3) := by decide +kernel
theorem dX0_decipher_152 : decode cX0_decipher 152 = .ok (.iload 9, 2) := by decide +kernel
theorem dX0_decipher_154 : decode cX0_decipher 154 = .ok (.iconst 2, 1) := by decide +kernel
theorem dX0_decipher_155 : decode cX0_decipher 155 = .ok (.iadd, 1) := by decide +kernel
theorem dX0_decipher_156 : decode cX0_decipher 156 = .ok (.iaload, 1) := by decide +kernel
theorem dX0_decipher_157 : decode cX0_decipher 157 = .ok (.ixor, 1) := by decide +kernel
theorem dX0_decipher_158 : decode cX0_decipher 158 = .ok (.istore 12, 2) := by decide +kernel
theorem dX0_decipher_160 : decode cX0_decipher 160 = .ok (.getstatic 39, 3) := by decide +kernel
theorem dX0_decipher_163 : decode cX0_decipher 163 = .ok (.iload 7, 2) := by decide +kernel
theorem dX0_decipher_165 : decode cX0_decipher 165 = .ok (.iload 6, 2) := by decide +kernel
theorem dX0_decipher_167 : decode cX0_decipher 167 = .ok (.iload 5, 2) := by decide +kernel
theorem dX0_decipher_169 : decode cX0_decipher 169 = .ok (.iload 4, 2) := by decide +kernel
theorem dX0_decipher_171 : decode cX0_decipher 171 = .ok (.invokestatic 24, 3) := by decide +kernel
theorem dX0_decipher_174 : decode cX0_decipher 174 = .ok (.aload_n 0, 1) := by decide +kernel
theorem dX0_decipher_175 : decode cX0_decipher 175 = .ok (.getfield 9, 3) := by decide +kernel
theorem dX0_decipher_178 : decode cX0_decipher 178 = .ok (.iload 9, 2) := by decide +kernel
theorem dX0_decipher_180 : decode cX0_decipher 180 = .ok (.iconst 3, 1) := by decide +kernel
theorem dX0_decipher_181 : decode cX0_decipher 181 = .ok (.iadd, 1) := by decide +kernel
theorem dX0_decipher_182 : decode cX0_decipher 182 = .ok (.iaload, 1) := by decide +kernel
theorem dX0_decipher_183 : decode cX0_decipher 183 = .ok (.ixor, 1) := by decide +kernel
theorem dX0_decipher_184 : decode cX0_decipher 184 = .ok (.istore 13, 2) := by decide +kernel
theorem dX0_decipher_186 : decode cX0_decipher 186 = .ok (.iload 8, 2) := by decide +kernel
theorem dX0_decipher_188 : decode cX0_decipher 188 = .ok (.ifCond .le 7, 3) := by decide +kernel
theorem dX0_decipher_191 : decode cX0_decipher 191 = .ok (.iconst 1, 1) := by decide +kernel
theorem dX0_decipher_192 : decode cX0_decipher 192 = .ok (.goto 4, 3) := by decide +kernel
theorem dX0_decipher_195 : decode cX0_decipher 195 = .ok (.iconst 0, 1) := by decide +kernel
theorem dX0_decipher_196 : decode cX0_decipher 196 = .ok (.istore 14, 2) := by decide +kernel
theorem dX0_decipher_198 : decode cX0_decipher 198 = .ok (.iload 14, 2) := by decide +kernel
theorem dX0_decipher_200 : decode cX0_decipher 200 = .ok (.ifCond .eq 11, 3) := by decide +kernel
theorem dX0_decipher_203 : decode cX0_decipher 203 = .ok (.iload 10, 2) := by decide +kernel
theorem dX0_decipher_205 : decode cX0_decipher 205 = .ok (.invokestatic 42, 3) := by decide +kernel
theorem dX0_decipher_208 : decode cX0_decipher 208 = .ok (.goto 5, 3) := by decide +kernel
theorem dX0_decipher_211 : decode cX0_decipher 211 = .ok (.iload 10, 2) := by decide +kernel
theorem dX0_decipher_213 : decode cX0_decipher 213 = .ok (.istore 4, 2) := by decide +kernel
theorem dX0_decipher_215 : decode cX0_decipher 215 = .ok (.iload 14, 2) := by decide +kernel
theorem dX0_decipher_217 : decode cX0_decipher 217 = .ok (.ifCond .eq 11, 3) := by decide +kernel
theorem dX0_decipher_220 : decode cX0_decipher 220 = .ok (.iload 11, 2) := by decide +kernel
theorem dX0_decipher_222 : decode cX0_decipher 222 = .ok (.invokestatic 42, 3) := by decide +kernel
theorem dX0_decipher_225 : decode cX0_decipher 225 = .ok (.goto 5, 3) := by decide +kernel
theorem dX0_decipher_228 : decode cX0_decipher 228 = .ok (.iload 11, 2) := by decide +kernel
theorem dX0_decipher_230 : decode cX0_decipher 230 = .ok (.istore 5, 2) := by decide +kernel
theorem dX0_decipher_232 : decode cX0_decipher 232 = .ok (.iload 14, 2) := by decide +kernel
theorem dX0_decipher_234 : decode cX0_decipher 234 = .ok (.ifCond .eq 11, 3) := by decide +kernel
theorem dX0_decipher_237 : decode cX0_decipher 237 = .ok (.iload 12, 2) := by decide +kernel
theorem dX0_decipher_239 : decode cX0_decipher 239 = .ok (.invokestatic 42, 3) := by decide +kernel
theorem dX0_decipher_242 : decode cX0_decipher 242 = .ok (.goto 5, 3) := by decide +kernel
theorem dX0_decipher_245 : decode cX0_decipher 245 = .ok (.iload 12, 2) := by decide +kernel
theorem dX0_decipher_247 : decode cX0_decipher 247 = .ok (.istore 6, 2) := by decide +kernel
theorem dX0_decipher_249 : decode cX0_decipher 249 = .ok (.iload 14, 2) := by decide +kernel
theorem dX0_decipher_251 : decode cX0_decipher 251 = .ok (.ifCond .eq 11, 3) := by decide +kernel
theorem dX0_decipher_254 : decode cX0_decipher 254 = .ok (.iload 13, 2) := by decide +kernel
theorem dX0_decipher_256 : decode cX0_decipher 256 = .ok (.invokestatic 42, 3) := by decide +kernel
theorem dX0_decipher_259 : decode cX0_decipher 259 = .ok (.goto 5, 3) := by decide +kernel
theorem dX0_decipher_262 : decode cX0_decipher 262 = .ok (.iload 13, 2) := by decide +kernel
theorem dX0_decipher_264 : decode cX0_decipher 264 = .ok (.istore 7, 2) := by decide +kernel
theorem dX0_decipher_266 : decode cX0_decipher 266 = .ok (.iinc 8 (-1), 3) := by decide +kernel
theorem dX0_decipher_269 : decode cX0_decipher 269 = .ok (.goto (-196), 3) := by decide +kernel
theorem dX0_decipher_272 : decode cX0_decipher 272 = .ok (.aload_n 1, 1) := by decide +kernel
theorem dX0_decipher_273 : decode cX0_decipher 273 = .ok (.iload_n 2, 1) := by decide +kernel
theorem dX0_decipher_274 : decode cX0_decipher 274 = .ok (.iload 4, 2) := by decide +kernel
theorem dX0_decipher_276 : decode cX0_decipher 276 = .ok (.iload 5, 2) := by decide +kernel
theorem dX0_decipher_278 : decode cX0_decipher 278 = .ok (.invokestatic 35, 3) := by decide +kernel
theorem dX0_decipher_281 : decode cX0_decipher 281 = .ok (.lastore, 1) := by decide +kernel
theorem dX0_decipher_282 : decode cX0_decipher 282 = .ok (.aload_n 1, 1) := by decide +kernel
theorem dX0_decipher_283 : decode cX0_decipher 283 = .ok (.iload_n 2, 1) := by decide +kernel
theorem dX0_decipher_284 : decode cX0_decipher 284 = .ok (.iconst 1, 1) := by decide +kernel
theorem dX0_decipher_285 : decode cX0_decipher 285 = .ok (.iadd, 1) := by decide +kernel
theorem dX0_decipher_286 : decode cX0_decipher 286 = .ok (.iload 6, 2) := by decide +kernel
theorem dX0_decipher_288 : decode cX0_decipher 288 = .ok (.iload 7, 2) := by decide +kernel
theorem dX0_decipher_290 : decode cX0_decipher 290 = .ok (.invokestatic 35, 3) := by decide +kernel
theorem dX0_decipher_293 : decode cX0_decipher 293 = .ok (.lastore, 1) := by decide +kernel
theorem dX0_decipher_294 : decode cX0_decipher 294 = .ok (.return_, 1) := by decide +kernel
theorem dX0_substitute_0 : decode cX0_substitute 0 = .ok (.aload_n 0, 1) := by decide +kernel
theorem dX0_substitute_1 : decode cX0_substitute 1 = .ok (.iload_n 1, 1) := by decide +kernel
theorem dX0_substitute_2 : decode cX0_substitute 2 = .ok (.bipush 24, 2) := by decide +kernel
theorem dX0_substitute_4 : decode cX0_substitute 4 = .ok (.iushr, 1) := by decide +kernel
theorem dX0_substitute_5 : decode cX0_substitute 5 = .ok (.iaload, 1) := by decide +kernel
theorem dX0_substitute_6 : decode cX0_substitute 6 = .ok (.bipush 24, 2) := by decide +kernel
theorem dX0_substitute_8 : decode cX0_substitute 8 = .ok (.ishl, 1) := by decide +kernel
theorem dX0_substitute_9 : decode cX0_substitute 9 = .ok (.aload_n 0, 1) := by decide +kernel
theorem dX0_substitute_10 : decode cX0_substitute 10 = .ok (.iload_n 2, 1) := by decide +kernel
theorem dX0_substitute_11 : decode cX0_substitute 11 = .ok (.bipush 16, 2) := by decide +kernel
theorem dX0_substitute_13 : decode cX0_substitute 13 = .ok (.iushr, 1) := by decide +kernel
theorem dX0_substitute_14 : decode cX0_substitute 14 = .ok (.sipush 255, 3) := by decide +kernel
theorem dX0_substitute_17 : decode cX0_substitute 17 = .ok (.iand, 1) := by decide +kernel
theorem dX0_substitute_18 : decode cX0_substitute 18 = .ok (.iaload, 1) := by decide +kernel
theorem dX0_substitute_19 : decode cX0_substitute 19 = .ok (.bipush 16, 2) := by decide +kernel
theorem dX0_substitute_21 : decode cX0_substitute 21 = .ok (.ishl, 1) := by decide +kernel
theorem dX0_substitute_22 : decode cX0_substitute 22 = .ok (.ior, 1) := by decide +kernel
theorem dX0_substitute_23 : decode cX0_substitute 23 = .ok (.aload_n 0, 1) := by decide +kernel
theorem dX0_substitute_24 : decode cX0_substitute 24 = .ok (.iload_n 3, 1) := by decide +kernel
theorem dX0_substitute_25 : decode cX0_substitute 25 = .ok (.bipush 8, 2) := by decide +kernel
theorem dX0_substitute_27 : decode cX0_substitute 27 = .ok (.iushr, 1) := by decide +kernel
theorem dX0_substitute_28 : decode cX0_substitute 28 = .ok (.sipush 255, 3) := by decide +kernel
theorem dX0_substitute_31 : decode cX0_substitute 31 = .ok (.iand, 1) := by decide +kernel
theorem dX0_substitute_32 : decode cX0_substitute 32 = .ok (.iaload, 1) := by decide +kernel
theorem dX0_substitute_33 : decode cX0_substitute 33 = .ok (.bipush 8, 2) := by decide +kernel
theorem dX0_substitute_35 : decode cX0_substitute 35 = .ok (.ishl, 1) := by decide +kernel
theorem dX0_substitute_36 : decode cX0_substitute 36 = .ok (.ior, 1) := by decide +kernel
theorem dX0_substitute_37 : decode cX0_substitute 37 = .ok (.aload_n 0, 1) := by decide +kernel
theorem dX0_substitute_38 : decode cX0_substitute 38 = .ok (.iload 4, 2) := by decide +kernel
theorem dX0_substitute_40 : decode cX0_substitute 40 = .ok (.sipush 255, 3) := by decide +kernel
theorem dX0_substitute_43 : decode cX0_substitute 43 = .ok (.iand, 1) := by decide +kernel
theorem dX0_substitute_44 : decode cX0_substitute 44 = .ok (.iaload, 1) := by decide +kernel
theorem dX0_substitute_45 : decode cX0_substitute 45 = .ok (.ior, 1) := by decide +kernel
theorem dX0_substitute_46 : decode cX0_substitute 46 = .ok (.ireturn, 1) := by decide +kernel
theorem dX0_mix_0 : decode cX0_mix 0 = .ok (.iload_n 0, 1) := by decide +kernel
theorem dX0_mix_1 : decode cX0_mix 1 = .ok (.invokestatic 28, 3) := by decide +kernel
theorem dX0_mix_4 : decode cX0_mix 4 = .ok (.istore_n 1, 1) := by decide +kernel
theorem dX0_mix_5 : decode cX0_mix 5 = .ok (.iload_n 1, 1) := by decide +kernel
theorem dX0_mix_6 : decode cX0_mix 6 = .ok (.iload_n 1, 1) := by decide +kernel
theorem dX0_mix_7 : decode cX0_mix 7 = .ok (.iload_n 0, 1) := by decide +kernel
theorem dX0_mix_8 : decode cX0_mix 8 = .ok (.ixor, 1) := by decide +kernel
theorem dX0_mix_9 : decode cX0_mix 9 = .ok (.bipush 8, 2) := by decide +kernel
theorem dX0_mix_11 : decode cX0_mix 11 = .ok (.invokestatic 17, 3) := by decide +kernel
theorem dX0_mix_14 : decode cX0_mix 14 = .ok (.ixor, 1) := by decide +kernel
theorem dX0_mix_15 : decode cX0_mix 15 = .ok (.iload_n 0, 1) := by decide +kernel
theorem dX0_mix_16 : decode cX0_mix 16 = .ok (.bipush 16, 2) := by decide +kernel
theorem dX0_mix_18 : decode cX0_mix 18 = .ok (.invokestatic 17, 3) := by decide +kernel
theorem dX0_mix_21 : decode cX0_mix 21 = .ok (.ixor, 1) := by decide +kernel
theorem dX0_mix_22 : decode cX0_mix 22 = .ok (.iload_n 0, 1) := by decide +kernel
theorem dX0_mix_23 : decode cX0_mix 23 = .ok (.bipush 24, 2) := by decide +kernel
theorem dX0_mix_25 : decode cX0_mix 25 = .ok (.invokestatic 17, 3) := by decide +kernel
theorem dX0_mix_28 : decode cX0_mix 28 = .ok (.ixor, 1) := by decide +kernel
theorem dX0_mix_29 : decode cX0_mix 29 = .ok (.ireturn, 1) := by decide +kernel
theorem dX0_unmix_0 : decode cX0_unmix 0 = .ok (.iload_n 0, 1) := by decide +kernel
theorem dX0_unmix_1 : decode cX0_unmix 1 = .ok (.iload_n 0, 1) := by decide +kernel
theorem dX0_unmix_2 : decode cX0_unmix 2 = .ok (.bipush 16, 2) := by decide +kernel
theorem dX0_unmix_4 : decode cX0_unmix 4 = .ok (.invokestatic 17, 3) := by decide +kernel
theorem dX0_unmix_7 : decode cX0_unmix 7 = .ok (.ixor, 1) := by decide +kernel
theorem dX0_unmix_8 : decode cX0_unmix 8 = .ok (.invokestatic 28, 3) := by decide +kernel
theorem dX0_unmix_11 : decode cX0_unmix 11 = .ok (.invokestatic 28, 3) := by decide +kernel
theorem dX0_unmix_14 : decode cX0_unmix 14 = .ok (.istore_n 1, 1) := by decide +kernel
theorem dX0_unmix_15 : decode cX0_unmix 15 = .ok (.iload_n 0, 1) := by decide +kernel
theorem dX0_unmix_16 : decode cX0_unmix 16 = .ok (.iload_n 1, 1) := by decide +kernel
theorem dX0_unmix_17 : decode cX0_unmix 17 = .ok (.ixor, 1) := by decide +kernel
theorem dX0_unmix_18 : decode cX0_unmix 18 = .ok (.invokestatic 32, 3) := by decide +kernel
theorem dX0_unmix_21 : decode cX0_unmix 21 = .ok (.ireturn, 1) := by decide +kernel
theorem dX0_doubleEach_0 : decode cX0_doubleEach 0 = .ok (.iload_n 0, 1) := by decide +kernel
theorem dX0_doubleEach_1 : decode cX0_doubleEach 1 = .ok (.ldc 45, 2) := by decide +kernel
theorem dX0_doubleEach_3 : decode cX0_doubleEach 3 = .ok (.iand, 1) := by decide +kernel
theorem dX0_doubleEach_4 : decode cX0_doubleEach 4 = .ok (.iconst 1, 1) := by decide +kernel
theorem dX0_doubleEach_5 : decode cX0_doubleEach 5 = .ok (.ishl, 1) := by decide +kernel
theorem dX0_doubleEach_6 : decode cX0_doubleEach 6 = .ok (.iload_n 0, 1) := by decide +kernel
theorem dX0_doubleEach_7 : decode cX0_doubleEach 7 = .ok (.bipush 7, 2) := by decide +kernel
theorem dX0_doubleEach_9 : decode cX0_doubleEach 9 = .ok (.iushr, 1) := by decide +kernel
theorem dX0_doubleEach_10 : decode cX0_doubleEach 10 = .ok (.ldc 46, 2) := by decide +kernel
theorem dX0_doubleEach_12 : decode cX0_doubleEach 12 = .ok (.iand, 1) := by decide +kernel
theorem dX0_doubleEach_13 : decode cX0_doubleEach 13 = .ok (.bipush 27, 2) := by decide +kernel
theorem dX0_doubleEach_15 : decode cX0_doubleEach 15 = .ok (.imul, 1) := by decide +kernel
theorem dX0_doubleEach_16 : decode cX0_doubleEach 16 = .ok (.ixor, 1) := by decide +kernel
theorem dX0_doubleEach_17 : decode cX0_doubleEach 17 = .ok (.ireturn, 1) := by decide +kernel
theorem dX0_turn_0 : decode cX0_turn 0 = .ok (.iload_n 0, 1) := by decide +kernel
theorem dX0_turn_1 : decode cX0_turn 1 = .ok (.iload_n 1, 1) := by decide +kernel
theorem dX0_turn_2 : decode cX0_turn 2 = .ok (.ishl, 1) := by decide +kernel
theorem dX0_turn_3 : decode cX0_turn 3 = .ok (.iload_n 0, 1) := by decide +kernel
theorem dX0_turn_4 : decode cX0_turn 4 = .ok (.bipush 32, 2) := by decide +kernel
theorem dX0_turn_6 : decode cX0_turn 6 = .ok (.iload_n 1, 1) := by decide +kernel
theorem dX0_turn_7 : decode cX0_turn 7 = .ok (.isub, 1) := by decide +kernel
theorem dX0_turn_8 : decode cX0_turn 8 = .ok (.iushr, 1) := by decide +kernel
theorem dX0_turn_9 : decode cX0_turn 9 = .ok (.ior, 1) := by decide +kernel
theorem dX0_turn_10 : decode cX0_turn 10 = .ok (.ireturn, 1) := by decide +kernel
theorem dX0_highInt_0 : decode cX0_highInt 0 = .ok (.lload_n 0, 1) := by decide +kernel
theorem dX0_highInt_1 : decode cX0_highInt 1 = .ok (.bipush 32, 2) := by decide +kernel
theorem dX0_highInt_3 : decode cX0_highInt 3 = .ok (.lushr, 1) := by decide +kernel
theorem dX0_highInt_4 : decode cX0_highInt 4 = .ok (.l2i, 1) := by decide +kernel
theorem dX0_highInt_5 : decode cX0_highInt 5 = .ok (.ireturn, 1) := by decide +kernel
theorem dX0_join_0 : decode cX0_join 0 = .ok (.iload_n 0, 1) := by decide +kernel
theorem dX0_join_1 : decode cX0_join 1 = .ok (.i2l, 1) := by decide +kernel
theorem dX0_join_2 : decode cX0_join 2 = .ok (.bipush 32, 2) := by decide +kernel
theorem dX0_join_4 : decode cX0_join 4 = .ok (.lshl, 1) := by decide +kernel
theorem dX0_join_5 : decode cX0_join 5 = .ok (.iload_n 1, 1) := by decide +kernel
theorem dX0_join_6 : decode cX0_join 6 = .ok (.i2l, 1) := by decide +kernel
theorem dX0_join_7 : decode cX0_join 7 = .ok (.ldc2_w 47, 3) := by decide +kernel
theorem dX0_join_10 : decode cX0_join 10 = .ok (.land, 1) := by decide +kernel
theorem dX0_join_11 : decode cX0_join 11 = .ok (.lor, 1) := by decide +kernel
theorem dX0_join_12 : decode cX0_join 12 = .ok (.lreturn, 1) := by decide +kernel
theorem dX1_init_0 : decode cX1_init 0 = .ok (.aload_n 0, 1) := by decide +kernel
theorem dX1_init_1 : decode cX1_init 1 = .ok (.invokespecial 1, 3) := by decide +kernel
theorem dX1_init_4 : decode cX1_init 4 = .ok (.aload_n 0, 1) := by decide +kernel
theorem dX1_init_5 : decode cX1_init 5 = .ok (.bipush 16, 2) := by decide +kernel
theorem dX1_init_7 : decode cX1_init 7 = .ok (.newarray .long, 2) := by decide +kernel
theorem dX1_init_9 : decode cX1_init 9 = .ok (.putfield 9, 3) := by decide +kernel
theorem dX1_init_12 : decode cX1_init 12 = .ok (.aload_n 0, 1) := by decide +kernel
theorem dX1_init_13 : decode cX1_init 13 = .ok (.iconst 2, 1) := by decide +kernel
theorem dX1_init_14 : decode cX1_init 14 = .ok (.newarray .long, 2) := by decide +kernel
theorem dX1_init_16 : decode cX1_init 16 = .ok (.putfield 13, 3) := by decide +kernel
theorem dX1_init_19 : decode cX1_init 19 = .ok (.aload_n 0, 1) := by decide +kernel
theorem dX1_init_20 : decode cX1_init 20 = .ok (.new 16, 3) := by decide +kernel
theorem dX1_init_23 : decode cX1_init 23 = .ok (.dup, 1) := by decide +kernel
theorem dX1_init_24 : decode cX1_init 24 = .ok (.invokespecial 18, 3) := by decide +kernel
theorem dX1_init_27 : decode cX1_init 27 = .ok (.putfield 19, 3) := by decide +kernel
theorem dX1_init_30 : decode cX1_init 30 = .ok (.aload_n 0, 1) := by decide +kernel
theorem dX1_init_31 : decode cX1_init 31 = .ok (.new 16, 3) := by decide +kernel
theorem dX1_init_34 : decode cX1_init 34 = .ok (.dup, 1) := by decide +kernel
theorem dX1_init_35 : decode cX1_init 35 = .ok (.invokespecial 18, 3) := by decide +kernel
theorem dX1_init_38 : decode cX1_init 38 = .ok (.putfield 23, 3) := by decide +kernel
theorem dX1_init_41 : decode cX1_init 41 = .ok (.aload_n 0, 1) := by decide +kernel
theorem dX1_init_42 : decode cX1_init 42 = .ok (.getfield 19, 3) := by decide +kernel
theorem dX1_init_45 : decode cX1_init 45 = .ok (.lconst 0, 1) := by decide +kernel
theorem dX1_init_46 : decode cX1_init 46 = .ok (.lconst 0, 1) := by decide +kernel
theorem dX1_init_47 : decode cX1_init 47 = .ok (.invokevirtual 26, 3) := by decide +kernel
theorem dX1_init_50 : decode cX1_init 50 = .ok (.aload_n 0, 1) := by decide +kernel
theorem dX1_init_51 : decode cX1_init 51 = .ok (.getfield 23, 3) := by decide +kernel
theorem dX1_init_54 : decode cX1_init 54 = .ok (.lconst 0, 1) := by decide +kernel
theorem dX1_init_55 : decode cX1_init 55 = .ok (.lconst 0, 1) := by decide +kernel
theorem dX1_init_56 : decode cX1_init 56 = .ok (.invokevirtual 26, 3) := by decide +kernel
theorem dX1_init_59 : decode cX1_init 59 = .ok (.return_, 1) := by decide +kernel
theorem dX1_key_0 : decode cX1_key 0 = .ok (.aload_n 0, 1) := by decide +kernel
theorem dX1_key_1 : decode cX1_key 1 = .ok (.getfield 19, 3) := by decide +kernel
theorem dX1_key_4 : decode cX1_key 4 = .ok (.lload_n 1, 1) := by decide +kernel
theorem dX1_key_5 : decode cX1_key 5 = .ok (.lload_n 3, 1) := by decide +kernel
theorem dX1_key_6 : decode cX1_key 6 = .ok (.invokevirtual 26, 3) := by decide +kernel
theorem dX1_key_9 : decode cX1_key 9 = .ok (.aload_n 0, 1) := by decide +kernel
theorem dX1_key_10 : decode cX1_key 10 = .ok (.getfield 23, 3) := by decide +kernel
theorem dX1_key_13 : decode cX1_key 13 = .ok (.lload 5, 2) := by decide +kernel
theorem dX1_key_15 : decode cX1_key 15 = .ok (.lload 7, 2) := by decide +kernel
theorem dX1_key_17 : decode cX1_key 17 = .ok (.invokevirtual 26, 3) := by decide +kernel
theorem dX1_key_20 : decode cX1_key 20 = .ok (.return_, 1) := by decide +kernel
theorem dX1_put_0 : decode cX1_put 0 = .ok (.iload_n 1, 1) := by decide +kernel
theorem dX1_put_1 : decode cX1_put 1 = .ok (.ifCond .lt 9, 3) := by decide +kernel
theorem dX1_put_4 : decode cX1_put 4 = .ok (.iload_n 1, 1) := by decide +kernel
theorem dX1_put_5 : decode cX1_put 5 = .ok (.bipush 16, 2) := by decide +kernel
theorem dX1_put_7 : decode cX1_put 7 = .ok (.if_icmp .lt 13, 3) := by decide +kernel
theorem dX1_put_10 : decode cX1_put 10 = .ok (.new 30, 3) := by decide +kernel
theorem dX1_put_13 : decode cX1_put 13 = .ok (.dup, 1) := by decide +kernel
theorem dX1_put_14 : decode cX1_put 14 = .ok (.ldc 32, 2) := by decide +kernel
theorem dX1_put_16 : decode cX1_put 16 = .ok (.invokespecial 34, 3) := by decide +kernel
theorem dX1_put_19 : decode cX1_put 19 = .ok (.athrow, 1) := by decide +kernel
theorem dX1_put_20 : decode cX1_put 20 = .ok (.aload_n 0, 1) := by decide +kernel
theorem dX1_put_21 : decode cX1_put 21 = .ok (.getfield 9, 3) := by decide +kernel
theorem dX1_put_24 : decode cX1_put 24 = .ok (.iload_n 1, 1) := by decide +kernel
theorem dX1_put_25 : decode cX1_put 25 = .ok (.laload, 1) := by decide +kernel
theorem dX1_put_26 : decode cX1_put 26 = .ok (.lstore 4, 2) := by decide +kernel
theorem dX1_put_28 : decode cX1_put 28 = .ok (.aload_n 0, 1) := by decide +kernel
theorem dX1_put_29 : decode cX1_put 29 = .ok (.getfield 9, 3) := by decide +kernel
theorem dX1_put_32 : decode cX1_put 32 = .ok (.iload_n 1, 1) := by decide +kernel
theorem dX1_put_33 : decode cX1_put 33 = .ok (.lload_n 2, 1) := by decide +kernel
theorem dX1_put_34 : decode cX1_put 34 = .ok (.lastore, 1) := by decide +kernel
theorem dX1_put_35 : decode cX1_put 35 = .ok (.lload 4, 2) := by decide +kernel
theorem dX1_put_37 : decode cX1_put 37 = .ok (.lreturn, 1) := by decide +kernel
theorem dX1_get_0 : decode cX1_get 0 = .ok (.iload_n 1, 1) := by decide +kernel
theorem dX1_get_1 : decode cX1_get 1 = .ok (.ifCond .lt 9, 3) := by decide +kernel
theorem dX1_get_4 : decode cX1_get 4 = .ok (.iload_n 1, 1) := by decide +kernel
theorem dX1_get_5 : decode cX1_get 5 = .ok (.bipush 16, 2) := by decide +kernel
theorem dX1_get_7 : decode cX1_get 7 = .ok (.if_icmp .lt 13, 3) := by decide +kernel
theorem dX1_get_10 : decode cX1_get 10 = .ok (.new 30, 3) := by decide +kernel
theorem dX1_get_13 : decode cX1_get 13 = .ok (.dup, 1) := by decide +kernel
theorem dX1_get_14 : decode cX1_get 14 = .ok (.ldc 32, 2) := by decide +kernel
theorem dX1_get_16 : decode cX1_get 16 = .ok (.invokespecial 34, 3) := by decide +kernel
theorem dX1_get_19 : decode cX1_get 19 = .ok (.athrow, 1) := by decide +kernel
theorem dX1_get_20 : decode cX1_get 20 = .ok (.aload_n 0, 1) := by decide +kernel
theorem dX1_get_21 : decode cX1_get 21 = .ok (.getfield 9, 3) := by decide +kernel
theorem dX1_get_24 : decode cX1_get 24 = .ok (.iload_n 1, 1) := by decide +kernel
theorem dX1_get_25 : decode cX1_get 25 = .ok (.laload, 1) := by decide +kernel
theorem dX1_get_26 : decode cX1_get 26 = .ok (.lreturn, 1) := by decide +kernel
theorem dX1_sector_0 : decode cX1_sector 0 = .ok (.iload_n 1, 1) := by decide +kernel
theorem dX1_sector_1 : decode cX1_sector 1 = .ok (.ifCond .ge 13, 3) := by decide +kernel
theorem dX1_sector_4 : decode cX1_sector 4 = .ok (.new 37, 3) := by decide +kernel
theorem dX1_sector_7 : decode cX1_sector 7 = .ok (.dup, 1) := by decide +kernel
theorem dX1_sector_8 : decode cX1_sector 8 = .ok (.ldc 39, 2) := by decide +kernel
theorem dX1_sector_10 : decode cX1_sector 10 = .ok (.invokespecial 41, 3) := by decide +kernel
theorem dX1_sector_13 : decode cX1_sector 13 = .ok (.athrow, 1) := by decide +kernel
theorem dX1_sector_14 : decode cX1_sector 14 = .ok (.aload_n 0, 1) := by decide +kernel
theorem dX1_sector_15 : decode cX1_sector 15 = .ok (.iload_n 1, 1) := by decide +kernel
theorem dX1_sector_16 : decode cX1_sector 16 = .ok (.invokevirtual 42, 3) := by decide +kernel
theorem dX1_sector_19 : decode cX1_sector 19 = .ok (.iconst 0, 1) := by decide +kernel
theorem dX1_sector_20 : decode cX1_sector 20 = .ok (.istore_n 3, 1) := by decide +kernel
theorem dX1_sector_21 : decode cX1_sector 21 = .ok (.iload_n 3, 1) := by decide +kernel
theorem dX1_sector_22 : decode cX1_sector 22 = .ok (.bipush 16, 2) := by decide +kernel
theorem dX1_sector_24 : decode cX1_sector 24 = .ok (.if_icmp .ge 54, 3) := by decide +kernel
theorem dX1_sector_27 : decode cX1_sector 27 = .ok (.aload_n 0, 1) := by decide +kernel
theorem dX1_sector_28 : decode cX1_sector 28 = .ok (.iload_n 3, 1) := by decide +kernel
theorem dX1_sector_29 : decode cX1_sector 29 = .ok (.invokevirtual 46, 3) := by decide +kernel
theorem dX1_sector_32 : decode cX1_sector 32 = .ok (.iload_n 2, 1) := by decide +kernel
theorem dX1_sector_33 : decode cX1_sector 33 = .ok (.ifCond .eq 18, 3) := by decide +kernel
theorem dX1_sector_36 : decode cX1_sector 36 = .ok (.aload_n 0, 1) := by decide +kernel
theorem dX1_sector_37 : decode cX1_sector 37 = .ok (.getfield 19, 3) := by decide +kernel
theorem dX1_sector_40 : decode cX1_sector 40 = .ok (.aload_n 0, 1) := by decide +kernel
theorem dX1_sector_41 : decode cX1_sector 41 = .ok (.getfield 9, 3) := by decide +kernel
theorem dX1_sector_44 : decode cX1_sector 44 = .ok (.iload_n 3, 1) := by decide +kernel
theorem dX1_sector_45 : decode cX1_sector 45 = .ok (.invokevirtual 49, 3) := by decide +kernel
theorem dX1_sector_48 : decode cX1_sector 48 = .ok (.goto 15, 3) := by decide +kernel
theorem dX1_sector_51 : decode cX1_sector 51 = .ok (.aload_n 0, 1) := by decide +kernel
theorem dX1_sector_52 : decode cX1_sector 52 = .ok (.getfield 19, 3) := by decide +kernel
theorem dX1_sector_55 : decode cX1_sector 55 = .ok (.aload_n 0, 1) := by decide +kernel
theorem dX1_sector_56 : decode cX1_sector 56 = .ok (.getfield 9, 3) := by decide +kernel
theorem dX1_sector_59 : decode cX1_sector 59 = .ok (.iload_n 3, 1) := by decide +kernel
theorem dX1_sector_60 : decode cX1_sector 60 = .ok (.invokevirtual 53, 3) := by decide +kernel
theorem dX1_sector_63 : decode cX1_sector 63 = .ok (.aload_n 0, 1) := by decide +kernel
theorem dX1_sector_64 : decode cX1_sector 64 = .ok (.iload_n 3, 1) := by decide +kernel
theorem dX1_sector_65 : decode cX1_sector 65 = .ok (.invokevirtual 46, 3) := by decide +kernel
theorem dX1_sector_68 : decode cX1_sector 68 = .ok (.aload_n 0, 1) := by decide +kernel
theorem dX1_sector_69 : decode cX1_sector 69 = .ok (.invokevirtual 56, 3) := by decide +kernel
theorem dX1_sector_72 : decode cX1_sector 72 = .ok (.iinc 3 2, 3) := by decide +kernel
theorem dX1_sector_75 : decode cX1_sector 75 = .ok (.goto (-54), 3) := by decide +kernel
theorem dX1_sector_78 : decode cX1_sector 78 = .ok (.aload_n 0, 1) := by decide +kernel
theorem dX1_sector_79 : decode cX1_sector 79 = .ok (.getfield 9, 3) := by decide +kernel
theorem dX1_sector_82 : decode cX1_sector 82 = .ok (.iconst 0, 1) := by decide +kernel
theorem dX1_sector_83 : decode cX1_sector 83 = .ok (.laload, 1) := by decide +kernel
theorem dX1_sector_84 : decode cX1_sector 84 = .ok (.lreturn, 1) := by decide +kernel
theorem dX1_block_0 : decode cX1_block 0 = .ok (.iload_n 1, 1) := by decide +kernel
theorem dX1_block_1 : decode cX1_block 1 = .ok (.ifCond .lt 9, 3) := by decide +kernel
theorem dX1_block_4 : decode cX1_block 4 = .ok (.iload_n 1, 1) := by decide +kernel
theorem dX1_block_5 : decode cX1_block 5 = .ok (.bipush 8, 2) := by decide +kernel
theorem dX1_block_7 : decode cX1_block 7 = .ok (.if_icmp .lt 13, 3) := by decide +kernel
theorem dX1_block_10 : decode cX1_block 10 = .ok (.new 30, 3) := by decide +kernel
theorem dX1_block_13 : decode cX1_block 13 = .ok (.dup, 1) := by decide +kernel
theorem dX1_block_14 : decode cX1_block 14 = .ok (.ldc 59, 2) := by decide +kernel
theorem dX1_block_16 : decode cX1_block 16 = .ok (.invokespecial 34, 3) := by decide +kernel
theorem dX1_block_19 : decode cX1_block 19 = .ok (.athrow, 1) := by decide +kernel
theorem dX1_block_20 : decode cX1_block 20 = .ok (.iload_n 3, 1) := by decide +kernel
theorem dX1_block_21 : decode cX1_block 21 = .ok (.ifCond .eq 10, 3) := by decide +kernel
theorem dX1_block_24 : decode cX1_block 24 = .ok (.aload_n 0, 1) := by decide +kernel
theorem dX1_block_25 : decode cX1_block 25 = .ok (.getfield 23, 3) := by decide +kernel
theorem dX1_block_28 : decode cX1_block 28 = .ok (.goto 7, 3) := by decide +kernel
theorem dX1_block_31 : decode cX1_block 31 = .ok (.aload_n 0, 1) := by decide +kernel
theorem dX1_block_32 : decode cX1_block 32 = .ok (.getfield 19, 3) := by decide +kernel
theorem dX1_block_35 : decode cX1_block 35 = .ok (.astore 4, 2) := by decide +kernel
theorem dX1_block_37 : decode cX1_block 37 = .ok (.iconst 2, 1) := by decide +kernel
theorem dX1_block_38 : decode cX1_block 38 = .ok (.iload_n 1, 1) := by decide +kernel
theorem dX1_block_39 : decode cX1_block 39 = .ok (.imul, 1) := by decide +kernel
theorem dX1_block_40 : decode cX1_block 40 = .ok (.istore 5, 2) := by decide +kernel
theorem dX1_block_42 : decode cX1_block 42 = .ok (.iload_n 2, 1) := by decide +kernel
theorem dX1_block_43 : decode cX1_block 43 = .ok (.ifCond .eq 17, 3) := by decide +kernel
theorem dX1_block_46 : decode cX1_block 46 = .ok (.aload 4, 2) := by decide +kernel
theorem dX1_block_48 : decode cX1_block 48 = .ok (.aload_n 0, 1) := by decide +kernel
theorem dX1_block_49 : decode cX1_block 49 = .ok (.getfield 9, 3) := by decide +kernel
theorem dX1_block_52 : decode cX1_block 52 = .ok (.iload 5, 2) := by decide +kernel
theorem dX1_block_54 : decode cX1_block 54 = .ok (.invokevirtual 53, 3) := by decide +kernel
theorem dX1_block_57 : decode cX1_block 57 = .ok (.goto 14, 3) := by decide +kernel
theorem dX1_block_60 : decode cX1_block 60 = .ok (.aload 4, 2) := by decide +kernel
theorem dX1_block_62 : decode cX1_block 62 = .ok (.aload_n 0, 1) := by decide +kernel
theorem dX1_block_63 : decode cX1_block 63 = .ok (.getfield 9, 3) := by decide +kernel
theorem dX1_block_66 : decode cX1_block 66 = .ok (.iload 5, 2) := by decide +kernel
theorem dX1_block_68 : decode cX1_block 68 = .ok (.invokevirtual 49, 3) := by decide +kernel
theorem dX1_block_71 : decode cX1_block 71 = .ok (.aload_n 0, 1) := by decide +kernel
theorem dX1_block_72 : decode cX1_block 72 = .ok (.getfield 9, 3) := by decide +kernel
theorem dX1_block_75 : decode cX1_block 75 = .ok (.iload 5, 2) := by decide +kernel
theorem dX1_block_77 : decode cX1_block 77 = .ok (.laload, 1) := by decide +kernel
theorem dX1_block_78 : decode cX1_block 78 = .ok (.lreturn, 1) := by decide +kernel
theorem dX1_sum_0 : decode cX1_sum 0 = .ok (.lconst 0, 1) := by decide +kernel
theorem dX1_sum_1 : decode cX1_sum 1 = .ok (.lstore_n 1, 1) := by decide +kernel
theorem dX1_sum_2 : decode cX1_sum 2 = .ok (.iconst 0, 1) := by decide +kernel
theorem dX1_sum_3 : decode cX1_sum 3 = .ok (.istore_n 3, 1) := by decide +kernel
theorem dX1_sum_4 : decode cX1_sum 4 = .ok (.iload_n 3, 1) := by decide +kernel
theorem dX1_sum_5 : decode cX1_sum 5 = .ok (.bipush 16, 2) := by decide +kernel
theorem dX1_sum_7 : decode cX1_sum 7 = .ok (.if_icmp .ge 18, 3) := by decide +kernel
theorem dX1_sum_10 : decode cX1_sum 10 = .ok (.lload_n 1, 1) := by decide +kernel
theorem dX1_sum_11 : decode cX1_sum 11 = .ok (.aload_n 0, 1) := by decide +kernel
theorem dX1_sum_12 : decode cX1_sum 12 = .ok (.getfield 9, 3) := by decide +kernel
theorem dX1_sum_15 : decode cX1_sum 15 = .ok (.iload_n 3, 1) := by decide +kernel
theorem dX1_sum_16 : decode cX1_sum 16 = .ok (.laload, 1) := by decide +kernel
theorem dX1_sum_17 : decode cX1_sum 17 = .ok (.lxor, 1) := by decide +kernel
theorem dX1_sum_18 : decode cX1_sum 18 = .ok (.lstore_n 1, 1) := by decide +kernel
theorem dX1_sum_19 : decode cX1_sum 19 = .ok (.iinc 3 1, 3) := by decide +kernel
theorem dX1_sum_22 : decode cX1_sum 22 = .ok (.goto (-18), 3) := by decide +kernel
theorem dX1_sum_25 : decode cX1_sum 25 = .ok (.lload_n 1, 1) := by decide +kernel
theorem dX1_sum_26 : decode cX1_sum 26 = .ok (.lreturn, 1) := by decide +kernel
theorem dX1_startTweak_0 : decode cX1_startTweak 0 = .ok (.aload_n 0, 1) := by decide +kernel
theorem dX1_startTweak_1 : decode cX1_startTweak 1 = .ok (.getfield 13, 3) := by decide +kernel
theorem dX1_startTweak_4 : decode cX1_startTweak 4 = .ok (.iconst 0, 1) := by decide +kernel
theorem dX1_startTweak_5 : decode cX1_startTweak 5 = .ok (.iload_n 1, 1) := by decide +kernel
theorem dX1_startTweak_6 : decode cX1_startTweak 6 = .ok (.invokestatic 61, 3) := by decide +kernel
theorem dX1_startTweak_9 : decode cX1_startTweak 9 = .ok (.lastore, 1) := by decide +kernel
theorem dX1_startTweak_10 : decode cX1_startTweak 10 = .ok (.aload_n 0, 1) := by decide +kernel
theorem dX1_startTweak_11 : decode cX1_startTweak 11 = .ok (.getfield 13, 3) := by decide +kernel
theorem dX1_startTweak_14 : decode cX1_startTweak 14 = .ok (.iconst 1, 1) := by decide +kernel
theorem dX1_startTweak_15 : decode cX1_startTweak 15 = .ok (.lconst 0, 1) := by decide +kernel
theorem dX1_startTweak_16 : decode cX1_startTweak 16 = .ok (.lastore, 1) := by decide +kernel
theorem dX1_startTweak_17 : decode cX1_startTweak 17 = .ok (.aload_n 0, 1) := by decide +kernel
theorem dX1_startTweak_18 : decode cX1_startTweak 18 = .ok (.getfield 23, 3) := by decide +kernel
theorem dX1_startTweak_21 : decode cX1_startTweak 21 = .ok (.aload_n 0, 1) := by decide +kernel
theorem dX1_startTweak_22 : decode cX1_startTweak 22 = .ok (.getfield 13, 3) := by decide +kernel
theorem dX1_startTweak_25 : decode cX1_startTweak 25 = .ok (.iconst 0, 1) := by decide +kernel
theorem dX1_startTweak_26 : decode cX1_startTweak 26 = .ok (.invokevirtual 49, 3) := by decide +kernel
theorem dX1_startTweak_29 : decode cX1_startTweak 29 = .ok (.return_, 1) := by decide +kernel
theorem dX1_lowestByteFirst_0 : decode cX1_lowestByteFirst 0 = .ok (.iload_n 0, 1) := by decide +kernel
theorem dX1_lowestByteFirst_1 : decode cX1_lowestByteFirst 1 = .ok (.i2l, 1) := by decide +kernel
theorem dX1_lowestByteFirst_2 : decode cX1_lowestByteFirst 2 = .ok (.ldc2_w 65, 3) := by decide +kernel
theorem dX1_lowestByteFirst_5 : decode cX1_lowestByteFirst 5 = .ok (.land, 1) := by decide +kernel
theorem dX1_lowestByteFirst_6 : decode cX1_lowestByteFirst 6 = .ok (.bipush 8, 2) := by decide +kernel
theorem dX1_lowestByteFirst_8 : decode cX1_lowestByteFirst 8 = .ok (.lshl, 1) := by decide +kernel
theorem dX1_lowestByteFirst_9 : decode cX1_lowestByteFirst 9 = .ok (.iload_n 0, 1) := by decide +kernel
theorem dX1_lowestByteFirst_10 : decode cX1_lowestByteFirst 10 = .ok (.bipush 8, 2) := by decide +kernel
theorem dX1_lowestByteFirst_12 : decode cX1_lowestByteFirst 12 = .ok (.iushr, 1) := by decide +kernel
theorem dX1_lowestByteFirst_13 : decode cX1_lowestByteFirst 13 = .ok (.i2l, 1) := by decide +kernel
theorem dX1_lowestByteFirst_14 : decode cX1_lowestByteFirst 14 = .ok (.ldc2_w 65, 3) := by decide +kernel
theorem dX1_lowestByteFirst_17 : decode cX1_lowestByteFirst 17 = .ok (.land, 1) := by decide +kernel
theorem dX1_lowestByteFirst_18 : decode cX1_lowestByteFirst 18 = .ok (.lor, 1) := by decide +kernel
theorem dX1_lowestByteFirst_19 : decode cX1_lowestByteFirst 19 = .ok (.lstore_n 1, 1) := by decide +kernel
theorem dX1_lowestByteFirst_20 : decode cX1_lowestByteFirst 20 = .ok (.iload_n 0, 1) := by decide +kernel
theorem dX1_lowestByteFirst_21 : decode cX1_lowestByteFirst 21 = .ok (.bipush 16, 2) := by decide +kernel
theorem dX1_lowestByteFirst_23 : decode cX1_lowestByteFirst 23 = .ok (.iushr, 1) := by decide +kernel
theorem dX1_lowestByteFirst_24 : decode cX1_lowestByteFirst 24 = .ok (.i2l, 1) := by decide +kernel
theorem dX1_lowestByteFirst_25 : decode cX1_lowestByteFirst 25 = .ok (.ldc2_w 65, 3) := by decide +kernel
theorem dX1_lowestByteFirst_28 : decode cX1_lowestByteFirst 28 = .ok (.land, 1) := by decide +kernel
theorem dX1_lowestByteFirst_29 : decode cX1_lowestByteFirst 29 = .ok (.bipush 8, 2) := by decide +kernel
theorem dX1_lowestByteFirst_31 : decode cX1_lowestByteFirst 31 = .ok (.lshl, 1) := by decide +kernel
theorem dX1_lowestByteFirst_32 : decode cX1_lowestByteFirst 32 = .ok (.iload_n 0, 1) := by decide +kernel
theorem dX1_lowestByteFirst_33 : decode cX1_lowestByteFirst 33 = .ok (.bipush 24, 2) := by decide +kernel
theorem dX1_lowestByteFirst_35 : decode cX1_lowestByteFirst 35 = .ok (.iushr, 1) := by decide +kernel
theorem dX1_lowestByteFirst_36 : decode cX1_lowestByteFirst 36 = .ok (.i2l, 1) := by decide +kernel
theorem dX1_lowestByteFirst_37 : decode cX1_lowestByteFirst 37 = .ok (.ldc2_w 65, 3) := by decide +kernel
theorem dX1_lowestByteFirst_40 : decode cX1_lowestByteFirst 40 = .ok (.land, 1) := by decide +kernel
theorem dX1_lowestByteFirst_41 : decode cX1_lowestByteFirst 41 = .ok (.lor, 1) := by decide +kernel
theorem dX1_lowestByteFirst_42 : decode cX1_lowestByteFirst 42 = .ok (.lstore_n 3, 1) := by decide +kernel
theorem dX1_lowestByteFirst_43 : decode cX1_lowestByteFirst 43 = .ok (.lload_n 1, 1) := by decide +kernel
theorem dX1_lowestByteFirst_44 : decode cX1_lowestByteFirst 44 = .ok (.bipush 48, 2) := by decide +kernel
theorem dX1_lowestByteFirst_46 : decode cX1_lowestByteFirst 46 = .ok (.lshl, 1) := by decide +kernel
theorem dX1_lowestByteFirst_47 : decode cX1_lowestByteFirst 47 = .ok (.lload_n 3, 1) := by decide +kernel
theorem dX1_lowestByteFirst_48 : decode cX1_lowestByteFirst 48 = .ok (.bipush 32, 2) := by decide +kernel
theorem dX1_lowestByteFirst_50 : decode cX1_lowestByteFirst 50 = .ok (.lshl, 1) := by decide +kernel
theorem dX1_lowestByteFirst_51 : decode cX1_lowestByteFirst 51 = .ok (.lor, 1) := by decide +kernel
theorem dX1_lowestByteFirst_52 : decode cX1_lowestByteFirst 52 = .ok (.lreturn, 1) := by decide +kernel
theorem dX1_mask_0 : decode cX1_mask 0 = .ok (.aload_n 0, 1) := by decide +kernel
theorem dX1_mask_1 : decode cX1_mask 1 = .ok (.getfield 9, 3) := by decide +kernel
theorem dX1_mask_4 : decode cX1_mask 4 = .ok (.iload_n 1, 1) := by decide +kernel
theorem dX1_mask_5 : decode cX1_mask 5 = .ok (.dup2, 1) := by decide +kernel
theorem dX1_mask_6 : decode cX1_mask 6 = .ok (.laload, 1) := by decide +kernel
theorem dX1_mask_7 : decode cX1_mask 7 = .ok (.aload_n 0, 1) := by decide +kernel
theorem dX1_mask_8 : decode cX1_mask 8 = .ok (.getfield 13, 3) := by decide +kernel
theorem dX1_mask_11 : decode cX1_mask 11 = .ok (.iconst 0, 1) := by decide +kernel
theorem dX1_mask_12 : decode cX1_mask 12 = .ok (.laload, 1) := by decide +kernel
theorem dX1_mask_13 : decode cX1_mask 13 = .ok (.lxor, 1) := by decide +kernel
theorem dX1_mask_14 : decode cX1_mask 14 = .ok (.lastore, 1) := by decide +kernel
theorem dX1_mask_15 : decode cX1_mask 15 = .ok (.aload_n 0, 1) := by decide +kernel
theorem dX1_mask_16 : decode cX1_mask 16 = .ok (.getfield 9, 3) := by decide +kernel
theorem dX1_mask_19 : decode cX1_mask 19 = .ok (.iload_n 1, 1) := by decide +kernel
theorem dX1_mask_20 : decode cX1_mask 20 = .ok (.iconst 1, 1) := by decide +kernel
theorem dX1_mask_21 : decode cX1_mask 21 = .ok (.iadd, 1) := by decide +kernel
theorem dX1_mask_22 : decode cX1_mask 22 = .ok (.dup2, 1) := by decide +kernel
theorem dX1_mask_23 : decode cX1_mask 23 = .ok (.laload, 1) := by decide +kernel
theorem dX1_mask_24 : decode cX1_mask 24 = .ok (.aload_n 0, 1) := by decide +kernel
theorem dX1_mask_25 : decode cX1_mask 25 = .ok (.getfield 13, 3) := by decide +kernel
theorem dX1_mask_28 : decode cX1_mask 28 = .ok (.iconst 1, 1) := by decide +kernel
theorem dX1_mask_29 : decode cX1_mask 29 = .ok (.laload, 1) := by decide +kernel
theorem dX1_mask_30 : decode cX1_mask 30 = .ok (.lxor, 1) := by decide +kernel
theorem dX1_mask_31 : decode cX1_mask 31 = .ok (.lastore, 1) := by decide +kernel
theorem dX1_mask_32 : decode cX1_mask 32 = .ok (.return_, 1) := by decide +kernel
theorem dX1_doubleTweak_0 : decode cX1_doubleTweak 0 = .ok (.aload_n 0, 1) := by decide +kernel
theorem dX1_doubleTweak_1 : decode cX1_doubleTweak 1 = .ok (.getfield 13, 3) := by decide +kernel
theorem dX1_doubleTweak_4 : decode cX1_doubleTweak 4 = .ok (.iconst 0, 1) := by decide +kernel
theorem dX1_doubleTweak_5 : decode cX1_doubleTweak 5 = .ok (.laload, 1) := by decide +kernel
theorem dX1_doubleTweak_6 : decode cX1_doubleTweak 6 = .ok (.lstore_n 1, 1) := by decide +kernel
theorem dX1_doubleTweak_7 : decode cX1_doubleTweak 7 = .ok (.aload_n 0, 1) := by decide +kernel
theorem dX1_doubleTweak_8 : decode cX1_doubleTweak 8 = .ok (.getfield 13, 3) := by decide +kernel
theorem dX1_doubleTweak_11 : decode cX1_doubleTweak 11 = .ok (.iconst 1, 1) := by decide +kernel
theorem dX1_doubleTweak_12 : decode cX1_doubleTweak 12 = .ok (.laload, 1) := by decide +kernel
theorem dX1_doubleTweak_13 : decode cX1_doubleTweak 13 = .ok (.lstore_n 3, 1) := by decide +kernel
theorem dX1_doubleTweak_14 : decode cX1_doubleTweak 14 = .ok (.lload_n 1, 1) := by decide +kernel
theorem dX1_doubleTweak_15 : decode cX1_doubleTweak 15 = .ok (.bipush 7, 2) := by decide +kernel
theorem dX1_doubleTweak_17 : decode cX1_doubleTweak 17 = .ok (.lushr, 1) := by decide +kernel
theorem dX1_doubleTweak_18 : decode cX1_doubleTweak 18 = .ok (.lconst 1, 1) := by decide +kernel
theorem dX1_doubleTweak_19 : decode cX1_doubleTweak 19 = .ok (.land, 1) := by decide +kernel
theorem dX1_doubleTweak_20 : decode cX1_doubleTweak 20 = .ok (.lstore 5, 2) := by decide +kernel
theorem dX1_doubleTweak_22 : decode cX1_doubleTweak 22 = .ok (.lload_n 3, 1) := by decide +kernel
theorem dX1_doubleTweak_23 : decode cX1_doubleTweak 23 = .ok (.bipush 7, 2) := by decide +kernel
theorem dX1_doubleTweak_25 : decode cX1_doubleTweak 25 = .ok (.lushr, 1) := by decide +kernel
theorem dX1_doubleTweak_26 : decode cX1_doubleTweak 26 = .ok (.lconst 1, 1) := by decide +kernel
theorem dX1_doubleTweak_27 : decode cX1_doubleTweak 27 = .ok (.land, 1) := by decide +kernel
theorem dX1_doubleTweak_28 : decode cX1_doubleTweak 28 = .ok (.lstore 7, 2) := by decide +kernel
theorem dX1_doubleTweak_30 : decode cX1_doubleTweak 30 = .ok (.aload_n 0, 1) := by decide +kernel
theorem dX1_doubleTweak_31 : decode cX1_doubleTweak 31 = .ok (.getfield 13, 3) := by decide +kernel
theorem dX1_doubleTweak_34 : decode cX1_doubleTweak 34 = .ok (.iconst 0, 1) := by decide +kernel
theorem dX1_doubleTweak_35 : decode cX1_doubleTweak 35 = .ok (.lload_n 1, 1) := by decide +kernel
theorem dX1_doubleTweak_36 : decode cX1_doubleTweak 36 = .ok (.invokestatic 67, 3) := by decide +kernel
theorem dX1_doubleTweak_39 : decode cX1_doubleTweak 39 = .ok (.lload 7, 2) := by decide +kernel
theorem dX1_doubleTweak_41 : decode cX1_doubleTweak 41 = .ok (.ldc2_w 71, 3) := by decide +kernel
theorem dX1_doubleTweak_44 : decode cX1_doubleTweak 44 = .ok (.lmul, 1) := by decide +kernel
theorem dX1_doubleTweak_45 : decode cX1_doubleTweak 45 = .ok (.bipush 56, 2) := by decide +kernel
theorem dX1_doubleTweak_47 : decode cX1_doubleTweak 47 = .ok (.lshl, 1) := by decide +kernel
theorem dX1_doubleTweak_48 : decode cX1_doubleTweak 48 = .ok (.lxor, 1) := by decide +kernel
theorem dX1_doubleTweak_49 : decode cX1_doubleTweak 49 = .ok (.lastore, 1) := by decide +kernel
theorem dX1_doubleTweak_50 : decode cX1_doubleTweak 50 = .ok (.aload_n 0, 1) := by decide +kernel
theorem dX1_doubleTweak_51 : decode cX1_doubleTweak 51 = .ok (.getfield 13, 3) := by decide +kernel
theorem dX1_doubleTweak_54 : decode cX1_doubleTweak 54 = .ok (.iconst 1, 1) := by decide +kernel
theorem dX1_doubleTweak_55 : decode cX1_doubleTweak 55 = .ok (.lload_n 3, 1) := by decide +kernel
theorem dX1_doubleTweak_56 : decode cX1_doubleTweak 56 = .ok (.invokestatic 67, 3) := by decide +kernel
theorem dX1_doubleTweak_59 : decode cX1_doubleTweak 59 = .ok (.lload 5, 2) := by decide +kernel
theorem dX1_doubleTweak_61 : decode cX1_doubleTweak 61 = .ok (.bipush 56, 2) := by decide +kernel
theorem dX1_doubleTweak_63 : decode cX1_doubleTweak 63 = .ok (.lshl, 1) := by decide +kernel
theorem dX1_doubleTweak_64 : decode cX1_doubleTweak 64 = .ok (.lxor, 1) := by decide +kernel
theorem dX1_doubleTweak_65 : decode cX1_doubleTweak 65 = .ok (.lastore, 1) := by decide +kernel
theorem dX1_doubleTweak_66 : decode cX1_doubleTweak 66 = .ok (.return_, 1) := by decide +kernel
theorem dX1_doubleBytes_0 : decode cX1_doubleBytes 0 = .ok (.lload_n 0, 1) := by decide +kernel
theorem dX1_doubleBytes_1 : decode cX1_doubleBytes 1 = .ok (.ldc2_w 73, 3) := by decide +kernel
theorem dX1_doubleBytes_4 : decode cX1_doubleBytes 4 = .ok (.land, 1) := by decide +kernel
theorem dX1_doubleBytes_5 : decode cX1_doubleBytes 5 = .ok (.iconst 1, 1) := by decide +kernel
theorem dX1_doubleBytes_6 : decode cX1_doubleBytes 6 = .ok (.lshl, 1) := by decide +kernel
theorem dX1_doubleBytes_7 : decode cX1_doubleBytes 7 = .ok (.lload_n 0, 1) := by decide +kernel
theorem dX1_doubleBytes_8 : decode cX1_doubleBytes 8 = .ok (.bipush 15, 2) := by decide +kernel
theorem dX1_doubleBytes_10 : decode cX1_doubleBytes 10 = .ok (.lushr, 1) := by decide +kernel
theorem dX1_doubleBytes_11 : decode cX1_doubleBytes 11 = .ok (.ldc2_w 75, 3) := by decide +kernel
theorem dX1_doubleBytes_14 : decode cX1_doubleBytes 14 = .ok (.land, 1) := by decide +kernel
theorem dX1_doubleBytes_15 : decode cX1_doubleBytes 15 = .ok (.lor, 1) := by decide +kernel
theorem dX1_doubleBytes_16 : decode cX1_doubleBytes 16 = .ok (.lreturn, 1) := by decide +kernel
theorem dL_put_0 : decode cL_put 0 = .ok (.aload 4, 2) := by decide +kernel
theorem dL_put_2 : decode cL_put 2 = .ok (.iconst 0, 1) := by decide +kernel
theorem dL_put_3 : decode cL_put 3 = .ok (.aload_n 0, 1) := by decide +kernel
theorem dL_put_4 : decode cL_put 4 = .ok (.iload_n 1, 1) := by decide +kernel
theorem dL_put_5 : decode cL_put 5 = .ok (.lload_n 2, 1) := by decide +kernel
theorem dL_put_6 : decode cL_put 6 = .ok (.invokevirtual 7, 3) := by decide +kernel
theorem dL_put_9 : decode cL_put 9 = .ok (.lastore, 1) := by decide +kernel
theorem dL_put_10 : decode cL_put 10 = .ok (.goto 7, 3) := by decide +kernel
theorem dL_put_13 : decode cL_put 13 = .ok (.astore 5, 2) := by decide +kernel
theorem dL_put_15 : decode cL_put 15 = .ok (.iconst 1, 1) := by decide +kernel
theorem dL_put_16 : decode cL_put 16 = .ok (.ireturn, 1) := by decide +kernel
theorem dL_put_17 : decode cL_put 17 = .ok (.iconst 0, 1) := by decide +kernel
theorem dL_put_18 : decode cL_put 18 = .ok (.ireturn, 1) := by decide +kernel
theorem dL_get_0 : decode cL_get 0 = .ok (.aload_n 2, 1) := by decide +kernel
theorem dL_get_1 : decode cL_get 1 = .ok (.iconst 0, 1) := by decide +kernel
theorem dL_get_2 : decode cL_get 2 = .ok (.aload_n 0, 1) := by decide +kernel
theorem dL_get_3 : decode cL_get 3 = .ok (.iload_n 1, 1) := by decide +kernel
theorem dL_get_4 : decode cL_get 4 = .ok (.invokevirtual 15, 3) := by decide +kernel
theorem dL_get_7 : decode cL_get 7 = .ok (.lastore, 1) := by decide +kernel
theorem dL_get_8 : decode cL_get 8 = .ok (.goto 6, 3) := by decide +kernel
theorem dL_get_11 : decode cL_get 11 = .ok (.astore_n 3, 1) := by decide +kernel
theorem dL_get_12 : decode cL_get 12 = .ok (.iconst 1, 1) := by decide +kernel
theorem dL_get_13 : decode cL_get 13 = .ok (.ireturn, 1) := by decide +kernel
theorem dL_get_14 : decode cL_get 14 = .ok (.iconst 0, 1) := by decide +kernel
theorem dL_get_15 : decode cL_get 15 = .ok (.ireturn, 1) := by decide +kernel
theorem dL_sector_0 : decode cL_sector 0 = .ok (.aload_n 3, 1) := by decide +kernel
theorem dL_sector_1 : decode cL_sector 1 = .ok (.iconst 0, 1) := by decide +kernel
theorem dL_sector_2 : decode cL_sector 2 = .ok (.aload_n 0, 1) := by decide +kernel
theorem dL_sector_3 : decode cL_sector 3 = .ok (.iload_n 1, 1) := by decide +kernel
theorem dL_sector_4 : decode cL_sector 4 = .ok (.iload_n 2, 1) := by decide +kernel
theorem dL_sector_5 : decode cL_sector 5 = .ok (.invokevirtual 19, 3) := by decide +kernel
theorem dL_sector_8 : decode cL_sector 8 = .ok (.lastore, 1) := by decide +kernel
theorem dL_sector_9 : decode cL_sector 9 = .ok (.goto 7, 3) := by decide +kernel
theorem dL_sector_12 : decode cL_sector 12 = .ok (.astore 4, 2) := by decide +kernel
theorem dL_sector_14 : decode cL_sector 14 = .ok (.iconst 1, 1) := by decide +kernel
theorem dL_sector_15 : decode cL_sector 15 = .ok (.ireturn, 1) := by decide +kernel
theorem dL_sector_16 : decode cL_sector 16 = .ok (.iconst 0, 1) := by decide +kernel
theorem dL_sector_17 : decode cL_sector 17 = .ok (.ireturn, 1) := by decide +kernel
theorem dL_block_0 : decode cL_block 0 = .ok (.aload 4, 2) := by decide +kernel
theorem dL_block_2 : decode cL_block 2 = .ok (.iconst 0, 1) := by decide +kernel
theorem dL_block_3 : decode cL_block 3 = .ok (.aload_n 0, 1) := by decide +kernel
theorem dL_block_4 : decode cL_block 4 = .ok (.iload_n 1, 1) := by decide +kernel
theorem dL_block_5 : decode cL_block 5 = .ok (.iload_n 2, 1) := by decide +kernel
theorem dL_block_6 : decode cL_block 6 = .ok (.iload_n 3, 1) := by decide +kernel
theorem dL_block_7 : decode cL_block 7 = .ok (.invokevirtual 25, 3) := by decide +kernel
theorem dL_block_10 : decode cL_block 10 = .ok (.lastore, 1) := by decide +kernel
theorem dL_block_11 : decode cL_block 11 = .ok (.goto 7, 3) := by decide +kernel
theorem dL_block_14 : decode cL_block 14 = .ok (.astore 5, 2) := by decide +kernel
theorem dL_block_16 : decode cL_block 16 = .ok (.iconst 1, 1) := by decide +kernel
theorem dL_block_17 : decode cL_block 17 = .ok (.ireturn, 1) := by decide +kernel
theorem dL_block_18 : decode cL_block 18 = .ok (.iconst 0, 1) := by decide +kernel
theorem dL_block_19 : decode cL_block 19 = .ok (.ireturn, 1) := by decide +kernel
theorem dL_law_0 : decode cL_law 0 = .ok (.new 8, 3) := by decide +kernel
theorem dL_law_3 : decode cL_law 3 = .ok (.dup, 1) := by decide +kernel
theorem dL_law_4 : decode cL_law 4 = .ok (.invokespecial 29, 3) := by decide +kernel
theorem dL_law_7 : decode cL_law 7 = .ok (.astore_n 1, 1) := by decide +kernel
theorem dL_law_8 : decode cL_law 8 = .ok (.new 30, 3) := by decide +kernel
theorem dL_law_11 : decode cL_law 11 = .ok (.dup, 1) := by decide +kernel
theorem dL_law_12 : decode cL_law 12 = .ok (.invokespecial 32, 3) := by decide +kernel
theorem dL_law_15 : decode cL_law 15 = .ok (.astore_n 2, 1) := by decide +kernel
theorem dL_law_16 : decode cL_law 16 = .ok (.iconst 1, 1) := by decide +kernel
theorem dL_law_17 : decode cL_law 17 = .ok (.newarray .long, 2) := by decide +kernel
theorem dL_law_19 : decode cL_law 19 = .ok (.astore_n 3, 1) := by decide +kernel
theorem dL_law_20 : decode cL_law 20 = .ok (.iconst 0, 1) := by decide +kernel
theorem dL_law_21 : decode cL_law 21 = .ok (.istore 4, 2) := by decide +kernel
theorem dL_law_23 : decode cL_law 23 = .ok (.iload 4, 2) := by decide +kernel
theorem dL_law_25 : decode cL_law 25 = .ok (.aload_n 0, 1) := by decide +kernel
theorem dL_law_26 : decode cL_law 26 = .ok (.arraylength, 1) := by decide +kernel
theorem dL_law_27 : decode cL_law 27 = .ok (.bipush 9, 2) := by decide +kernel
theorem dL_law_29 : decode cL_law 29 = .ok (.isub, 1) := by decide +kernel
theorem dL_law_30 : decode cL_law 30 = .ok (.if_icmp .gt 611, 3) := by decide +kernel
theorem dL_law_33 : decode cL_law 33 = .ok (.aload_n 0, 1) := by decide +kernel
theorem dL_law_34 : decode cL_law 34 = .ok (.iload 4, 2) := by decide +kernel
theorem dL_law_36 : decode cL_law 36 = .ok (.iaload, 1) := by decide +kernel
theorem dL_law_37 : decode cL_law 37 = .ok (.bipush 7, 2) := by decide +kernel
theorem dL_law_39 : decode cL_law 39 = .ok (.iand, 1) := by decide +kernel
theorem dL_law_40 : decode cL_law 40 = .ok (.tableswitch 595 0 5 #[40, 233, 332, 387, 470, 581], 40) := by decide +kernel
theorem dL_law_80 : decode cL_law 80 = .ok (.aload_n 1, 1) := by decide +kernel
theorem dL_law_81 : decode cL_law 81 = .ok (.aload_n 0, 1) := by decide +kernel
theorem dL_law_82 : decode cL_law 82 = .ok (.iload 4, 2) := by decide +kernel
theorem dL_law_84 : decode cL_law 84 = .ok (.iconst 1, 1) := by decide +kernel
theorem dL_law_85 : decode cL_law 85 = .ok (.iadd, 1) := by decide +kernel
theorem dL_law_86 : decode cL_law 86 = .ok (.iaload, 1) := by decide +kernel
theorem dL_law_87 : decode cL_law 87 = .ok (.i2l, 1) := by decide +kernel
theorem dL_law_88 : decode cL_law 88 = .ok (.bipush 32, 2) := by decide +kernel
theorem dL_law_90 : decode cL_law 90 = .ok (.lshl, 1) := by decide +kernel
theorem dL_law_91 : decode cL_law 91 = .ok (.aload_n 0, 1) := by decide +kernel
theorem dL_law_92 : decode cL_law 92 = .ok (.iload 4, 2) := by decide +kernel
theorem dL_law_94 : decode cL_law 94 = .ok (.iconst 2, 1) := by decide +kernel
theorem dL_law_95 : decode cL_law 95 = .ok (.iadd, 1) := by decide +kernel
theorem dL_law_96 : decode cL_law 96 = .ok (.iaload, 1) := by decide +kernel
theorem dL_law_97 : decode cL_law 97 = .ok (.i2l, 1) := by decide +kernel
theorem dL_law_98 : decode cL_law 98 = .ok (.ldc2_w 33, 3) := by decide +kernel
theorem dL_law_101 : decode cL_law 101 = .ok (.land, 1) := by decide +kernel
theorem dL_law_102 : decode cL_law 102 = .ok (.lor, 1) := by decide +kernel
theorem dL_law_103 : decode cL_law 103 = .ok (.aload_n 0, 1) := by decide +kernel
theorem dL_law_104 : decode cL_law 104 = .ok (.iload 4, 2) := by decide +kernel
theorem dL_law_106 : decode cL_law 106 = .ok (.iconst 3, 1) := by decide +kernel
theorem dL_law_107 : decode cL_law 107 = .ok (.iadd, 1) := by decide +kernel
theorem dL_law_108 : decode cL_law 108 = .ok (.iaload, 1) := by decide +kernel
theorem dL_law_109 : decode cL_law 109 = .ok (.i2l, 1) := by decide +kernel
theorem dL_law_110 : decode cL_law 110 = .ok (.bipush 32, 2) := by decide +kernel
theorem dL_law_112 : decode cL_law 112 = .ok (.lshl, 1) := by decide +kernel
theorem dL_law_113 : decode cL_law 113 = .ok (.aload_n 0, 1) := by decide +kernel
theorem dL_law_114 : decode cL_law 114 = .ok (.iload 4, 2) := by decide +kernel
theorem dL_law_116 : decode cL_law 116 = .ok (.iconst 4, 1) := by decide +kernel
theorem dL_law_117 : decode cL_law 117 = .ok (.iadd, 1) := by decide +kernel
theorem dL_law_118 : decode cL_law 118 = .ok (.iaload, 1) := by decide +kernel
theorem dL_law_119 : decode cL_law 119 = .ok (.i2l, 1) := by decide +kernel
theorem dL_law_120 : decode cL_law 120 = .ok (.ldc2_w 33, 3) := by decide +kernel
theorem dL_law_123 : decode cL_law 123 = .ok (.land, 1) := by decide +kernel
theorem dL_law_124 : decode cL_law 124 = .ok (.lor, 1) := by decide +kernel
theorem dL_law_125 : decode cL_law 125 = .ok (.aload_n 0, 1) := by decide +kernel
theorem dL_law_126 : decode cL_law 126 = .ok (.iload 4, 2) := by decide +kernel
theorem dL_law_128 : decode cL_law 128 = .ok (.iconst 5, 1) := by decide +kernel
theorem dL_law_129 : decode cL_law 129 = .ok (.iadd, 1) := by decide +kernel
theorem dL_law_130 : decode cL_law 130 = .ok (.iaload, 1) := by decide +kernel
theorem dL_law_131 : decode cL_law 131 = .ok (.i2l, 1) := by decide +kernel
theorem dL_law_132 : decode cL_law 132 = .ok (.bipush 32, 2) := by decide +kernel
theorem dL_law_134 : decode cL_law 134 = .ok (.lshl, 1) := by decide +kernel
theorem dL_law_135 : decode cL_law 135 = .ok (.aload_n 0, 1) := by decide +kernel
theorem dL_law_136 : decode cL_law 136 = .ok (.iload 4, 2) := by decide +kernel
theorem dL_law_138 : decode cL_law 138 = .ok (.bipush 6, 2) := by decide +kernel
theorem dL_law_140 : decode cL_law 140 = .ok (.iadd, 1) := by decide +kernel
theorem dL_law_141 : decode cL_law 141 = .ok (.iaload, 1) := by decide +kernel
theorem dL_law_142 : decode cL_law 142 = .ok (.i2l, 1) := by decide +kernel
theorem dL_law_143 : decode cL_law 143 = .ok (.ldc2_w 33, 3) := by decide +kernel
theorem dL_law_146 : decode cL_law 146 = .ok (.land, 1) := by decide +kernel
theorem dL_law_147 : decode cL_law 147 = .ok (.lor, 1) := by decide +kernel
theorem dL_law_148 : decode cL_law 148 = .ok (.aload_n 0, 1) := by decide +kernel
theorem dL_law_149 : decode cL_law 149 = .ok (.iload 4, 2) := by decide +kernel
theorem dL_law_151 : decode cL_law 151 = .ok (.bipush 7, 2) := by decide +kernel
theorem dL_law_153 : decode cL_law 153 = .ok (.iadd, 1) := by decide +kernel
theorem dL_law_154 : decode cL_law 154 = .ok (.iaload, 1) := by decide +kernel
theorem dL_law_155 : decode cL_law 155 = .ok (.i2l, 1) := by decide +kernel
theorem dL_law_156 : decode cL_law 156 = .ok (.bipush 32, 2) := by decide +kernel
theorem dL_law_158 : decode cL_law 158 = .ok (.lshl, 1) := by decide +kernel
theorem dL_law_159 : decode cL_law 159 = .ok (.aload_n 0, 1) := by decide +kernel
theorem dL_law_160 : decode cL_law 160 = .ok (.iload 4, 2) := by decide +kernel
theorem dL_law_162 : decode cL_law 162 = .ok (.bipush 8, 2) := by decide +kernel
theorem dL_law_164 : decode cL_law 164 = .ok (.iadd, 1) := by decide +kernel
theorem dL_law_165 : decode cL_law 165 = .ok (.iaload, 1) := by decide +kernel
theorem dL_law_166 : decode cL_law 166 = .ok (.i2l, 1) := by decide +kernel
theorem dL_law_167 : decode cL_law 167 = .ok (.ldc2_w 33, 3) := by decide +kernel
theorem dL_law_170 : decode cL_law 170 = .ok (.land, 1) := by decide +kernel
theorem dL_law_171 : decode cL_law 171 = .ok (.lor, 1) := by decide +kernel
theorem dL_law_172 : decode cL_law 172 = .ok (.invokevirtual 35, 3) := by decide +kernel
theorem dL_law_175 : decode cL_law 175 = .ok (.aload_n 2, 1) := by decide +kernel
theorem dL_law_176 : decode cL_law 176 = .ok (.aload_n 0, 1) := by decide +kernel
theorem dL_law_177 : decode cL_law 177 = .ok (.iload 4, 2) := by decide +kernel
theorem dL_law_179 : decode cL_law 179 = .ok (.iconst 1, 1) := by decide +kernel
theorem dL_law_180 : decode cL_law 180 = .ok (.iadd, 1) := by decide +kernel
theorem dL_law_181 : decode cL_law 181 = .ok (.iaload, 1) := by decide +kernel
theorem dL_law_182 : decode cL_law 182 = .ok (.i2l, 1) := by decide +kernel
theorem dL_law_183 : decode cL_law 183 = .ok (.bipush 32, 2) := by decide +kernel
theorem dL_law_185 : decode cL_law 185 = .ok (.lshl, 1) := by decide +kernel
theorem dL_law_186 : decode cL_law 186 = .ok (.aload_n 0, 1) := by decide +kernel
theorem dL_law_187 : decode cL_law 187 = .ok (.iload 4, 2) := by decide +kernel
theorem dL_law_189 : decode cL_law 189 = .ok (.iconst 2, 1) := by decide +kernel
theorem dL_law_190 : decode cL_law 190 = .ok (.iadd, 1) := by decide +kernel
theorem dL_law_191 : decode cL_law 191 = .ok (.iaload, 1) := by decide +kernel
theorem dL_law_192 : decode cL_law 192 = .ok (.i2l, 1) := by decide +kernel
theorem dL_law_193 : decode cL_law 193 = .ok (.ldc2_w 33, 3) := by decide +kernel
theorem dL_law_196 : decode cL_law 196 = .ok (.land, 1) := by decide +kernel
theorem dL_law_197 : decode cL_law 197 = .ok (.lor, 1) := by decide +kernel
theorem dL_law_198 : decode cL_law 198 = .ok (.aload_n 0, 1) := by decide +kernel
theorem dL_law_199 : decode cL_law 199 = .ok (.iload 4, 2) := by decide +kernel
theorem dL_law_201 : decode cL_law 201 = .ok (.iconst 3, 1) := by decide +kernel
theorem dL_law_202 : decode cL_law 202 = .ok (.iadd, 1) := by decide +kernel
theorem dL_law_203 : decode cL_law 203 = .ok (.iaload, 1) := by decide +kernel
theorem dL_law_204 : decode cL_law 204 = .ok (.i2l, 1) := by decide +kernel
theorem dL_law_205 : decode cL_law 205 = .ok (.bipush 32, 2) := by decide +kernel
theorem dL_law_207 : decode cL_law 207 = .ok (.lshl, 1) := by decide +kernel
theorem dL_law_208 : decode cL_law 208 = .ok (.aload_n 0, 1) := by decide +kernel
theorem dL_law_209 : decode cL_law 209 = .ok (.iload 4, 2) := by decide +kernel
theorem dL_law_211 : decode cL_law 211 = .ok (.iconst 4, 1) := by decide +kernel
theorem dL_law_212 : decode cL_law 212 = .ok (.iadd, 1) := by decide +kernel
theorem dL_law_213 : decode cL_law 213 = .ok (.iaload, 1) := by decide +kernel
theorem dL_law_214 : decode cL_law 214 = .ok (.i2l, 1) := by decide +kernel
theorem dL_law_215 : decode cL_law 215 = .ok (.ldc2_w 33, 3) := by decide +kernel
theorem dL_law_218 : decode cL_law 218 = .ok (.land, 1) := by decide +kernel
theorem dL_law_219 : decode cL_law 219 = .ok (.lor, 1) := by decide +kernel
theorem dL_law_220 : decode cL_law 220 = .ok (.aload_n 0, 1) := by decide +kernel
theorem dL_law_221 : decode cL_law 221 = .ok (.iload 4, 2) := by decide +kernel
theorem dL_law_223 : decode cL_law 223 = .ok (.iconst 5, 1) := by decide +kernel
theorem dL_law_224 : decode cL_law 224 = .ok (.iadd, 1) := by decide +kernel
theorem dL_law_225 : decode cL_law 225 = .ok (.iaload, 1) := by decide +kernel
theorem dL_law_226 : decode cL_law 226 = .ok (.i2l, 1) := by decide +kernel
theorem dL_law_227 : decode cL_law 227 = .ok (.bipush 32, 2) := by decide +kernel
theorem dL_law_229 : decode cL_law 229 = .ok (.lshl, 1) := by decide +kernel
theorem dL_law_230 : decode cL_law 230 = .ok (.aload_n 0, 1) := by decide +kernel
theorem dL_law_231 : decode cL_law 231 = .ok (.iload 4, 2) := by decide +kernel
theorem dL_law_233 : decode cL_law 233 = .ok (.bipush 6, 2) := by decide +kernel
theorem dL_law_235 : decode cL_law 235 = .ok (.iadd, 1) := by decide +kernel
theorem dL_law_236 : decode cL_law 236 = .ok (.iaload, 1) := by decide +kernel
theorem dL_law_237 : decode cL_law 237 = .ok (.i2l, 1) := by decide +kernel
theorem dL_law_238 : decode cL_law 238 = .ok (.ldc2_w 33, 3) := by decide +kernel
theorem dL_law_241 : decode cL_law 241 = .ok (.land, 1) := by decide +kernel
theorem dL_law_242 : decode cL_law 242 = .ok (.lor, 1) := by decide +kernel
theorem dL_law_243 : decode cL_law 243 = .ok (.aload_n 0, 1) := by decide +kernel
theorem dL_law_244 : decode cL_law 244 = .ok (.iload 4, 2) := by decide +kernel
theorem dL_law_246 : decode cL_law 246 = .ok (.bipush 7, 2) := by decide +kernel
theorem dL_law_248 : decode cL_law 248 = .ok (.iadd, 1) := by decide +kernel
theorem dL_law_249 : decode cL_law 249 = .ok (.iaload, 1) := by decide +kernel
theorem dL_law_250 : decode cL_law 250 = .ok (.i2l, 1) := by decide +kernel
theorem dL_law_251 : decode cL_law 251 = .ok (.bipush 32, 2) := by decide +kernel
theorem dL_law_253 : decode cL_law 253 = .ok (.lshl, 1) := by decide +kernel
theorem dL_law_254 : decode cL_law 254 = .ok (.aload_n 0, 1) := by decide +kernel
theorem dL_law_255 : decode cL_law 255 = .ok (.iload 4, 2) := by decide +kernel
theorem dL_law_257 : decode cL_law 257 = .ok (.bipush 8, 2) := by decide +kernel
theorem dL_law_259 : decode cL_law 259 = .ok (.iadd, 1) := by decide +kernel
theorem dL_law_260 : decode cL_law 260 = .ok (.iaload, 1) := by decide +kernel
theorem dL_law_261 : decode cL_law 261 = .ok (.i2l, 1) := by decide +kernel
theorem dL_law_262 : decode cL_law 262 = .ok (.ldc2_w 33, 3) := by decide +kernel
theorem dL_law_265 : decode cL_law 265 = .ok (.land, 1) := by decide +kernel
theorem dL_law_266 : decode cL_law 266 = .ok (.lor, 1) := by decide +kernel
theorem dL_law_267 : decode cL_law 267 = .ok (.invokevirtual 39, 3) := by decide +kernel
theorem dL_law_270 : decode cL_law 270 = .ok (.goto 365, 3) := by decide +kernel
theorem dL_law_273 : decode cL_law 273 = .ok (.aload_n 1, 1) := by decide +kernel
theorem dL_law_274 : decode cL_law 274 = .ok (.aload_n 0, 1) := by decide +kernel
theorem dL_law_275 : decode cL_law 275 = .ok (.iload 4, 2) := by decide +kernel
theorem dL_law_277 : decode cL_law 277 = .ok (.iconst 1, 1) := by decide +kernel
theorem dL_law_278 : decode cL_law 278 = .ok (.iadd, 1) := by decide +kernel
theorem dL_law_279 : decode cL_law 279 = .ok (.iaload, 1) := by decide +kernel
theorem dL_law_280 : decode cL_law 280 = .ok (.aload_n 0, 1) := by decide +kernel
theorem dL_law_281 : decode cL_law 281 = .ok (.iload 4, 2) := by decide +kernel
theorem dL_law_283 : decode cL_law 283 = .ok (.iconst 2, 1) := by decide +kernel
theorem dL_law_284 : decode cL_law 284 = .ok (.iadd, 1) := by decide +kernel
theorem dL_law_285 : decode cL_law 285 = .ok (.iaload, 1) := by decide +kernel
theorem dL_law_286 : decode cL_law 286 = .ok (.i2l, 1) := by decide +kernel
theorem dL_law_287 : decode cL_law 287 = .ok (.bipush 32, 2) := by decide +kernel
theorem dL_law_289 : decode cL_law 289 = .ok (.lshl, 1) := by decide +kernel
theorem dL_law_290 : decode cL_law 290 = .ok (.aload_n 0, 1) := by decide +kernel
theorem dL_law_291 : decode cL_law 291 = .ok (.iload 4, 2) := by decide +kernel
theorem dL_law_293 : decode cL_law 293 = .ok (.iconst 3, 1) := by decide +kernel
theorem dL_law_294 : decode cL_law 294 = .ok (.iadd, 1) := by decide +kernel
theorem dL_law_295 : decode cL_law 295 = .ok (.iaload, 1) := by decide +kernel
theorem dL_law_296 : decode cL_law 296 = .ok (.i2l, 1) := by decide +kernel
theorem dL_law_297 : decode cL_law 297 = .ok (.ldc2_w 33, 3) := by decide +kernel
theorem dL_law_300 : decode cL_law 300 = .ok (.land, 1) := by decide +kernel
theorem dL_law_301 : decode cL_law 301 = .ok (.lor, 1) := by decide +kernel
theorem dL_law_302 : decode cL_law 302 = .ok (.aload_n 3, 1) := by decide +kernel
theorem dL_law_303 : decode cL_law 303 = .ok (.invokestatic 40, 3) := by decide +kernel
theorem dL_law_306 : decode cL_law 306 = .ok (.istore 5, 2) := by decide +kernel
theorem dL_law_308 : decode cL_law 308 = .ok (.aload_n 2, 1) := by decide +kernel
theorem dL_law_309 : decode cL_law 309 = .ok (.aload_n 0, 1) := by decide +kernel
theorem dL_law_310 : decode cL_law 310 = .ok (.iload 4, 2) := by decide +kernel
theorem dL_law_312 : decode cL_law 312 = .ok (.iconst 1, 1) := by decide +kernel
theorem dL_law_313 : decode cL_law 313 = .ok (.iadd, 1) := by decide +kernel
theorem dL_law_314 : decode cL_law 314 = .ok (.iaload, 1) := by decide +kernel
theorem dL_law_315 : decode cL_law 315 = .ok (.aload_n 0, 1) := by decide +kernel
theorem dL_law_316 : decode cL_law 316 = .ok (.iload 4, 2) := by decide +kernel
theorem dL_law_318 : decode cL_law 318 = .ok (.iconst 2, 1) := by decide +kernel
theorem dL_law_319 : decode cL_law 319 = .ok (.iadd, 1) := by decide +kernel
theorem dL_law_320 : decode cL_law 320 = .ok (.iaload, 1) := by decide +kernel
theorem dL_law_321 : decode cL_law 321 = .ok (.i2l, 1) := by decide +kernel
theorem dL_law_322 : decode cL_law 322 = .ok (.bipush 32, 2) := by decide +kernel
theorem dL_law_324 : decode cL_law 324 = .ok (.lshl, 1) := by decide +kernel
theorem dL_law_325 : decode cL_law 325 = .ok (.aload_n 0, 1) := by decide +kernel
theorem dL_law_326 : decode cL_law 326 = .ok (.iload 4, 2) := by decide +kernel
theorem dL_law_328 : decode cL_law 328 = .ok (.iconst 3, 1) := by decide +kernel
theorem dL_law_329 : decode cL_law 329 = .ok (.iadd, 1) := by decide +kernel
theorem dL_law_330 : decode cL_law 330 = .ok (.iaload, 1) := by decide +kernel
theorem dL_law_331 : decode cL_law 331 = .ok (.i2l, 1) := by decide +kernel
theorem dL_law_332 : decode cL_law 332 = .ok (.ldc2_w 33, 3) := by decide +kernel
theorem dL_law_335 : decode cL_law 335 = .ok (.land, 1) := by decide +kernel
theorem dL_law_336 : decode cL_law 336 = .ok (.lor, 1) := by decide +kernel
theorem dL_law_337 : decode cL_law 337 = .ok (.invokevirtual 45, 3) := by decide +kernel
theorem dL_law_340 : decode cL_law 340 = .ok (.lstore 6, 2) := by decide +kernel
theorem dL_law_342 : decode cL_law 342 = .ok (.aload_n 2, 1) := by decide +kernel
theorem dL_law_343 : decode cL_law 343 = .ok (.invokevirtual 46, 3) := by decide +kernel
theorem dL_law_346 : decode cL_law 346 = .ok (.iload 5, 2) := by decide +kernel
theorem dL_law_348 : decode cL_law 348 = .ok (.if_icmp .eq 5, 3) := by decide +kernel
theorem dL_law_351 : decode cL_law 351 = .ok (.iconst 0, 1) := by decide +kernel
theorem dL_law_352 : decode cL_law 352 = .ok (.ireturn, 1) := by decide +kernel
theorem dL_law_353 : decode cL_law 353 = .ok (.iload 5, 2) := by decide +kernel
theorem dL_law_355 : decode cL_law 355 = .ok (.ifCond .ne 14, 3) := by decide +kernel
theorem dL_law_358 : decode cL_law 358 = .ok (.aload_n 3, 1) := by decide +kernel
theorem dL_law_359 : decode cL_law 359 = .ok (.iconst 0, 1) := by decide +kernel
theorem dL_law_360 : decode cL_law 360 = .ok (.laload, 1) := by decide +kernel
theorem dL_law_361 : decode cL_law 361 = .ok (.lload 6, 2) := by decide +kernel
theorem dL_law_363 : decode cL_law 363 = .ok (.lcmp, 1) := by decide +kernel
theorem dL_law_364 : decode cL_law 364 = .ok (.ifCond .eq 5, 3) := by decide +kernel
theorem dL_law_367 : decode cL_law 367 = .ok (.iconst 0, 1) := by decide +kernel
theorem dL_law_368 : decode cL_law 368 = .ok (.ireturn, 1) := by decide +kernel
theorem dL_law_369 : decode cL_law 369 = .ok (.goto 266, 3) := by decide +kernel
theorem dL_law_372 : decode cL_law 372 = .ok (.aload_n 1, 1) := by decide +kernel
theorem dL_law_373 : decode cL_law 373 = .ok (.aload_n 0, 1) := by decide +kernel
theorem dL_law_374 : decode cL_law 374 = .ok (.iload 4, 2) := by decide +kernel
theorem dL_law_376 : decode cL_law 376 = .ok (.iconst 1, 1) := by decide +kernel
theorem dL_law_377 : decode cL_law 377 = .ok (.iadd, 1) := by decide +kernel
theorem dL_law_378 : decode cL_law 378 = .ok (.iaload, 1) := by decide +kernel
theorem dL_law_379 : decode cL_law 379 = .ok (.aload_n 3, 1) := by decide +kernel
theorem dL_law_380 : decode cL_law 380 = .ok (.invokestatic 50, 3) := by decide +kernel
theorem dL_law_383 : decode cL_law 383 = .ok (.istore 5, 2) := by decide +kernel
theorem dL_law_385 : decode cL_law 385 = .ok (.aload_n 2, 1) := by decide +kernel
theorem dL_law_386 : decode cL_law 386 = .ok (.aload_n 0, 1) := by decide +kernel
theorem dL_law_387 : decode cL_law 387 = .ok (.iload 4, 2) := by decide +kernel
theorem dL_law_389 : decode cL_law 389 = .ok (.iconst 1, 1) := by decide +kernel
theorem dL_law_390 : decode cL_law 390 = .ok (.iadd, 1) := by decide +kernel
theorem dL_law_391 : decode cL_law 391 = .ok (.iaload, 1) := by decide +kernel
theorem dL_law_392 : decode cL_law 392 = .ok (.invokevirtual 53, 3) := by decide +kernel
theorem dL_law_395 : decode cL_law 395 = .ok (.lstore 6, 2) := by decide +kernel
theorem dL_law_397 : decode cL_law 397 = .ok (.aload_n 2, 1) := by decide +kernel
theorem dL_law_398 : decode cL_law 398 = .ok (.invokevirtual 46, 3) := by decide +kernel
theorem dL_law_401 : decode cL_law 401 = .ok (.iload 5, 2) := by decide +kernel
theorem dL_law_403 : decode cL_law 403 = .ok (.if_icmp .eq 5, 3) := by decide +kernel
theorem dL_law_406 : decode cL_law 406 = .ok (.iconst 0, 1) := by decide +kernel
theorem dL_law_407 : decode cL_law 407 = .ok (.ireturn, 1) := by decide +kernel
theorem dL_law_408 : decode cL_law 408 = .ok (.iload 5, 2) := by decide +kernel
theorem dL_law_410 : decode cL_law 410 = .ok (.ifCond .ne 14, 3) := by decide +kernel
theorem dL_law_413 : decode cL_law 413 = .ok (.aload_n 3, 1) := by decide +kernel
theorem dL_law_414 : decode cL_law 414 = .ok (.iconst 0, 1) := by decide +kernel
theorem dL_law_415 : decode cL_law 415 = .ok (.laload, 1) := by decide +kernel
theorem dL_law_416 : decode cL_law 416 = .ok (.lload 6, 2) := by decide +kernel
theorem dL_law_418 : decode cL_law 418 = .ok (.lcmp, 1) := by decide +kernel
theorem dL_law_419 : decode cL_law 419 = .ok (.ifCond .eq 5, 3) := by decide +kernel
theorem dL_law_422 : decode cL_law 422 = .ok (.iconst 0, 1) := by decide +kernel
theorem dL_law_423 : decode cL_law 423 = .ok (.ireturn, 1) := by decide +kernel
theorem dL_law_424 : decode cL_law 424 = .ok (.goto 211, 3) := by decide +kernel
theorem dL_law_427 : decode cL_law 427 = .ok (.aload_n 1, 1) := by decide +kernel
theorem dL_law_428 : decode cL_law 428 = .ok (.aload_n 0, 1) := by decide +kernel
theorem dL_law_429 : decode cL_law 429 = .ok (.iload 4, 2) := by decide +kernel
theorem dL_law_431 : decode cL_law 431 = .ok (.iconst 1, 1) := by decide +kernel
theorem dL_law_432 : decode cL_law 432 = .ok (.iadd, 1) := by decide +kernel
theorem dL_law_433 : decode cL_law 433 = .ok (.iaload, 1) := by decide +kernel
theorem dL_law_434 : decode cL_law 434 = .ok (.aload_n 0, 1) := by decide +kernel
theorem dL_law_435 : decode cL_law 435 = .ok (.iload 4, 2) := by decide +kernel
theorem dL_law_437 : decode cL_law 437 = .ok (.iconst 2, 1) := by decide +kernel
theorem dL_law_438 : decode cL_law 438 = .ok (.iadd, 1) := by decide +kernel
theorem dL_law_439 : decode cL_law 439 = .ok (.iaload, 1) := by decide +kernel
theorem dL_law_440 : decode cL_law 440 = .ok (.ifCond .eq 7, 3) := by decide +kernel
theorem dL_law_443 : decode cL_law 443 = .ok (.iconst 1, 1) := by decide +kernel
theorem dL_law_444 : decode cL_law 444 = .ok (.goto 4, 3) := by decide +kernel
theorem dL_law_447 : decode cL_law 447 = .ok (.iconst 0, 1) := by decide +kernel
theorem dL_law_448 : decode cL_law 448 = .ok (.aload_n 3, 1) := by decide +kernel
theorem dL_law_449 : decode cL_law 449 = .ok (.invokestatic 54, 3) := by decide +kernel
theorem dL_law_452 : decode cL_law 452 = .ok (.istore 5, 2) := by decide +kernel
theorem dL_law_454 : decode cL_law 454 = .ok (.aload_n 2, 1) := by decide +kernel
theorem dL_law_455 : decode cL_law 455 = .ok (.aload_n 0, 1) := by decide +kernel
theorem dL_law_456 : decode cL_law 456 = .ok (.iload 4, 2) := by decide +kernel
theorem dL_law_458 : decode cL_law 458 = .ok (.iconst 1, 1) := by decide +kernel
theorem dL_law_459 : decode cL_law 459 = .ok (.iadd, 1) := by decide +kernel
theorem dL_law_460 : decode cL_law 460 = .ok (.iaload, 1) := by decide +kernel
theorem dL_law_461 : decode cL_law 461 = .ok (.aload_n 0, 1) := by decide +kernel
theorem dL_law_462 : decode cL_law 462 = .ok (.iload 4, 2) := by decide +kernel
theorem dL_law_464 : decode cL_law 464 = .ok (.iconst 2, 1) := by decide +kernel
theorem dL_law_465 : decode cL_law 465 = .ok (.iadd, 1) := by decide +kernel
theorem dL_law_466 : decode cL_law 466 = .ok (.iaload, 1) := by decide +kernel
theorem dL_law_467 : decode cL_law 467 = .ok (.ifCond .eq 7, 3) := by decide +kernel
theorem dL_law_470 : decode cL_law 470 = .ok (.iconst 1, 1) := by decide +kernel
theorem dL_law_471 : decode cL_law 471 = .ok (.goto 4, 3) := by decide +kernel
theorem dL_law_474 : decode cL_law 474 = .ok (.iconst 0, 1) := by decide +kernel
theorem dL_law_475 : decode cL_law 475 = .ok (.invokevirtual 57, 3) := by decide +kernel
theorem dL_law_478 : decode cL_law 478 = .ok (.lstore 6, 2) := by decide +kernel
theorem dL_law_480 : decode cL_law 480 = .ok (.aload_n 2, 1) := by decide +kernel
theorem dL_law_481 : decode cL_law 481 = .ok (.invokevirtual 46, 3) := by decide +kernel
theorem dL_law_484 : decode cL_law 484 = .ok (.iload 5, 2) := by decide +kernel
theorem dL_law_486 : decode cL_law 486 = .ok (.if_icmp .eq 5, 3) := by decide +kernel
theorem dL_law_489 : decode cL_law 489 = .ok (.iconst 0, 1) := by decide +kernel
theorem dL_law_490 : decode cL_law 490 = .ok (.ireturn, 1) := by decide +kernel
theorem dL_law_491 : decode cL_law 491 = .ok (.iload 5, 2) := by decide +kernel
theorem dL_law_493 : decode cL_law 493 = .ok (.ifCond .ne 14, 3) := by decide +kernel
theorem dL_law_496 : decode cL_law 496 = .ok (.aload_n 3, 1) := by decide +kernel
theorem dL_law_497 : decode cL_law 497 = .ok (.iconst 0, 1) := by decide +kernel
theorem dL_law_498 : decode cL_law 498 = .ok (.laload, 1) := by decide +kernel
theorem dL_law_499 : decode cL_law 499 = .ok (.lload 6, 2) := by decide +kernel
theorem dL_law_501 : decode cL_law 501 = .ok (.lcmp, 1) := by decide +kernel
theorem dL_law_502 : decode cL_law 502 = .ok (.ifCond .eq 5, 3) := by decide +kernel
theorem dL_law_505 : decode cL_law 505 = .ok (.iconst 0, 1) := by decide +kernel
theorem dL_law_506 : decode cL_law 506 = .ok (.ireturn, 1) := by decide +kernel
theorem dL_law_507 : decode cL_law 507 = .ok (.goto 128, 3) := by decide +kernel
theorem dL_law_510 : decode cL_law 510 = .ok (.aload_n 1, 1) := by decide +kernel
theorem dL_law_511 : decode cL_law 511 = .ok (.aload_n 0, 1) := by decide +kernel
theorem dL_law_512 : decode cL_law 512 = .ok (.iload 4, 2) := by decide +kernel
theorem dL_law_514 : decode cL_law 514 = .ok (.iconst 1, 1) := by decide +kernel
theorem dL_law_515 : decode cL_law 515 = .ok (.iadd, 1) := by decide +kernel
theorem dL_law_516 : decode cL_law 516 = .ok (.iaload, 1) := by decide +kernel
theorem dL_law_517 : decode cL_law 517 = .ok (.aload_n 0, 1) := by decide +kernel
theorem dL_law_518 : decode cL_law 518 = .ok (.iload 4, 2) := by decide +kernel
theorem dL_law_520 : decode cL_law 520 = .ok (.iconst 2, 1) := by decide +kernel
theorem dL_law_521 : decode cL_law 521 = .ok (.iadd, 1) := by decide +kernel
theorem dL_law_522 : decode cL_law 522 = .ok (.iaload, 1) := by decide +kernel
theorem dL_law_523 : decode cL_law 523 = .ok (.ifCond .eq 7, 3) := by decide +kernel
theorem dL_law_526 : decode cL_law 526 = .ok (.iconst 1, 1) := by decide +kernel
theorem dL_law_527 : decode cL_law 527 = .ok (.goto 4, 3) := by decide +kernel
theorem dL_law_530 : decode cL_law 530 = .ok (.iconst 0, 1) := by decide +kernel
theorem dL_law_531 : decode cL_law 531 = .ok (.aload_n 0, 1) := by decide +kernel
theorem dL_law_532 : decode cL_law 532 = .ok (.iload 4, 2) := by decide +kernel
theorem dL_law_534 : decode cL_law 534 = .ok (.iconst 3, 1) := by decide +kernel
theorem dL_law_535 : decode cL_law 535 = .ok (.iadd, 1) := by decide +kernel
theorem dL_law_536 : decode cL_law 536 = .ok (.iaload, 1) := by decide +kernel
theorem dL_law_537 : decode cL_law 537 = .ok (.ifCond .eq 7, 3) := by decide +kernel
theorem dL_law_540 : decode cL_law 540 = .ok (.iconst 1, 1) := by decide +kernel
theorem dL_law_541 : decode cL_law 541 = .ok (.goto 4, 3) := by decide +kernel
theorem dL_law_544 : decode cL_law 544 = .ok (.iconst 0, 1) := by decide +kernel
theorem dL_law_545 : decode cL_law 545 = .ok (.aload_n 3, 1) := by decide +kernel
theorem dL_law_546 : decode cL_law 546 = .ok (.invokestatic 58, 3) := by decide +kernel
theorem dL_law_549 : decode cL_law 549 = .ok (.istore 5, 2) := by decide +kernel
theorem dL_law_551 : decode cL_law 551 = .ok (.aload_n 2, 1) := by decide +kernel
theorem dL_law_552 : decode cL_law 552 = .ok (.aload_n 0, 1) := by decide +kernel
theorem dL_law_553 : decode cL_law 553 = .ok (.iload 4, 2) := by decide +kernel
theorem dL_law_555 : decode cL_law 555 = .ok (.iconst 1, 1) := by decide +kernel
theorem dL_law_556 : decode cL_law 556 = .ok (.iadd, 1) := by decide +kernel
theorem dL_law_557 : decode cL_law 557 = .ok (.iaload, 1) := by decide +kernel
theorem dL_law_558 : decode cL_law 558 = .ok (.aload_n 0, 1) := by decide +kernel
theorem dL_law_559 : decode cL_law 559 = .ok (.iload 4, 2) := by decide +kernel
theorem dL_law_561 : decode cL_law 561 = .ok (.iconst 2, 1) := by decide +kernel
theorem dL_law_562 : decode cL_law 562 = .ok (.iadd, 1) := by decide +kernel
theorem dL_law_563 : decode cL_law 563 = .ok (.iaload, 1) := by decide +kernel
theorem dL_law_564 : decode cL_law 564 = .ok (.ifCond .eq 7, 3) := by decide +kernel
theorem dL_law_567 : decode cL_law 567 = .ok (.iconst 1, 1) := by decide +kernel
theorem dL_law_568 : decode cL_law 568 = .ok (.goto 4, 3) := by decide +kernel
theorem dL_law_571 : decode cL_law 571 = .ok (.iconst 0, 1) := by decide +kernel
theorem dL_law_572 : decode cL_law 572 = .ok (.aload_n 0, 1) := by decide +kernel
theorem dL_law_573 : decode cL_law 573 = .ok (.iload 4, 2) := by decide +kernel
theorem dL_law_575 : decode cL_law 575 = .ok (.iconst 3, 1) := by decide +kernel
theorem dL_law_576 : decode cL_law 576 = .ok (.iadd, 1) := by decide +kernel
theorem dL_law_577 : decode cL_law 577 = .ok (.iaload, 1) := by decide +kernel
theorem dL_law_578 : decode cL_law 578 = .ok (.ifCond .eq 7, 3) := by decide +kernel
theorem dL_law_581 : decode cL_law 581 = .ok (.iconst 1, 1) := by decide +kernel
theorem dL_law_582 : decode cL_law 582 = .ok (.goto 4, 3) := by decide +kernel
theorem dL_law_585 : decode cL_law 585 = .ok (.iconst 0, 1) := by decide +kernel
theorem dL_law_586 : decode cL_law 586 = .ok (.invokevirtual 61, 3) := by decide +kernel
theorem dL_law_589 : decode cL_law 589 = .ok (.lstore 6, 2) := by decide +kernel
theorem dL_law_591 : decode cL_law 591 = .ok (.aload_n 2, 1) := by decide +kernel
theorem dL_law_592 : decode cL_law 592 = .ok (.invokevirtual 46, 3) := by decide +kernel
theorem dL_law_595 : decode cL_law 595 = .ok (.iload 5, 2) := by decide +kernel
theorem dL_law_597 : decode cL_law 597 = .ok (.if_icmp .eq 5, 3) := by decide +kernel
theorem dL_law_600 : decode cL_law 600 = .ok (.iconst 0, 1) := by decide +kernel
theorem dL_law_601 : decode cL_law 601 = .ok (.ireturn, 1) := by decide +kernel
theorem dL_law_602 : decode cL_law 602 = .ok (.iload 5, 2) := by decide +kernel
theorem dL_law_604 : decode cL_law 604 = .ok (.ifCond .ne 14, 3) := by decide +kernel
theorem dL_law_607 : decode cL_law 607 = .ok (.aload_n 3, 1) := by decide +kernel
theorem dL_law_608 : decode cL_law 608 = .ok (.iconst 0, 1) := by decide +kernel
theorem dL_law_609 : decode cL_law 609 = .ok (.laload, 1) := by decide +kernel
theorem dL_law_610 : decode cL_law 610 = .ok (.lload 6, 2) := by decide +kernel
theorem dL_law_612 : decode cL_law 612 = .ok (.lcmp, 1) := by decide +kernel
theorem dL_law_613 : decode cL_law 613 = .ok (.ifCond .eq 5, 3) := by decide +kernel
theorem dL_law_616 : decode cL_law 616 = .ok (.iconst 0, 1) := by decide +kernel
theorem dL_law_617 : decode cL_law 617 = .ok (.ireturn, 1) := by decide +kernel
theorem dL_law_618 : decode cL_law 618 = .ok (.goto 17, 3) := by decide +kernel
theorem dL_law_621 : decode cL_law 621 = .ok (.aload_n 1, 1) := by decide +kernel
theorem dL_law_622 : decode cL_law 622 = .ok (.invokevirtual 62, 3) := by decide +kernel
theorem dL_law_625 : decode cL_law 625 = .ok (.aload_n 2, 1) := by decide +kernel
theorem dL_law_626 : decode cL_law 626 = .ok (.invokevirtual 66, 3) := by decide +kernel
theorem dL_law_629 : decode cL_law 629 = .ok (.lcmp, 1) := by decide +kernel
theorem dL_law_630 : decode cL_law 630 = .ok (.ifCond .eq 5, 3) := by decide +kernel
theorem dL_law_633 : decode cL_law 633 = .ok (.iconst 0, 1) := by decide +kernel
theorem dL_law_634 : decode cL_law 634 = .ok (.ireturn, 1) := by decide +kernel
theorem dL_law_635 : decode cL_law 635 = .ok (.iinc 4 9, 3) := by decide +kernel
theorem dL_law_638 : decode cL_law 638 = .ok (.goto (-615), 3) := by decide +kernel
theorem dL_law_641 : decode cL_law 641 = .ok (.iconst 1, 1) := by decide +kernel
theorem dL_law_642 : decode cL_law 642 = .ok (.ireturn, 1) := by decide +kernel
