/-! every word stands in the tables -/
set_option maxRecDepth 20000 in
theorem tb_M1 : ∀ w ∈ wsM_1, w ∈ lw_tbl := fun w h => by
  have e : wsM_1 = ([15, 239, 241, 242, 243, 244, 245, 246, 247, 248, 249, 250, 251, 252, 253, 254, 255, 256, 257, 258, 279, 280, 281, 283, 284, 285, 286, 287, 288, 290, 291, 292, 293, 295, 296, 297, 298, 299, 301, 302, 303, 305, 306, 307, 308, 310, 311, 312, 314, 315, 316, 318, 319, 320, 322, 323, 324, 326, 327, 328, 330, 331, 333, 334, 335, 336, 338, 339, 341, 342, 343, 4, 5, 6, 7, 8, 9, 10, 11, 27, 28, 40] : List Nat).filterMap (fun i => lw_tbl[i]?) := by decide +kernel
  rw [e] at h
  obtain ⟨i, -, hi⟩ := List.mem_filterMap.mp h
  exact List.mem_of_getElem? hi
set_option maxRecDepth 20000 in
theorem tb_C1 : ∀ w ∈ wsC_1, w ∈ lw_tbl := fun w h => by
  have e : wsC_1 = ([13, 14, 22, 24, 25, 26, 29, 30, 32, 33, 34, 35, 41, 42, 43, 44, 45, 46, 47, 48, 49, 50, 51, 53, 54, 55, 56, 57, 58, 59, 60, 61, 62, 63, 64, 75, 76, 77, 79, 80, 81, 87, 88, 89, 90, 161, 162, 163, 169, 170, 171, 172, 188, 190, 191, 192, 193, 194, 195, 196, 197, 198, 199, 200, 201, 202, 203, 204, 205, 206, 207, 209, 210, 211, 212, 213, 214, 215, 217, 218, 219, 220, 222, 223, 224, 225, 226, 227, 228, 229, 234, 235, 236, 1, 2, 3, 27, 28, 40, 39, 19, 20] : List Nat).filterMap (fun i => lw_tbl[i]?) := by decide +kernel
  rw [e] at h
  obtain ⟨i, -, hi⟩ := List.mem_filterMap.mp h
  exact List.mem_of_getElem? hi
set_option maxRecDepth 20000 in
theorem tb_W1 : ∀ w ∈ wsW_1, w ∈ lw_tbl := fun w h => by
  have e : wsW_1 = ([85, 167, 86, 160, 168, 233] : List Nat).filterMap (fun i => lw_tbl[i]?) := by decide +kernel
  rw [e] at h
  obtain ⟨i, -, hi⟩ := List.mem_filterMap.mp h
  exact List.mem_of_getElem? hi
theorem tb_M0 : ∀ w ∈ wsM0, w ∈ lw_tbl := by decide +kernel
theorem tb_X1 : ∀ w ∈ wsX10, w ∈ lw_tbl := by decide +kernel
theorem tb_X0 : ∀ w ∈ wsX00, w ∈ lw_tbl := by decide +kernel
theorem tb_C2 : ∀ w ∈ wsC_2, w ∈ lw_tbl := by decide +kernel
theorem tb_C3 : ∀ w ∈ wsC_3, w ∈ lw_tbl := by decide +kernel
theorem tb_M : ∀ w ∈ wsM_a, w ∈ lw_tbl := fun w h => (List.mem_append.mp h).elim (tb_M1 w) (tb_M0 w)
theorem tb_C : ∀ w ∈ wsC_a, w ∈ lw_tbl := fun w h => (List.mem_append.mp h).elim (tb_C1 w) (fun h => (List.mem_append.mp h).elim (tb_X1 w) (fun h => (List.mem_append.mp h).elim (tb_X0 w) (fun h => (List.mem_append.mp h).elim (tb_C2 w) (tb_C3 w))))
theorem tb_W : ∀ w ∈ wsW_a, w ∈ lw_tbl := fun w h => (List.mem_append.mp h).elim (tb_W1 w) (tb_C w)
theorem tl_c8 : Cond.classLink RL 8 RX1 ∈ lw_tbl := List.mem_of_getElem? (i := 21) (by decide +kernel)
theorem tl_c30 : Cond.classLink RL 30 RM ∈ lw_tbl := List.mem_of_getElem? (i := 238) (by decide +kernel)
theorem tl_l29 : Cond.methodLink RL 29 yX1_init ∈ lw_tbl := List.mem_of_getElem? (i := 23) (by decide +kernel)
theorem tl_l35 : Cond.methodLink RL 35 yX1_key ∈ lw_tbl := List.mem_of_getElem? (i := 74) (by decide +kernel)
theorem tl_l62 : Cond.methodLink RL 62 yX1_sum ∈ lw_tbl := List.mem_of_getElem? (i := 78) (by decide +kernel)
theorem tl_l40 : Cond.methodLink RL 40 yL_put ∈ lw_tbl := List.mem_of_getElem? (i := 82) (by decide +kernel)
theorem tl_l50 : Cond.methodLink RL 50 yL_get ∈ lw_tbl := List.mem_of_getElem? (i := 157) (by decide +kernel)
theorem tl_l54 : Cond.methodLink RL 54 yL_sector ∈ lw_tbl := List.mem_of_getElem? (i := 164) (by decide +kernel)
theorem tl_l58 : Cond.methodLink RL 58 yL_block ∈ lw_tbl := List.mem_of_getElem? (i := 230) (by decide +kernel)
theorem tl_l32 : Cond.methodLink RL 32 yM_init ∈ lw_tbl := List.mem_of_getElem? (i := 240) (by decide +kernel)
theorem tl_l46 : Cond.methodLink RL 46 yM_thrown ∈ lw_tbl := List.mem_of_getElem? (i := 278) (by decide +kernel)
theorem tl_l39 : Cond.methodLink RL 39 yM_key ∈ lw_tbl := List.mem_of_getElem? (i := 282) (by decide +kernel)
theorem tl_l45 : Cond.methodLink RL 45 yM_put ∈ lw_tbl := List.mem_of_getElem? (i := 289) (by decide +kernel)
theorem tl_l53 : Cond.methodLink RL 53 yM_get ∈ lw_tbl := List.mem_of_getElem? (i := 300) (by decide +kernel)
theorem tl_l61 : Cond.methodLink RL 61 yM_block ∈ lw_tbl := List.mem_of_getElem? (i := 304) (by decide +kernel)
theorem tl_l57 : Cond.methodLink RL 57 yM_sector ∈ lw_tbl := List.mem_of_getElem? (i := 332) (by decide +kernel)
theorem tl_l66 : Cond.methodLink RL 66 yM_sum ∈ lw_tbl := List.mem_of_getElem? (i := 340) (by decide +kernel)
theorem tl_static_put : Cond.static yL_put ∈ lw_tbl := List.mem_of_getElem? (i := 83) (by decide +kernel)
theorem tl_code_put : Cond.codeWith yL_put cL_put 6 (some .int) [(0, 10, 13, 13)] ∈ lw_tbl := List.mem_of_getElem? (i := 84) (by decide +kernel)
theorem tl_static_get : Cond.static yL_get ∈ lw_tbl := List.mem_of_getElem? (i := 158) (by decide +kernel)
theorem tl_code_get : Cond.codeWith yL_get cL_get 4 (some .int) [(0, 8, 11, 13)] ∈ lw_tbl := List.mem_of_getElem? (i := 159) (by decide +kernel)
theorem tl_static_sector : Cond.static yL_sector ∈ lw_tbl := List.mem_of_getElem? (i := 165) (by decide +kernel)
theorem tl_code_sector : Cond.codeWith yL_sector cL_sector 5 (some .int) [(0, 9, 12, 23)] ∈ lw_tbl := List.mem_of_getElem? (i := 166) (by decide +kernel)
theorem tl_static_block : Cond.static yL_block ∈ lw_tbl := List.mem_of_getElem? (i := 231) (by decide +kernel)
theorem tl_code_block : Cond.codeWith yL_block cL_block 6 (some .int) [(0, 11, 14, 13)] ∈ lw_tbl := List.mem_of_getElem? (i := 232) (by decide +kernel)
theorem tl_init : Cond.initialized RL ∈ lw_tbl := List.mem_of_getElem? (i := 12) (by decide +kernel)
theorem tl_k33 : Cond.constantLong RL 33 (4294967295) ∈ lw_tbl := List.mem_of_getElem? (i := 344) (by decide +kernel)
theorem tl_nest : Cond.methodLinkNest RX1 18 yX0_init "SectorSeal" ∈ lw_tbl := List.mem_of_getElem? (i := 31) (by decide +kernel)
theorem tl_sb : Cond.laysStatic "SectorSeal$Aes" "S_BOX" "[I" ∈ lw_tbl := List.mem_of_getElem? (i := 52) (by decide +kernel)
theorem tl_ib : Cond.laysStatic "SectorSeal$Aes" "INVERSE_S_BOX" "[I" ∈ lw_tbl := List.mem_of_getElem? (i := 216) (by decide +kernel)
theorem tl_us : Cond.laysStatic Bundle.tN "UNASSIGNED_STACK" Bundle.steD ∈ lw_tbl := List.mem_of_getElem? (i := 117) (by decide +kernel)
theorem tl_ss : Cond.laysStatic Bundle.tN "SUPPRESSED_SENTINEL" Bundle.listD ∈ lw_tbl := List.mem_of_getElem? (i := 119) (by decide +kernel)
theorem tl_it : Cond.initialized Bundle.tN ∈ lw_tbl := List.mem_of_getElem? (i := 16) (by decide +kernel)
theorem tl_s32 : Cond.stringRef RX1 32 "a long's index is 0 to 15" ∈ lw_tbl := List.mem_of_getElem? (i := 130) (by decide +kernel)
theorem tl_s39 : Cond.stringRef RX1 39 "a sector's number is not below 0" ∈ lw_tbl := List.mem_of_getElem? (i := 181) (by decide +kernel)
theorem tl_s59 : Cond.stringRef RX1 59 "a block's index is 0 to 7" ∈ lw_tbl := List.mem_of_getElem? (i := 237) (by decide +kernel)
theorem tl_io : Cond.castable "java/lang/IndexOutOfBoundsException" "java/lang/IndexOutOfBoundsException" ∈ lw_tbl := List.mem_of_getElem? (i := 92) (by decide +kernel)
theorem tl_ia : Cond.castable "java/lang/IllegalArgumentException" "java/lang/IllegalArgumentException" ∈ lw_tbl := List.mem_of_getElem? (i := 174) (by decide +kernel)
theorem tl_d1 : Cond.declares ⟨"java/lang/RuntimeException", "<init>", "(Ljava/lang/String;)V"⟩ ∈ lw_tbl := List.mem_of_getElem? (i := 94) (by decide +kernel)
theorem tl_d2 : Cond.declares ⟨"java/lang/Exception", "<init>", "(Ljava/lang/String;)V"⟩ ∈ lw_tbl := List.mem_of_getElem? (i := 96) (by decide +kernel)
theorem tl_d3 : Cond.declares ⟨"java/lang/Throwable", "<init>", "(Ljava/lang/String;)V"⟩ ∈ lw_tbl := List.mem_of_getElem? (i := 98) (by decide +kernel)
set_option maxRecDepth 100000 in
theorem nr_S : ((flatC (Jvm.Cond.and given_1 narrow_1)).drop 7).take 256 = (List.range 256).map (fun j => Cond.eq (.elem (.static "SectorSeal$Aes" "S_BOX" "[I") (.int (Int32.ofNat j))) (.int (nI (ae_sb j)))) := by decide +kernel
set_option maxRecDepth 100000 in
theorem nr_I : ((flatC (Jvm.Cond.and given_1 narrow_1)).drop 268).take 256 = (List.range 256).map (fun j => Cond.eq (.elem (.static "SectorSeal$Aes" "INVERSE_S_BOX" "[I") (.int (Int32.ofNat j))) (.int (nI (ae_ib j)))) := by decide +kernel
