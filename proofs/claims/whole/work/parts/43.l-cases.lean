/-! the law's cases -/
abbrev wL (cI cL : ClassId) (ad am : Nat → Nat) (qo : Nat) (f t : Nat → Int64) (sD sT : Nat → Int32) (th : Int32) (f0 f1 f2 f3 f4 f5 f6 f7 : Nat → Int32) (g : Nat → Int64) : va_W := [((ad 6), .inr (1, [.ref (ad 0), .ref (ad 1), .ref (ad 2), .ref (ad 4)])), ((ad 0), .inl (cL, 16, .inr (.inl (f)))), ((ad 1), .inl (cL, 2, .inr (.inl (t)))), ((ad 2), .inr (0, [.ref (ad 3)])), ((ad 3), .inl (cI, 44, .inl (sD))), ((ad 4), .inr (0, [.ref (ad 5)])), ((ad 5), .inl (cI, 44, .inl (sT))), ((am 8), .inr (2, [.ref (am 0), .ref (am 1), .ref (am 2), .ref (am 3), .ref (am 4), .ref (am 5), .ref (am 6), .ref (am 7), .int (th)])), ((am 0), .inl (cI, 32, .inl (f0))), ((am 1), .inl (cI, 128, .inl (f1))), ((am 2), .inl (cI, 256, .inl (f2))), ((am 3), .inl (cI, 256, .inl (f3))), ((am 4), .inl (cI, 176, .inl (f4))), ((am 5), .inl (cI, 16, .inl (f5))), ((am 6), .inl (cI, 16, .inl (f6))), ((am 7), .inl (cI, 16, .inl (f7))), (qo, .inl (cL, 1, .inr (.inl (g))))]
section
variable {p : Program} {l : Launch} {e : Env} {R : Room} {s : State} {m : MethodId} {args : Array Value} {below : List Frame} {meth : Method} {c : Code} {cells slots : Nat} {Q : State → Prop} {dC : Nat → ClassId} {dI : Nat → Nat → Nat} {A : Nat → Prop} {b L : Nat} {xs : Nat → Int32} {cI cL : ClassId} {ad am : Nat → Nat} {qo tS tI sa1 sa2 sa3 : Nat}

set_option maxRecDepth 100000 in
set_option maxHeartbeats 4000000 in
theorem lw_c0 (hx : p.tables.exec = Jvm.exec) (hb : c.code = cL_law) (htA : ∀ w ∈ lw_tbl, w.before args s = true) (hown : s.vm.findClass RL = some m.cls) (hml : c.maxLocals = 8) (hA : ∀ q, s.heap.size ≤ q → A q) (hbA : ¬ A b) (hXs : va_X b L xs s s.heap) (hbl : b < s.heap.size) (hL : L ≤ 4608) (hlt : l.stackTraces = false) (hK : va_K (dC, dI) mCl [(cI, .int), (cL, .long)] s) (hX : st_X tS tI A s) (hW1 : tw_X 32 "a long's index is 0 to 15" "java/lang/IndexOutOfBoundsException" sa1 A s) (hW2 : tw_X 39 "a sector's number is not below 0" "java/lang/IllegalArgumentException" sa2 A s) (hW3 : tw_X 59 "a block's index is 0 to 7" "java/lang/IndexOutOfBoundsException" sa3 A s) (hf : 10 ≤ R.frames ∧ 360 ≤ R.locals) (hc : cells + 1 ≤ R.cells ∧ slots + 6 ≤ R.slots) {k : Nat} (hk : 9 * k + 9 ≤ L) (kk : ∀ (KEY SEC : Nat → Nat) (f t : Nat → Int64) (sD sT : Nat → Int32) (th : Int32) (f0 f1 f2 f3 f4 f5 f6 f7 : Nat → Int32) (g : Nat → Int64) (ls : Array Slot) (H : Heap) (locs : List Loc), lw_I KEY SEC f sD sT f0 f1 f2 f3 → lv_has ls 8 [(4, .int (nI (9 * k))), (0, .ref b), (1, .ref (ad 6)), (2, .ref (am 8)), (3, .ref qo)] → va_P (dC, dI) mCl (wL cI cL ad am qo (f) (t) (sD) (sT) (th) (f0) (f1) (f2) (f3) (f4) (f5) (f6) (f7) (g)) H → va_D A (wL cI cL ad am qo (f) (t) (sD) (sT) (th) (f0) (f1) (f2) (f3) (f4) (f5) (f6) (f7) (g)) → va_S A s.heap H locs → W p l e R s m args below meth c H locs (cells + 1) (slots + 6) Q (F0 m 635 ls [])) (KEY SEC : Nat → Nat) (f t : Nat → Int64) (sD sT : Nat → Int32) (th : Int32) (f0 f1 f2 f3 f4 f5 f6 f7 : Nat → Int32) (g : Nat → Int64) (ls : Array Slot) (H : Heap) (locs : List Loc) (hI : lw_I KEY SEC f sD sT f0 f1 f2 f3) (hl : lv_has ls 8 [(4, .int (nI (9 * k))), (0, .ref b), (1, .ref (ad 6)), (2, .ref (am 8)), (3, .ref qo)]) (hP : va_P (dC, dI) mCl (wL cI cL ad am qo (f) (t) (sD) (sT) (th) (f0) (f1) (f2) (f3) (f4) (f5) (f6) (f7) (g)) H) (hD : va_D A (wL cI cL ad am qo (f) (t) (sD) (sT) (th) (f0) (f1) (f2) (f3) (f4) (f5) (f6) (f7) (g))) (hS : va_S A s.heap H locs) : W p l e R s m args below meth c H locs cells slots Q (F0 m 80 ls []) := by
  obtain ⟨hBK, hBS, hLg, hsD, hsT, hk0, hk1, hbx, hbk⟩ := hI
  obtain ⟨n1, hn1, e1⟩ := ln_of (lw_lg (xs (9 * k + 1)) (xs (9 * k + 2)))
  obtain ⟨n2, hn2, e2⟩ := ln_of (lw_lg (xs (9 * k + 3)) (xs (9 * k + 4)))
  obtain ⟨n3, hn3, e3⟩ := ln_of (lw_lg (xs (9 * k + 5)) (xs (9 * k + 6)))
  obtain ⟨n4, hn4, e4⟩ := ln_of (lw_lg (xs (9 * k + 7)) (xs (9 * k + 8)))
  refine lv_aload_n hx hb dL_law_80 rfl (lv_at hl 2 rfl) ?_
  refine lv_aload_n hx hb dL_law_81 rfl (lv_at hl 1 rfl) ?_
  refine lv_iload hx hb dL_law_82 (lv_at hl 0 rfl) ?_
  refine lv_iconst (v := nI 1) hx hb dL_law_84 (by decide) ?_
  refine xi_iadd hx hb dL_law_85 ?_
  refine xa_sld hx hb hXs hbl hbA hS (by omega) (by omega) dL_law_86 ?_
  refine lv_i2l hx hb dL_law_87 rfl ?_
  refine lv_bipush (v := nI 32) hx hb dL_law_88 (by decide) ?_
  refine lv_lshl hx hb dL_law_90 rfl ?_
  refine lv_aload_n hx hb dL_law_91 rfl (lv_at hl 1 rfl) ?_
  refine lv_iload hx hb dL_law_92 (lv_at hl 0 rfl) ?_
  refine lv_iconst (v := nI 2) hx hb dL_law_94 (by decide) ?_
  refine xi_iadd hx hb dL_law_95 ?_
  refine xa_sld hx hb hXs hbl hbA hS (by omega) (by omega) dL_law_96 ?_
  refine lv_i2l hx hb dL_law_97 rfl ?_
  refine lv_ldc2 hx hb hown (htA _ tl_k33) dL_law_98 ?_
  refine lv_land hx hb dL_law_101 ?_
  refine lv_lor hx hb dL_law_102 ?_
  refine tw_l (y := ae_l (ae_k4 n1 n2 n3 n4) 0) ((show lw_lg (xs (9 * k + 1)) (xs (9 * k + 2)) = _ from e1).trans (k4_0 n2 n3 n4 hn1)) ?_
  refine lv_aload_n hx hb dL_law_103 rfl (lv_at hl 1 rfl) ?_
  refine lv_iload hx hb dL_law_104 (lv_at hl 0 rfl) ?_
  refine lv_iconst (v := nI 3) hx hb dL_law_106 (by decide) ?_
  refine xi_iadd hx hb dL_law_107 ?_
  refine xa_sld hx hb hXs hbl hbA hS (by omega) (by omega) dL_law_108 ?_
  refine lv_i2l hx hb dL_law_109 rfl ?_
  refine lv_bipush (v := nI 32) hx hb dL_law_110 (by decide) ?_
  refine lv_lshl hx hb dL_law_112 rfl ?_
  refine lv_aload_n hx hb dL_law_113 rfl (lv_at hl 1 rfl) ?_
  refine lv_iload hx hb dL_law_114 (lv_at hl 0 rfl) ?_
  refine lv_iconst (v := nI 4) hx hb dL_law_116 (by decide) ?_
  refine xi_iadd hx hb dL_law_117 ?_
  refine xa_sld hx hb hXs hbl hbA hS (by omega) (by omega) dL_law_118 ?_
  refine lv_i2l hx hb dL_law_119 rfl ?_
  refine lv_ldc2 hx hb hown (htA _ tl_k33) dL_law_120 ?_
  refine lv_land hx hb dL_law_123 ?_
  refine lv_lor hx hb dL_law_124 ?_
  refine tw_l (y := ae_l (ae_k4 n1 n2 n3 n4) 8) ((show lw_lg (xs (9 * k + 3)) (xs (9 * k + 4)) = _ from e2).trans (k4_8 n1 n3 n4 hn2)) ?_
  refine lv_aload_n hx hb dL_law_125 rfl (lv_at hl 1 rfl) ?_
  refine lv_iload hx hb dL_law_126 (lv_at hl 0 rfl) ?_
  refine lv_iconst (v := nI 5) hx hb dL_law_128 (by decide) ?_
  refine xi_iadd hx hb dL_law_129 ?_
  refine xa_sld hx hb hXs hbl hbA hS (by omega) (by omega) dL_law_130 ?_
  refine lv_i2l hx hb dL_law_131 rfl ?_
  refine lv_bipush (v := nI 32) hx hb dL_law_132 (by decide) ?_
  refine lv_lshl hx hb dL_law_134 rfl ?_
  refine lv_aload_n hx hb dL_law_135 rfl (lv_at hl 1 rfl) ?_
  refine lv_iload hx hb dL_law_136 (lv_at hl 0 rfl) ?_
  refine lv_bipush (v := nI 6) hx hb dL_law_138 (by decide) ?_
  refine xi_iadd hx hb dL_law_140 ?_
  refine xa_sld hx hb hXs hbl hbA hS (by omega) (by omega) dL_law_141 ?_
  refine lv_i2l hx hb dL_law_142 rfl ?_
  refine lv_ldc2 hx hb hown (htA _ tl_k33) dL_law_143 ?_
  refine lv_land hx hb dL_law_146 ?_
  refine lv_lor hx hb dL_law_147 ?_
  refine tw_l (y := ae_l (ae_k4 n1 n2 n3 n4) 16) ((show lw_lg (xs (9 * k + 5)) (xs (9 * k + 6)) = _ from e3).trans (k4_16 n1 n2 n4 hn3)) ?_
  refine lv_aload_n hx hb dL_law_148 rfl (lv_at hl 1 rfl) ?_
  refine lv_iload hx hb dL_law_149 (lv_at hl 0 rfl) ?_
  refine lv_bipush (v := nI 7) hx hb dL_law_151 (by decide) ?_
  refine xi_iadd hx hb dL_law_153 ?_
  refine xa_sld hx hb hXs hbl hbA hS (by omega) (by omega) dL_law_154 ?_
  refine lv_i2l hx hb dL_law_155 rfl ?_
  refine lv_bipush (v := nI 32) hx hb dL_law_156 (by decide) ?_
  refine lv_lshl hx hb dL_law_158 rfl ?_
  refine lv_aload_n hx hb dL_law_159 rfl (lv_at hl 1 rfl) ?_
  refine lv_iload hx hb dL_law_160 (lv_at hl 0 rfl) ?_
  refine lv_bipush (v := nI 8) hx hb dL_law_162 (by decide) ?_
  refine xi_iadd hx hb dL_law_164 ?_
  refine xa_sld hx hb hXs hbl hbA hS (by omega) (by omega) dL_law_165 ?_
  refine lv_i2l hx hb dL_law_166 rfl ?_
  refine lv_ldc2 hx hb hown (htA _ tl_k33) dL_law_167 ?_
  refine lv_land hx hb dL_law_170 ?_
  refine lv_lor hx hb dL_law_171 ?_
  refine tw_l (y := ae_l (ae_k4 n1 n2 n3 n4) 24) ((show lw_lg (xs (9 * k + 7)) (xs (9 * k + 8)) = _ from e4).trans (k4_24 n1 n2 n3 hn4)) ?_
  refine kp_callv (wr := [((am 8), .inr (2, [.ref (am 0), .ref (am 1), .ref (am 2), .ref (am 3), .ref (am 4), .ref (am 5), .ref (am 6), .ref (am 7), .int (th)])), ((am 0), .inl (cI, 32, .inl (f0))), ((am 1), .inl (cI, 128, .inl (f1))), ((am 2), .inl (cI, 256, .inl (f2))), ((am 3), .inl (cI, 256, .inl (f3))), ((am 4), .inl (cI, 176, .inl (f4))), ((am 5), .inl (cI, 16, .inl (f5))), ((am 6), .inl (cI, 16, .inl (f6))), ((am 7), .inl (cI, 16, .inl (f7))), (qo, .inl (cL, 1, .inr (.inl (g))))]) (nw := fun u => (wL cI cL ad am qo (f) (t) (u.1) (u.2) (th) (f0) (f1) (f2) (f3) (f4) (f5) (f6) (f7) (g))) (va_runV (As := [.long (ae_l (ae_k4 n1 n2 n3 n4) 0), .long (ae_l (ae_k4 n1 n2 n3 n4) 8), .long (ae_l (ae_k4 n1 n2 n3 n4) 16), .long (ae_l (ae_k4 n1 n2 n3 n4) 24)]) (rest := []) ⟨hx, hb, hml, hown, htA⟩ (c_X1_key l dC dI cI cL ad _ tS tI (f) (t) (sD) (sT) (ae_k4 n1 n2 n3 n4) (ae_k4_lt n1 n2 n3 n4)) (cwV 4 htA (goodT_VC tl_l35 mS_instanceMethod_key mS_selects_key mS_code_key) rfl rfl rfl (by decide +kernel) ⟨Nat.le_trans (Nat.le_of_ble_eq_true rfl) hf.1, Nat.le_trans (Nat.le_of_ble_eq_true rfl) hf.2⟩) (kp_preV (wc := [((ad 6), .inr (1, [.ref (ad 0), .ref (ad 1), .ref (ad 2), .ref (ad 4)])), ((ad 0), .inl (cL, 16, .inr (.inl (f)))), ((ad 1), .inl (cL, 2, .inr (.inl (t)))), ((ad 2), .inr (0, [.ref (ad 3)])), ((ad 3), .inl (cI, 44, .inl (sD))), ((ad 4), .inr (0, [.ref (ad 5)])), ((ad 5), .inl (cI, 44, .inl (sT)))]) (stX_kp tS tI) hX hP hD hK hS hA [0, 1, 2, 3, 4, 5, 6] rfl rfl rfl [0, 1] rfl (q0 := 0) rfl rfl) rfl rfl hl.1 rfl (lv_room (Nat.le_of_ble_eq_true rfl)) dL_law_172 ⟨by omega, by omega⟩) hP hD hS hA [0, 1, 2, 3, 4, 5, 6] [7, 8, 9, 10, 11, 12, 13, 14, 15, 16] rfl rfl rfl (by decide) [10, 11, 12, 13, 14, 15, 16, 0, 1, 2, 3, 4, 5, 6, 7, 8, 9] rfl (fun _ => rfl) (fun _ => rfl) (fun u H locs hu hP hD hS => ?_)
  obtain ⟨x1, x2⟩ := u
  refine lv_aload_n hx hb dL_law_175 rfl (lv_at hl 3 rfl) ?_
  refine lv_aload_n hx hb dL_law_176 rfl (lv_at hl 1 rfl) ?_
  refine lv_iload hx hb dL_law_177 (lv_at hl 0 rfl) ?_
  refine lv_iconst (v := nI 1) hx hb dL_law_179 (by decide) ?_
  refine xi_iadd hx hb dL_law_180 ?_
  refine xa_sld hx hb hXs hbl hbA hS (by omega) (by omega) dL_law_181 ?_
  refine lv_i2l hx hb dL_law_182 rfl ?_
  refine lv_bipush (v := nI 32) hx hb dL_law_183 (by decide) ?_
  refine lv_lshl hx hb dL_law_185 rfl ?_
  refine lv_aload_n hx hb dL_law_186 rfl (lv_at hl 1 rfl) ?_
  refine lv_iload hx hb dL_law_187 (lv_at hl 0 rfl) ?_
  refine lv_iconst (v := nI 2) hx hb dL_law_189 (by decide) ?_
  refine xi_iadd hx hb dL_law_190 ?_
  refine xa_sld hx hb hXs hbl hbA hS (by omega) (by omega) dL_law_191 ?_
  refine lv_i2l hx hb dL_law_192 rfl ?_
  refine lv_ldc2 hx hb hown (htA _ tl_k33) dL_law_193 ?_
  refine lv_land hx hb dL_law_196 ?_
  refine lv_lor hx hb dL_law_197 ?_
  refine tw_l (y := lN n1) ((show lw_lg (xs (9 * k + 1)) (xs (9 * k + 2)) = _ from e1)) ?_
  refine lv_aload_n hx hb dL_law_198 rfl (lv_at hl 1 rfl) ?_
  refine lv_iload hx hb dL_law_199 (lv_at hl 0 rfl) ?_
  refine lv_iconst (v := nI 3) hx hb dL_law_201 (by decide) ?_
  refine xi_iadd hx hb dL_law_202 ?_
  refine xa_sld hx hb hXs hbl hbA hS (by omega) (by omega) dL_law_203 ?_
  refine lv_i2l hx hb dL_law_204 rfl ?_
  refine lv_bipush (v := nI 32) hx hb dL_law_205 (by decide) ?_
  refine lv_lshl hx hb dL_law_207 rfl ?_
  refine lv_aload_n hx hb dL_law_208 rfl (lv_at hl 1 rfl) ?_
  refine lv_iload hx hb dL_law_209 (lv_at hl 0 rfl) ?_
  refine lv_iconst (v := nI 4) hx hb dL_law_211 (by decide) ?_
  refine xi_iadd hx hb dL_law_212 ?_
  refine xa_sld hx hb hXs hbl hbA hS (by omega) (by omega) dL_law_213 ?_
  refine lv_i2l hx hb dL_law_214 rfl ?_
  refine lv_ldc2 hx hb hown (htA _ tl_k33) dL_law_215 ?_
  refine lv_land hx hb dL_law_218 ?_
  refine lv_lor hx hb dL_law_219 ?_
  refine tw_l (y := lN n2) ((show lw_lg (xs (9 * k + 3)) (xs (9 * k + 4)) = _ from e2)) ?_
  refine lv_aload_n hx hb dL_law_220 rfl (lv_at hl 1 rfl) ?_
  refine lv_iload hx hb dL_law_221 (lv_at hl 0 rfl) ?_
  refine lv_iconst (v := nI 5) hx hb dL_law_223 (by decide) ?_
  refine xi_iadd hx hb dL_law_224 ?_
  refine xa_sld hx hb hXs hbl hbA hS (by omega) (by omega) dL_law_225 ?_
  refine lv_i2l hx hb dL_law_226 rfl ?_
  refine lv_bipush (v := nI 32) hx hb dL_law_227 (by decide) ?_
  refine lv_lshl hx hb dL_law_229 rfl ?_
  refine lv_aload_n hx hb dL_law_230 rfl (lv_at hl 1 rfl) ?_
  refine lv_iload hx hb dL_law_231 (lv_at hl 0 rfl) ?_
  refine lv_bipush (v := nI 6) hx hb dL_law_233 (by decide) ?_
  refine xi_iadd hx hb dL_law_235 ?_
  refine xa_sld hx hb hXs hbl hbA hS (by omega) (by omega) dL_law_236 ?_
  refine lv_i2l hx hb dL_law_237 rfl ?_
  refine lv_ldc2 hx hb hown (htA _ tl_k33) dL_law_238 ?_
  refine lv_land hx hb dL_law_241 ?_
  refine lv_lor hx hb dL_law_242 ?_
  refine tw_l (y := lN n3) ((show lw_lg (xs (9 * k + 5)) (xs (9 * k + 6)) = _ from e3)) ?_
  refine lv_aload_n hx hb dL_law_243 rfl (lv_at hl 1 rfl) ?_
  refine lv_iload hx hb dL_law_244 (lv_at hl 0 rfl) ?_
  refine lv_bipush (v := nI 7) hx hb dL_law_246 (by decide) ?_
  refine xi_iadd hx hb dL_law_248 ?_
  refine xa_sld hx hb hXs hbl hbA hS (by omega) (by omega) dL_law_249 ?_
  refine lv_i2l hx hb dL_law_250 rfl ?_
  refine lv_bipush (v := nI 32) hx hb dL_law_251 (by decide) ?_
  refine lv_lshl hx hb dL_law_253 rfl ?_
  refine lv_aload_n hx hb dL_law_254 rfl (lv_at hl 1 rfl) ?_
  refine lv_iload hx hb dL_law_255 (lv_at hl 0 rfl) ?_
  refine lv_bipush (v := nI 8) hx hb dL_law_257 (by decide) ?_
  refine xi_iadd hx hb dL_law_259 ?_
  refine xa_sld hx hb hXs hbl hbA hS (by omega) (by omega) dL_law_260 ?_
  refine lv_i2l hx hb dL_law_261 rfl ?_
  refine lv_ldc2 hx hb hown (htA _ tl_k33) dL_law_262 ?_
  refine lv_land hx hb dL_law_265 ?_
  refine lv_lor hx hb dL_law_266 ?_
  refine tw_l (y := lN n4) ((show lw_lg (xs (9 * k + 7)) (xs (9 * k + 8)) = _ from e4)) ?_
  refine kp_callv (wr := [((ad 6), .inr (1, [.ref (ad 0), .ref (ad 1), .ref (ad 2), .ref (ad 4)])), ((ad 0), .inl (cL, 16, .inr (.inl (f)))), ((ad 1), .inl (cL, 2, .inr (.inl (t)))), ((ad 2), .inr (0, [.ref (ad 3)])), ((ad 3), .inl (cI, 44, .inl (x1))), ((ad 4), .inr (0, [.ref (ad 5)])), ((ad 5), .inl (cI, 44, .inl (x2))), (qo, .inl (cL, 1, .inr (.inl (g))))]) (nw := fun y0 => (wL cI cL ad am qo (f) (t) (x1) (x2) (nI 0) (y0) (f1) (f2) (f3) (f4) (f5) (f6) (f7) (g))) (va_runV (As := [.long (lN n1), .long (lN n2), .long (lN n3), .long (lN n4)]) (rest := []) ⟨hx, hb, hml, hown, htA⟩ (c_key l dC dI cI am (th) (f0) (f1) (f2) (f3) (f4) (f5) (f6) (f7) _ n1 n2 n3 n4 hn1 hn2 hn3 hn4) (cwV 4 htA (goodT_VM tl_l39 mM_instanceMethod_key mM_selects_key mM_code_key) rfl rfl rfl (by decide +kernel) ⟨Nat.le_trans (Nat.le_of_ble_eq_true rfl) hf.1, Nat.le_trans (Nat.le_of_ble_eq_true rfl) hf.2⟩) (kp_preV (wc := [((am 8), .inr (2, [.ref (am 0), .ref (am 1), .ref (am 2), .ref (am 3), .ref (am 4), .ref (am 5), .ref (am 6), .ref (am 7), .int (th)])), ((am 0), .inl (cI, 32, .inl (f0))), ((am 1), .inl (cI, 128, .inl (f1))), ((am 2), .inl (cI, 256, .inl (f2))), ((am 3), .inl (cI, 256, .inl (f3))), ((am 4), .inl (cI, 176, .inl (f4))), ((am 5), .inl (cI, 16, .inl (f5))), ((am 6), .inl (cI, 16, .inl (f6))), ((am 7), .inl (cI, 16, .inl (f7)))]) kp_XT trivial hP hD hK hS hA [7, 8, 9, 10, 11, 12, 13, 14, 15] rfl rfl rfl [0] rfl (q0 := 7) rfl rfl) rfl rfl hl.1 rfl (lv_room (Nat.le_of_ble_eq_true rfl)) dL_law_267 ⟨by omega, by omega⟩) hP hD hS hA [7, 8, 9, 10, 11, 12, 13, 14, 15] [0, 1, 2, 3, 4, 5, 6, 16] rfl rfl rfl (by decide) [0, 1, 2, 3, 4, 5, 6, 8, 9, 10, 11, 12, 13, 14, 15, 16, 7] rfl (fun _ => rfl) (fun _ => rfl) (fun y0 H locs hy hP hD hS => ?_)
  refine lv_goto (tgt := 635) hx hb dL_law_270 (by decide) ?_
  refine W.widen (k := cells + 1) (n := slots + 6) (by omega) (by omega) ?_
  exact kk (ae_k4 n1 n2 n3 n4) (SEC) (f) (t) (x1) (x2) (nI 0) (y0) (f1) (f2) (f3) (f4) (f5) (f6) (f7) (g) ls H locs ⟨ae_k4_lt n1 n2 n3 n4, hBS, hLg, hu.1, hu.2, hy, hk1, hbx, hbk⟩ (lv_sub hl [0, 1, 2, 3, 4] rfl) hP hD hS
set_option maxRecDepth 100000 in
set_option maxHeartbeats 4000000 in
theorem lw_c1 (hx : p.tables.exec = Jvm.exec) (hb : c.code = cL_law) (htA : ∀ w ∈ lw_tbl, w.before args s = true) (hown : s.vm.findClass RL = some m.cls) (hml : c.maxLocals = 8) (hA : ∀ q, s.heap.size ≤ q → A q) (hbA : ¬ A b) (hXs : va_X b L xs s s.heap) (hbl : b < s.heap.size) (hL : L ≤ 4608) (hlt : l.stackTraces = false) (hK : va_K (dC, dI) mCl [(cI, .int), (cL, .long)] s) (hX : st_X tS tI A s) (hW1 : tw_X 32 "a long's index is 0 to 15" "java/lang/IndexOutOfBoundsException" sa1 A s) (hW2 : tw_X 39 "a sector's number is not below 0" "java/lang/IllegalArgumentException" sa2 A s) (hW3 : tw_X 59 "a block's index is 0 to 7" "java/lang/IndexOutOfBoundsException" sa3 A s) (hf : 10 ≤ R.frames ∧ 360 ≤ R.locals) (hc : cells + 1 ≤ R.cells ∧ slots + 6 ≤ R.slots) {k : Nat} (hk : 9 * k + 9 ≤ L) (kk : ∀ (KEY SEC : Nat → Nat) (f t : Nat → Int64) (sD sT : Nat → Int32) (th : Int32) (f0 f1 f2 f3 f4 f5 f6 f7 : Nat → Int32) (g : Nat → Int64) (ls : Array Slot) (H : Heap) (locs : List Loc), lw_I KEY SEC f sD sT f0 f1 f2 f3 → lv_has ls 8 [(4, .int (nI (9 * k))), (0, .ref b), (1, .ref (ad 6)), (2, .ref (am 8)), (3, .ref qo)] → va_P (dC, dI) mCl (wL cI cL ad am qo (f) (t) (sD) (sT) (th) (f0) (f1) (f2) (f3) (f4) (f5) (f6) (f7) (g)) H → va_D A (wL cI cL ad am qo (f) (t) (sD) (sT) (th) (f0) (f1) (f2) (f3) (f4) (f5) (f6) (f7) (g)) → va_S A s.heap H locs → W p l e R s m args below meth c H locs (cells + 1) (slots + 6) Q (F0 m 635 ls [])) (KEY SEC : Nat → Nat) (f t : Nat → Int64) (sD sT : Nat → Int32) (th : Int32) (f0 f1 f2 f3 f4 f5 f6 f7 : Nat → Int32) (g : Nat → Int64) (ls : Array Slot) (H : Heap) (locs : List Loc) (hI : lw_I KEY SEC f sD sT f0 f1 f2 f3) (hl : lv_has ls 8 [(4, .int (nI (9 * k))), (0, .ref b), (1, .ref (ad 6)), (2, .ref (am 8)), (3, .ref qo)]) (hP : va_P (dC, dI) mCl (wL cI cL ad am qo (f) (t) (sD) (sT) (th) (f0) (f1) (f2) (f3) (f4) (f5) (f6) (f7) (g)) H) (hD : va_D A (wL cI cL ad am qo (f) (t) (sD) (sT) (th) (f0) (f1) (f2) (f3) (f4) (f5) (f6) (f7) (g))) (hS : va_S A s.heap H locs) : W p l e R s m args below meth c H locs cells slots Q (F0 m 273 ls []) := by
  obtain ⟨hBK, hBS, hLg, hsD, hsT, hk0, hk1, hbx, hbk⟩ := hI
  obtain ⟨n1, hn1, e1⟩ := ln_of (lw_lg (xs (9 * k + 2)) (xs (9 * k + 3)))
  rcases (show (xs (9 * k + 1) < 0 ∨ nI 16 ≤ xs (9 * k + 1)) ∨ ∃ i : Nat, i < 16 ∧ xs (9 * k + 1) = nI i by rcases pk_ix (xs (9 * k + 1)) (n := 16) (by omega) with h | h | h; exact Or.inl (Or.inl h); exact Or.inl (Or.inr h); exact Or.inr h) with hi | ⟨i, hi, ei⟩
  · refine lv_aload_n hx hb dL_law_273 rfl (lv_at hl 2 rfl) ?_
    refine lv_aload_n hx hb dL_law_274 rfl (lv_at hl 1 rfl) ?_
    refine lv_iload hx hb dL_law_275 (lv_at hl 0 rfl) ?_
    refine lv_iconst (v := nI 1) hx hb dL_law_277 (by decide) ?_
    refine xi_iadd hx hb dL_law_278 ?_
    refine xa_sld hx hb hXs hbl hbA hS (by omega) (by omega) dL_law_279 ?_
    refine lv_aload_n hx hb dL_law_280 rfl (lv_at hl 1 rfl) ?_
    refine lv_iload hx hb dL_law_281 (lv_at hl 0 rfl) ?_
    refine lv_iconst (v := nI 2) hx hb dL_law_283 (by decide) ?_
    refine xi_iadd hx hb dL_law_284 ?_
    refine xa_sld hx hb hXs hbl hbA hS (by omega) (by omega) dL_law_285 ?_
    refine lv_i2l hx hb dL_law_286 rfl ?_
    refine lv_bipush (v := nI 32) hx hb dL_law_287 (by decide) ?_
    refine lv_lshl hx hb dL_law_289 rfl ?_
    refine lv_aload_n hx hb dL_law_290 rfl (lv_at hl 1 rfl) ?_
    refine lv_iload hx hb dL_law_291 (lv_at hl 0 rfl) ?_
    refine lv_iconst (v := nI 3) hx hb dL_law_293 (by decide) ?_
    refine xi_iadd hx hb dL_law_294 ?_
    refine xa_sld hx hb hXs hbl hbA hS (by omega) (by omega) dL_law_295 ?_
    refine lv_i2l hx hb dL_law_296 rfl ?_
    refine lv_ldc2 hx hb hown (htA _ tl_k33) dL_law_297 ?_
    refine lv_land hx hb dL_law_300 ?_
    refine lv_lor hx hb dL_law_301 ?_
    refine tw_l (y := lN n1) ((show lw_lg (xs (9 * k + 2)) (xs (9 * k + 3)) = _ from e1)) ?_
    refine lv_aload_n hx hb dL_law_302 rfl (lv_at hl 4 rfl) ?_
    refine kp_calli (wr := [((am 8), .inr (2, [.ref (am 0), .ref (am 1), .ref (am 2), .ref (am 3), .ref (am 4), .ref (am 5), .ref (am 6), .ref (am 7), .int (th)])), ((am 0), .inl (cI, 32, .inl (f0))), ((am 1), .inl (cI, 128, .inl (f1))), ((am 2), .inl (cI, 256, .inl (f2))), ((am 3), .inl (cI, 256, .inl (f3))), ((am 4), .inl (cI, 176, .inl (f4))), ((am 5), .inl (cI, 16, .inl (f5))), ((am 6), .inl (cI, 16, .inl (f6))), ((am 7), .inl (cI, 16, .inl (f7)))]) (nw := fun _u => (wL cI cL ad am qo (f) (t) (sD) (sT) (th) (f0) (f1) (f2) (f3) (f4) (f5) (f6) (f7) (g))) (vx_runSW (As := [.ref (ad 6), .int (xs (9 * k + 1)), .long (lN n1), .ref qo]) (rest := []) ⟨hx, hb, hml, hown, htA⟩ (h_put_f l hlt dC dI cI cL ad _ (f) (t) (sD) (sT) qo (g) sa1 (xs (9 * k + 1)) hi (lN n1)) (vx_cwSW 4 htA (goodT_H tl_l40 tl_static_put tl_init tl_code_put rfl) rfl rfl rfl (by decide +kernel) ⟨Nat.le_trans (Nat.le_of_ble_eq_true rfl) hf.1, Nat.le_trans (Nat.le_of_ble_eq_true rfl) hf.2⟩) (kp_preS (wc := [((ad 6), .inr (1, [.ref (ad 0), .ref (ad 1), .ref (ad 2), .ref (ad 4)])), ((ad 0), .inl (cL, 16, .inr (.inl (f)))), ((ad 1), .inl (cL, 2, .inr (.inl (t)))), ((ad 2), .inr (0, [.ref (ad 3)])), ((ad 3), .inl (cI, 44, .inl (sD))), ((ad 4), .inr (0, [.ref (ad 5)])), ((ad 5), .inl (cI, 44, .inl (sT))), (qo, .inl (cL, 1, .inr (.inl (g))))]) (tw_kp _ _ _ _) hW1 hP hD hK hS hA [0, 1, 2, 3, 4, 5, 6, 16] rfl rfl rfl [0, 1] rfl) rfl rfl hl.1 rfl (lv_room (Nat.le_of_ble_eq_true rfl)) dL_law_303 ⟨hc.1, hc.2⟩) hP hD hS hA [0, 1, 2, 3, 4, 5, 6, 16] [7, 8, 9, 10, 11, 12, 13, 14, 15] rfl rfl rfl (by decide) [9, 10, 11, 12, 13, 14, 15, 0, 1, 2, 3, 4, 5, 6, 7, 8, 16] rfl (fun _ => rfl) (fun _ => rfl) (fun r _u H locs hr1 hP hD hS => ?_)
    subst hr1
    refine lv_istore (nL := 8) (lv' := [(5, .int (nI (1))), (4, .int (nI (9 * k))), (0, .ref b), (1, .ref (ad 6)), (2, .ref (am 8)), (3, .ref qo)]) hx hb dL_law_306 hl (by decide) rfl (fun ls hl => ?_)
    refine lv_aload_n hx hb dL_law_308 rfl (lv_at hl 4 rfl) ?_
    refine lv_aload_n hx hb dL_law_309 rfl (lv_at hl 2 rfl) ?_
    refine lv_iload hx hb dL_law_310 (lv_at hl 1 rfl) ?_
    refine lv_iconst (v := nI 1) hx hb dL_law_312 (by decide) ?_
    refine xi_iadd hx hb dL_law_313 ?_
    refine xa_sld hx hb hXs hbl hbA hS (by omega) (by omega) dL_law_314 ?_
    refine lv_aload_n hx hb dL_law_315 rfl (lv_at hl 2 rfl) ?_
    refine lv_iload hx hb dL_law_316 (lv_at hl 1 rfl) ?_
    refine lv_iconst (v := nI 2) hx hb dL_law_318 (by decide) ?_
    refine xi_iadd hx hb dL_law_319 ?_
    refine xa_sld hx hb hXs hbl hbA hS (by omega) (by omega) dL_law_320 ?_
    refine lv_i2l hx hb dL_law_321 rfl ?_
    refine lv_bipush (v := nI 32) hx hb dL_law_322 (by decide) ?_
    refine lv_lshl hx hb dL_law_324 rfl ?_
    refine lv_aload_n hx hb dL_law_325 rfl (lv_at hl 2 rfl) ?_
    refine lv_iload hx hb dL_law_326 (lv_at hl 1 rfl) ?_
    refine lv_iconst (v := nI 3) hx hb dL_law_328 (by decide) ?_
    refine xi_iadd hx hb dL_law_329 ?_
    refine xa_sld hx hb hXs hbl hbA hS (by omega) (by omega) dL_law_330 ?_
    refine lv_i2l hx hb dL_law_331 rfl ?_
    refine lv_ldc2 hx hb hown (htA _ tl_k33) dL_law_332 ?_
    refine lv_land hx hb dL_law_335 ?_
    refine lv_lor hx hb dL_law_336 ?_
    refine tw_l (y := lN n1) ((show lw_lg (xs (9 * k + 2)) (xs (9 * k + 3)) = _ from e1)) ?_
    refine kp_calll (wr := [((ad 6), .inr (1, [.ref (ad 0), .ref (ad 1), .ref (ad 2), .ref (ad 4)])), ((ad 0), .inl (cL, 16, .inr (.inl (f)))), ((ad 1), .inl (cL, 2, .inr (.inl (t)))), ((ad 2), .inr (0, [.ref (ad 3)])), ((ad 3), .inl (cI, 44, .inl (sD))), ((ad 4), .inr (0, [.ref (ad 5)])), ((ad 5), .inl (cI, 44, .inl (sT))), (qo, .inl (cL, 1, .inr (.inl (g))))]) (nw := fun _u1 => (wL cI cL ad am qo (f) (t) (sD) (sT) (nI 1) (f0) (f1) (f2) (f3) (f4) (f5) (f6) (f7) (g))) (va_runV (As := [.int (xs (9 * k + 1)), .long (lN n1)]) (rest := []) ⟨hx, hb, hml, hown, htA⟩ (c_put_f l dC dI cI am (th) (f0) (f1) (f2) (f3) (f4) (f5) (f6) (f7) _ n1 hn1 SEC hBS hk1 (xs (9 * k + 1)) hi) (cwV 2 htA (goodT_VM tl_l45 mM_instanceMethod_put mM_selects_put mM_code_put) rfl rfl rfl (by decide +kernel) ⟨Nat.le_trans (Nat.le_of_ble_eq_true rfl) hf.1, Nat.le_trans (Nat.le_of_ble_eq_true rfl) hf.2⟩) (kp_preV (wc := [((am 8), .inr (2, [.ref (am 0), .ref (am 1), .ref (am 2), .ref (am 3), .ref (am 4), .ref (am 5), .ref (am 6), .ref (am 7), .int (th)])), ((am 0), .inl (cI, 32, .inl (f0))), ((am 1), .inl (cI, 128, .inl (f1))), ((am 2), .inl (cI, 256, .inl (f2))), ((am 3), .inl (cI, 256, .inl (f3))), ((am 4), .inl (cI, 176, .inl (f4))), ((am 5), .inl (cI, 16, .inl (f5))), ((am 6), .inl (cI, 16, .inl (f6))), ((am 7), .inl (cI, 16, .inl (f7)))]) kp_XT trivial hP hD hK hS hA [7, 8, 9, 10, 11, 12, 13, 14, 15] rfl rfl rfl [0] rfl (q0 := 7) rfl rfl) rfl rfl hl.1 rfl (lv_room (Nat.le_of_ble_eq_true rfl)) dL_law_337 ⟨hc.1, hc.2⟩) hP hD hS hA [7, 8, 9, 10, 11, 12, 13, 14, 15] [0, 1, 2, 3, 4, 5, 6, 16] rfl rfl rfl (by decide) [0, 1, 2, 3, 4, 5, 6, 8, 9, 10, 11, 12, 13, 14, 15, 16, 7] rfl (fun _ => rfl) (fun _ => rfl) (fun r _u1 H locs hr2 hP hD hS => ?_)
    refine lv_lstore (nL := 8) (lv' := [(6, .long (r)), (5, .int (nI (1))), (4, .int (nI (9 * k))), (0, .ref b), (1, .ref (ad 6)), (2, .ref (am 8)), (3, .ref qo)]) hx hb dL_law_340 hl (by decide) rfl (fun ls hl => ?_)
    refine lv_aload_n hx hb dL_law_342 rfl (lv_at hl 5 rfl) ?_
    refine kp_calli (wr := [((ad 6), .inr (1, [.ref (ad 0), .ref (ad 1), .ref (ad 2), .ref (ad 4)])), ((ad 0), .inl (cL, 16, .inr (.inl (f)))), ((ad 1), .inl (cL, 2, .inr (.inl (t)))), ((ad 2), .inr (0, [.ref (ad 3)])), ((ad 3), .inl (cI, 44, .inl (sD))), ((ad 4), .inr (0, [.ref (ad 5)])), ((ad 5), .inl (cI, 44, .inl (sT))), (qo, .inl (cL, 1, .inr (.inl (g))))]) (nw := fun _u2 => (wL cI cL ad am qo (f) (t) (sD) (sT) (nI 1) (f0) (f1) (f2) (f3) (f4) (f5) (f6) (f7) (g))) (va_runV (As := []) (rest := []) ⟨hx, hb, hml, hown, htA⟩ (c_thrown l dC dI cI am (nI 1) (f0) (f1) (f2) (f3) (f4) (f5) (f6) (f7) _) (cwV 0 htA (goodT_VM tl_l46 mM_instanceMethod_thrown mM_selects_thrown mM_code_thrown) rfl rfl rfl (by decide +kernel) ⟨Nat.le_trans (Nat.le_of_ble_eq_true rfl) hf.1, Nat.le_trans (Nat.le_of_ble_eq_true rfl) hf.2⟩) (kp_preV (wc := [((am 8), .inr (2, [.ref (am 0), .ref (am 1), .ref (am 2), .ref (am 3), .ref (am 4), .ref (am 5), .ref (am 6), .ref (am 7), .int (nI 1)])), ((am 0), .inl (cI, 32, .inl (f0))), ((am 1), .inl (cI, 128, .inl (f1))), ((am 2), .inl (cI, 256, .inl (f2))), ((am 3), .inl (cI, 256, .inl (f3))), ((am 4), .inl (cI, 176, .inl (f4))), ((am 5), .inl (cI, 16, .inl (f5))), ((am 6), .inl (cI, 16, .inl (f6))), ((am 7), .inl (cI, 16, .inl (f7)))]) kp_XT trivial hP hD hK hS hA [7, 8, 9, 10, 11, 12, 13, 14, 15] rfl rfl rfl [0] rfl (q0 := 7) rfl rfl) rfl rfl hl.1 rfl (lv_room (Nat.le_of_ble_eq_true rfl)) dL_law_343 ⟨hc.1, hc.2⟩) hP hD hS hA [7, 8, 9, 10, 11, 12, 13, 14, 15] [0, 1, 2, 3, 4, 5, 6, 16] rfl rfl rfl (by decide) [0, 1, 2, 3, 4, 5, 6, 8, 9, 10, 11, 12, 13, 14, 15, 16, 7] rfl (fun _ => rfl) (fun _ => rfl) (fun r _u2 H locs ht2 hP hD hS => ?_)
    subst ht2
    refine lv_iload hx hb dL_law_346 (lv_at hl 1 rfl) ?_
    refine xi_icmp_eq (tgt := 353) hx hb dL_law_348 (by decide) (by omega) (by omega) (fun hq => ?_) (fun h9 => absurd h9 (fun z => z rfl))
    refine lv_iload hx hb dL_law_353 (lv_at hl 1 rfl) ?_
    refine xi_if_ne (tgt := 369) hx hb dL_law_355 (by decide) (by omega) (fun hq2 => ?_) (fun h9 => absurd h9 (by omega))
    refine lv_goto (tgt := 635) hx hb dL_law_369 (by decide) ?_
    exact kk (KEY) (SEC) (f) (t) (sD) (sT) (nI 1) (f0) (f1) (f2) (f3) (f4) (f5) (f6) (f7) (g) ls H locs ⟨hBK, hBS, hLg, hsD, hsT, hk0, hk1, hbx, hbk⟩ (lv_sub hl [2, 3, 4, 5, 6] rfl) hP hD hS
  · refine lv_aload_n hx hb dL_law_273 rfl (lv_at hl 2 rfl) ?_
    refine lv_aload_n hx hb dL_law_274 rfl (lv_at hl 1 rfl) ?_
    refine lv_iload hx hb dL_law_275 (lv_at hl 0 rfl) ?_
    refine lv_iconst (v := nI 1) hx hb dL_law_277 (by decide) ?_
    refine xi_iadd hx hb dL_law_278 ?_
    refine xa_sld hx hb hXs hbl hbA hS (by omega) (by omega) dL_law_279 ?_
    refine tw_i (y := nI (i)) (ei) ?_
    refine lv_aload_n hx hb dL_law_280 rfl (lv_at hl 1 rfl) ?_
    refine lv_iload hx hb dL_law_281 (lv_at hl 0 rfl) ?_
    refine lv_iconst (v := nI 2) hx hb dL_law_283 (by decide) ?_
    refine xi_iadd hx hb dL_law_284 ?_
    refine xa_sld hx hb hXs hbl hbA hS (by omega) (by omega) dL_law_285 ?_
    refine lv_i2l hx hb dL_law_286 rfl ?_
    refine lv_bipush (v := nI 32) hx hb dL_law_287 (by decide) ?_
    refine lv_lshl hx hb dL_law_289 rfl ?_
    refine lv_aload_n hx hb dL_law_290 rfl (lv_at hl 1 rfl) ?_
    refine lv_iload hx hb dL_law_291 (lv_at hl 0 rfl) ?_
    refine lv_iconst (v := nI 3) hx hb dL_law_293 (by decide) ?_
    refine xi_iadd hx hb dL_law_294 ?_
    refine xa_sld hx hb hXs hbl hbA hS (by omega) (by omega) dL_law_295 ?_
    refine lv_i2l hx hb dL_law_296 rfl ?_
    refine lv_ldc2 hx hb hown (htA _ tl_k33) dL_law_297 ?_
    refine lv_land hx hb dL_law_300 ?_
    refine lv_lor hx hb dL_law_301 ?_
    refine tw_l (y := lN n1) ((show lw_lg (xs (9 * k + 2)) (xs (9 * k + 3)) = _ from e1)) ?_
    refine lv_aload_n hx hb dL_law_302 rfl (lv_at hl 4 rfl) ?_
    refine kp_calli (wr := [((am 8), .inr (2, [.ref (am 0), .ref (am 1), .ref (am 2), .ref (am 3), .ref (am 4), .ref (am 5), .ref (am 6), .ref (am 7), .int (th)])), ((am 0), .inl (cI, 32, .inl (f0))), ((am 1), .inl (cI, 128, .inl (f1))), ((am 2), .inl (cI, 256, .inl (f2))), ((am 3), .inl (cI, 256, .inl (f3))), ((am 4), .inl (cI, 176, .inl (f4))), ((am 5), .inl (cI, 16, .inl (f5))), ((am 6), .inl (cI, 16, .inl (f6))), ((am 7), .inl (cI, 16, .inl (f7)))]) (nw := fun _u => (wL cI cL ad am qo (vp_updL f i (lN n1)) (t) (sD) (sT) (th) (f0) (f1) (f2) (f3) (f4) (f5) (f6) (f7) (vp_updL g 0 (f i)))) (vx_runSW (As := [.ref (ad 6), .int (nI (i)), .long (lN n1), .ref qo]) (rest := []) ⟨hx, hb, hml, hown, htA⟩ (h_put_t l dC dI cI cL ad _ (f) (t) (sD) (sT) qo (g) i hi (lN n1)) (vx_cwSW 4 htA (goodT_H tl_l40 tl_static_put tl_init tl_code_put rfl) rfl rfl rfl (by decide +kernel) ⟨Nat.le_trans (Nat.le_of_ble_eq_true rfl) hf.1, Nat.le_trans (Nat.le_of_ble_eq_true rfl) hf.2⟩) (kp_preS (wc := [((ad 6), .inr (1, [.ref (ad 0), .ref (ad 1), .ref (ad 2), .ref (ad 4)])), ((ad 0), .inl (cL, 16, .inr (.inl (f)))), ((ad 1), .inl (cL, 2, .inr (.inl (t)))), ((ad 2), .inr (0, [.ref (ad 3)])), ((ad 3), .inl (cI, 44, .inl (sD))), ((ad 4), .inr (0, [.ref (ad 5)])), ((ad 5), .inl (cI, 44, .inl (sT))), (qo, .inl (cL, 1, .inr (.inl (g))))]) kp_XT trivial hP hD hK hS hA [0, 1, 2, 3, 4, 5, 6, 16] rfl rfl rfl [0, 1] rfl) rfl rfl hl.1 rfl (lv_room (Nat.le_of_ble_eq_true rfl)) dL_law_303 ⟨by omega, by omega⟩) hP hD hS hA [0, 1, 2, 3, 4, 5, 6, 16] [7, 8, 9, 10, 11, 12, 13, 14, 15] rfl rfl rfl (by decide) [9, 10, 11, 12, 13, 14, 15, 0, 1, 2, 3, 4, 5, 6, 7, 8, 16] rfl (fun _ => rfl) (fun _ => rfl) (fun r _u H locs hr1 hP hD hS => ?_)
    subst hr1
    refine lv_istore (nL := 8) (lv' := [(5, .int (nI (0))), (4, .int (nI (9 * k))), (0, .ref b), (1, .ref (ad 6)), (2, .ref (am 8)), (3, .ref qo)]) hx hb dL_law_306 hl (by decide) rfl (fun ls hl => ?_)
    refine lv_aload_n hx hb dL_law_308 rfl (lv_at hl 4 rfl) ?_
    refine lv_aload_n hx hb dL_law_309 rfl (lv_at hl 2 rfl) ?_
    refine lv_iload hx hb dL_law_310 (lv_at hl 1 rfl) ?_
    refine lv_iconst (v := nI 1) hx hb dL_law_312 (by decide) ?_
    refine xi_iadd hx hb dL_law_313 ?_
    refine xa_sld hx hb hXs hbl hbA hS (by omega) (by omega) dL_law_314 ?_
    refine tw_i (y := nI (i)) (ei) ?_
    refine lv_aload_n hx hb dL_law_315 rfl (lv_at hl 2 rfl) ?_
    refine lv_iload hx hb dL_law_316 (lv_at hl 1 rfl) ?_
    refine lv_iconst (v := nI 2) hx hb dL_law_318 (by decide) ?_
    refine xi_iadd hx hb dL_law_319 ?_
    refine xa_sld hx hb hXs hbl hbA hS (by omega) (by omega) dL_law_320 ?_
    refine lv_i2l hx hb dL_law_321 rfl ?_
    refine lv_bipush (v := nI 32) hx hb dL_law_322 (by decide) ?_
    refine lv_lshl hx hb dL_law_324 rfl ?_
    refine lv_aload_n hx hb dL_law_325 rfl (lv_at hl 2 rfl) ?_
    refine lv_iload hx hb dL_law_326 (lv_at hl 1 rfl) ?_
    refine lv_iconst (v := nI 3) hx hb dL_law_328 (by decide) ?_
    refine xi_iadd hx hb dL_law_329 ?_
    refine xa_sld hx hb hXs hbl hbA hS (by omega) (by omega) dL_law_330 ?_
    refine lv_i2l hx hb dL_law_331 rfl ?_
    refine lv_ldc2 hx hb hown (htA _ tl_k33) dL_law_332 ?_
    refine lv_land hx hb dL_law_335 ?_
    refine lv_lor hx hb dL_law_336 ?_
    refine tw_l (y := lN n1) ((show lw_lg (xs (9 * k + 2)) (xs (9 * k + 3)) = _ from e1)) ?_
    refine kp_calll (wr := [((ad 6), .inr (1, [.ref (ad 0), .ref (ad 1), .ref (ad 2), .ref (ad 4)])), ((ad 0), .inl (cL, 16, .inr (.inl (vp_updL f i (lN n1))))), ((ad 1), .inl (cL, 2, .inr (.inl (t)))), ((ad 2), .inr (0, [.ref (ad 3)])), ((ad 3), .inl (cI, 44, .inl (sD))), ((ad 4), .inr (0, [.ref (ad 5)])), ((ad 5), .inl (cI, 44, .inl (sT))), (qo, .inl (cL, 1, .inr (.inl (vp_updL g 0 (f i)))))]) (nw := fun y1 => (wL cI cL ad am qo (vp_updL f i (lN n1)) (t) (sD) (sT) (nI 0) (f0) (y1) (f2) (f3) (f4) (f5) (f6) (f7) (vp_updL g 0 (f i)))) (va_runV (As := [.int (nI (i)), .long (lN n1)]) (rest := []) ⟨hx, hb, hml, hown, htA⟩ (c_put_t l dC dI cI am (th) (f0) (f1) (f2) (f3) (f4) (f5) (f6) (f7) _ n1 hn1 SEC hBS hk1 i hi) (cwV 2 htA (goodT_VM tl_l45 mM_instanceMethod_put mM_selects_put mM_code_put) rfl rfl rfl (by decide +kernel) ⟨Nat.le_trans (Nat.le_of_ble_eq_true rfl) hf.1, Nat.le_trans (Nat.le_of_ble_eq_true rfl) hf.2⟩) (kp_preV (wc := [((am 8), .inr (2, [.ref (am 0), .ref (am 1), .ref (am 2), .ref (am 3), .ref (am 4), .ref (am 5), .ref (am 6), .ref (am 7), .int (th)])), ((am 0), .inl (cI, 32, .inl (f0))), ((am 1), .inl (cI, 128, .inl (f1))), ((am 2), .inl (cI, 256, .inl (f2))), ((am 3), .inl (cI, 256, .inl (f3))), ((am 4), .inl (cI, 176, .inl (f4))), ((am 5), .inl (cI, 16, .inl (f5))), ((am 6), .inl (cI, 16, .inl (f6))), ((am 7), .inl (cI, 16, .inl (f7)))]) kp_XT trivial hP hD hK hS hA [7, 8, 9, 10, 11, 12, 13, 14, 15] rfl rfl rfl [0] rfl (q0 := 7) rfl rfl) rfl rfl hl.1 rfl (lv_room (Nat.le_of_ble_eq_true rfl)) dL_law_337 ⟨by omega, by omega⟩) hP hD hS hA [7, 8, 9, 10, 11, 12, 13, 14, 15] [0, 1, 2, 3, 4, 5, 6, 16] rfl rfl rfl (by decide) [0, 1, 2, 3, 4, 5, 6, 8, 9, 10, 11, 12, 13, 14, 15, 16, 7] rfl (fun _ => rfl) (fun _ => rfl) (fun r y1 H locs hr2 hP hD hS => ?_)
    obtain ⟨hr3, hy1⟩ := hr2
    subst hr3
    refine lv_lstore (nL := 8) (lv' := [(6, .long (ae_l SEC (8 * i))), (5, .int (nI (0))), (4, .int (nI (9 * k))), (0, .ref b), (1, .ref (ad 6)), (2, .ref (am 8)), (3, .ref qo)]) hx hb dL_law_340 hl (by decide) rfl (fun ls hl => ?_)
    refine lv_aload_n hx hb dL_law_342 rfl (lv_at hl 5 rfl) ?_
    refine kp_calli (wr := [((ad 6), .inr (1, [.ref (ad 0), .ref (ad 1), .ref (ad 2), .ref (ad 4)])), ((ad 0), .inl (cL, 16, .inr (.inl (vp_updL f i (lN n1))))), ((ad 1), .inl (cL, 2, .inr (.inl (t)))), ((ad 2), .inr (0, [.ref (ad 3)])), ((ad 3), .inl (cI, 44, .inl (sD))), ((ad 4), .inr (0, [.ref (ad 5)])), ((ad 5), .inl (cI, 44, .inl (sT))), (qo, .inl (cL, 1, .inr (.inl (vp_updL g 0 (f i)))))]) (nw := fun _u2 => (wL cI cL ad am qo (vp_updL f i (lN n1)) (t) (sD) (sT) (nI 0) (f0) (y1) (f2) (f3) (f4) (f5) (f6) (f7) (vp_updL g 0 (f i)))) (va_runV (As := []) (rest := []) ⟨hx, hb, hml, hown, htA⟩ (c_thrown l dC dI cI am (nI 0) (f0) (y1) (f2) (f3) (f4) (f5) (f6) (f7) _) (cwV 0 htA (goodT_VM tl_l46 mM_instanceMethod_thrown mM_selects_thrown mM_code_thrown) rfl rfl rfl (by decide +kernel) ⟨Nat.le_trans (Nat.le_of_ble_eq_true rfl) hf.1, Nat.le_trans (Nat.le_of_ble_eq_true rfl) hf.2⟩) (kp_preV (wc := [((am 8), .inr (2, [.ref (am 0), .ref (am 1), .ref (am 2), .ref (am 3), .ref (am 4), .ref (am 5), .ref (am 6), .ref (am 7), .int (nI 0)])), ((am 0), .inl (cI, 32, .inl (f0))), ((am 1), .inl (cI, 128, .inl (y1))), ((am 2), .inl (cI, 256, .inl (f2))), ((am 3), .inl (cI, 256, .inl (f3))), ((am 4), .inl (cI, 176, .inl (f4))), ((am 5), .inl (cI, 16, .inl (f5))), ((am 6), .inl (cI, 16, .inl (f6))), ((am 7), .inl (cI, 16, .inl (f7)))]) kp_XT trivial hP hD hK hS hA [7, 8, 9, 10, 11, 12, 13, 14, 15] rfl rfl rfl [0] rfl (q0 := 7) rfl rfl) rfl rfl hl.1 rfl (lv_room (Nat.le_of_ble_eq_true rfl)) dL_law_343 ⟨by omega, by omega⟩) hP hD hS hA [7, 8, 9, 10, 11, 12, 13, 14, 15] [0, 1, 2, 3, 4, 5, 6, 16] rfl rfl rfl (by decide) [0, 1, 2, 3, 4, 5, 6, 8, 9, 10, 11, 12, 13, 14, 15, 16, 7] rfl (fun _ => rfl) (fun _ => rfl) (fun r _u2 H locs ht2 hP hD hS => ?_)
    subst ht2
    refine lv_iload hx hb dL_law_346 (lv_at hl 1 rfl) ?_
    refine xi_icmp_eq (tgt := 353) hx hb dL_law_348 (by decide) (by omega) (by omega) (fun hq => ?_) (fun h9 => absurd h9 (fun z => z rfl))
    refine lv_iload hx hb dL_law_353 (lv_at hl 1 rfl) ?_
    refine xi_if_ne (tgt := 369) hx hb dL_law_355 (by decide) (by omega) (fun h9 => absurd h9 (fun z => z rfl)) (fun hq2 => ?_)
    refine lv_aload_n hx hb dL_law_358 rfl (lv_at hl 6 rfl) ?_
    refine lv_iconst (v := nI 0) hx hb dL_law_359 (by decide) ?_
    refine xa_lld hx hb hK hP 16 1 rfl rfl (by omega) (by omega) (v := f i) (pk_uLs) dL_law_360 ?_
    refine lv_lload hx hb dL_law_361 (lv_at hl 0 rfl) ?_
    refine W.lcmp hx hb dL_law_363 ?_
    refine tw_i (y := nI 0) (by rw [hLg i hi]; unfold lg_cmp; rw [if_neg (by simp), if_pos rfl]; rfl) ?_
    refine xi_if_eq (tgt := 369) hx hb dL_law_364 (by decide) (by omega) (fun hq3 => ?_) (fun h9 => absurd h9 (fun z => z rfl))
    refine lv_goto (tgt := 635) hx hb dL_law_369 (by decide) ?_
    refine W.widen (k := cells + 1) (n := slots + 6) (by omega) (by omega) ?_
    exact kk (KEY) (ae_pt SEC (8 * i) 8 (ae_by n1)) (vp_updL f i (lN n1)) (t) (sD) (sT) (nI 0) (f0) (y1) (f2) (f3) (f4) (f5) (f6) (f7) (vp_updL g 0 (f i)) ls H locs ⟨hBK, ae_pt_lt hBS (fun k => ae_by_lt n1 k) _ _, pt_8 hLg hn1, hsD, hsT, hk0, hy1, hbx, hbk⟩ (lv_sub hl [2, 3, 4, 5, 6] rfl) hP hD hS
set_option maxRecDepth 100000 in
set_option maxHeartbeats 4000000 in
theorem lw_c2 (hx : p.tables.exec = Jvm.exec) (hb : c.code = cL_law) (htA : ∀ w ∈ lw_tbl, w.before args s = true) (hown : s.vm.findClass RL = some m.cls) (hml : c.maxLocals = 8) (hA : ∀ q, s.heap.size ≤ q → A q) (hbA : ¬ A b) (hXs : va_X b L xs s s.heap) (hbl : b < s.heap.size) (hL : L ≤ 4608) (hlt : l.stackTraces = false) (hK : va_K (dC, dI) mCl [(cI, .int), (cL, .long)] s) (hX : st_X tS tI A s) (hW1 : tw_X 32 "a long's index is 0 to 15" "java/lang/IndexOutOfBoundsException" sa1 A s) (hW2 : tw_X 39 "a sector's number is not below 0" "java/lang/IllegalArgumentException" sa2 A s) (hW3 : tw_X 59 "a block's index is 0 to 7" "java/lang/IndexOutOfBoundsException" sa3 A s) (hf : 10 ≤ R.frames ∧ 360 ≤ R.locals) (hc : cells + 1 ≤ R.cells ∧ slots + 6 ≤ R.slots) {k : Nat} (hk : 9 * k + 9 ≤ L) (kk : ∀ (KEY SEC : Nat → Nat) (f t : Nat → Int64) (sD sT : Nat → Int32) (th : Int32) (f0 f1 f2 f3 f4 f5 f6 f7 : Nat → Int32) (g : Nat → Int64) (ls : Array Slot) (H : Heap) (locs : List Loc), lw_I KEY SEC f sD sT f0 f1 f2 f3 → lv_has ls 8 [(4, .int (nI (9 * k))), (0, .ref b), (1, .ref (ad 6)), (2, .ref (am 8)), (3, .ref qo)] → va_P (dC, dI) mCl (wL cI cL ad am qo (f) (t) (sD) (sT) (th) (f0) (f1) (f2) (f3) (f4) (f5) (f6) (f7) (g)) H → va_D A (wL cI cL ad am qo (f) (t) (sD) (sT) (th) (f0) (f1) (f2) (f3) (f4) (f5) (f6) (f7) (g)) → va_S A s.heap H locs → W p l e R s m args below meth c H locs (cells + 1) (slots + 6) Q (F0 m 635 ls [])) (KEY SEC : Nat → Nat) (f t : Nat → Int64) (sD sT : Nat → Int32) (th : Int32) (f0 f1 f2 f3 f4 f5 f6 f7 : Nat → Int32) (g : Nat → Int64) (ls : Array Slot) (H : Heap) (locs : List Loc) (hI : lw_I KEY SEC f sD sT f0 f1 f2 f3) (hl : lv_has ls 8 [(4, .int (nI (9 * k))), (0, .ref b), (1, .ref (ad 6)), (2, .ref (am 8)), (3, .ref qo)]) (hP : va_P (dC, dI) mCl (wL cI cL ad am qo (f) (t) (sD) (sT) (th) (f0) (f1) (f2) (f3) (f4) (f5) (f6) (f7) (g)) H) (hD : va_D A (wL cI cL ad am qo (f) (t) (sD) (sT) (th) (f0) (f1) (f2) (f3) (f4) (f5) (f6) (f7) (g))) (hS : va_S A s.heap H locs) : W p l e R s m args below meth c H locs cells slots Q (F0 m 372 ls []) := by
  obtain ⟨hBK, hBS, hLg, hsD, hsT, hk0, hk1, hbx, hbk⟩ := hI
  rcases (show (xs (9 * k + 1) < 0 ∨ nI 16 ≤ xs (9 * k + 1)) ∨ ∃ i : Nat, i < 16 ∧ xs (9 * k + 1) = nI i by rcases pk_ix (xs (9 * k + 1)) (n := 16) (by omega) with h | h | h; exact Or.inl (Or.inl h); exact Or.inl (Or.inr h); exact Or.inr h) with hi | ⟨i, hi, ei⟩
  · refine lv_aload_n hx hb dL_law_372 rfl (lv_at hl 2 rfl) ?_
    refine lv_aload_n hx hb dL_law_373 rfl (lv_at hl 1 rfl) ?_
    refine lv_iload hx hb dL_law_374 (lv_at hl 0 rfl) ?_
    refine lv_iconst (v := nI 1) hx hb dL_law_376 (by decide) ?_
    refine xi_iadd hx hb dL_law_377 ?_
    refine xa_sld hx hb hXs hbl hbA hS (by omega) (by omega) dL_law_378 ?_
    refine lv_aload_n hx hb dL_law_379 rfl (lv_at hl 4 rfl) ?_
    refine kp_calli (wr := [((am 8), .inr (2, [.ref (am 0), .ref (am 1), .ref (am 2), .ref (am 3), .ref (am 4), .ref (am 5), .ref (am 6), .ref (am 7), .int (th)])), ((am 0), .inl (cI, 32, .inl (f0))), ((am 1), .inl (cI, 128, .inl (f1))), ((am 2), .inl (cI, 256, .inl (f2))), ((am 3), .inl (cI, 256, .inl (f3))), ((am 4), .inl (cI, 176, .inl (f4))), ((am 5), .inl (cI, 16, .inl (f5))), ((am 6), .inl (cI, 16, .inl (f6))), ((am 7), .inl (cI, 16, .inl (f7)))]) (nw := fun _u => (wL cI cL ad am qo (f) (t) (sD) (sT) (th) (f0) (f1) (f2) (f3) (f4) (f5) (f6) (f7) (g))) (vx_runSW (As := [.ref (ad 6), .int (xs (9 * k + 1)), .ref qo]) (rest := []) ⟨hx, hb, hml, hown, htA⟩ (h_get_f l hlt dC dI cI cL ad _ (f) (t) (sD) (sT) qo (g) sa1 (xs (9 * k + 1)) hi) (vx_cwSW 3 htA (goodT_H tl_l50 tl_static_get tl_init tl_code_get rfl) rfl rfl rfl (by decide +kernel) ⟨Nat.le_trans (Nat.le_of_ble_eq_true rfl) hf.1, Nat.le_trans (Nat.le_of_ble_eq_true rfl) hf.2⟩) (kp_preS (wc := [((ad 6), .inr (1, [.ref (ad 0), .ref (ad 1), .ref (ad 2), .ref (ad 4)])), ((ad 0), .inl (cL, 16, .inr (.inl (f)))), ((ad 1), .inl (cL, 2, .inr (.inl (t)))), ((ad 2), .inr (0, [.ref (ad 3)])), ((ad 3), .inl (cI, 44, .inl (sD))), ((ad 4), .inr (0, [.ref (ad 5)])), ((ad 5), .inl (cI, 44, .inl (sT))), (qo, .inl (cL, 1, .inr (.inl (g))))]) (tw_kp _ _ _ _) hW1 hP hD hK hS hA [0, 1, 2, 3, 4, 5, 6, 16] rfl rfl rfl [0, 1] rfl) rfl rfl hl.1 rfl (lv_room (Nat.le_of_ble_eq_true rfl)) dL_law_380 ⟨hc.1, hc.2⟩) hP hD hS hA [0, 1, 2, 3, 4, 5, 6, 16] [7, 8, 9, 10, 11, 12, 13, 14, 15] rfl rfl rfl (by decide) [9, 10, 11, 12, 13, 14, 15, 0, 1, 2, 3, 4, 5, 6, 7, 8, 16] rfl (fun _ => rfl) (fun _ => rfl) (fun r _u H locs hr1 hP hD hS => ?_)
    subst hr1
    refine lv_istore (nL := 8) (lv' := [(5, .int (nI (1))), (4, .int (nI (9 * k))), (0, .ref b), (1, .ref (ad 6)), (2, .ref (am 8)), (3, .ref qo)]) hx hb dL_law_383 hl (by decide) rfl (fun ls hl => ?_)
    refine lv_aload_n hx hb dL_law_385 rfl (lv_at hl 4 rfl) ?_
    refine lv_aload_n hx hb dL_law_386 rfl (lv_at hl 2 rfl) ?_
    refine lv_iload hx hb dL_law_387 (lv_at hl 1 rfl) ?_
    refine lv_iconst (v := nI 1) hx hb dL_law_389 (by decide) ?_
    refine xi_iadd hx hb dL_law_390 ?_
    refine xa_sld hx hb hXs hbl hbA hS (by omega) (by omega) dL_law_391 ?_
    refine kp_calll (wr := [((ad 6), .inr (1, [.ref (ad 0), .ref (ad 1), .ref (ad 2), .ref (ad 4)])), ((ad 0), .inl (cL, 16, .inr (.inl (f)))), ((ad 1), .inl (cL, 2, .inr (.inl (t)))), ((ad 2), .inr (0, [.ref (ad 3)])), ((ad 3), .inl (cI, 44, .inl (sD))), ((ad 4), .inr (0, [.ref (ad 5)])), ((ad 5), .inl (cI, 44, .inl (sT))), (qo, .inl (cL, 1, .inr (.inl (g))))]) (nw := fun _u1 => (wL cI cL ad am qo (f) (t) (sD) (sT) (nI 1) (f0) (f1) (f2) (f3) (f4) (f5) (f6) (f7) (g))) (va_runV (As := [.int (xs (9 * k + 1))]) (rest := []) ⟨hx, hb, hml, hown, htA⟩ (c_get_f l dC dI cI am (th) (f0) (f1) (f2) (f3) (f4) (f5) (f6) (f7) _ SEC hBS hk1 (xs (9 * k + 1)) hi) (cwV 1 htA (goodT_VM tl_l53 mM_instanceMethod_get mM_selects_get mM_code_get) rfl rfl rfl (by decide +kernel) ⟨Nat.le_trans (Nat.le_of_ble_eq_true rfl) hf.1, Nat.le_trans (Nat.le_of_ble_eq_true rfl) hf.2⟩) (kp_preV (wc := [((am 8), .inr (2, [.ref (am 0), .ref (am 1), .ref (am 2), .ref (am 3), .ref (am 4), .ref (am 5), .ref (am 6), .ref (am 7), .int (th)])), ((am 0), .inl (cI, 32, .inl (f0))), ((am 1), .inl (cI, 128, .inl (f1))), ((am 2), .inl (cI, 256, .inl (f2))), ((am 3), .inl (cI, 256, .inl (f3))), ((am 4), .inl (cI, 176, .inl (f4))), ((am 5), .inl (cI, 16, .inl (f5))), ((am 6), .inl (cI, 16, .inl (f6))), ((am 7), .inl (cI, 16, .inl (f7)))]) kp_XT trivial hP hD hK hS hA [7, 8, 9, 10, 11, 12, 13, 14, 15] rfl rfl rfl [0] rfl (q0 := 7) rfl rfl) rfl rfl hl.1 rfl (lv_room (Nat.le_of_ble_eq_true rfl)) dL_law_392 ⟨hc.1, hc.2⟩) hP hD hS hA [7, 8, 9, 10, 11, 12, 13, 14, 15] [0, 1, 2, 3, 4, 5, 6, 16] rfl rfl rfl (by decide) [0, 1, 2, 3, 4, 5, 6, 8, 9, 10, 11, 12, 13, 14, 15, 16, 7] rfl (fun _ => rfl) (fun _ => rfl) (fun r _u1 H locs hr2 hP hD hS => ?_)
    refine lv_lstore (nL := 8) (lv' := [(6, .long (r)), (5, .int (nI (1))), (4, .int (nI (9 * k))), (0, .ref b), (1, .ref (ad 6)), (2, .ref (am 8)), (3, .ref qo)]) hx hb dL_law_395 hl (by decide) rfl (fun ls hl => ?_)
    refine lv_aload_n hx hb dL_law_397 rfl (lv_at hl 5 rfl) ?_
    refine kp_calli (wr := [((ad 6), .inr (1, [.ref (ad 0), .ref (ad 1), .ref (ad 2), .ref (ad 4)])), ((ad 0), .inl (cL, 16, .inr (.inl (f)))), ((ad 1), .inl (cL, 2, .inr (.inl (t)))), ((ad 2), .inr (0, [.ref (ad 3)])), ((ad 3), .inl (cI, 44, .inl (sD))), ((ad 4), .inr (0, [.ref (ad 5)])), ((ad 5), .inl (cI, 44, .inl (sT))), (qo, .inl (cL, 1, .inr (.inl (g))))]) (nw := fun _u2 => (wL cI cL ad am qo (f) (t) (sD) (sT) (nI 1) (f0) (f1) (f2) (f3) (f4) (f5) (f6) (f7) (g))) (va_runV (As := []) (rest := []) ⟨hx, hb, hml, hown, htA⟩ (c_thrown l dC dI cI am (nI 1) (f0) (f1) (f2) (f3) (f4) (f5) (f6) (f7) _) (cwV 0 htA (goodT_VM tl_l46 mM_instanceMethod_thrown mM_selects_thrown mM_code_thrown) rfl rfl rfl (by decide +kernel) ⟨Nat.le_trans (Nat.le_of_ble_eq_true rfl) hf.1, Nat.le_trans (Nat.le_of_ble_eq_true rfl) hf.2⟩) (kp_preV (wc := [((am 8), .inr (2, [.ref (am 0), .ref (am 1), .ref (am 2), .ref (am 3), .ref (am 4), .ref (am 5), .ref (am 6), .ref (am 7), .int (nI 1)])), ((am 0), .inl (cI, 32, .inl (f0))), ((am 1), .inl (cI, 128, .inl (f1))), ((am 2), .inl (cI, 256, .inl (f2))), ((am 3), .inl (cI, 256, .inl (f3))), ((am 4), .inl (cI, 176, .inl (f4))), ((am 5), .inl (cI, 16, .inl (f5))), ((am 6), .inl (cI, 16, .inl (f6))), ((am 7), .inl (cI, 16, .inl (f7)))]) kp_XT trivial hP hD hK hS hA [7, 8, 9, 10, 11, 12, 13, 14, 15] rfl rfl rfl [0] rfl (q0 := 7) rfl rfl) rfl rfl hl.1 rfl (lv_room (Nat.le_of_ble_eq_true rfl)) dL_law_398 ⟨hc.1, hc.2⟩) hP hD hS hA [7, 8, 9, 10, 11, 12, 13, 14, 15] [0, 1, 2, 3, 4, 5, 6, 16] rfl rfl rfl (by decide) [0, 1, 2, 3, 4, 5, 6, 8, 9, 10, 11, 12, 13, 14, 15, 16, 7] rfl (fun _ => rfl) (fun _ => rfl) (fun r _u2 H locs ht2 hP hD hS => ?_)
    subst ht2
    refine lv_iload hx hb dL_law_401 (lv_at hl 1 rfl) ?_
    refine xi_icmp_eq (tgt := 408) hx hb dL_law_403 (by decide) (by omega) (by omega) (fun hq => ?_) (fun h9 => absurd h9 (fun z => z rfl))
    refine lv_iload hx hb dL_law_408 (lv_at hl 1 rfl) ?_
    refine xi_if_ne (tgt := 424) hx hb dL_law_410 (by decide) (by omega) (fun hq2 => ?_) (fun h9 => absurd h9 (by omega))
    refine lv_goto (tgt := 635) hx hb dL_law_424 (by decide) ?_
    exact kk (KEY) (SEC) (f) (t) (sD) (sT) (nI 1) (f0) (f1) (f2) (f3) (f4) (f5) (f6) (f7) (g) ls H locs ⟨hBK, hBS, hLg, hsD, hsT, hk0, hk1, hbx, hbk⟩ (lv_sub hl [2, 3, 4, 5, 6] rfl) hP hD hS
  · refine lv_aload_n hx hb dL_law_372 rfl (lv_at hl 2 rfl) ?_
    refine lv_aload_n hx hb dL_law_373 rfl (lv_at hl 1 rfl) ?_
    refine lv_iload hx hb dL_law_374 (lv_at hl 0 rfl) ?_
    refine lv_iconst (v := nI 1) hx hb dL_law_376 (by decide) ?_
    refine xi_iadd hx hb dL_law_377 ?_
    refine xa_sld hx hb hXs hbl hbA hS (by omega) (by omega) dL_law_378 ?_
    refine tw_i (y := nI (i)) (ei) ?_
    refine lv_aload_n hx hb dL_law_379 rfl (lv_at hl 4 rfl) ?_
    refine kp_calli (wr := [((am 8), .inr (2, [.ref (am 0), .ref (am 1), .ref (am 2), .ref (am 3), .ref (am 4), .ref (am 5), .ref (am 6), .ref (am 7), .int (th)])), ((am 0), .inl (cI, 32, .inl (f0))), ((am 1), .inl (cI, 128, .inl (f1))), ((am 2), .inl (cI, 256, .inl (f2))), ((am 3), .inl (cI, 256, .inl (f3))), ((am 4), .inl (cI, 176, .inl (f4))), ((am 5), .inl (cI, 16, .inl (f5))), ((am 6), .inl (cI, 16, .inl (f6))), ((am 7), .inl (cI, 16, .inl (f7)))]) (nw := fun _u => (wL cI cL ad am qo (f) (t) (sD) (sT) (th) (f0) (f1) (f2) (f3) (f4) (f5) (f6) (f7) (vp_updL g 0 (f i)))) (vx_runSW (As := [.ref (ad 6), .int (nI (i)), .ref qo]) (rest := []) ⟨hx, hb, hml, hown, htA⟩ (h_get_t l dC dI cI cL ad _ (f) (t) (sD) (sT) qo (g) i hi) (vx_cwSW 3 htA (goodT_H tl_l50 tl_static_get tl_init tl_code_get rfl) rfl rfl rfl (by decide +kernel) ⟨Nat.le_trans (Nat.le_of_ble_eq_true rfl) hf.1, Nat.le_trans (Nat.le_of_ble_eq_true rfl) hf.2⟩) (kp_preS (wc := [((ad 6), .inr (1, [.ref (ad 0), .ref (ad 1), .ref (ad 2), .ref (ad 4)])), ((ad 0), .inl (cL, 16, .inr (.inl (f)))), ((ad 1), .inl (cL, 2, .inr (.inl (t)))), ((ad 2), .inr (0, [.ref (ad 3)])), ((ad 3), .inl (cI, 44, .inl (sD))), ((ad 4), .inr (0, [.ref (ad 5)])), ((ad 5), .inl (cI, 44, .inl (sT))), (qo, .inl (cL, 1, .inr (.inl (g))))]) kp_XT trivial hP hD hK hS hA [0, 1, 2, 3, 4, 5, 6, 16] rfl rfl rfl [0, 1] rfl) rfl rfl hl.1 rfl (lv_room (Nat.le_of_ble_eq_true rfl)) dL_law_380 ⟨by omega, by omega⟩) hP hD hS hA [0, 1, 2, 3, 4, 5, 6, 16] [7, 8, 9, 10, 11, 12, 13, 14, 15] rfl rfl rfl (by decide) [9, 10, 11, 12, 13, 14, 15, 0, 1, 2, 3, 4, 5, 6, 7, 8, 16] rfl (fun _ => rfl) (fun _ => rfl) (fun r _u H locs hr1 hP hD hS => ?_)
    subst hr1
    refine lv_istore (nL := 8) (lv' := [(5, .int (nI (0))), (4, .int (nI (9 * k))), (0, .ref b), (1, .ref (ad 6)), (2, .ref (am 8)), (3, .ref qo)]) hx hb dL_law_383 hl (by decide) rfl (fun ls hl => ?_)
    refine lv_aload_n hx hb dL_law_385 rfl (lv_at hl 4 rfl) ?_
    refine lv_aload_n hx hb dL_law_386 rfl (lv_at hl 2 rfl) ?_
    refine lv_iload hx hb dL_law_387 (lv_at hl 1 rfl) ?_
    refine lv_iconst (v := nI 1) hx hb dL_law_389 (by decide) ?_
    refine xi_iadd hx hb dL_law_390 ?_
    refine xa_sld hx hb hXs hbl hbA hS (by omega) (by omega) dL_law_391 ?_
    refine tw_i (y := nI (i)) (ei) ?_
    refine kp_calll (wr := [((ad 6), .inr (1, [.ref (ad 0), .ref (ad 1), .ref (ad 2), .ref (ad 4)])), ((ad 0), .inl (cL, 16, .inr (.inl (f)))), ((ad 1), .inl (cL, 2, .inr (.inl (t)))), ((ad 2), .inr (0, [.ref (ad 3)])), ((ad 3), .inl (cI, 44, .inl (sD))), ((ad 4), .inr (0, [.ref (ad 5)])), ((ad 5), .inl (cI, 44, .inl (sT))), (qo, .inl (cL, 1, .inr (.inl (vp_updL g 0 (f i)))))]) (nw := fun _u1 => (wL cI cL ad am qo (f) (t) (sD) (sT) (nI 0) (f0) (f1) (f2) (f3) (f4) (f5) (f6) (f7) (vp_updL g 0 (f i)))) (va_runV (As := [.int (nI (i))]) (rest := []) ⟨hx, hb, hml, hown, htA⟩ (c_get_t l dC dI cI am (th) (f0) (f1) (f2) (f3) (f4) (f5) (f6) (f7) _ SEC hBS hk1 i hi) (cwV 1 htA (goodT_VM tl_l53 mM_instanceMethod_get mM_selects_get mM_code_get) rfl rfl rfl (by decide +kernel) ⟨Nat.le_trans (Nat.le_of_ble_eq_true rfl) hf.1, Nat.le_trans (Nat.le_of_ble_eq_true rfl) hf.2⟩) (kp_preV (wc := [((am 8), .inr (2, [.ref (am 0), .ref (am 1), .ref (am 2), .ref (am 3), .ref (am 4), .ref (am 5), .ref (am 6), .ref (am 7), .int (th)])), ((am 0), .inl (cI, 32, .inl (f0))), ((am 1), .inl (cI, 128, .inl (f1))), ((am 2), .inl (cI, 256, .inl (f2))), ((am 3), .inl (cI, 256, .inl (f3))), ((am 4), .inl (cI, 176, .inl (f4))), ((am 5), .inl (cI, 16, .inl (f5))), ((am 6), .inl (cI, 16, .inl (f6))), ((am 7), .inl (cI, 16, .inl (f7)))]) kp_XT trivial hP hD hK hS hA [7, 8, 9, 10, 11, 12, 13, 14, 15] rfl rfl rfl [0] rfl (q0 := 7) rfl rfl) rfl rfl hl.1 rfl (lv_room (Nat.le_of_ble_eq_true rfl)) dL_law_392 ⟨by omega, by omega⟩) hP hD hS hA [7, 8, 9, 10, 11, 12, 13, 14, 15] [0, 1, 2, 3, 4, 5, 6, 16] rfl rfl rfl (by decide) [0, 1, 2, 3, 4, 5, 6, 8, 9, 10, 11, 12, 13, 14, 15, 16, 7] rfl (fun _ => rfl) (fun _ => rfl) (fun r _u1 H locs hr2 hP hD hS => ?_)
    subst hr2
    refine lv_lstore (nL := 8) (lv' := [(6, .long (ae_l SEC (8 * i))), (5, .int (nI (0))), (4, .int (nI (9 * k))), (0, .ref b), (1, .ref (ad 6)), (2, .ref (am 8)), (3, .ref qo)]) hx hb dL_law_395 hl (by decide) rfl (fun ls hl => ?_)
    refine lv_aload_n hx hb dL_law_397 rfl (lv_at hl 5 rfl) ?_
    refine kp_calli (wr := [((ad 6), .inr (1, [.ref (ad 0), .ref (ad 1), .ref (ad 2), .ref (ad 4)])), ((ad 0), .inl (cL, 16, .inr (.inl (f)))), ((ad 1), .inl (cL, 2, .inr (.inl (t)))), ((ad 2), .inr (0, [.ref (ad 3)])), ((ad 3), .inl (cI, 44, .inl (sD))), ((ad 4), .inr (0, [.ref (ad 5)])), ((ad 5), .inl (cI, 44, .inl (sT))), (qo, .inl (cL, 1, .inr (.inl (vp_updL g 0 (f i)))))]) (nw := fun _u2 => (wL cI cL ad am qo (f) (t) (sD) (sT) (nI 0) (f0) (f1) (f2) (f3) (f4) (f5) (f6) (f7) (vp_updL g 0 (f i)))) (va_runV (As := []) (rest := []) ⟨hx, hb, hml, hown, htA⟩ (c_thrown l dC dI cI am (nI 0) (f0) (f1) (f2) (f3) (f4) (f5) (f6) (f7) _) (cwV 0 htA (goodT_VM tl_l46 mM_instanceMethod_thrown mM_selects_thrown mM_code_thrown) rfl rfl rfl (by decide +kernel) ⟨Nat.le_trans (Nat.le_of_ble_eq_true rfl) hf.1, Nat.le_trans (Nat.le_of_ble_eq_true rfl) hf.2⟩) (kp_preV (wc := [((am 8), .inr (2, [.ref (am 0), .ref (am 1), .ref (am 2), .ref (am 3), .ref (am 4), .ref (am 5), .ref (am 6), .ref (am 7), .int (nI 0)])), ((am 0), .inl (cI, 32, .inl (f0))), ((am 1), .inl (cI, 128, .inl (f1))), ((am 2), .inl (cI, 256, .inl (f2))), ((am 3), .inl (cI, 256, .inl (f3))), ((am 4), .inl (cI, 176, .inl (f4))), ((am 5), .inl (cI, 16, .inl (f5))), ((am 6), .inl (cI, 16, .inl (f6))), ((am 7), .inl (cI, 16, .inl (f7)))]) kp_XT trivial hP hD hK hS hA [7, 8, 9, 10, 11, 12, 13, 14, 15] rfl rfl rfl [0] rfl (q0 := 7) rfl rfl) rfl rfl hl.1 rfl (lv_room (Nat.le_of_ble_eq_true rfl)) dL_law_398 ⟨by omega, by omega⟩) hP hD hS hA [7, 8, 9, 10, 11, 12, 13, 14, 15] [0, 1, 2, 3, 4, 5, 6, 16] rfl rfl rfl (by decide) [0, 1, 2, 3, 4, 5, 6, 8, 9, 10, 11, 12, 13, 14, 15, 16, 7] rfl (fun _ => rfl) (fun _ => rfl) (fun r _u2 H locs ht2 hP hD hS => ?_)
    subst ht2
    refine lv_iload hx hb dL_law_401 (lv_at hl 1 rfl) ?_
    refine xi_icmp_eq (tgt := 408) hx hb dL_law_403 (by decide) (by omega) (by omega) (fun hq => ?_) (fun h9 => absurd h9 (fun z => z rfl))
    refine lv_iload hx hb dL_law_408 (lv_at hl 1 rfl) ?_
    refine xi_if_ne (tgt := 424) hx hb dL_law_410 (by decide) (by omega) (fun h9 => absurd h9 (fun z => z rfl)) (fun hq2 => ?_)
    refine lv_aload_n hx hb dL_law_413 rfl (lv_at hl 6 rfl) ?_
    refine lv_iconst (v := nI 0) hx hb dL_law_414 (by decide) ?_
    refine xa_lld hx hb hK hP 16 1 rfl rfl (by omega) (by omega) (v := f i) (pk_uLs) dL_law_415 ?_
    refine lv_lload hx hb dL_law_416 (lv_at hl 0 rfl) ?_
    refine W.lcmp hx hb dL_law_418 ?_
    refine tw_i (y := nI 0) (by rw [hLg i hi]; unfold lg_cmp; rw [if_neg (by simp), if_pos rfl]; rfl) ?_
    refine xi_if_eq (tgt := 424) hx hb dL_law_419 (by decide) (by omega) (fun hq3 => ?_) (fun h9 => absurd h9 (fun z => z rfl))
    refine lv_goto (tgt := 635) hx hb dL_law_424 (by decide) ?_
    refine W.widen (k := cells + 1) (n := slots + 6) (by omega) (by omega) ?_
    exact kk (KEY) (SEC) (f) (t) (sD) (sT) (nI 0) (f0) (f1) (f2) (f3) (f4) (f5) (f6) (f7) (vp_updL g 0 (f i)) ls H locs ⟨hBK, hBS, hLg, hsD, hsT, hk0, hk1, hbx, hbk⟩ (lv_sub hl [2, 3, 4, 5, 6] rfl) hP hD hS
set_option maxRecDepth 100000 in
set_option maxHeartbeats 4000000 in
theorem lw_c5 (hx : p.tables.exec = Jvm.exec) (hb : c.code = cL_law) (htA : ∀ w ∈ lw_tbl, w.before args s = true) (hown : s.vm.findClass RL = some m.cls) (hml : c.maxLocals = 8) (hA : ∀ q, s.heap.size ≤ q → A q) (hbA : ¬ A b) (hXs : va_X b L xs s s.heap) (hbl : b < s.heap.size) (hL : L ≤ 4608) (hlt : l.stackTraces = false) (hK : va_K (dC, dI) mCl [(cI, .int), (cL, .long)] s) (hX : st_X tS tI A s) (hW1 : tw_X 32 "a long's index is 0 to 15" "java/lang/IndexOutOfBoundsException" sa1 A s) (hW2 : tw_X 39 "a sector's number is not below 0" "java/lang/IllegalArgumentException" sa2 A s) (hW3 : tw_X 59 "a block's index is 0 to 7" "java/lang/IndexOutOfBoundsException" sa3 A s) (hf : 10 ≤ R.frames ∧ 360 ≤ R.locals) (hc : cells + 1 ≤ R.cells ∧ slots + 6 ≤ R.slots) {k : Nat} (hk : 9 * k + 9 ≤ L) (kk : ∀ (KEY SEC : Nat → Nat) (f t : Nat → Int64) (sD sT : Nat → Int32) (th : Int32) (f0 f1 f2 f3 f4 f5 f6 f7 : Nat → Int32) (g : Nat → Int64) (ls : Array Slot) (H : Heap) (locs : List Loc), lw_I KEY SEC f sD sT f0 f1 f2 f3 → lv_has ls 8 [(4, .int (nI (9 * k))), (0, .ref b), (1, .ref (ad 6)), (2, .ref (am 8)), (3, .ref qo)] → va_P (dC, dI) mCl (wL cI cL ad am qo (f) (t) (sD) (sT) (th) (f0) (f1) (f2) (f3) (f4) (f5) (f6) (f7) (g)) H → va_D A (wL cI cL ad am qo (f) (t) (sD) (sT) (th) (f0) (f1) (f2) (f3) (f4) (f5) (f6) (f7) (g)) → va_S A s.heap H locs → W p l e R s m args below meth c H locs (cells + 1) (slots + 6) Q (F0 m 635 ls [])) (KEY SEC : Nat → Nat) (f t : Nat → Int64) (sD sT : Nat → Int32) (th : Int32) (f0 f1 f2 f3 f4 f5 f6 f7 : Nat → Int32) (g : Nat → Int64) (ls : Array Slot) (H : Heap) (locs : List Loc) (hI : lw_I KEY SEC f sD sT f0 f1 f2 f3) (hl : lv_has ls 8 [(4, .int (nI (9 * k))), (0, .ref b), (1, .ref (ad 6)), (2, .ref (am 8)), (3, .ref qo)]) (hP : va_P (dC, dI) mCl (wL cI cL ad am qo (f) (t) (sD) (sT) (th) (f0) (f1) (f2) (f3) (f4) (f5) (f6) (f7) (g)) H) (hD : va_D A (wL cI cL ad am qo (f) (t) (sD) (sT) (th) (f0) (f1) (f2) (f3) (f4) (f5) (f6) (f7) (g))) (hS : va_S A s.heap H locs) : W p l e R s m args below meth c H locs cells slots Q (F0 m 621 ls []) := by
  obtain ⟨hBK, hBS, hLg, hsD, hsT, hk0, hk1, hbx, hbk⟩ := hI
  refine lv_aload_n hx hb dL_law_621 rfl (lv_at hl 2 rfl) ?_
  refine kp_calll (wr := [((am 8), .inr (2, [.ref (am 0), .ref (am 1), .ref (am 2), .ref (am 3), .ref (am 4), .ref (am 5), .ref (am 6), .ref (am 7), .int (th)])), ((am 0), .inl (cI, 32, .inl (f0))), ((am 1), .inl (cI, 128, .inl (f1))), ((am 2), .inl (cI, 256, .inl (f2))), ((am 3), .inl (cI, 256, .inl (f3))), ((am 4), .inl (cI, 176, .inl (f4))), ((am 5), .inl (cI, 16, .inl (f5))), ((am 6), .inl (cI, 16, .inl (f6))), ((am 7), .inl (cI, 16, .inl (f7))), (qo, .inl (cL, 1, .inr (.inl (g))))]) (nw := fun _u => (wL cI cL ad am qo (f) (t) (sD) (sT) (th) (f0) (f1) (f2) (f3) (f4) (f5) (f6) (f7) (g))) (va_runV (As := []) (rest := []) ⟨hx, hb, hml, hown, htA⟩ (c_X1_sum l dC dI cI cL ad _ (f) (t) (sD) (sT)) (cwV 0 htA (goodT_VC tl_l62 mS_instanceMethod_sum mS_selects_sum mS_code_sum) rfl rfl rfl (by decide +kernel) ⟨Nat.le_trans (Nat.le_of_ble_eq_true rfl) hf.1, Nat.le_trans (Nat.le_of_ble_eq_true rfl) hf.2⟩) (kp_preV (wc := [((ad 6), .inr (1, [.ref (ad 0), .ref (ad 1), .ref (ad 2), .ref (ad 4)])), ((ad 0), .inl (cL, 16, .inr (.inl (f)))), ((ad 1), .inl (cL, 2, .inr (.inl (t)))), ((ad 2), .inr (0, [.ref (ad 3)])), ((ad 3), .inl (cI, 44, .inl (sD))), ((ad 4), .inr (0, [.ref (ad 5)])), ((ad 5), .inl (cI, 44, .inl (sT)))]) kp_XT trivial hP hD hK hS hA [0, 1, 2, 3, 4, 5, 6] rfl rfl rfl [0, 1] rfl (q0 := 0) rfl rfl) rfl rfl hl.1 rfl (lv_room (Nat.le_of_ble_eq_true rfl)) dL_law_622 ⟨by omega, by omega⟩) hP hD hS hA [0, 1, 2, 3, 4, 5, 6] [7, 8, 9, 10, 11, 12, 13, 14, 15, 16] rfl rfl rfl (by decide) [10, 11, 12, 13, 14, 15, 16, 0, 1, 2, 3, 4, 5, 6, 7, 8, 9] rfl (fun _ => rfl) (fun _ => rfl) (fun r _u H locs hr1 hP hD hS => ?_)
  subst hr1
  refine lv_aload_n hx hb dL_law_625 rfl (lv_at hl 3 rfl) ?_
  refine kp_calll (wr := [((ad 6), .inr (1, [.ref (ad 0), .ref (ad 1), .ref (ad 2), .ref (ad 4)])), ((ad 0), .inl (cL, 16, .inr (.inl (f)))), ((ad 1), .inl (cL, 2, .inr (.inl (t)))), ((ad 2), .inr (0, [.ref (ad 3)])), ((ad 3), .inl (cI, 44, .inl (sD))), ((ad 4), .inr (0, [.ref (ad 5)])), ((ad 5), .inl (cI, 44, .inl (sT))), (qo, .inl (cL, 1, .inr (.inl (g))))]) (nw := fun _u1 => (wL cI cL ad am qo (f) (t) (sD) (sT) (nI 0) (f0) (f1) (f2) (f3) (f4) (f5) (f6) (f7) (g))) (va_runV (As := []) (rest := [.long (xs_f f 16)]) ⟨hx, hb, hml, hown, htA⟩ (c_sum l dC dI cI am (th) (f0) (f1) (f2) (f3) (f4) (f5) (f6) (f7) _ SEC hBS hk1) (cwV 0 htA (goodT_VM tl_l66 mM_instanceMethod_sum mM_selects_sum mM_code_sum) rfl rfl rfl (by decide +kernel) ⟨Nat.le_trans (Nat.le_of_ble_eq_true rfl) hf.1, Nat.le_trans (Nat.le_of_ble_eq_true rfl) hf.2⟩) (kp_preV (wc := [((am 8), .inr (2, [.ref (am 0), .ref (am 1), .ref (am 2), .ref (am 3), .ref (am 4), .ref (am 5), .ref (am 6), .ref (am 7), .int (th)])), ((am 0), .inl (cI, 32, .inl (f0))), ((am 1), .inl (cI, 128, .inl (f1))), ((am 2), .inl (cI, 256, .inl (f2))), ((am 3), .inl (cI, 256, .inl (f3))), ((am 4), .inl (cI, 176, .inl (f4))), ((am 5), .inl (cI, 16, .inl (f5))), ((am 6), .inl (cI, 16, .inl (f6))), ((am 7), .inl (cI, 16, .inl (f7)))]) kp_XT trivial hP hD hK hS hA [7, 8, 9, 10, 11, 12, 13, 14, 15] rfl rfl rfl [0] rfl (q0 := 7) rfl rfl) rfl rfl hl.1 rfl (lv_room (Nat.le_of_ble_eq_true rfl)) dL_law_626 ⟨by omega, by omega⟩) hP hD hS hA [7, 8, 9, 10, 11, 12, 13, 14, 15] [0, 1, 2, 3, 4, 5, 6, 16] rfl rfl rfl (by decide) [0, 1, 2, 3, 4, 5, 6, 8, 9, 10, 11, 12, 13, 14, 15, 16, 7] rfl (fun _ => rfl) (fun _ => rfl) (fun r _u1 H locs hr2 hP hD hS => ?_)
  subst hr2
  refine W.lcmp hx hb dL_law_629 ?_
  refine tw_i (y := nI 0) (by rw [sm_x hLg 16 (by omega)]; unfold lg_cmp; rw [if_neg (by simp), if_pos rfl]; rfl) ?_
  refine xi_if_eq (tgt := 635) hx hb dL_law_630 (by decide) (by omega) (fun hq => ?_) (fun h9 => absurd h9 (fun z => z rfl))
  refine W.widen (k := cells + 1) (n := slots + 6) (by omega) (by omega) ?_
  exact kk (KEY) (SEC) (f) (t) (sD) (sT) (nI 0) (f0) (f1) (f2) (f3) (f4) (f5) (f6) (f7) (g) ls H locs ⟨hBK, hBS, hLg, hsD, hsT, hk0, hk1, hbx, hbk⟩ (lv_sub hl [0, 1, 2, 3, 4] rfl) hP hD hS
end
