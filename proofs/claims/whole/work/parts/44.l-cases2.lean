/-! the law's cases sector and block -/
def lw_b (v : Int32) : Int32 := if v = 0 then nI 0 else nI 1
theorem lw_eB {x : Int32} {K S : Nat → Nat} (hK : ae_B K) (hS : ae_B S) : ae_B ((if x = 0 then ae_enc else ae_dec) K S) := by
  by_cases h : x = 0
  · rw [if_pos h]; exact ae_enc_lt hK hS
  · rw [if_neg h]; exact ae_dec_lt hK hS
theorem lw_xB {x : Int32} {K S : Nat → Nat} (hK : ae_B K) (hS : ae_B S) : ae_B (if x = 0 then K else S) := by
  by_cases h : x = 0
  · rw [if_pos h]; exact hK
  · rw [if_neg h]; exact hS
theorem lw_fB {x : Int32} {K : Nat → Nat} (hK : ae_B K) : ∀ Z, ae_B Z → ae_B ((if x = 0 then ae_dec K else ae_enc K) Z) := fun Z hZ => by
  by_cases h : x = 0
  · rw [if_pos h]; exact ae_dec_lt hK hZ
  · rw [if_neg h]; exact ae_enc_lt hK hZ
theorem lw_kx (KEY : Nat → Nat) (x : Int32) : ae_kx (ae_at KEY (16 * (if x = 0 then 0 else 1))) = (if x = 0 then ae_kx (ae_at KEY (16 * 0)) else ae_kx (ae_at KEY (16 * 1))) := by
  by_cases h : x = 0
  · rw [if_pos h, if_pos h]
  · rw [if_neg h, if_neg h]
section
variable {p : Program} {l : Launch} {e : Env} {R : Room} {s : State} {m : MethodId} {args : Array Value} {below : List Frame} {meth : Method} {c : Code} {H : Heap} {locs : List Loc} {cells slots : Nat} {Q : State → Prop} {cc : ByteArray} {pc : Nat} {ls : Array Slot} {rest : List Value}
theorem lw_bool (hexec : p.tables.exec = Jvm.exec) (hb : c.code = cc) {v : Int32} (d1 : decode cc pc = .ok (.ifCond .eq 7, 3)) (d2 : decode cc (pc + 3) = .ok (.iconst 1, 1)) (d3 : decode cc (pc + 4) = .ok (.goto 4, 3)) (d4 : decode cc (pc + 7) = .ok (.iconst 0, 1)) (kk : W p l e R s m args below meth c H locs cells slots Q (F0 m (pc + 8) ls (.int (lw_b v) :: rest))) : W p l e R s m args below meth c H locs cells slots Q (F0 m pc ls (.int v :: rest)) := by
  refine lv_if_eq (tgt := pc + 7) hexec hb d1 (by omega) (fun h => ?_) (fun h => ?_)
  · refine lv_iconst (v := nI 0) hexec hb d4 (by decide) ?_
    rw [show lw_b v = nI 0 from if_pos h] at kk; exact kk
  · refine lv_iconst (v := nI 1) hexec hb d2 (by decide) ?_
    refine lv_goto (tgt := pc + 8) hexec hb d3 (by omega) ?_
    rw [show lw_b v = nI 1 from if_neg h] at kk; exact kk
end
section
variable {p : Program} {l : Launch} {e : Env} {R : Room} {s : State} {m : MethodId} {args : Array Value} {below : List Frame} {meth : Method} {c : Code} {cells slots : Nat} {Q : State → Prop} {dC : Nat → ClassId} {dI : Nat → Nat → Nat} {A : Nat → Prop} {b L : Nat} {xs : Nat → Int32} {cI cL : ClassId} {ad am : Nat → Nat} {qo tS tI sa1 sa2 sa3 : Nat}

set_option maxRecDepth 100000 in
set_option maxHeartbeats 4000000 in
theorem lw_c3 (hx : p.tables.exec = Jvm.exec) (hb : c.code = cL_law) (htA : ∀ w ∈ lw_tbl, w.before args s = true) (hown : s.vm.findClass RL = some m.cls) (hml : c.maxLocals = 8) (hA : ∀ q, s.heap.size ≤ q → A q) (hbA : ¬ A b) (hXs : va_X b L xs s s.heap) (hbl : b < s.heap.size) (hL : L ≤ 4608) (hlt : l.stackTraces = false) (hK : va_K (dC, dI) mCl [(cI, .int), (cL, .long)] s) (hX : st_X tS tI A s) (hW1 : tw_X 32 "a long's index is 0 to 15" "java/lang/IndexOutOfBoundsException" sa1 A s) (hW2 : tw_X 39 "a sector's number is not below 0" "java/lang/IllegalArgumentException" sa2 A s) (hW3 : tw_X 59 "a block's index is 0 to 7" "java/lang/IndexOutOfBoundsException" sa3 A s) (hf : 10 ≤ R.frames ∧ 360 ≤ R.locals) (hc : cells + 1 ≤ R.cells ∧ slots + 6 ≤ R.slots) {k : Nat} (hk : 9 * k + 9 ≤ L) (kk : ∀ (KEY SEC : Nat → Nat) (f t : Nat → Int64) (sD sT : Nat → Int32) (th : Int32) (f0 f1 f2 f3 f4 f5 f6 f7 : Nat → Int32) (g : Nat → Int64) (ls : Array Slot) (H : Heap) (locs : List Loc), lw_I KEY SEC f sD sT f0 f1 f2 f3 → lv_has ls 8 [(4, .int (nI (9 * k))), (0, .ref b), (1, .ref (ad 6)), (2, .ref (am 8)), (3, .ref qo)] → va_P (dC, dI) mCl (wL cI cL ad am qo (f) (t) (sD) (sT) (th) (f0) (f1) (f2) (f3) (f4) (f5) (f6) (f7) (g)) H → va_D A (wL cI cL ad am qo (f) (t) (sD) (sT) (th) (f0) (f1) (f2) (f3) (f4) (f5) (f6) (f7) (g)) → va_S A s.heap H locs → W p l e R s m args below meth c H locs (cells + 1) (slots + 6) Q (F0 m 635 ls [])) (KEY SEC : Nat → Nat) (f t : Nat → Int64) (sD sT : Nat → Int32) (th : Int32) (f0 f1 f2 f3 f4 f5 f6 f7 : Nat → Int32) (g : Nat → Int64) (ls : Array Slot) (H : Heap) (locs : List Loc) (hI : lw_I KEY SEC f sD sT f0 f1 f2 f3) (hl : lv_has ls 8 [(4, .int (nI (9 * k))), (0, .ref b), (1, .ref (ad 6)), (2, .ref (am 8)), (3, .ref qo)]) (hP : va_P (dC, dI) mCl (wL cI cL ad am qo (f) (t) (sD) (sT) (th) (f0) (f1) (f2) (f3) (f4) (f5) (f6) (f7) (g)) H) (hD : va_D A (wL cI cL ad am qo (f) (t) (sD) (sT) (th) (f0) (f1) (f2) (f3) (f4) (f5) (f6) (f7) (g))) (hS : va_S A s.heap H locs) : W p l e R s m args below meth c H locs cells slots Q (F0 m 427 ls []) := by
  obtain ⟨hBK, hBS, hLg, hsD, hsT, hk0, hk1, hbx, hbk⟩ := hI
  rcases (show xs (9 * k + 1) < 0 ∨ ∃ sn : Nat, sn < 2147483648 ∧ xs (9 * k + 1) = nI sn by rcases Decidable.em (xs (9 * k + 1) < 0) with h | h; exact Or.inl h; exact Or.inr (nI_of h)) with hi | ⟨sn, hi, ei⟩
  · refine lv_aload_n hx hb dL_law_427 rfl (lv_at hl 2 rfl) ?_
    refine lv_aload_n hx hb dL_law_428 rfl (lv_at hl 1 rfl) ?_
    refine lv_iload hx hb dL_law_429 (lv_at hl 0 rfl) ?_
    refine lv_iconst (v := nI 1) hx hb dL_law_431 (by decide) ?_
    refine xi_iadd hx hb dL_law_432 ?_
    refine xa_sld hx hb hXs hbl hbA hS (by omega) (by omega) dL_law_433 ?_
    refine lv_aload_n hx hb dL_law_434 rfl (lv_at hl 1 rfl) ?_
    refine lv_iload hx hb dL_law_435 (lv_at hl 0 rfl) ?_
    refine lv_iconst (v := nI 2) hx hb dL_law_437 (by decide) ?_
    refine xi_iadd hx hb dL_law_438 ?_
    refine xa_sld hx hb hXs hbl hbA hS (by omega) (by omega) dL_law_439 ?_
    refine lw_bool hx hb dL_law_440 dL_law_443 dL_law_444 dL_law_447 ?_
    refine lv_aload_n hx hb dL_law_448 rfl (lv_at hl 4 rfl) ?_
    refine kp_calli (wr := [((am 8), .inr (2, [.ref (am 0), .ref (am 1), .ref (am 2), .ref (am 3), .ref (am 4), .ref (am 5), .ref (am 6), .ref (am 7), .int (th)])), ((am 0), .inl (cI, 32, .inl (f0))), ((am 1), .inl (cI, 128, .inl (f1))), ((am 2), .inl (cI, 256, .inl (f2))), ((am 3), .inl (cI, 256, .inl (f3))), ((am 4), .inl (cI, 176, .inl (f4))), ((am 5), .inl (cI, 16, .inl (f5))), ((am 6), .inl (cI, 16, .inl (f6))), ((am 7), .inl (cI, 16, .inl (f7)))]) (nw := fun _u => (wL cI cL ad am qo (f) (t) (sD) (sT) (th) (f0) (f1) (f2) (f3) (f4) (f5) (f6) (f7) (g))) (vx_runSW (As := [.ref (ad 6), .int (xs (9 * k + 1)), .int (lw_b (xs (9 * k + 2))), .ref qo]) (rest := []) ⟨hx, hb, hml, hown, htA⟩ (h_sector_f l hlt dC dI cI cL ad _ (f) (t) (sD) (sT) qo (g) sa2 (xs (9 * k + 1)) hi (lw_b (xs (9 * k + 2)))) (vx_cwSW 4 htA (goodT_H tl_l54 tl_static_sector tl_init tl_code_sector rfl) rfl rfl rfl (by decide +kernel) ⟨Nat.le_trans (Nat.le_of_ble_eq_true rfl) hf.1, Nat.le_trans (Nat.le_of_ble_eq_true rfl) hf.2⟩) (kp_preS (wc := [((ad 6), .inr (1, [.ref (ad 0), .ref (ad 1), .ref (ad 2), .ref (ad 4)])), ((ad 0), .inl (cL, 16, .inr (.inl (f)))), ((ad 1), .inl (cL, 2, .inr (.inl (t)))), ((ad 2), .inr (0, [.ref (ad 3)])), ((ad 3), .inl (cI, 44, .inl (sD))), ((ad 4), .inr (0, [.ref (ad 5)])), ((ad 5), .inl (cI, 44, .inl (sT))), (qo, .inl (cL, 1, .inr (.inl (g))))]) (tw_kp _ _ _ _) hW2 hP hD hK hS hA [0, 1, 2, 3, 4, 5, 6, 16] rfl rfl rfl [0, 1] rfl) rfl rfl hl.1 rfl (lv_room (Nat.le_of_ble_eq_true rfl)) dL_law_449 ⟨hc.1, hc.2⟩) hP hD hS hA [0, 1, 2, 3, 4, 5, 6, 16] [7, 8, 9, 10, 11, 12, 13, 14, 15] rfl rfl rfl (by decide) [9, 10, 11, 12, 13, 14, 15, 0, 1, 2, 3, 4, 5, 6, 7, 8, 16] rfl (fun _ => rfl) (fun _ => rfl) (fun r _u H locs hr1 hP hD hS => ?_)
    subst hr1
    refine lv_istore (nL := 8) (lv' := [(5, .int (nI (1))), (4, .int (nI (9 * k))), (0, .ref b), (1, .ref (ad 6)), (2, .ref (am 8)), (3, .ref qo)]) hx hb dL_law_452 hl (by decide) rfl (fun ls hl => ?_)
    refine lv_aload_n hx hb dL_law_454 rfl (lv_at hl 4 rfl) ?_
    refine lv_aload_n hx hb dL_law_455 rfl (lv_at hl 2 rfl) ?_
    refine lv_iload hx hb dL_law_456 (lv_at hl 1 rfl) ?_
    refine lv_iconst (v := nI 1) hx hb dL_law_458 (by decide) ?_
    refine xi_iadd hx hb dL_law_459 ?_
    refine xa_sld hx hb hXs hbl hbA hS (by omega) (by omega) dL_law_460 ?_
    refine lv_aload_n hx hb dL_law_461 rfl (lv_at hl 2 rfl) ?_
    refine lv_iload hx hb dL_law_462 (lv_at hl 1 rfl) ?_
    refine lv_iconst (v := nI 2) hx hb dL_law_464 (by decide) ?_
    refine xi_iadd hx hb dL_law_465 ?_
    refine xa_sld hx hb hXs hbl hbA hS (by omega) (by omega) dL_law_466 ?_
    refine lw_bool hx hb dL_law_467 dL_law_470 dL_law_471 dL_law_474 ?_
    refine kp_calll (wr := [((ad 6), .inr (1, [.ref (ad 0), .ref (ad 1), .ref (ad 2), .ref (ad 4)])), ((ad 0), .inl (cL, 16, .inr (.inl (f)))), ((ad 1), .inl (cL, 2, .inr (.inl (t)))), ((ad 2), .inr (0, [.ref (ad 3)])), ((ad 3), .inl (cI, 44, .inl (sD))), ((ad 4), .inr (0, [.ref (ad 5)])), ((ad 5), .inl (cI, 44, .inl (sT))), (qo, .inl (cL, 1, .inr (.inl (g))))]) (nw := fun _u1 => (wL cI cL ad am qo (f) (t) (sD) (sT) (nI 1) (f0) (f1) (f2) (f3) (f4) (f5) (f6) (f7) (g))) (va_runV (As := [.int (xs (9 * k + 1)), .int (lw_b (xs (9 * k + 2)))]) (rest := []) ⟨hx, hb, hml, hown, htA⟩ (c_sector_f l dC dI cI am (th) (f0) (f1) (f2) (f3) (f4) (f5) (f6) (f7) _ KEY SEC hBK hBS hk0 hk1 hbx hbk (lw_b (xs (9 * k + 2))) (xs (9 * k + 1)) hi) (cwV 2 htA (goodT_VM tl_l57 mM_instanceMethod_sector mM_selects_sector mM_code_sector) rfl rfl rfl (by decide +kernel) ⟨Nat.le_trans (Nat.le_of_ble_eq_true rfl) hf.1, Nat.le_trans (Nat.le_of_ble_eq_true rfl) hf.2⟩) (kp_preV (wc := [((am 8), .inr (2, [.ref (am 0), .ref (am 1), .ref (am 2), .ref (am 3), .ref (am 4), .ref (am 5), .ref (am 6), .ref (am 7), .int (th)])), ((am 0), .inl (cI, 32, .inl (f0))), ((am 1), .inl (cI, 128, .inl (f1))), ((am 2), .inl (cI, 256, .inl (f2))), ((am 3), .inl (cI, 256, .inl (f3))), ((am 4), .inl (cI, 176, .inl (f4))), ((am 5), .inl (cI, 16, .inl (f5))), ((am 6), .inl (cI, 16, .inl (f6))), ((am 7), .inl (cI, 16, .inl (f7)))]) kp_XT trivial hP hD hK hS hA [7, 8, 9, 10, 11, 12, 13, 14, 15] rfl rfl rfl [0] rfl (q0 := 7) rfl rfl) rfl rfl hl.1 rfl (lv_room (Nat.le_of_ble_eq_true rfl)) dL_law_475 ⟨hc.1, hc.2⟩) hP hD hS hA [7, 8, 9, 10, 11, 12, 13, 14, 15] [0, 1, 2, 3, 4, 5, 6, 16] rfl rfl rfl (by decide) [0, 1, 2, 3, 4, 5, 6, 8, 9, 10, 11, 12, 13, 14, 15, 16, 7] rfl (fun _ => rfl) (fun _ => rfl) (fun r _u1 H locs hr2 hP hD hS => ?_)
    refine lv_lstore (nL := 8) (lv' := [(6, .long (r)), (5, .int (nI (1))), (4, .int (nI (9 * k))), (0, .ref b), (1, .ref (ad 6)), (2, .ref (am 8)), (3, .ref qo)]) hx hb dL_law_478 hl (by decide) rfl (fun ls hl => ?_)
    refine lv_aload_n hx hb dL_law_480 rfl (lv_at hl 5 rfl) ?_
    refine kp_calli (wr := [((ad 6), .inr (1, [.ref (ad 0), .ref (ad 1), .ref (ad 2), .ref (ad 4)])), ((ad 0), .inl (cL, 16, .inr (.inl (f)))), ((ad 1), .inl (cL, 2, .inr (.inl (t)))), ((ad 2), .inr (0, [.ref (ad 3)])), ((ad 3), .inl (cI, 44, .inl (sD))), ((ad 4), .inr (0, [.ref (ad 5)])), ((ad 5), .inl (cI, 44, .inl (sT))), (qo, .inl (cL, 1, .inr (.inl (g))))]) (nw := fun _u2 => (wL cI cL ad am qo (f) (t) (sD) (sT) (nI 1) (f0) (f1) (f2) (f3) (f4) (f5) (f6) (f7) (g))) (va_runV (As := []) (rest := []) ⟨hx, hb, hml, hown, htA⟩ (c_thrown l dC dI cI am (nI 1) (f0) (f1) (f2) (f3) (f4) (f5) (f6) (f7) _) (cwV 0 htA (goodT_VM tl_l46 mM_instanceMethod_thrown mM_selects_thrown mM_code_thrown) rfl rfl rfl (by decide +kernel) ⟨Nat.le_trans (Nat.le_of_ble_eq_true rfl) hf.1, Nat.le_trans (Nat.le_of_ble_eq_true rfl) hf.2⟩) (kp_preV (wc := [((am 8), .inr (2, [.ref (am 0), .ref (am 1), .ref (am 2), .ref (am 3), .ref (am 4), .ref (am 5), .ref (am 6), .ref (am 7), .int (nI 1)])), ((am 0), .inl (cI, 32, .inl (f0))), ((am 1), .inl (cI, 128, .inl (f1))), ((am 2), .inl (cI, 256, .inl (f2))), ((am 3), .inl (cI, 256, .inl (f3))), ((am 4), .inl (cI, 176, .inl (f4))), ((am 5), .inl (cI, 16, .inl (f5))), ((am 6), .inl (cI, 16, .inl (f6))), ((am 7), .inl (cI, 16, .inl (f7)))]) kp_XT trivial hP hD hK hS hA [7, 8, 9, 10, 11, 12, 13, 14, 15] rfl rfl rfl [0] rfl (q0 := 7) rfl rfl) rfl rfl hl.1 rfl (lv_room (Nat.le_of_ble_eq_true rfl)) dL_law_481 ⟨hc.1, hc.2⟩) hP hD hS hA [7, 8, 9, 10, 11, 12, 13, 14, 15] [0, 1, 2, 3, 4, 5, 6, 16] rfl rfl rfl (by decide) [0, 1, 2, 3, 4, 5, 6, 8, 9, 10, 11, 12, 13, 14, 15, 16, 7] rfl (fun _ => rfl) (fun _ => rfl) (fun r _u2 H locs ht2 hP hD hS => ?_)
    subst ht2
    refine lv_iload hx hb dL_law_484 (lv_at hl 1 rfl) ?_
    refine xi_icmp_eq (tgt := 491) hx hb dL_law_486 (by decide) (by omega) (by omega) (fun hq => ?_) (fun h9 => absurd h9 (fun z => z rfl))
    refine lv_iload hx hb dL_law_491 (lv_at hl 1 rfl) ?_
    refine xi_if_ne (tgt := 507) hx hb dL_law_493 (by decide) (by omega) (fun hq2 => ?_) (fun h9 => absurd h9 (by omega))
    refine lv_goto (tgt := 635) hx hb dL_law_507 (by decide) ?_
    exact kk (KEY) (SEC) (f) (t) (sD) (sT) (nI 1) (f0) (f1) (f2) (f3) (f4) (f5) (f6) (f7) (g) ls H locs ⟨hBK, hBS, hLg, hsD, hsT, hk0, hk1, hbx, hbk⟩ (lv_sub hl [2, 3, 4, 5, 6] rfl) hP hD hS
  · refine lv_aload_n hx hb dL_law_427 rfl (lv_at hl 2 rfl) ?_
    refine lv_aload_n hx hb dL_law_428 rfl (lv_at hl 1 rfl) ?_
    refine lv_iload hx hb dL_law_429 (lv_at hl 0 rfl) ?_
    refine lv_iconst (v := nI 1) hx hb dL_law_431 (by decide) ?_
    refine xi_iadd hx hb dL_law_432 ?_
    refine xa_sld hx hb hXs hbl hbA hS (by omega) (by omega) dL_law_433 ?_
    refine tw_i (y := nI (sn)) (ei) ?_
    refine lv_aload_n hx hb dL_law_434 rfl (lv_at hl 1 rfl) ?_
    refine lv_iload hx hb dL_law_435 (lv_at hl 0 rfl) ?_
    refine lv_iconst (v := nI 2) hx hb dL_law_437 (by decide) ?_
    refine xi_iadd hx hb dL_law_438 ?_
    refine xa_sld hx hb hXs hbl hbA hS (by omega) (by omega) dL_law_439 ?_
    refine lw_bool hx hb dL_law_440 dL_law_443 dL_law_444 dL_law_447 ?_
    refine lv_aload_n hx hb dL_law_448 rfl (lv_at hl 4 rfl) ?_
    refine kp_calli (wr := [((am 8), .inr (2, [.ref (am 0), .ref (am 1), .ref (am 2), .ref (am 3), .ref (am 4), .ref (am 5), .ref (am 6), .ref (am 7), .int (th)])), ((am 0), .inl (cI, 32, .inl (f0))), ((am 1), .inl (cI, 128, .inl (f1))), ((am 2), .inl (cI, 256, .inl (f2))), ((am 3), .inl (cI, 256, .inl (f3))), ((am 4), .inl (cI, 176, .inl (f4))), ((am 5), .inl (cI, 16, .inl (f5))), ((am 6), .inl (cI, 16, .inl (f6))), ((am 7), .inl (cI, 16, .inl (f7)))]) (nw := fun u => (wL cI cL ad am qo (u.1) (u.2) (sD) (sT) (th) (f0) (f1) (f2) (f3) (f4) (f5) (f6) (f7) (vp_updL g 0 (ae_l (ae_sj (if lw_b (xs (9 * k + 2)) = 0 then ae_dec (ae_kx (ae_at KEY (16 * 0))) else ae_enc (ae_kx (ae_at KEY (16 * 0)))) (ae_enc (ae_kx (ae_at KEY (16 * 1))) (ae_sn sn)) SEC 8) 0)))) (vx_runSW (As := [.ref (ad 6), .int (nI (sn)), .int (lw_b (xs (9 * k + 2))), .ref qo]) (rest := []) ⟨hx, hb, hml, hown, htA⟩ (h_sector_t l dC dI cI cL ad _ tS tI (f) (t) (sD) (sT) qo (g) (ae_kx (ae_at KEY (16 * 0))) (ae_kx (ae_at KEY (16 * 1))) (ae_kxB hBK _) (ae_kxB hBK _) hsD hsT SEC hBS hLg sn hi (lw_b (xs (9 * k + 2)))) (vx_cwSW 4 htA (goodT_H tl_l54 tl_static_sector tl_init tl_code_sector rfl) rfl rfl rfl (by decide +kernel) ⟨Nat.le_trans (Nat.le_of_ble_eq_true rfl) hf.1, Nat.le_trans (Nat.le_of_ble_eq_true rfl) hf.2⟩) (kp_preS (wc := [((ad 6), .inr (1, [.ref (ad 0), .ref (ad 1), .ref (ad 2), .ref (ad 4)])), ((ad 0), .inl (cL, 16, .inr (.inl (f)))), ((ad 1), .inl (cL, 2, .inr (.inl (t)))), ((ad 2), .inr (0, [.ref (ad 3)])), ((ad 3), .inl (cI, 44, .inl (sD))), ((ad 4), .inr (0, [.ref (ad 5)])), ((ad 5), .inl (cI, 44, .inl (sT))), (qo, .inl (cL, 1, .inr (.inl (g))))]) (stX_kp tS tI) hX hP hD hK hS hA [0, 1, 2, 3, 4, 5, 6, 16] rfl rfl rfl [0, 1] rfl) rfl rfl hl.1 rfl (lv_room (Nat.le_of_ble_eq_true rfl)) dL_law_449 ⟨by omega, by omega⟩) hP hD hS hA [0, 1, 2, 3, 4, 5, 6, 16] [7, 8, 9, 10, 11, 12, 13, 14, 15] rfl rfl rfl (by decide) [9, 10, 11, 12, 13, 14, 15, 0, 1, 2, 3, 4, 5, 6, 7, 8, 16] rfl (fun _ => rfl) (fun _ => rfl) (fun r u H locs hu hP hD hS => ?_)
    obtain ⟨x1, x2⟩ := u
    obtain ⟨hu1, hu2⟩ := hu
    subst hu1
    refine lv_istore (nL := 8) (lv' := [(5, .int (nI (0))), (4, .int (nI (9 * k))), (0, .ref b), (1, .ref (ad 6)), (2, .ref (am 8)), (3, .ref qo)]) hx hb dL_law_452 hl (by decide) rfl (fun ls hl => ?_)
    refine lv_aload_n hx hb dL_law_454 rfl (lv_at hl 4 rfl) ?_
    refine lv_aload_n hx hb dL_law_455 rfl (lv_at hl 2 rfl) ?_
    refine lv_iload hx hb dL_law_456 (lv_at hl 1 rfl) ?_
    refine lv_iconst (v := nI 1) hx hb dL_law_458 (by decide) ?_
    refine xi_iadd hx hb dL_law_459 ?_
    refine xa_sld hx hb hXs hbl hbA hS (by omega) (by omega) dL_law_460 ?_
    refine tw_i (y := nI (sn)) (ei) ?_
    refine lv_aload_n hx hb dL_law_461 rfl (lv_at hl 2 rfl) ?_
    refine lv_iload hx hb dL_law_462 (lv_at hl 1 rfl) ?_
    refine lv_iconst (v := nI 2) hx hb dL_law_464 (by decide) ?_
    refine xi_iadd hx hb dL_law_465 ?_
    refine xa_sld hx hb hXs hbl hbA hS (by omega) (by omega) dL_law_466 ?_
    refine lw_bool hx hb dL_law_467 dL_law_470 dL_law_471 dL_law_474 ?_
    refine kp_calll (wr := [((ad 6), .inr (1, [.ref (ad 0), .ref (ad 1), .ref (ad 2), .ref (ad 4)])), ((ad 0), .inl (cL, 16, .inr (.inl (x1)))), ((ad 1), .inl (cL, 2, .inr (.inl (x2)))), ((ad 2), .inr (0, [.ref (ad 3)])), ((ad 3), .inl (cI, 44, .inl (sD))), ((ad 4), .inr (0, [.ref (ad 5)])), ((ad 5), .inl (cI, 44, .inl (sT))), (qo, .inl (cL, 1, .inr (.inl (vp_updL g 0 (ae_l (ae_sj (if lw_b (xs (9 * k + 2)) = 0 then ae_dec (ae_kx (ae_at KEY (16 * 0))) else ae_enc (ae_kx (ae_at KEY (16 * 0)))) (ae_enc (ae_kx (ae_at KEY (16 * 1))) (ae_sn sn)) SEC 8) 0)))))]) (nw := fun v => (wL cI cL ad am qo (x1) (x2) (sD) (sT) (nI 0) (f0) (v.1) (f2) (f3) (v.2.1) (v.2.2.1) (v.2.2.2.1) (v.2.2.2.2) (vp_updL g 0 (ae_l (ae_sj (if lw_b (xs (9 * k + 2)) = 0 then ae_dec (ae_kx (ae_at KEY (16 * 0))) else ae_enc (ae_kx (ae_at KEY (16 * 0)))) (ae_enc (ae_kx (ae_at KEY (16 * 1))) (ae_sn sn)) SEC 8) 0)))) (va_runV (As := [.int (nI (sn)), .int (lw_b (xs (9 * k + 2)))]) (rest := []) ⟨hx, hb, hml, hown, htA⟩ (c_sector_t l dC dI cI am (th) (f0) (f1) (f2) (f3) (f4) (f5) (f6) (f7) _ KEY SEC hBK hBS hk0 hk1 hbx hbk (lw_b (xs (9 * k + 2))) sn hi) (cwV 2 htA (goodT_VM tl_l57 mM_instanceMethod_sector mM_selects_sector mM_code_sector) rfl rfl rfl (by decide +kernel) ⟨Nat.le_trans (Nat.le_of_ble_eq_true rfl) hf.1, Nat.le_trans (Nat.le_of_ble_eq_true rfl) hf.2⟩) (kp_preV (wc := [((am 8), .inr (2, [.ref (am 0), .ref (am 1), .ref (am 2), .ref (am 3), .ref (am 4), .ref (am 5), .ref (am 6), .ref (am 7), .int (th)])), ((am 0), .inl (cI, 32, .inl (f0))), ((am 1), .inl (cI, 128, .inl (f1))), ((am 2), .inl (cI, 256, .inl (f2))), ((am 3), .inl (cI, 256, .inl (f3))), ((am 4), .inl (cI, 176, .inl (f4))), ((am 5), .inl (cI, 16, .inl (f5))), ((am 6), .inl (cI, 16, .inl (f6))), ((am 7), .inl (cI, 16, .inl (f7)))]) kp_XT trivial hP hD hK hS hA [7, 8, 9, 10, 11, 12, 13, 14, 15] rfl rfl rfl [0] rfl (q0 := 7) rfl rfl) rfl rfl hl.1 rfl (lv_room (Nat.le_of_ble_eq_true rfl)) dL_law_475 ⟨by omega, by omega⟩) hP hD hS hA [7, 8, 9, 10, 11, 12, 13, 14, 15] [0, 1, 2, 3, 4, 5, 6, 16] rfl rfl rfl (by decide) [0, 1, 2, 3, 4, 5, 6, 8, 9, 10, 11, 12, 13, 14, 15, 16, 7] rfl (fun _ => rfl) (fun _ => rfl) (fun r v H locs hv hP hD hS => ?_)
    obtain ⟨y1, y2, y3, y4, y5⟩ := v
    obtain ⟨hv1, hv2⟩ := hv
    subst hv1
    refine lv_lstore (nL := 8) (lv' := [(6, .long (ae_l (ae_sj (if lw_b (xs (9 * k + 2)) = 0 then ae_dec (ae_kx (ae_at KEY (16 * 0))) else ae_enc (ae_kx (ae_at KEY (16 * 0)))) (ae_enc (ae_kx (ae_at KEY (16 * 1))) (ae_sn sn)) SEC 8) 0)), (5, .int (nI (0))), (4, .int (nI (9 * k))), (0, .ref b), (1, .ref (ad 6)), (2, .ref (am 8)), (3, .ref qo)]) hx hb dL_law_478 hl (by decide) rfl (fun ls hl => ?_)
    refine lv_aload_n hx hb dL_law_480 rfl (lv_at hl 5 rfl) ?_
    refine kp_calli (wr := [((ad 6), .inr (1, [.ref (ad 0), .ref (ad 1), .ref (ad 2), .ref (ad 4)])), ((ad 0), .inl (cL, 16, .inr (.inl (x1)))), ((ad 1), .inl (cL, 2, .inr (.inl (x2)))), ((ad 2), .inr (0, [.ref (ad 3)])), ((ad 3), .inl (cI, 44, .inl (sD))), ((ad 4), .inr (0, [.ref (ad 5)])), ((ad 5), .inl (cI, 44, .inl (sT))), (qo, .inl (cL, 1, .inr (.inl (vp_updL g 0 (ae_l (ae_sj (if lw_b (xs (9 * k + 2)) = 0 then ae_dec (ae_kx (ae_at KEY (16 * 0))) else ae_enc (ae_kx (ae_at KEY (16 * 0)))) (ae_enc (ae_kx (ae_at KEY (16 * 1))) (ae_sn sn)) SEC 8) 0)))))]) (nw := fun _u2 => (wL cI cL ad am qo (x1) (x2) (sD) (sT) (nI 0) (f0) (y1) (f2) (f3) (y2) (y3) (y4) (y5) (vp_updL g 0 (ae_l (ae_sj (if lw_b (xs (9 * k + 2)) = 0 then ae_dec (ae_kx (ae_at KEY (16 * 0))) else ae_enc (ae_kx (ae_at KEY (16 * 0)))) (ae_enc (ae_kx (ae_at KEY (16 * 1))) (ae_sn sn)) SEC 8) 0)))) (va_runV (As := []) (rest := []) ⟨hx, hb, hml, hown, htA⟩ (c_thrown l dC dI cI am (nI 0) (f0) (y1) (f2) (f3) (y2) (y3) (y4) (y5) _) (cwV 0 htA (goodT_VM tl_l46 mM_instanceMethod_thrown mM_selects_thrown mM_code_thrown) rfl rfl rfl (by decide +kernel) ⟨Nat.le_trans (Nat.le_of_ble_eq_true rfl) hf.1, Nat.le_trans (Nat.le_of_ble_eq_true rfl) hf.2⟩) (kp_preV (wc := [((am 8), .inr (2, [.ref (am 0), .ref (am 1), .ref (am 2), .ref (am 3), .ref (am 4), .ref (am 5), .ref (am 6), .ref (am 7), .int (nI 0)])), ((am 0), .inl (cI, 32, .inl (f0))), ((am 1), .inl (cI, 128, .inl (y1))), ((am 2), .inl (cI, 256, .inl (f2))), ((am 3), .inl (cI, 256, .inl (f3))), ((am 4), .inl (cI, 176, .inl (y2))), ((am 5), .inl (cI, 16, .inl (y3))), ((am 6), .inl (cI, 16, .inl (y4))), ((am 7), .inl (cI, 16, .inl (y5)))]) kp_XT trivial hP hD hK hS hA [7, 8, 9, 10, 11, 12, 13, 14, 15] rfl rfl rfl [0] rfl (q0 := 7) rfl rfl) rfl rfl hl.1 rfl (lv_room (Nat.le_of_ble_eq_true rfl)) dL_law_481 ⟨by omega, by omega⟩) hP hD hS hA [7, 8, 9, 10, 11, 12, 13, 14, 15] [0, 1, 2, 3, 4, 5, 6, 16] rfl rfl rfl (by decide) [0, 1, 2, 3, 4, 5, 6, 8, 9, 10, 11, 12, 13, 14, 15, 16, 7] rfl (fun _ => rfl) (fun _ => rfl) (fun r _u2 H locs ht2 hP hD hS => ?_)
    subst ht2
    refine lv_iload hx hb dL_law_484 (lv_at hl 1 rfl) ?_
    refine xi_icmp_eq (tgt := 491) hx hb dL_law_486 (by decide) (by omega) (by omega) (fun hq => ?_) (fun h9 => absurd h9 (fun z => z rfl))
    refine lv_iload hx hb dL_law_491 (lv_at hl 1 rfl) ?_
    refine xi_if_ne (tgt := 507) hx hb dL_law_493 (by decide) (by omega) (fun h9 => absurd h9 (fun z => z rfl)) (fun hq2 => ?_)
    refine lv_aload_n hx hb dL_law_496 rfl (lv_at hl 6 rfl) ?_
    refine lv_iconst (v := nI 0) hx hb dL_law_497 (by decide) ?_
    refine xa_lld hx hb hK hP 16 1 rfl rfl (by omega) (by omega) (v := ae_l (ae_sj (if lw_b (xs (9 * k + 2)) = 0 then ae_dec (ae_kx (ae_at KEY (16 * 0))) else ae_enc (ae_kx (ae_at KEY (16 * 0)))) (ae_enc (ae_kx (ae_at KEY (16 * 1))) (ae_sn sn)) SEC 8) 0) (pk_uLs) dL_law_498 ?_
    refine lv_lload hx hb dL_law_499 (lv_at hl 0 rfl) ?_
    refine W.lcmp hx hb dL_law_501 ?_
    refine tw_i (y := nI 0) (by unfold lg_cmp; rw [if_neg (by simp), if_pos rfl]; rfl) ?_
    refine xi_if_eq (tgt := 507) hx hb dL_law_502 (by decide) (by omega) (fun hq3 => ?_) (fun h9 => absurd h9 (fun z => z rfl))
    refine lv_goto (tgt := 635) hx hb dL_law_507 (by decide) ?_
    refine W.widen (k := cells + 1) (n := slots + 6) (by omega) (by omega) ?_
    exact kk (KEY) (ae_sj (if lw_b (xs (9 * k + 2)) = 0 then ae_dec (ae_kx (ae_at KEY (16 * 0))) else ae_enc (ae_kx (ae_at KEY (16 * 0)))) (ae_enc (ae_kx (ae_at KEY (16 * 1))) (ae_sn sn)) SEC 8) (x1) (x2) (sD) (sT) (nI 0) (f0) (y1) (f2) (f3) (y2) (y3) (y4) (y5) (vp_updL g 0 (ae_l (ae_sj (if lw_b (xs (9 * k + 2)) = 0 then ae_dec (ae_kx (ae_at KEY (16 * 0))) else ae_enc (ae_kx (ae_at KEY (16 * 0)))) (ae_enc (ae_kx (ae_at KEY (16 * 1))) (ae_sn sn)) SEC 8) 0)) ls H locs ⟨hBK, ae_sj_lt (lw_fB (ae_kxB hBK _)) (ae_enc_lt (ae_kxB hBK _) (ae_sn_lt sn)) hBS 8, hu2, hsD, hsT, hk0, hv2, hbx, hbk⟩ (lv_sub hl [2, 3, 4, 5, 6] rfl) hP hD hS
set_option maxRecDepth 100000 in
set_option maxHeartbeats 4000000 in
theorem lw_c4 (hx : p.tables.exec = Jvm.exec) (hb : c.code = cL_law) (htA : ∀ w ∈ lw_tbl, w.before args s = true) (hown : s.vm.findClass RL = some m.cls) (hml : c.maxLocals = 8) (hA : ∀ q, s.heap.size ≤ q → A q) (hbA : ¬ A b) (hXs : va_X b L xs s s.heap) (hbl : b < s.heap.size) (hL : L ≤ 4608) (hlt : l.stackTraces = false) (hK : va_K (dC, dI) mCl [(cI, .int), (cL, .long)] s) (hX : st_X tS tI A s) (hW1 : tw_X 32 "a long's index is 0 to 15" "java/lang/IndexOutOfBoundsException" sa1 A s) (hW2 : tw_X 39 "a sector's number is not below 0" "java/lang/IllegalArgumentException" sa2 A s) (hW3 : tw_X 59 "a block's index is 0 to 7" "java/lang/IndexOutOfBoundsException" sa3 A s) (hf : 10 ≤ R.frames ∧ 360 ≤ R.locals) (hc : cells + 1 ≤ R.cells ∧ slots + 6 ≤ R.slots) {k : Nat} (hk : 9 * k + 9 ≤ L) (kk : ∀ (KEY SEC : Nat → Nat) (f t : Nat → Int64) (sD sT : Nat → Int32) (th : Int32) (f0 f1 f2 f3 f4 f5 f6 f7 : Nat → Int32) (g : Nat → Int64) (ls : Array Slot) (H : Heap) (locs : List Loc), lw_I KEY SEC f sD sT f0 f1 f2 f3 → lv_has ls 8 [(4, .int (nI (9 * k))), (0, .ref b), (1, .ref (ad 6)), (2, .ref (am 8)), (3, .ref qo)] → va_P (dC, dI) mCl (wL cI cL ad am qo (f) (t) (sD) (sT) (th) (f0) (f1) (f2) (f3) (f4) (f5) (f6) (f7) (g)) H → va_D A (wL cI cL ad am qo (f) (t) (sD) (sT) (th) (f0) (f1) (f2) (f3) (f4) (f5) (f6) (f7) (g)) → va_S A s.heap H locs → W p l e R s m args below meth c H locs (cells + 1) (slots + 6) Q (F0 m 635 ls [])) (KEY SEC : Nat → Nat) (f t : Nat → Int64) (sD sT : Nat → Int32) (th : Int32) (f0 f1 f2 f3 f4 f5 f6 f7 : Nat → Int32) (g : Nat → Int64) (ls : Array Slot) (H : Heap) (locs : List Loc) (hI : lw_I KEY SEC f sD sT f0 f1 f2 f3) (hl : lv_has ls 8 [(4, .int (nI (9 * k))), (0, .ref b), (1, .ref (ad 6)), (2, .ref (am 8)), (3, .ref qo)]) (hP : va_P (dC, dI) mCl (wL cI cL ad am qo (f) (t) (sD) (sT) (th) (f0) (f1) (f2) (f3) (f4) (f5) (f6) (f7) (g)) H) (hD : va_D A (wL cI cL ad am qo (f) (t) (sD) (sT) (th) (f0) (f1) (f2) (f3) (f4) (f5) (f6) (f7) (g))) (hS : va_S A s.heap H locs) : W p l e R s m args below meth c H locs cells slots Q (F0 m 510 ls []) := by
  obtain ⟨hBK, hBS, hLg, hsD, hsT, hk0, hk1, hbx, hbk⟩ := hI
  rcases (show (xs (9 * k + 1) < 0 ∨ nI 8 ≤ xs (9 * k + 1)) ∨ ∃ i : Nat, i < 8 ∧ xs (9 * k + 1) = nI i by rcases pk_ix (xs (9 * k + 1)) (n := 8) (by omega) with h | h | h; exact Or.inl (Or.inl h); exact Or.inl (Or.inr h); exact Or.inr h) with hi | ⟨i, hi, ei⟩
  · refine lv_aload_n hx hb dL_law_510 rfl (lv_at hl 2 rfl) ?_
    refine lv_aload_n hx hb dL_law_511 rfl (lv_at hl 1 rfl) ?_
    refine lv_iload hx hb dL_law_512 (lv_at hl 0 rfl) ?_
    refine lv_iconst (v := nI 1) hx hb dL_law_514 (by decide) ?_
    refine xi_iadd hx hb dL_law_515 ?_
    refine xa_sld hx hb hXs hbl hbA hS (by omega) (by omega) dL_law_516 ?_
    refine lv_aload_n hx hb dL_law_517 rfl (lv_at hl 1 rfl) ?_
    refine lv_iload hx hb dL_law_518 (lv_at hl 0 rfl) ?_
    refine lv_iconst (v := nI 2) hx hb dL_law_520 (by decide) ?_
    refine xi_iadd hx hb dL_law_521 ?_
    refine xa_sld hx hb hXs hbl hbA hS (by omega) (by omega) dL_law_522 ?_
    refine lw_bool hx hb dL_law_523 dL_law_526 dL_law_527 dL_law_530 ?_
    refine lv_aload_n hx hb dL_law_531 rfl (lv_at hl 1 rfl) ?_
    refine lv_iload hx hb dL_law_532 (lv_at hl 0 rfl) ?_
    refine lv_iconst (v := nI 3) hx hb dL_law_534 (by decide) ?_
    refine xi_iadd hx hb dL_law_535 ?_
    refine xa_sld hx hb hXs hbl hbA hS (by omega) (by omega) dL_law_536 ?_
    refine lw_bool hx hb dL_law_537 dL_law_540 dL_law_541 dL_law_544 ?_
    refine lv_aload_n hx hb dL_law_545 rfl (lv_at hl 4 rfl) ?_
    refine kp_calli (wr := [((am 8), .inr (2, [.ref (am 0), .ref (am 1), .ref (am 2), .ref (am 3), .ref (am 4), .ref (am 5), .ref (am 6), .ref (am 7), .int (th)])), ((am 0), .inl (cI, 32, .inl (f0))), ((am 1), .inl (cI, 128, .inl (f1))), ((am 2), .inl (cI, 256, .inl (f2))), ((am 3), .inl (cI, 256, .inl (f3))), ((am 4), .inl (cI, 176, .inl (f4))), ((am 5), .inl (cI, 16, .inl (f5))), ((am 6), .inl (cI, 16, .inl (f6))), ((am 7), .inl (cI, 16, .inl (f7)))]) (nw := fun _u => (wL cI cL ad am qo (f) (t) (sD) (sT) (th) (f0) (f1) (f2) (f3) (f4) (f5) (f6) (f7) (g))) (vx_runSW (As := [.ref (ad 6), .int (xs (9 * k + 1)), .int (lw_b (xs (9 * k + 2))), .int (lw_b (xs (9 * k + 3))), .ref qo]) (rest := []) ⟨hx, hb, hml, hown, htA⟩ (h_block_f l hlt dC dI cI cL ad _ (f) (t) (sD) (sT) qo (g) sa3 (xs (9 * k + 1)) hi (lw_b (xs (9 * k + 2))) (lw_b (xs (9 * k + 3)))) (vx_cwSW 5 htA (goodT_H tl_l58 tl_static_block tl_init tl_code_block rfl) rfl rfl rfl (by decide +kernel) ⟨Nat.le_trans (Nat.le_of_ble_eq_true rfl) hf.1, Nat.le_trans (Nat.le_of_ble_eq_true rfl) hf.2⟩) (kp_preS (wc := [((ad 6), .inr (1, [.ref (ad 0), .ref (ad 1), .ref (ad 2), .ref (ad 4)])), ((ad 0), .inl (cL, 16, .inr (.inl (f)))), ((ad 1), .inl (cL, 2, .inr (.inl (t)))), ((ad 2), .inr (0, [.ref (ad 3)])), ((ad 3), .inl (cI, 44, .inl (sD))), ((ad 4), .inr (0, [.ref (ad 5)])), ((ad 5), .inl (cI, 44, .inl (sT))), (qo, .inl (cL, 1, .inr (.inl (g))))]) (tw_kp _ _ _ _) hW3 hP hD hK hS hA [0, 1, 2, 3, 4, 5, 6, 16] rfl rfl rfl [0, 1] rfl) rfl rfl hl.1 rfl (lv_room (Nat.le_of_ble_eq_true rfl)) dL_law_546 ⟨hc.1, hc.2⟩) hP hD hS hA [0, 1, 2, 3, 4, 5, 6, 16] [7, 8, 9, 10, 11, 12, 13, 14, 15] rfl rfl rfl (by decide) [9, 10, 11, 12, 13, 14, 15, 0, 1, 2, 3, 4, 5, 6, 7, 8, 16] rfl (fun _ => rfl) (fun _ => rfl) (fun r _u H locs hr1 hP hD hS => ?_)
    subst hr1
    refine lv_istore (nL := 8) (lv' := [(5, .int (nI (1))), (4, .int (nI (9 * k))), (0, .ref b), (1, .ref (ad 6)), (2, .ref (am 8)), (3, .ref qo)]) hx hb dL_law_549 hl (by decide) rfl (fun ls hl => ?_)
    refine lv_aload_n hx hb dL_law_551 rfl (lv_at hl 4 rfl) ?_
    refine lv_aload_n hx hb dL_law_552 rfl (lv_at hl 2 rfl) ?_
    refine lv_iload hx hb dL_law_553 (lv_at hl 1 rfl) ?_
    refine lv_iconst (v := nI 1) hx hb dL_law_555 (by decide) ?_
    refine xi_iadd hx hb dL_law_556 ?_
    refine xa_sld hx hb hXs hbl hbA hS (by omega) (by omega) dL_law_557 ?_
    refine lv_aload_n hx hb dL_law_558 rfl (lv_at hl 2 rfl) ?_
    refine lv_iload hx hb dL_law_559 (lv_at hl 1 rfl) ?_
    refine lv_iconst (v := nI 2) hx hb dL_law_561 (by decide) ?_
    refine xi_iadd hx hb dL_law_562 ?_
    refine xa_sld hx hb hXs hbl hbA hS (by omega) (by omega) dL_law_563 ?_
    refine lw_bool hx hb dL_law_564 dL_law_567 dL_law_568 dL_law_571 ?_
    refine lv_aload_n hx hb dL_law_572 rfl (lv_at hl 2 rfl) ?_
    refine lv_iload hx hb dL_law_573 (lv_at hl 1 rfl) ?_
    refine lv_iconst (v := nI 3) hx hb dL_law_575 (by decide) ?_
    refine xi_iadd hx hb dL_law_576 ?_
    refine xa_sld hx hb hXs hbl hbA hS (by omega) (by omega) dL_law_577 ?_
    refine lw_bool hx hb dL_law_578 dL_law_581 dL_law_582 dL_law_585 ?_
    refine kp_calll (wr := [((ad 6), .inr (1, [.ref (ad 0), .ref (ad 1), .ref (ad 2), .ref (ad 4)])), ((ad 0), .inl (cL, 16, .inr (.inl (f)))), ((ad 1), .inl (cL, 2, .inr (.inl (t)))), ((ad 2), .inr (0, [.ref (ad 3)])), ((ad 3), .inl (cI, 44, .inl (sD))), ((ad 4), .inr (0, [.ref (ad 5)])), ((ad 5), .inl (cI, 44, .inl (sT))), (qo, .inl (cL, 1, .inr (.inl (g))))]) (nw := fun _u1 => (wL cI cL ad am qo (f) (t) (sD) (sT) (nI 1) (f0) (f1) (f2) (f3) (f4) (f5) (f6) (f7) (g))) (va_runV (As := [.int (xs (9 * k + 1)), .int (lw_b (xs (9 * k + 2))), .int (lw_b (xs (9 * k + 3)))]) (rest := []) ⟨hx, hb, hml, hown, htA⟩ (c_block_f l dC dI cI am (th) (f0) (f1) (f2) (f3) (f4) (f5) (f6) (f7) _ KEY SEC hBK hBS hk0 hk1 hbx hbk (lw_b (xs (9 * k + 2))) (lw_b (xs (9 * k + 3))) (xs (9 * k + 1)) hi) (cwV 3 htA (goodT_VM tl_l61 mM_instanceMethod_block mM_selects_block mM_code_block) rfl rfl rfl (by decide +kernel) ⟨Nat.le_trans (Nat.le_of_ble_eq_true rfl) hf.1, Nat.le_trans (Nat.le_of_ble_eq_true rfl) hf.2⟩) (kp_preV (wc := [((am 8), .inr (2, [.ref (am 0), .ref (am 1), .ref (am 2), .ref (am 3), .ref (am 4), .ref (am 5), .ref (am 6), .ref (am 7), .int (th)])), ((am 0), .inl (cI, 32, .inl (f0))), ((am 1), .inl (cI, 128, .inl (f1))), ((am 2), .inl (cI, 256, .inl (f2))), ((am 3), .inl (cI, 256, .inl (f3))), ((am 4), .inl (cI, 176, .inl (f4))), ((am 5), .inl (cI, 16, .inl (f5))), ((am 6), .inl (cI, 16, .inl (f6))), ((am 7), .inl (cI, 16, .inl (f7)))]) kp_XT trivial hP hD hK hS hA [7, 8, 9, 10, 11, 12, 13, 14, 15] rfl rfl rfl [0] rfl (q0 := 7) rfl rfl) rfl rfl hl.1 rfl (lv_room (Nat.le_of_ble_eq_true rfl)) dL_law_586 ⟨hc.1, hc.2⟩) hP hD hS hA [7, 8, 9, 10, 11, 12, 13, 14, 15] [0, 1, 2, 3, 4, 5, 6, 16] rfl rfl rfl (by decide) [0, 1, 2, 3, 4, 5, 6, 8, 9, 10, 11, 12, 13, 14, 15, 16, 7] rfl (fun _ => rfl) (fun _ => rfl) (fun r _u1 H locs hr2 hP hD hS => ?_)
    refine lv_lstore (nL := 8) (lv' := [(6, .long (r)), (5, .int (nI (1))), (4, .int (nI (9 * k))), (0, .ref b), (1, .ref (ad 6)), (2, .ref (am 8)), (3, .ref qo)]) hx hb dL_law_589 hl (by decide) rfl (fun ls hl => ?_)
    refine lv_aload_n hx hb dL_law_591 rfl (lv_at hl 5 rfl) ?_
    refine kp_calli (wr := [((ad 6), .inr (1, [.ref (ad 0), .ref (ad 1), .ref (ad 2), .ref (ad 4)])), ((ad 0), .inl (cL, 16, .inr (.inl (f)))), ((ad 1), .inl (cL, 2, .inr (.inl (t)))), ((ad 2), .inr (0, [.ref (ad 3)])), ((ad 3), .inl (cI, 44, .inl (sD))), ((ad 4), .inr (0, [.ref (ad 5)])), ((ad 5), .inl (cI, 44, .inl (sT))), (qo, .inl (cL, 1, .inr (.inl (g))))]) (nw := fun _u2 => (wL cI cL ad am qo (f) (t) (sD) (sT) (nI 1) (f0) (f1) (f2) (f3) (f4) (f5) (f6) (f7) (g))) (va_runV (As := []) (rest := []) ⟨hx, hb, hml, hown, htA⟩ (c_thrown l dC dI cI am (nI 1) (f0) (f1) (f2) (f3) (f4) (f5) (f6) (f7) _) (cwV 0 htA (goodT_VM tl_l46 mM_instanceMethod_thrown mM_selects_thrown mM_code_thrown) rfl rfl rfl (by decide +kernel) ⟨Nat.le_trans (Nat.le_of_ble_eq_true rfl) hf.1, Nat.le_trans (Nat.le_of_ble_eq_true rfl) hf.2⟩) (kp_preV (wc := [((am 8), .inr (2, [.ref (am 0), .ref (am 1), .ref (am 2), .ref (am 3), .ref (am 4), .ref (am 5), .ref (am 6), .ref (am 7), .int (nI 1)])), ((am 0), .inl (cI, 32, .inl (f0))), ((am 1), .inl (cI, 128, .inl (f1))), ((am 2), .inl (cI, 256, .inl (f2))), ((am 3), .inl (cI, 256, .inl (f3))), ((am 4), .inl (cI, 176, .inl (f4))), ((am 5), .inl (cI, 16, .inl (f5))), ((am 6), .inl (cI, 16, .inl (f6))), ((am 7), .inl (cI, 16, .inl (f7)))]) kp_XT trivial hP hD hK hS hA [7, 8, 9, 10, 11, 12, 13, 14, 15] rfl rfl rfl [0] rfl (q0 := 7) rfl rfl) rfl rfl hl.1 rfl (lv_room (Nat.le_of_ble_eq_true rfl)) dL_law_592 ⟨hc.1, hc.2⟩) hP hD hS hA [7, 8, 9, 10, 11, 12, 13, 14, 15] [0, 1, 2, 3, 4, 5, 6, 16] rfl rfl rfl (by decide) [0, 1, 2, 3, 4, 5, 6, 8, 9, 10, 11, 12, 13, 14, 15, 16, 7] rfl (fun _ => rfl) (fun _ => rfl) (fun r _u2 H locs ht2 hP hD hS => ?_)
    subst ht2
    refine lv_iload hx hb dL_law_595 (lv_at hl 1 rfl) ?_
    refine xi_icmp_eq (tgt := 602) hx hb dL_law_597 (by decide) (by omega) (by omega) (fun hq => ?_) (fun h9 => absurd h9 (fun z => z rfl))
    refine lv_iload hx hb dL_law_602 (lv_at hl 1 rfl) ?_
    refine xi_if_ne (tgt := 618) hx hb dL_law_604 (by decide) (by omega) (fun hq2 => ?_) (fun h9 => absurd h9 (by omega))
    refine lv_goto (tgt := 635) hx hb dL_law_618 (by decide) ?_
    exact kk (KEY) (SEC) (f) (t) (sD) (sT) (nI 1) (f0) (f1) (f2) (f3) (f4) (f5) (f6) (f7) (g) ls H locs ⟨hBK, hBS, hLg, hsD, hsT, hk0, hk1, hbx, hbk⟩ (lv_sub hl [2, 3, 4, 5, 6] rfl) hP hD hS
  · refine lv_aload_n hx hb dL_law_510 rfl (lv_at hl 2 rfl) ?_
    refine lv_aload_n hx hb dL_law_511 rfl (lv_at hl 1 rfl) ?_
    refine lv_iload hx hb dL_law_512 (lv_at hl 0 rfl) ?_
    refine lv_iconst (v := nI 1) hx hb dL_law_514 (by decide) ?_
    refine xi_iadd hx hb dL_law_515 ?_
    refine xa_sld hx hb hXs hbl hbA hS (by omega) (by omega) dL_law_516 ?_
    refine tw_i (y := nI (i)) (ei) ?_
    refine lv_aload_n hx hb dL_law_517 rfl (lv_at hl 1 rfl) ?_
    refine lv_iload hx hb dL_law_518 (lv_at hl 0 rfl) ?_
    refine lv_iconst (v := nI 2) hx hb dL_law_520 (by decide) ?_
    refine xi_iadd hx hb dL_law_521 ?_
    refine xa_sld hx hb hXs hbl hbA hS (by omega) (by omega) dL_law_522 ?_
    refine lw_bool hx hb dL_law_523 dL_law_526 dL_law_527 dL_law_530 ?_
    refine lv_aload_n hx hb dL_law_531 rfl (lv_at hl 1 rfl) ?_
    refine lv_iload hx hb dL_law_532 (lv_at hl 0 rfl) ?_
    refine lv_iconst (v := nI 3) hx hb dL_law_534 (by decide) ?_
    refine xi_iadd hx hb dL_law_535 ?_
    refine xa_sld hx hb hXs hbl hbA hS (by omega) (by omega) dL_law_536 ?_
    refine lw_bool hx hb dL_law_537 dL_law_540 dL_law_541 dL_law_544 ?_
    refine lv_aload_n hx hb dL_law_545 rfl (lv_at hl 4 rfl) ?_
    refine kp_calli (wr := [((am 8), .inr (2, [.ref (am 0), .ref (am 1), .ref (am 2), .ref (am 3), .ref (am 4), .ref (am 5), .ref (am 6), .ref (am 7), .int (th)])), ((am 0), .inl (cI, 32, .inl (f0))), ((am 1), .inl (cI, 128, .inl (f1))), ((am 2), .inl (cI, 256, .inl (f2))), ((am 3), .inl (cI, 256, .inl (f3))), ((am 4), .inl (cI, 176, .inl (f4))), ((am 5), .inl (cI, 16, .inl (f5))), ((am 6), .inl (cI, 16, .inl (f6))), ((am 7), .inl (cI, 16, .inl (f7)))]) (nw := fun u => (wL cI cL ad am qo (u) (t) (sD) (sT) (th) (f0) (f1) (f2) (f3) (f4) (f5) (f6) (f7) (vp_updL g 0 (ae_l (ae_pt SEC (16 * i) 16 ((if lw_b (xs (9 * k + 2)) = 0 then ae_enc else ae_dec) (if lw_b (xs (9 * k + 3)) = 0 then ae_kx (ae_at KEY (16 * 0)) else ae_kx (ae_at KEY (16 * 1))) (ae_at SEC (16 * i)))) (16 * i))))) (vx_runSW (As := [.ref (ad 6), .int (nI (i)), .int (lw_b (xs (9 * k + 2))), .int (lw_b (xs (9 * k + 3))), .ref qo]) (rest := []) ⟨hx, hb, hml, hown, htA⟩ (h_block_t l dC dI cI cL ad _ tS tI (f) (t) (sD) (sT) qo (g) (ae_kx (ae_at KEY (16 * 0))) (ae_kx (ae_at KEY (16 * 1))) (ae_kxB hBK _) (ae_kxB hBK _) hsD hsT SEC hBS hLg i hi (lw_b (xs (9 * k + 2))) (lw_b (xs (9 * k + 3)))) (vx_cwSW 5 htA (goodT_H tl_l58 tl_static_block tl_init tl_code_block rfl) rfl rfl rfl (by decide +kernel) ⟨Nat.le_trans (Nat.le_of_ble_eq_true rfl) hf.1, Nat.le_trans (Nat.le_of_ble_eq_true rfl) hf.2⟩) (kp_preS (wc := [((ad 6), .inr (1, [.ref (ad 0), .ref (ad 1), .ref (ad 2), .ref (ad 4)])), ((ad 0), .inl (cL, 16, .inr (.inl (f)))), ((ad 1), .inl (cL, 2, .inr (.inl (t)))), ((ad 2), .inr (0, [.ref (ad 3)])), ((ad 3), .inl (cI, 44, .inl (sD))), ((ad 4), .inr (0, [.ref (ad 5)])), ((ad 5), .inl (cI, 44, .inl (sT))), (qo, .inl (cL, 1, .inr (.inl (g))))]) (stX_kp tS tI) hX hP hD hK hS hA [0, 1, 2, 3, 4, 5, 6, 16] rfl rfl rfl [0, 1] rfl) rfl rfl hl.1 rfl (lv_room (Nat.le_of_ble_eq_true rfl)) dL_law_546 ⟨by omega, by omega⟩) hP hD hS hA [0, 1, 2, 3, 4, 5, 6, 16] [7, 8, 9, 10, 11, 12, 13, 14, 15] rfl rfl rfl (by decide) [9, 10, 11, 12, 13, 14, 15, 0, 1, 2, 3, 4, 5, 6, 7, 8, 16] rfl (fun _ => rfl) (fun _ => rfl) (fun r u H locs hu hP hD hS => ?_)
    obtain ⟨hu1, hu2⟩ := hu
    subst hu1
    refine lv_istore (nL := 8) (lv' := [(5, .int (nI (0))), (4, .int (nI (9 * k))), (0, .ref b), (1, .ref (ad 6)), (2, .ref (am 8)), (3, .ref qo)]) hx hb dL_law_549 hl (by decide) rfl (fun ls hl => ?_)
    refine lv_aload_n hx hb dL_law_551 rfl (lv_at hl 4 rfl) ?_
    refine lv_aload_n hx hb dL_law_552 rfl (lv_at hl 2 rfl) ?_
    refine lv_iload hx hb dL_law_553 (lv_at hl 1 rfl) ?_
    refine lv_iconst (v := nI 1) hx hb dL_law_555 (by decide) ?_
    refine xi_iadd hx hb dL_law_556 ?_
    refine xa_sld hx hb hXs hbl hbA hS (by omega) (by omega) dL_law_557 ?_
    refine tw_i (y := nI (i)) (ei) ?_
    refine lv_aload_n hx hb dL_law_558 rfl (lv_at hl 2 rfl) ?_
    refine lv_iload hx hb dL_law_559 (lv_at hl 1 rfl) ?_
    refine lv_iconst (v := nI 2) hx hb dL_law_561 (by decide) ?_
    refine xi_iadd hx hb dL_law_562 ?_
    refine xa_sld hx hb hXs hbl hbA hS (by omega) (by omega) dL_law_563 ?_
    refine lw_bool hx hb dL_law_564 dL_law_567 dL_law_568 dL_law_571 ?_
    refine lv_aload_n hx hb dL_law_572 rfl (lv_at hl 2 rfl) ?_
    refine lv_iload hx hb dL_law_573 (lv_at hl 1 rfl) ?_
    refine lv_iconst (v := nI 3) hx hb dL_law_575 (by decide) ?_
    refine xi_iadd hx hb dL_law_576 ?_
    refine xa_sld hx hb hXs hbl hbA hS (by omega) (by omega) dL_law_577 ?_
    refine lw_bool hx hb dL_law_578 dL_law_581 dL_law_582 dL_law_585 ?_
    refine kp_calll (wr := [((ad 6), .inr (1, [.ref (ad 0), .ref (ad 1), .ref (ad 2), .ref (ad 4)])), ((ad 0), .inl (cL, 16, .inr (.inl (u)))), ((ad 1), .inl (cL, 2, .inr (.inl (t)))), ((ad 2), .inr (0, [.ref (ad 3)])), ((ad 3), .inl (cI, 44, .inl (sD))), ((ad 4), .inr (0, [.ref (ad 5)])), ((ad 5), .inl (cI, 44, .inl (sT))), (qo, .inl (cL, 1, .inr (.inl (vp_updL g 0 (ae_l (ae_pt SEC (16 * i) 16 ((if lw_b (xs (9 * k + 2)) = 0 then ae_enc else ae_dec) (if lw_b (xs (9 * k + 3)) = 0 then ae_kx (ae_at KEY (16 * 0)) else ae_kx (ae_at KEY (16 * 1))) (ae_at SEC (16 * i)))) (16 * i))))))]) (nw := fun v => (wL cI cL ad am qo (u) (t) (sD) (sT) (nI 0) (f0) (v.1) (f2) (f3) (v.2.1) (v.2.2.1) (v.2.2.2) (f7) (vp_updL g 0 (ae_l (ae_pt SEC (16 * i) 16 ((if lw_b (xs (9 * k + 2)) = 0 then ae_enc else ae_dec) (if lw_b (xs (9 * k + 3)) = 0 then ae_kx (ae_at KEY (16 * 0)) else ae_kx (ae_at KEY (16 * 1))) (ae_at SEC (16 * i)))) (16 * i))))) (va_runV (As := [.int (nI (i)), .int (lw_b (xs (9 * k + 2))), .int (lw_b (xs (9 * k + 3)))]) (rest := []) ⟨hx, hb, hml, hown, htA⟩ (c_block_t l dC dI cI am (th) (f0) (f1) (f2) (f3) (f4) (f5) (f6) (f7) _ KEY SEC hBK hBS hk0 hk1 hbx hbk (lw_b (xs (9 * k + 2))) (lw_b (xs (9 * k + 3))) i hi) (cwV 3 htA (goodT_VM tl_l61 mM_instanceMethod_block mM_selects_block mM_code_block) rfl rfl rfl (by decide +kernel) ⟨Nat.le_trans (Nat.le_of_ble_eq_true rfl) hf.1, Nat.le_trans (Nat.le_of_ble_eq_true rfl) hf.2⟩) (kp_preV (wc := [((am 8), .inr (2, [.ref (am 0), .ref (am 1), .ref (am 2), .ref (am 3), .ref (am 4), .ref (am 5), .ref (am 6), .ref (am 7), .int (th)])), ((am 0), .inl (cI, 32, .inl (f0))), ((am 1), .inl (cI, 128, .inl (f1))), ((am 2), .inl (cI, 256, .inl (f2))), ((am 3), .inl (cI, 256, .inl (f3))), ((am 4), .inl (cI, 176, .inl (f4))), ((am 5), .inl (cI, 16, .inl (f5))), ((am 6), .inl (cI, 16, .inl (f6))), ((am 7), .inl (cI, 16, .inl (f7)))]) kp_XT trivial hP hD hK hS hA [7, 8, 9, 10, 11, 12, 13, 14, 15] rfl rfl rfl [0] rfl (q0 := 7) rfl rfl) rfl rfl hl.1 rfl (lv_room (Nat.le_of_ble_eq_true rfl)) dL_law_586 ⟨by omega, by omega⟩) hP hD hS hA [7, 8, 9, 10, 11, 12, 13, 14, 15] [0, 1, 2, 3, 4, 5, 6, 16] rfl rfl rfl (by decide) [0, 1, 2, 3, 4, 5, 6, 8, 9, 10, 11, 12, 13, 14, 15, 16, 7] rfl (fun _ => rfl) (fun _ => rfl) (fun r v H locs hv hP hD hS => ?_)
    obtain ⟨y1, y2, y3, y4⟩ := v
    rw [lw_kx] at hv
    obtain ⟨hv1, hv2⟩ := hv
    subst hv1
    refine lv_lstore (nL := 8) (lv' := [(6, .long (ae_l (ae_pt SEC (16 * i) 16 ((if lw_b (xs (9 * k + 2)) = 0 then ae_enc else ae_dec) (if lw_b (xs (9 * k + 3)) = 0 then ae_kx (ae_at KEY (16 * 0)) else ae_kx (ae_at KEY (16 * 1))) (ae_at SEC (16 * i)))) (16 * i))), (5, .int (nI (0))), (4, .int (nI (9 * k))), (0, .ref b), (1, .ref (ad 6)), (2, .ref (am 8)), (3, .ref qo)]) hx hb dL_law_589 hl (by decide) rfl (fun ls hl => ?_)
    refine lv_aload_n hx hb dL_law_591 rfl (lv_at hl 5 rfl) ?_
    refine kp_calli (wr := [((ad 6), .inr (1, [.ref (ad 0), .ref (ad 1), .ref (ad 2), .ref (ad 4)])), ((ad 0), .inl (cL, 16, .inr (.inl (u)))), ((ad 1), .inl (cL, 2, .inr (.inl (t)))), ((ad 2), .inr (0, [.ref (ad 3)])), ((ad 3), .inl (cI, 44, .inl (sD))), ((ad 4), .inr (0, [.ref (ad 5)])), ((ad 5), .inl (cI, 44, .inl (sT))), (qo, .inl (cL, 1, .inr (.inl (vp_updL g 0 (ae_l (ae_pt SEC (16 * i) 16 ((if lw_b (xs (9 * k + 2)) = 0 then ae_enc else ae_dec) (if lw_b (xs (9 * k + 3)) = 0 then ae_kx (ae_at KEY (16 * 0)) else ae_kx (ae_at KEY (16 * 1))) (ae_at SEC (16 * i)))) (16 * i))))))]) (nw := fun _u2 => (wL cI cL ad am qo (u) (t) (sD) (sT) (nI 0) (f0) (y1) (f2) (f3) (y2) (y3) (y4) (f7) (vp_updL g 0 (ae_l (ae_pt SEC (16 * i) 16 ((if lw_b (xs (9 * k + 2)) = 0 then ae_enc else ae_dec) (if lw_b (xs (9 * k + 3)) = 0 then ae_kx (ae_at KEY (16 * 0)) else ae_kx (ae_at KEY (16 * 1))) (ae_at SEC (16 * i)))) (16 * i))))) (va_runV (As := []) (rest := []) ⟨hx, hb, hml, hown, htA⟩ (c_thrown l dC dI cI am (nI 0) (f0) (y1) (f2) (f3) (y2) (y3) (y4) (f7) _) (cwV 0 htA (goodT_VM tl_l46 mM_instanceMethod_thrown mM_selects_thrown mM_code_thrown) rfl rfl rfl (by decide +kernel) ⟨Nat.le_trans (Nat.le_of_ble_eq_true rfl) hf.1, Nat.le_trans (Nat.le_of_ble_eq_true rfl) hf.2⟩) (kp_preV (wc := [((am 8), .inr (2, [.ref (am 0), .ref (am 1), .ref (am 2), .ref (am 3), .ref (am 4), .ref (am 5), .ref (am 6), .ref (am 7), .int (nI 0)])), ((am 0), .inl (cI, 32, .inl (f0))), ((am 1), .inl (cI, 128, .inl (y1))), ((am 2), .inl (cI, 256, .inl (f2))), ((am 3), .inl (cI, 256, .inl (f3))), ((am 4), .inl (cI, 176, .inl (y2))), ((am 5), .inl (cI, 16, .inl (y3))), ((am 6), .inl (cI, 16, .inl (y4))), ((am 7), .inl (cI, 16, .inl (f7)))]) kp_XT trivial hP hD hK hS hA [7, 8, 9, 10, 11, 12, 13, 14, 15] rfl rfl rfl [0] rfl (q0 := 7) rfl rfl) rfl rfl hl.1 rfl (lv_room (Nat.le_of_ble_eq_true rfl)) dL_law_592 ⟨by omega, by omega⟩) hP hD hS hA [7, 8, 9, 10, 11, 12, 13, 14, 15] [0, 1, 2, 3, 4, 5, 6, 16] rfl rfl rfl (by decide) [0, 1, 2, 3, 4, 5, 6, 8, 9, 10, 11, 12, 13, 14, 15, 16, 7] rfl (fun _ => rfl) (fun _ => rfl) (fun r _u2 H locs ht2 hP hD hS => ?_)
    subst ht2
    refine lv_iload hx hb dL_law_595 (lv_at hl 1 rfl) ?_
    refine xi_icmp_eq (tgt := 602) hx hb dL_law_597 (by decide) (by omega) (by omega) (fun hq => ?_) (fun h9 => absurd h9 (fun z => z rfl))
    refine lv_iload hx hb dL_law_602 (lv_at hl 1 rfl) ?_
    refine xi_if_ne (tgt := 618) hx hb dL_law_604 (by decide) (by omega) (fun h9 => absurd h9 (fun z => z rfl)) (fun hq2 => ?_)
    refine lv_aload_n hx hb dL_law_607 rfl (lv_at hl 6 rfl) ?_
    refine lv_iconst (v := nI 0) hx hb dL_law_608 (by decide) ?_
    refine xa_lld hx hb hK hP 16 1 rfl rfl (by omega) (by omega) (v := ae_l (ae_pt SEC (16 * i) 16 ((if lw_b (xs (9 * k + 2)) = 0 then ae_enc else ae_dec) (if lw_b (xs (9 * k + 3)) = 0 then ae_kx (ae_at KEY (16 * 0)) else ae_kx (ae_at KEY (16 * 1))) (ae_at SEC (16 * i)))) (16 * i)) (pk_uLs) dL_law_609 ?_
    refine lv_lload hx hb dL_law_610 (lv_at hl 0 rfl) ?_
    refine W.lcmp hx hb dL_law_612 ?_
    refine tw_i (y := nI 0) (by unfold lg_cmp; rw [if_neg (by simp), if_pos rfl]; rfl) ?_
    refine xi_if_eq (tgt := 618) hx hb dL_law_613 (by decide) (by omega) (fun hq3 => ?_) (fun h9 => absurd h9 (fun z => z rfl))
    refine lv_goto (tgt := 635) hx hb dL_law_618 (by decide) ?_
    refine W.widen (k := cells + 1) (n := slots + 6) (by omega) (by omega) ?_
    exact kk (KEY) (ae_pt SEC (16 * i) 16 ((if lw_b (xs (9 * k + 2)) = 0 then ae_enc else ae_dec) (if lw_b (xs (9 * k + 3)) = 0 then ae_kx (ae_at KEY (16 * 0)) else ae_kx (ae_at KEY (16 * 1))) (ae_at SEC (16 * i)))) (u) (t) (sD) (sT) (nI 0) (f0) (y1) (f2) (f3) (y2) (y3) (y4) (f7) (vp_updL g 0 (ae_l (ae_pt SEC (16 * i) 16 ((if lw_b (xs (9 * k + 2)) = 0 then ae_enc else ae_dec) (if lw_b (xs (9 * k + 3)) = 0 then ae_kx (ae_at KEY (16 * 0)) else ae_kx (ae_at KEY (16 * 1))) (ae_at SEC (16 * i)))) (16 * i))) ls H locs ⟨hBK, ae_pt_lt hBS (lw_eB (lw_xB (ae_kxB hBK _) (ae_kxB hBK _)) (ae_at_lt hBS _)) _ _, hu2, hsD, hsT, hk0, hv2, hbx, hbk⟩ (lv_sub hl [2, 3, 4, 5, 6] rfl) hP hD hS
end
