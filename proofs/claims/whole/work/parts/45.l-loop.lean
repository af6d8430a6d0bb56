/-! the law's loop -/
theorem lw_gt {k L : Nat} (hL : L ≤ 4608) (hk : 9 * k ≤ L) : nI L - nI 9 < nI (9 * k) ↔ L < 9 * k + 9 := by
  rw [Int32.lt_iff_toInt_lt, pk_sub_toInt (by omega) (by omega), nI_toInt (by omega)]
  omega
section
variable {p : Program} {l : Launch} {e : Env} {R : Room} {s : State} {m : MethodId} {args : Array Value} {below : List Frame} {meth : Method} {c : Code} {Q : State → Prop} {dC : Nat → ClassId} {dI : Nat → Nat → Nat} {A : Nat → Prop} {b L : Nat} {xs : Nat → Int32} {cI cL : ClassId} {ad am : Nat → Nat} {qo tS tI sa1 sa2 sa3 : Nat}

set_option maxRecDepth 100000 in
set_option maxHeartbeats 4000000 in
theorem lw_loop (hx : p.tables.exec = Jvm.exec) (hb : c.code = cL_law) (htA : ∀ w ∈ lw_tbl, w.before args s = true) (hown : s.vm.findClass RL = some m.cls) (hml : c.maxLocals = 8) (hA : ∀ q, s.heap.size ≤ q → A q) (hbA : ¬ A b) (hXs : va_X b L xs s s.heap) (hbl : b < s.heap.size) (hL : L ≤ 4608) (hlt : l.stackTraces = false) (hK : va_K (dC, dI) mCl [(cI, .int), (cL, .long)] s) (hX : st_X tS tI A s) (hW1 : tw_X 32 "a long's index is 0 to 15" "java/lang/IndexOutOfBoundsException" sa1 A s) (hW2 : tw_X 39 "a sector's number is not below 0" "java/lang/IllegalArgumentException" sa2 A s) (hW3 : tw_X 59 "a block's index is 0 to 7" "java/lang/IndexOutOfBoundsException" sa3 A s) (hf : 10 ≤ R.frames ∧ 360 ≤ R.locals) (hR : 1045 ≤ R.cells ∧ 9234 ≤ R.slots) (kk : ∀ (ls : Array Slot) (H : Heap) (locs : List Loc), va_S A s.heap H locs → W p l e R s m args below meth c H locs 1045 9234 Q (F0 m 641 ls [])) :
    ∀ (j k : Nat) (KEY SEC : Nat → Nat) (f t : Nat → Int64) (sD sT : Nat → Int32) (th : Int32) (f0 f1 f2 f3 f4 f5 f6 f7 : Nat → Int32) (g : Nat → Int64) (ls : Array Slot) (H : Heap) (locs : List Loc), L ≤ 9 * (k + j) → 9 * k ≤ L → lw_I KEY SEC f sD sT f0 f1 f2 f3 → lv_has ls 8 [(4, .int (nI (9 * k))), (0, .ref b), (1, .ref (ad 6)), (2, .ref (am 8)), (3, .ref qo)] → va_P (dC, dI) mCl (wL cI cL ad am qo (f) (t) (sD) (sT) (th) (f0) (f1) (f2) (f3) (f4) (f5) (f6) (f7) (g)) H → va_D A (wL cI cL ad am qo (f) (t) (sD) (sT) (th) (f0) (f1) (f2) (f3) (f4) (f5) (f6) (f7) (g)) → va_S A s.heap H locs → W p l e R s m args below meth c H locs (17 + k) (1018 + 6 * k) Q (F0 m 23 ls []) := by
  intro j
  induction j with
  | zero =>
    intro k KEY SEC f t sD sT th f0 f1 f2 f3 f4 f5 f6 f7 g ls H locs hj hk hI hl hP hD hS
    refine lv_iload hx hb dL_law_23 (lv_at hl 0 rfl) ?_
    refine lv_aload_n hx hb dL_law_25 rfl (lv_at hl 1 rfl) ?_
    refine va_slen hx hb hXs hbl hbA hS dL_law_26 ?_
    refine tw_i (y := nI L) rfl ?_
    refine lv_bipush (v := nI 9) hx hb dL_law_27 (by decide) ?_
    refine lv_isub hx hb dL_law_29 ?_
    refine lv_icmp_gt (tgt := 641) hx hb dL_law_30 (by decide) (fun hq => ?_) (fun h9 => absurd h9 (fun z => z ((lw_gt hL hk).mpr (by omega))))
    exact W.widen (by omega) (by omega) (kk ls H locs hS)
  | succ j ih =>
    intro k KEY SEC f t sD sT th f0 f1 f2 f3 f4 f5 f6 f7 g ls H locs hj hk hI hl hP hD hS
    refine lv_iload hx hb dL_law_23 (lv_at hl 0 rfl) ?_
    refine lv_aload_n hx hb dL_law_25 rfl (lv_at hl 1 rfl) ?_
    refine va_slen hx hb hXs hbl hbA hS dL_law_26 ?_
    refine tw_i (y := nI L) rfl ?_
    refine lv_bipush (v := nI 9) hx hb dL_law_27 (by decide) ?_
    refine lv_isub hx hb dL_law_29 ?_
    refine lv_icmp_gt (tgt := 641) hx hb dL_law_30 (by decide) (fun hq => ?_) (fun hq => ?_)
    · have hq2 := (lw_gt hL hk).mp hq
      exact W.widen (by omega) (by omega) (kk ls H locs hS)
    · have hq2 : 9 * k + 9 ≤ L := by have z := mt (lw_gt hL hk).mpr hq; omega
      have K : ∀ (KEY SEC : Nat → Nat) (f t : Nat → Int64) (sD sT : Nat → Int32) (th : Int32) (f0 f1 f2 f3 f4 f5 f6 f7 : Nat → Int32) (g : Nat → Int64) (ls : Array Slot) (H : Heap) (locs : List Loc), lw_I KEY SEC f sD sT f0 f1 f2 f3 → lv_has ls 8 [(4, .int (nI (9 * k))), (0, .ref b), (1, .ref (ad 6)), (2, .ref (am 8)), (3, .ref qo)] → va_P (dC, dI) mCl (wL cI cL ad am qo (f) (t) (sD) (sT) (th) (f0) (f1) (f2) (f3) (f4) (f5) (f6) (f7) (g)) H → va_D A (wL cI cL ad am qo (f) (t) (sD) (sT) (th) (f0) (f1) (f2) (f3) (f4) (f5) (f6) (f7) (g)) → va_S A s.heap H locs → W p l e R s m args below meth c H locs (17 + k + 1) (1018 + 6 * k + 6) Q (F0 m 635 ls []) := by
        intro KEY SEC f t sD sT th f0 f1 f2 f3 f4 f5 f6 f7 g ls H locs hI hl hP hD hS
        refine lv_iinc (k := 0) (v := nI (9 * (k + 1))) (nL := 8) (lv' := [(4, .int (nI (9 * (k + 1)))), (0, .ref b), (1, .ref (ad 6)), (2, .ref (am 8)), (3, .ref qo)]) hx hb dL_law_635 hl rfl (by rw [Nat.mul_add]; exact nI_add (9 * k) 9) (by decide) rfl (fun ls hl => ?_)
        refine lv_goto (tgt := 23) hx hb dL_law_638 (by decide) ?_
        refine W.widen (k := 17 + (k + 1)) (n := 1018 + 6 * (k + 1)) (by omega) (by omega) ?_
        exact ih (k + 1) KEY SEC f t sD sT th f0 f1 f2 f3 f4 f5 f6 f7 g ls H locs (by omega) (by omega) hI (lv_sub hl [0, 1, 2, 3, 4] rfl) hP hD hS
      have hc : 17 + k + 1 ≤ R.cells ∧ 1018 + 6 * k + 6 ≤ R.slots := by omega
      obtain ⟨o, ho, eo⟩ := pk_andE (xs (9 * k)) (m := nI 7) 3 (by decide)
      refine lv_aload_n hx hb dL_law_33 rfl (lv_at hl 1 rfl) ?_
      refine lv_iload hx hb dL_law_34 (lv_at hl 0 rfl) ?_
      refine xa_sld hx hb hXs hbl hbA hS (by omega) (by omega) dL_law_36 ?_
      refine lv_bipush (v := nI 7) hx hb dL_law_37 (by decide) ?_
      refine lv_iand hx hb dL_law_39 ?_
      refine tw_i (y := nI (o)) (eo) ?_
      rcases (show o = 0 ∨ o = 1 ∨ o = 2 ∨ o = 3 ∨ o = 4 ∨ o = 5 ∨ o = 6 ∨ o = 7 by omega) with rfl | rfl | rfl | rfl | rfl | rfl | rfl | rfl
      · refine lv_tableIn (off := 40) (tgt := 80) hx hb dL_law_40 (by decide) (by decide) (by decide) (by decide) ?_
        exact lw_c0 hx hb htA hown hml hA hbA hXs hbl hL hlt hK hX hW1 hW2 hW3 hf hc hq2 K KEY SEC f t sD sT th f0 f1 f2 f3 f4 f5 f6 f7 g ls H locs hI hl hP hD hS
      · refine lv_tableIn (off := 233) (tgt := 273) hx hb dL_law_40 (by decide) (by decide) (by decide) (by decide) ?_
        exact lw_c1 hx hb htA hown hml hA hbA hXs hbl hL hlt hK hX hW1 hW2 hW3 hf hc hq2 K KEY SEC f t sD sT th f0 f1 f2 f3 f4 f5 f6 f7 g ls H locs hI hl hP hD hS
      · refine lv_tableIn (off := 332) (tgt := 372) hx hb dL_law_40 (by decide) (by decide) (by decide) (by decide) ?_
        exact lw_c2 hx hb htA hown hml hA hbA hXs hbl hL hlt hK hX hW1 hW2 hW3 hf hc hq2 K KEY SEC f t sD sT th f0 f1 f2 f3 f4 f5 f6 f7 g ls H locs hI hl hP hD hS
      · refine lv_tableIn (off := 387) (tgt := 427) hx hb dL_law_40 (by decide) (by decide) (by decide) (by decide) ?_
        exact lw_c3 hx hb htA hown hml hA hbA hXs hbl hL hlt hK hX hW1 hW2 hW3 hf hc hq2 K KEY SEC f t sD sT th f0 f1 f2 f3 f4 f5 f6 f7 g ls H locs hI hl hP hD hS
      · refine lv_tableIn (off := 470) (tgt := 510) hx hb dL_law_40 (by decide) (by decide) (by decide) (by decide) ?_
        exact lw_c4 hx hb htA hown hml hA hbA hXs hbl hL hlt hK hX hW1 hW2 hW3 hf hc hq2 K KEY SEC f t sD sT th f0 f1 f2 f3 f4 f5 f6 f7 g ls H locs hI hl hP hD hS
      · refine lv_tableIn (off := 581) (tgt := 621) hx hb dL_law_40 (by decide) (by decide) (by decide) (by decide) ?_
        exact lw_c5 hx hb htA hown hml hA hbA hXs hbl hL hlt hK hX hW1 hW2 hW3 hf hc hq2 K KEY SEC f t sD sT th f0 f1 f2 f3 f4 f5 f6 f7 g ls H locs hI hl hP hD hS
      · refine lv_tableOut (tgt := 635) hx hb dL_law_40 (by decide) (by decide) ?_
        exact W.widen (by omega) (by omega) (K KEY SEC f t sD sT th f0 f1 f2 f3 f4 f5 f6 f7 g ls H locs hI hl hP hD hS)
      · refine lv_tableOut (tgt := 635) hx hb dL_law_40 (by decide) (by decide) ?_
        exact W.widen (by omega) (by omega) (K KEY SEC f t sD sT th f0 f1 f2 f3 f4 f5 f6 f7 g ls H locs hI hl hP hD hS)
end
