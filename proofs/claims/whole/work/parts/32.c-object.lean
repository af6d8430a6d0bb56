/-! the class's object: sum, mask, the tweak -/
theorem ae_l_at2 (S : Nat → Nat) (i j : Nat) : ae_l (ae_at S i) j = ae_l S (i + j) := congrArg lN (ae_hf_c (fun k _ => by unfold ae_at; rw [Nat.add_assoc]))
def xs_f (f : Nat → Int64) : Nat → Int64
  | 0 => lN 0
  | n + 1 => xs_f f n ^^^ f n
theorem ae_low {sn : Nat} (h : sn < 2147483648) : lN ((sn % 256 * 2 ^ 8 ||| sn / 2 ^ 8 % 256) * 2 ^ 48 ||| (sn / 2 ^ 16 % 256 * 2 ^ 8 ||| sn / 2 ^ 24 % 256) * 2 ^ 32) = ae_l (ae_sn sn) 0 := by
  rw [ae_orp 8 (show sn / 2 ^ 8 % 256 < 2 ^ 8 by omega), ae_orp 8 (show sn / 2 ^ 24 % 256 < 2 ^ 8 by omega), ae_orp 48 (show (2 ^ 8 * (sn / 2 ^ 16 % 256) + sn / 2 ^ 24 % 256) * 2 ^ 32 < 2 ^ 48 by omega)]
  show lN _ = lN (4294967296 * ae_h4 (sn / 2 ^ 0 % 256) (sn / 2 ^ 8 % 256) (sn / 2 ^ 16 % 256) (sn / 2 ^ 24 % 256) + ae_h4 0 0 0 0)
  congr 1
  unfold ae_h4
  omega
theorem ae_sn8 (sn : Nat) : lN 0 = ae_l (ae_sn sn) 8 := rfl
/-- doubleBytes's answer -/
def ae_d8 (S : Nat → Nat) (i k : Nat) : Nat := 2 * (S (i + k) % 128) + (if k = 0 then 0 else S (i + k - 1) / 128)
theorem ae_d8_lt {S : Nat → Nat} (h : ae_B S) (i : Nat) : ae_B (ae_d8 S i) := fun k => by
  unfold ae_d8
  have := h (i + k - 1)
  split <;> omega
theorem ae_db8 {S : Nat → Nat} (h : ae_B S) (i : Nat) : lN ((ae_hf S i &&& 9187201950435737471) * 2 ^ 1 ||| (ae_hf S i / 2 ^ 15 &&& 282578800148737)) = ae_l (ae_d8 S i) 0 := by
  have e := ae_dbytes (h i) (h (i + 1)) (h (i + 2)) (h (i + 3)) (h (i + 4)) (h (i + 5)) (h (i + 6)) (h (i + 7))
  have e2 : ae_hf S i = 4294967296 * ae_h4 (S i) (S (i + 1)) (S (i + 2)) (S (i + 3)) + ae_h4 (S (i + 4)) (S (i + 5)) (S (i + 6)) (S (i + 7)) := rfl
  rw [e2, e]
  rfl
theorem ae_bit7 {S : Nat → Nat} (h : ae_B S) (i : Nat) : ae_hf S i / 2 ^ 7 % 2 = S (i + 7) / 128 := by
  have := h (i + 7)
  unfold ae_hf ae_h4
  omega
theorem ae_x1 {x y : Nat} (hy : y < 2) : (2 * x) ^^^ y = 2 * x + y := by
  have := ae_xp 1 (a := x) (b := 0) (c := 0) (d := y) (by omega) (by omega)
  rw [Nat.xor_zero, Nat.zero_xor, Nat.mul_zero, Nat.zero_add, Nat.add_zero] at this
  exact this
theorem ae_top {S : Nat → Nat} (h : ae_B S) (c : Nat) : ae_hf S 0 ^^^ (c * 2 ^ 56) = ae_hf (fun k => if k = 0 then S 0 ^^^ c else S k) 0 := by
  have e : c * 2 ^ 56 = 2 ^ 32 * ae_h4 c 0 0 0 + 0 := by unfold ae_h4; omega
  have e2 : ae_hf S 0 = 2 ^ 32 * ae_h4 (S 0) (S 1) (S 2) (S 3) + ae_h4 (S 4) (S 5) (S 6) (S 7) := rfl
  rw [e, e2, ae_xp 32 (ae_h4_lt (h 4) (h 5) (h 6) (h 7)) (by omega), ae_x4 (h 1) (h 2) (h 3) (by omega) (by omega) (by omega), Nat.xor_zero, Nat.xor_zero, Nat.xor_zero, Nat.xor_zero]
  rfl
theorem ae_dt0 {T : Nat → Nat} (h : ae_B T) : ae_l (ae_d8 T 0) 0 ^^^ lN (T 15 / 128 * 135 * 2 ^ 56) = ae_l (ae_db T) 0 := by
  have h15 := h 15
  unfold ae_l
  rw [ln_xor, ae_top (ae_d8_lt h 0)]
  congr 1
  apply ae_hf_c
  intro k hk
  rw [Nat.zero_add]
  unfold ae_db ae_d8
  by_cases c : k = 0
  · subst c
    rw [if_pos rfl, if_pos rfl, if_pos rfl, Nat.add_zero]
    congr 1
    split <;> omega
  · rw [if_neg c, if_neg c, if_neg c, Nat.zero_add]
theorem ae_dt1 {T : Nat → Nat} (h : ae_B T) : ae_l (ae_d8 T 8) 0 ^^^ lN (T 7 / 128 * 2 ^ 56) = ae_l (ae_db T) 8 := by
  have h7 := h 7
  unfold ae_l
  rw [ln_xor, ae_top (ae_d8_lt h 8)]
  congr 1
  apply ae_hf_c
  intro k hk
  rw [Nat.zero_add]
  unfold ae_db ae_d8
  rw [if_neg (show ¬ 8 + k = 0 by omega)]
  by_cases c : k = 0
  · subst c
    rw [if_pos rfl, if_pos rfl, Nat.add_zero, Nat.add_zero, ae_x1 (by omega)]
  · rw [if_neg c, if_neg c]
/-- the object's cells -/
abbrev wS (cI cL : ClassId) (ad : Nat → Nat) (f t : Nat → Int64) (sD sT : Nat → Int32) : va_W := [((ad 6), .inr (1, [.ref (ad 0), .ref (ad 1), .ref (ad 2), .ref (ad 4)])), ((ad 0), .inl (cL, 16, .inr (.inl (f)))), ((ad 1), .inl (cL, 2, .inr (.inl (t)))), ((ad 2), .inr (0, [.ref (ad 3)])), ((ad 3), .inl (cI, 44, .inl (sD))), ((ad 4), .inr (0, [.ref (ad 5)])), ((ad 5), .inl (cI, 44, .inl (sT)))]
section
variable {p : Program} {l : Launch} {e : Env} {R : Room} {s : State} {m : MethodId} {args : Array Value} {below : List Frame} {meth : Method} {c : Code} {cells slots : Nat} {Q : State → Prop} {dC : Nat → ClassId} {dI : Nat → Nat → Nat} {A : Nat → Prop}

set_option maxRecDepth 100000 in
set_option maxHeartbeats 4000000 in
theorem lc_sum (hx : p.tables.exec = Jvm.exec) (hb : c.code = cX1_sum) (htA : ∀ w ∈ wsC_a, w.before args s = true) (hown : s.vm.findClass RX1 = some m.cls) (hml : c.maxLocals = 4) (hA : ∀ q, s.heap.size ≤ q → A q) (hc : cells ≤ R.cells ∧ slots ≤ R.slots) (hf : 0 ≤ R.frames ∧ 0 ≤ R.locals) {cI cL : ClassId} {ad : Nat → Nat} {f t : Nat → Int64} {sD sT : Nat → Int32} (hK : va_K (dC, dI) mCl [(cI, .int), (cL, .long)] s) (hX : kp_T A s)
    (kk : ∀  (ls : Array Slot) (H : Heap) (locs : List Loc), True → lv_has ls 4 [(3, .int (nI (16))), (1, .long (xs_f f 16)), (0, .ref (ad 6))] → va_P (dC, dI) mCl [((ad 6), .inr (1, [.ref (ad 0), .ref (ad 1), .ref (ad 2), .ref (ad 4)])), ((ad 0), .inl (cL, 16, .inr (.inl (f)))), ((ad 1), .inl (cL, 2, .inr (.inl (t)))), ((ad 2), .inr (0, [.ref (ad 3)])), ((ad 3), .inl (cI, 44, .inl (sD))), ((ad 4), .inr (0, [.ref (ad 5)])), ((ad 5), .inl (cI, 44, .inl (sT)))] H → va_D A [((ad 6), .inr (1, [.ref (ad 0), .ref (ad 1), .ref (ad 2), .ref (ad 4)])), ((ad 0), .inl (cL, 16, .inr (.inl (f)))), ((ad 1), .inl (cL, 2, .inr (.inl (t)))), ((ad 2), .inr (0, [.ref (ad 3)])), ((ad 3), .inl (cI, 44, .inl (sD))), ((ad 4), .inr (0, [.ref (ad 5)])), ((ad 5), .inl (cI, 44, .inl (sT)))] → va_S A s.heap H locs → W p l e R s m args below meth c H locs cells slots Q (F0 m 25 ls [])) :
    ∀ (j k : Nat)  (ls : Array Slot) (H : Heap) (locs : List Loc), k + j = 16 → lv_has ls 4 [(3, .int (nI (k))), (1, .long (xs_f f k)), (0, .ref (ad 6))] → va_P (dC, dI) mCl [((ad 6), .inr (1, [.ref (ad 0), .ref (ad 1), .ref (ad 2), .ref (ad 4)])), ((ad 0), .inl (cL, 16, .inr (.inl (f)))), ((ad 1), .inl (cL, 2, .inr (.inl (t)))), ((ad 2), .inr (0, [.ref (ad 3)])), ((ad 3), .inl (cI, 44, .inl (sD))), ((ad 4), .inr (0, [.ref (ad 5)])), ((ad 5), .inl (cI, 44, .inl (sT)))] H → va_D A [((ad 6), .inr (1, [.ref (ad 0), .ref (ad 1), .ref (ad 2), .ref (ad 4)])), ((ad 0), .inl (cL, 16, .inr (.inl (f)))), ((ad 1), .inl (cL, 2, .inr (.inl (t)))), ((ad 2), .inr (0, [.ref (ad 3)])), ((ad 3), .inl (cI, 44, .inl (sD))), ((ad 4), .inr (0, [.ref (ad 5)])), ((ad 5), .inl (cI, 44, .inl (sT)))] → va_S A s.heap H locs → W p l e R s m args below meth c H locs cells slots Q (F0 m 4 ls []) := by
  intro j
  induction j with
  | zero =>
    intro k  ls H locs hj  hl hP hD hS
    have e : k = 16 := by omega
    subst e
    refine lv_iload_n hx hb dX1_sum_4 rfl (lv_at hl 0 rfl) ?_
    refine lv_bipush (v := nI 16) hx hb dX1_sum_5 (by decide) ?_
    refine xi_icmp_ge (tgt := 25) hx hb dX1_sum_7 (by decide) (by omega) (by omega) (fun hc0 => ?_) (fun h9 => absurd h9 (by omega))
    exact kk ls H locs trivial hl hP hD hS
  | succ j ih =>
    intro k  ls H locs hj  hl hP hD hS
    refine lv_iload_n hx hb dX1_sum_4 rfl (lv_at hl 0 rfl) ?_
    refine lv_bipush (v := nI 16) hx hb dX1_sum_5 (by decide) ?_
    refine xi_icmp_ge (tgt := 25) hx hb dX1_sum_7 (by decide) (by omega) (by omega) (fun h9 => absurd h9 (by omega)) (fun hc0 => ?_)
    refine lv_lload_n hx hb dX1_sum_10 rfl (lv_at hl 1 rfl) ?_
    refine lv_aload_n hx hb dX1_sum_11 rfl (lv_at hl 2 rfl) ?_
    refine va_get (D := (dC, dI)) (ci := 1) (v := .ref (ad 0)) (C := RX1) (T := TX1) (N := 4) hx hb htA inC1 hown hK hP 0 rfl rfl 0 (by decide) (htA _ mS_f9) (fun _ h9 => h9) rfl dX1_sum_12 ?_
    refine lv_iload_n hx hb dX1_sum_15 rfl (lv_at hl 0 rfl) ?_
    refine xa_lld hx hb hK hP 1 1 rfl rfl (by omega) (by omega) (v := (f) (k)) (rfl) dX1_sum_16 ?_
    refine lv_lxor hx hb dX1_sum_17 ?_
    refine lv_lstore_n (nL := 4) (lv' := [(1, .long ((xs_f f k) ^^^ ((f) (k)))), (3, .int (nI (k))), (0, .ref (ad 6))]) hx hb dX1_sum_18 rfl hl (by decide) rfl (fun ls hl => ?_)
    refine lv_iinc (k := 1) (v := nI (k + 1)) (nL := 4) (lv' := [(3, .int (nI (k + 1))), (1, .long ((xs_f f k) ^^^ ((f) (k)))), (0, .ref (ad 6))]) hx hb dX1_sum_19 hl rfl (nI_1 (k)) (by decide) rfl (fun ls hl => ?_)
    refine lv_goto (tgt := 4) hx hb dX1_sum_22 (by decide) ?_
    exact ih (k + 1) ls H locs (by omega) (lv_sub hl [0, 1, 2] rfl) hP hD hS
end
set_option maxRecDepth 100000 in
set_option maxHeartbeats 4000000 in
theorem c_X1_sum (l : Launch) (dC : Nat → ClassId) (dI : Nat → Nat → Nat) (cI cL : ClassId) (ad : Nat → Nat) (sz : Nat) (f t : Nat → Int64) (sD sT : Nat → Int32) : kp_Ml l yX1_sum wsC_X1_sum { frames := 0, cells := 0, slots := 0, locals := 0 } (dC, dI) mCl [.ref (ad 6)] [((ad 6), .inr (1, [.ref (ad 0), .ref (ad 1), .ref (ad 2), .ref (ad 4)])), ((ad 0), .inl (cL, 16, .inr (.inl (f)))), ((ad 1), .inl (cL, 2, .inr (.inl (t)))), ((ad 2), .inr (0, [.ref (ad 3)])), ((ad 3), .inl (cI, 44, .inl (sD))), ((ad 4), .inr (0, [.ref (ad 5)])), ((ad 5), .inl (cI, 44, .inl (sT)))] [(cI, .int), (cL, .long)] sz kp_T (fun (r : Int64) (_ : Unit) => r = xs_f f 16) (fun _ => [((ad 6), .inr (1, [.ref (ad 0), .ref (ad 1), .ref (ad 2), .ref (ad 4)])), ((ad 0), .inl (cL, 16, .inr (.inl (f)))), ((ad 1), .inl (cL, 2, .inr (.inl (t)))), ((ad 2), .inr (0, [.ref (ad 3)])), ((ad 3), .inl (cI, 44, .inl (sD))), ((ad 4), .inr (0, [.ref (ad 5)])), ((ad 5), .inl (cI, 44, .inl (sT)))]) := by
  refine kp_ofl (cc := cX1_sum) (maxL := 4) (ret := some .long) (by decide) rfl (Nat.le_of_ble_eq_true rfl) ?_
  intro p e s m args below meth c ls A hx hb hr hts hown hlocks hml hnm hA hsz hl hP hD hK hX hS
  have hown : s.vm.findClass RX1 = some m.cls := hown
  have htA : ∀ w ∈ wsC_a, w.before args s = true := fun w h => hts w (List.mem_cons_of_mem _ h)
  have hf : 0 ≤ ({ frames := 0, cells := 0, slots := 0, locals := 0 } : Room).frames ∧ 0 ≤ ({ frames := 0, cells := 0, slots := 0, locals := 0 } : Room).locals := ⟨Nat.le_of_ble_eq_true rfl, Nat.le_of_ble_eq_true rfl⟩
  have hc : 0 ≤ ({ frames := 0, cells := 0, slots := 0, locals := 0 } : Room).cells ∧ 0 ≤ ({ frames := 0, cells := 0, slots := 0, locals := 0 } : Room).slots := ⟨Nat.zero_le _, Nat.zero_le _⟩
  have hl : lv_has ls 4 [(0, .ref (ad 6))] := hl
  refine lv_lconst (v := lN 0) hx hb dX1_sum_0 rfl ?_
  refine lv_lstore_n (nL := 4) (lv' := [(1, .long (lN 0)), (0, .ref (ad 6))]) hx hb dX1_sum_1 rfl hl (by decide) rfl (fun ls hl => ?_)
  refine lv_iconst (v := nI 0) hx hb dX1_sum_2 (by decide) ?_
  refine lv_istore_n (nL := 4) (lv' := [(3, .int (nI (0))), (1, .long (lN 0)), (0, .ref (ad 6))]) hx hb dX1_sum_3 rfl hl (by decide) rfl (fun ls hl => ?_)
  refine lc_sum hx hb htA hown hml hA hc hf hK hX (fun ls H locs _ hl hP hD hS => ?_) 16 0 ls s.heap [] (by omega) (lv_sub hl [0, 1, 2] rfl) hP hD hS
  refine lv_lload_n hx hb dX1_sum_25 rfl (lv_at hl 1 rfl) ?_
  exact kp_retl () hx hb hr hlocks rfl hP hD hS dX1_sum_26
set_option maxRecDepth 100000 in
set_option maxHeartbeats 4000000 in
theorem c_X1_lowestByteFirst (l : Launch) (dC : Nat → ClassId) (dI : Nat → Nat → Nat) (sz sn : Nat) (hsn : sn < 2147483648) : kp_Ml l yX1_lowestByteFirst wsC_X1_lowestByteFirst { frames := 0, cells := 0, slots := 0, locals := 0 } (dC, dI) mCl [.int (nI sn)] [] [] sz kp_T (fun (r : Int64) (_ : Unit) => r = ae_l (ae_sn sn) 0) (fun _ => []) := by
  refine kp_ofl (cc := cX1_lowestByteFirst) (maxL := 5) (ret := some .long) (by decide) rfl (Nat.le_of_ble_eq_true rfl) ?_
  intro p e s m args below meth c ls A hx hb hr hts hown hlocks hml hnm hA hsz hl hP hD hK hX hS
  have hown : s.vm.findClass RX1 = some m.cls := hown
  have htA : ∀ w ∈ wsC_a, w.before args s = true := fun w h => hts w (List.mem_cons_of_mem _ h)
  have hf : 0 ≤ ({ frames := 0, cells := 0, slots := 0, locals := 0 } : Room).frames ∧ 0 ≤ ({ frames := 0, cells := 0, slots := 0, locals := 0 } : Room).locals := ⟨Nat.le_of_ble_eq_true rfl, Nat.le_of_ble_eq_true rfl⟩
  have hc : 0 ≤ ({ frames := 0, cells := 0, slots := 0, locals := 0 } : Room).cells ∧ 0 ≤ ({ frames := 0, cells := 0, slots := 0, locals := 0 } : Room).slots := ⟨Nat.zero_le _, Nat.zero_le _⟩
  have hl : lv_has ls 5 [(0, .int (nI (sn)))] := hl
  refine lv_iload_n hx hb dX1_lowestByteFirst_0 rfl (lv_at hl 0 rfl) ?_
  refine lv_i2l hx hb dX1_lowestByteFirst_1 rfl ?_
  refine lv_ldc2 hx hb hown (htA _ mS_k65) dX1_lowestByteFirst_2 ?_
  refine tw_l (y := lN 255) (by decide) ?_
  refine lv_land hx hb dX1_lowestByteFirst_5 ?_
  refine tw_l (y := lN (sn % 256)) (ln_sx8 (by omega)) ?_
  refine lv_bipush (v := nI 8) hx hb dX1_lowestByteFirst_6 (by decide) ?_
  refine lv_lshl hx hb dX1_lowestByteFirst_8 rfl ?_
  refine tw_l (y := lN (sn % 256 * 2 ^ 8)) (ln_shl _ (by omega)) ?_
  refine lv_iload_n hx hb dX1_lowestByteFirst_9 rfl (lv_at hl 0 rfl) ?_
  refine lv_bipush (v := nI 8) hx hb dX1_lowestByteFirst_10 (by decide) ?_
  refine xi_iushr hx hb dX1_lowestByteFirst_12 (by omega) (by omega) ?_
  refine lv_i2l hx hb dX1_lowestByteFirst_13 rfl ?_
  refine lv_ldc2 hx hb hown (htA _ mS_k65) dX1_lowestByteFirst_14 ?_
  refine tw_l (y := lN 255) (by decide) ?_
  refine lv_land hx hb dX1_lowestByteFirst_17 ?_
  refine tw_l (y := lN (sn / 2 ^ 8 % 256)) (ln_sx8 (by omega)) ?_
  refine lv_lor hx hb dX1_lowestByteFirst_18 ?_
  refine tw_l (y := lN (sn % 256 * 2 ^ 8 ||| sn / 2 ^ 8 % 256)) (ln_or _ _) ?_
  refine lv_lstore_n (nL := 5) (lv' := [(1, .long (lN (sn % 256 * 2 ^ 8 ||| sn / 2 ^ 8 % 256))), (0, .int (nI (sn)))]) hx hb dX1_lowestByteFirst_19 rfl hl (by decide) rfl (fun ls hl => ?_)
  refine lv_iload_n hx hb dX1_lowestByteFirst_20 rfl (lv_at hl 1 rfl) ?_
  refine lv_bipush (v := nI 16) hx hb dX1_lowestByteFirst_21 (by decide) ?_
  refine xi_iushr hx hb dX1_lowestByteFirst_23 (by omega) (by omega) ?_
  refine lv_i2l hx hb dX1_lowestByteFirst_24 rfl ?_
  refine lv_ldc2 hx hb hown (htA _ mS_k65) dX1_lowestByteFirst_25 ?_
  refine tw_l (y := lN 255) (by decide) ?_
  refine lv_land hx hb dX1_lowestByteFirst_28 ?_
  refine tw_l (y := lN (sn / 2 ^ 16 % 256)) (ln_sx8 (by omega)) ?_
  refine lv_bipush (v := nI 8) hx hb dX1_lowestByteFirst_29 (by decide) ?_
  refine lv_lshl hx hb dX1_lowestByteFirst_31 rfl ?_
  refine tw_l (y := lN (sn / 2 ^ 16 % 256 * 2 ^ 8)) (ln_shl _ (by omega)) ?_
  refine lv_iload_n hx hb dX1_lowestByteFirst_32 rfl (lv_at hl 1 rfl) ?_
  refine lv_bipush (v := nI 24) hx hb dX1_lowestByteFirst_33 (by decide) ?_
  refine xi_iushr hx hb dX1_lowestByteFirst_35 (by omega) (by omega) ?_
  refine lv_i2l hx hb dX1_lowestByteFirst_36 rfl ?_
  refine lv_ldc2 hx hb hown (htA _ mS_k65) dX1_lowestByteFirst_37 ?_
  refine tw_l (y := lN 255) (by decide) ?_
  refine lv_land hx hb dX1_lowestByteFirst_40 ?_
  refine tw_l (y := lN (sn / 2 ^ 24 % 256)) (ln_sx8 (by omega)) ?_
  refine lv_lor hx hb dX1_lowestByteFirst_41 ?_
  refine tw_l (y := lN (sn / 2 ^ 16 % 256 * 2 ^ 8 ||| sn / 2 ^ 24 % 256)) (ln_or _ _) ?_
  refine lv_lstore_n (nL := 5) (lv' := [(3, .long (lN (sn / 2 ^ 16 % 256 * 2 ^ 8 ||| sn / 2 ^ 24 % 256))), (1, .long (lN (sn % 256 * 2 ^ 8 ||| sn / 2 ^ 8 % 256))), (0, .int (nI (sn)))]) hx hb dX1_lowestByteFirst_42 rfl hl (by decide) rfl (fun ls hl => ?_)
  refine lv_lload_n hx hb dX1_lowestByteFirst_43 rfl (lv_at hl 1 rfl) ?_
  refine lv_bipush (v := nI 48) hx hb dX1_lowestByteFirst_44 (by decide) ?_
  refine lv_lshl hx hb dX1_lowestByteFirst_46 rfl ?_
  refine tw_l (y := lN ((sn % 256 * 2 ^ 8 ||| sn / 2 ^ 8 % 256) * 2 ^ 48)) (ln_shl _ (by omega)) ?_
  refine lv_lload_n hx hb dX1_lowestByteFirst_47 rfl (lv_at hl 0 rfl) ?_
  refine lv_bipush (v := nI 32) hx hb dX1_lowestByteFirst_48 (by decide) ?_
  refine lv_lshl hx hb dX1_lowestByteFirst_50 rfl ?_
  refine tw_l (y := lN ((sn / 2 ^ 16 % 256 * 2 ^ 8 ||| sn / 2 ^ 24 % 256) * 2 ^ 32)) (ln_shl _ (by omega)) ?_
  refine lv_lor hx hb dX1_lowestByteFirst_51 ?_
  refine tw_l (y := ae_l (ae_sn sn) 0) (by rw [ln_or]; exact ae_low hsn) ?_
  exact kp_retl () hx hb hr hlocks rfl hP hD hS dX1_lowestByteFirst_52
set_option maxRecDepth 100000 in
set_option maxHeartbeats 4000000 in
theorem c_X1_doubleBytes (l : Launch) (dC : Nat → ClassId) (dI : Nat → Nat → Nat) (sz : Nat) (S : Nat → Nat) (hB : ae_B S) (i : Nat) : kp_Ml l yX1_doubleBytes wsC_X1_doubleBytes { frames := 0, cells := 0, slots := 0, locals := 0 } (dC, dI) mCl [.long (ae_l S i)] [] [] sz kp_T (fun (r : Int64) (_ : Unit) => r = ae_l (ae_d8 S i) 0) (fun _ => []) := by
  refine kp_ofl (cc := cX1_doubleBytes) (maxL := 2) (ret := some .long) (by decide) rfl (Nat.le_of_ble_eq_true rfl) ?_
  intro p e s m args below meth c ls A hx hb hr hts hown hlocks hml hnm hA hsz hl hP hD hK hX hS
  have hown : s.vm.findClass RX1 = some m.cls := hown
  have htA : ∀ w ∈ wsC_a, w.before args s = true := fun w h => hts w (List.mem_cons_of_mem _ h)
  have hf : 0 ≤ ({ frames := 0, cells := 0, slots := 0, locals := 0 } : Room).frames ∧ 0 ≤ ({ frames := 0, cells := 0, slots := 0, locals := 0 } : Room).locals := ⟨Nat.le_of_ble_eq_true rfl, Nat.le_of_ble_eq_true rfl⟩
  have hc : 0 ≤ ({ frames := 0, cells := 0, slots := 0, locals := 0 } : Room).cells ∧ 0 ≤ ({ frames := 0, cells := 0, slots := 0, locals := 0 } : Room).slots := ⟨Nat.zero_le _, Nat.zero_le _⟩
  have hl : lv_has ls 2 [(0, .long (lN (ae_hf S i)))] := hl
  have hq := ae_hf_lt hB i
  refine lv_lload_n hx hb dX1_doubleBytes_0 rfl (lv_at hl 0 rfl) ?_
  refine lv_ldc2 hx hb hown (htA _ mS_k73) dX1_doubleBytes_1 ?_
  refine tw_l (y := lN 9187201950435737471) (by decide) ?_
  refine lv_land hx hb dX1_doubleBytes_4 ?_
  refine tw_l (y := lN (ae_hf S i &&& 9187201950435737471)) (ln_and _ _) ?_
  refine lv_iconst (v := nI 1) hx hb dX1_doubleBytes_5 (by decide) ?_
  refine lv_lshl hx hb dX1_doubleBytes_6 rfl ?_
  refine tw_l (y := lN ((ae_hf S i &&& 9187201950435737471) * 2 ^ 1)) (ln_shl _ (by omega)) ?_
  refine lv_lload_n hx hb dX1_doubleBytes_7 rfl (lv_at hl 0 rfl) ?_
  refine lv_bipush (v := nI 15) hx hb dX1_doubleBytes_8 (by decide) ?_
  refine lv_lushr hx hb dX1_doubleBytes_10 rfl ?_
  refine tw_l (y := lN (ae_hf S i / 2 ^ 15)) (ln_ushr hq (by omega)) ?_
  refine lv_ldc2 hx hb hown (htA _ mS_k75) dX1_doubleBytes_11 ?_
  refine tw_l (y := lN 282578800148737) (by decide) ?_
  refine lv_land hx hb dX1_doubleBytes_14 ?_
  refine tw_l (y := lN (ae_hf S i / 2 ^ 15 &&& 282578800148737)) (ln_and _ _) ?_
  refine lv_lor hx hb dX1_doubleBytes_15 ?_
  refine tw_l (y := ae_l (ae_d8 S i) 0) (by rw [ln_or]; exact ae_db8 hB i) ?_
  exact kp_retl () hx hb hr hlocks rfl hP hD hS dX1_doubleBytes_16
set_option maxRecDepth 100000 in
set_option maxHeartbeats 4000000 in
theorem c_X1_mask (l : Launch) (dC : Nat → ClassId) (dI : Nat → Nat → Nat) (cI cL : ClassId) (ad : Nat → Nat) (sz : Nat) (f t : Nat → Int64) (sD sT : Nat → Int32) (at_ : Nat) (hat : at_ + 2 ≤ 16) : kp_Mv l yX1_mask wsC_X1_mask { frames := 0, cells := 0, slots := 0, locals := 0 } (dC, dI) mCl [.ref (ad 6), .int (nI at_)] [((ad 6), .inr (1, [.ref (ad 0), .ref (ad 1), .ref (ad 2), .ref (ad 4)])), ((ad 0), .inl (cL, 16, .inr (.inl (f)))), ((ad 1), .inl (cL, 2, .inr (.inl (t)))), ((ad 2), .inr (0, [.ref (ad 3)])), ((ad 3), .inl (cI, 44, .inl (sD))), ((ad 4), .inr (0, [.ref (ad 5)])), ((ad 5), .inl (cI, 44, .inl (sT)))] [(cI, .int), (cL, .long)] sz kp_T 0 0 (fun (_ : Unit) => True) (fun _ => [((ad 6), .inr (1, [.ref (ad 0), .ref (ad 1), .ref (ad 2), .ref (ad 4)])), ((ad 0), .inl (cL, 16, .inr (.inl (vp_updL (vp_updL f at_ (f at_ ^^^ t 0)) (at_ + 1) (f (at_ + 1) ^^^ t 1))))), ((ad 1), .inl (cL, 2, .inr (.inl (t)))), ((ad 2), .inr (0, [.ref (ad 3)])), ((ad 3), .inl (cI, 44, .inl (sD))), ((ad 4), .inr (0, [.ref (ad 5)])), ((ad 5), .inl (cI, 44, .inl (sT)))]) := by
  refine kp_ofv (cc := cX1_mask) (maxL := 2) (ret := none) (by decide) rfl (Nat.le_of_ble_eq_true rfl) ?_
  intro p e s m args below meth c ls A hx hb hr hts hown hlocks hml hnm hA hsz hl hP hD hK hX hS
  have hown : s.vm.findClass RX1 = some m.cls := hown
  have htA : ∀ w ∈ wsC_a, w.before args s = true := fun w h => hts w (List.mem_cons_of_mem _ h)
  have hf : 0 ≤ ({ frames := 0, cells := 0, slots := 0, locals := 0 } : Room).frames ∧ 0 ≤ ({ frames := 0, cells := 0, slots := 0, locals := 0 } : Room).locals := ⟨Nat.le_of_ble_eq_true rfl, Nat.le_of_ble_eq_true rfl⟩
  have hc : 0 ≤ ({ frames := 0, cells := 0, slots := 0, locals := 0 } : Room).cells ∧ 0 ≤ ({ frames := 0, cells := 0, slots := 0, locals := 0 } : Room).slots := ⟨Nat.zero_le _, Nat.zero_le _⟩
  have hl : lv_has ls 2 [(0, .ref (ad 6)), (1, .int (nI (at_)))] := hl
  refine lv_aload_n hx hb dX1_mask_0 rfl (lv_at hl 0 rfl) ?_
  refine va_get (D := (dC, dI)) (ci := 1) (v := .ref (ad 0)) (C := RX1) (T := TX1) (N := 4) hx hb htA inC1 hown hK hP 0 rfl rfl 0 (by decide) (htA _ mS_f9) (fun _ h9 => h9) rfl dX1_mask_1 ?_
  refine lv_iload_n hx hb dX1_mask_4 rfl (lv_at hl 1 rfl) ?_
  refine lv_dup2_11 hx hb dX1_mask_5 rfl rfl ?_
  refine xa_lld hx hb hK hP 1 1 rfl rfl (by omega) (by omega) (v := f at_) (rfl) dX1_mask_6 ?_
  refine lv_aload_n hx hb dX1_mask_7 rfl (lv_at hl 0 rfl) ?_
  refine va_get (D := (dC, dI)) (ci := 1) (v := .ref (ad 1)) (C := RX1) (T := TX1) (N := 4) hx hb htA inC1 hown hK hP 0 rfl rfl 1 (by decide) (htA _ mS_f13) (fun _ h9 => h9) rfl dX1_mask_8 ?_
  refine lv_iconst (v := nI 0) hx hb dX1_mask_11 (by decide) ?_
  refine xa_lld hx hb hK hP 2 1 rfl rfl (by omega) (by omega) (v := t 0) (rfl) dX1_mask_12 ?_
  refine lv_lxor hx hb dX1_mask_13 ?_
  refine xa_lst hx hb hK hP hD hS 1 1 rfl rfl (by omega) (by omega) dX1_mask_14 (fun H locs hP hD hS => ?_)
  have hP : va_P (dC, dI) mCl [((ad 6), .inr (1, [.ref (ad 0), .ref (ad 1), .ref (ad 2), .ref (ad 4)])), ((ad 0), .inl (cL, 16, .inr (.inl (vp_updL (f) (at_) ((f at_) ^^^ (t 0)))))), ((ad 1), .inl (cL, 2, .inr (.inl (t)))), ((ad 2), .inr (0, [.ref (ad 3)])), ((ad 3), .inl (cI, 44, .inl (sD))), ((ad 4), .inr (0, [.ref (ad 5)])), ((ad 5), .inl (cI, 44, .inl (sT)))] H := hP
  have hD : va_D A [((ad 6), .inr (1, [.ref (ad 0), .ref (ad 1), .ref (ad 2), .ref (ad 4)])), ((ad 0), .inl (cL, 16, .inr (.inl (vp_updL (f) (at_) ((f at_) ^^^ (t 0)))))), ((ad 1), .inl (cL, 2, .inr (.inl (t)))), ((ad 2), .inr (0, [.ref (ad 3)])), ((ad 3), .inl (cI, 44, .inl (sD))), ((ad 4), .inr (0, [.ref (ad 5)])), ((ad 5), .inl (cI, 44, .inl (sT)))] := hD
  refine lv_aload_n hx hb dX1_mask_15 rfl (lv_at hl 0 rfl) ?_
  refine va_get (D := (dC, dI)) (ci := 1) (v := .ref (ad 0)) (C := RX1) (T := TX1) (N := 4) hx hb htA inC1 hown hK hP 0 rfl rfl 0 (by decide) (htA _ mS_f9) (fun _ h9 => h9) rfl dX1_mask_16 ?_
  refine lv_iload_n hx hb dX1_mask_19 rfl (lv_at hl 1 rfl) ?_
  refine lv_iconst (v := nI 1) hx hb dX1_mask_20 (by decide) ?_
  refine xi_iadd hx hb dX1_mask_21 ?_
  refine lv_dup2_11 hx hb dX1_mask_22 rfl rfl ?_
  refine xa_lld hx hb hK hP 1 1 rfl rfl (by omega) (by omega) (v := f (at_ + 1)) (pk_uLn (by omega)) dX1_mask_23 ?_
  refine lv_aload_n hx hb dX1_mask_24 rfl (lv_at hl 0 rfl) ?_
  refine va_get (D := (dC, dI)) (ci := 1) (v := .ref (ad 1)) (C := RX1) (T := TX1) (N := 4) hx hb htA inC1 hown hK hP 0 rfl rfl 1 (by decide) (htA _ mS_f13) (fun _ h9 => h9) rfl dX1_mask_25 ?_
  refine lv_iconst (v := nI 1) hx hb dX1_mask_28 (by decide) ?_
  refine xa_lld hx hb hK hP 2 1 rfl rfl (by omega) (by omega) (v := t 1) (rfl) dX1_mask_29 ?_
  refine lv_lxor hx hb dX1_mask_30 ?_
  refine xa_lst hx hb hK hP hD hS 1 1 rfl rfl (by omega) (by omega) dX1_mask_31 (fun H locs hP hD hS => ?_)
  have hP : va_P (dC, dI) mCl [((ad 6), .inr (1, [.ref (ad 0), .ref (ad 1), .ref (ad 2), .ref (ad 4)])), ((ad 0), .inl (cL, 16, .inr (.inl (vp_updL (vp_updL (f) (at_) ((f at_) ^^^ (t 0))) ((at_) + (1)) ((f (at_ + 1)) ^^^ (t 1)))))), ((ad 1), .inl (cL, 2, .inr (.inl (t)))), ((ad 2), .inr (0, [.ref (ad 3)])), ((ad 3), .inl (cI, 44, .inl (sD))), ((ad 4), .inr (0, [.ref (ad 5)])), ((ad 5), .inl (cI, 44, .inl (sT)))] H := hP
  have hD : va_D A [((ad 6), .inr (1, [.ref (ad 0), .ref (ad 1), .ref (ad 2), .ref (ad 4)])), ((ad 0), .inl (cL, 16, .inr (.inl (vp_updL (vp_updL (f) (at_) ((f at_) ^^^ (t 0))) ((at_) + (1)) ((f (at_ + 1)) ^^^ (t 1)))))), ((ad 1), .inl (cL, 2, .inr (.inl (t)))), ((ad 2), .inr (0, [.ref (ad 3)])), ((ad 3), .inl (cI, 44, .inl (sD))), ((ad 4), .inr (0, [.ref (ad 5)])), ((ad 5), .inl (cI, 44, .inl (sT)))] := hD
  exact kp_retv () hx hb hr hlocks trivial hP hD hS dX1_mask_32
set_option maxRecDepth 100000 in
set_option maxHeartbeats 4000000 in
theorem c_X1_startTweak (l : Launch) (dC : Nat → ClassId) (dI : Nat → Nat → Nat) (cI cL : ClassId) (ad : Nat → Nat) (sz tS tI : Nat) (f t : Nat → Int64) (sD sT : Nat → Int32) (X : Nat → Nat) (hBX : ae_B X) (hsT : ∀ i, i < 44 → sT i = ae_wf X (4 * i)) (sn : Nat) (hsn : sn < 2147483648) : kp_Mv l yX1_startTweak wsC_X1_startTweak { frames := 3, cells := 0, slots := 0, locals := 75 } (dC, dI) mCl [.ref (ad 6), .int (nI sn)] [((ad 6), .inr (1, [.ref (ad 0), .ref (ad 1), .ref (ad 2), .ref (ad 4)])), ((ad 0), .inl (cL, 16, .inr (.inl (f)))), ((ad 1), .inl (cL, 2, .inr (.inl (t)))), ((ad 2), .inr (0, [.ref (ad 3)])), ((ad 3), .inl (cI, 44, .inl (sD))), ((ad 4), .inr (0, [.ref (ad 5)])), ((ad 5), .inl (cI, 44, .inl (sT)))] [(cI, .int), (cL, .long)] sz (st_X tS tI) 0 0 (fun u : Nat → Int64 => u 0 = ae_l (ae_enc X (ae_sn sn)) 0 ∧ u 1 = ae_l (ae_enc X (ae_sn sn)) 8) (fun u => [((ad 6), .inr (1, [.ref (ad 0), .ref (ad 1), .ref (ad 2), .ref (ad 4)])), ((ad 0), .inl (cL, 16, .inr (.inl (f)))), ((ad 1), .inl (cL, 2, .inr (.inl (u)))), ((ad 2), .inr (0, [.ref (ad 3)])), ((ad 3), .inl (cI, 44, .inl (sD))), ((ad 4), .inr (0, [.ref (ad 5)])), ((ad 5), .inl (cI, 44, .inl (sT)))]) := by
  refine kp_ofv (cc := cX1_startTweak) (maxL := 2) (ret := none) (by decide) rfl (Nat.le_of_ble_eq_true rfl) ?_
  intro p e s m args below meth c ls A hx hb hr hts hown hlocks hml hnm hA hsz hl hP hD hK hX hS
  have hown : s.vm.findClass RX1 = some m.cls := hown
  have htA : ∀ w ∈ wsC_a, w.before args s = true := fun w h => hts w (List.mem_cons_of_mem _ h)
  have hf : 3 ≤ ({ frames := 3, cells := 0, slots := 0, locals := 75 } : Room).frames ∧ 75 ≤ ({ frames := 3, cells := 0, slots := 0, locals := 75 } : Room).locals := ⟨Nat.le_of_ble_eq_true rfl, Nat.le_of_ble_eq_true rfl⟩
  have hc : 0 ≤ ({ frames := 3, cells := 0, slots := 0, locals := 75 } : Room).cells ∧ 0 ≤ ({ frames := 3, cells := 0, slots := 0, locals := 75 } : Room).slots := ⟨Nat.zero_le _, Nat.zero_le _⟩
  have hl : lv_has ls 2 [(0, .ref (ad 6)), (1, .int (nI (sn)))] := hl
  refine lv_aload_n hx hb dX1_startTweak_0 rfl (lv_at hl 0 rfl) ?_
  refine va_get (D := (dC, dI)) (ci := 1) (v := .ref (ad 1)) (C := RX1) (T := TX1) (N := 4) hx hb htA inC1 hown hK hP 0 rfl rfl 1 (by decide) (htA _ mS_f13) (fun _ h9 => h9) rfl dX1_startTweak_1 ?_
  refine lv_iconst (v := nI 0) hx hb dX1_startTweak_4 (by decide) ?_
  refine lv_iload_n hx hb dX1_startTweak_5 rfl (lv_at hl 1 rfl) ?_
  refine kp_purel (v := ae_l (ae_sn sn) 0) (va_runS (As := [.int (nI (sn))]) (rest := [.int (nI (0)), .ref (ad 1)]) ⟨hx, hb, hml, hown, htA⟩ (c_X1_lowestByteFirst l dC dI _ sn hsn) (va_cwS 1 htA (goodC_S mS_l61 mS_static_lowestByteFirst mS_code_lowestByteFirst mS_initialized) rfl rfl rfl (by decide +kernel) ⟨Nat.le_trans (Nat.le_of_ble_eq_true rfl) hf.1, Nat.le_trans (Nat.le_of_ble_eq_true rfl) hf.2⟩) (kp_preS (wc := []) kp_XT trivial hP hD hK hS hA [] rfl rfl rfl [] rfl) rfl rfl hl.1 rfl (lv_room (Nat.le_of_ble_eq_true rfl)) dX1_startTweak_6 ⟨hc.1, hc.2⟩) hP hS hA (fun H locs hP hS => ?_)
  refine xa_lst hx hb hK hP hD hS 2 1 rfl rfl (by omega) (by omega) dX1_startTweak_9 (fun H locs hP hD hS => ?_)
  have hP : va_P (dC, dI) mCl [((ad 6), .inr (1, [.ref (ad 0), .ref (ad 1), .ref (ad 2), .ref (ad 4)])), ((ad 0), .inl (cL, 16, .inr (.inl (f)))), ((ad 1), .inl (cL, 2, .inr (.inl (vp_updL (t) (0) (ae_l (ae_sn sn) 0))))), ((ad 2), .inr (0, [.ref (ad 3)])), ((ad 3), .inl (cI, 44, .inl (sD))), ((ad 4), .inr (0, [.ref (ad 5)])), ((ad 5), .inl (cI, 44, .inl (sT)))] H := hP
  have hD : va_D A [((ad 6), .inr (1, [.ref (ad 0), .ref (ad 1), .ref (ad 2), .ref (ad 4)])), ((ad 0), .inl (cL, 16, .inr (.inl (f)))), ((ad 1), .inl (cL, 2, .inr (.inl (vp_updL (t) (0) (ae_l (ae_sn sn) 0))))), ((ad 2), .inr (0, [.ref (ad 3)])), ((ad 3), .inl (cI, 44, .inl (sD))), ((ad 4), .inr (0, [.ref (ad 5)])), ((ad 5), .inl (cI, 44, .inl (sT)))] := hD
  refine lv_aload_n hx hb dX1_startTweak_10 rfl (lv_at hl 0 rfl) ?_
  refine va_get (D := (dC, dI)) (ci := 1) (v := .ref (ad 1)) (C := RX1) (T := TX1) (N := 4) hx hb htA inC1 hown hK hP 0 rfl rfl 1 (by decide) (htA _ mS_f13) (fun _ h9 => h9) rfl dX1_startTweak_11 ?_
  refine lv_iconst (v := nI 1) hx hb dX1_startTweak_14 (by decide) ?_
  refine lv_lconst (v := lN 0) hx hb dX1_startTweak_15 rfl ?_
  refine xa_lst hx hb hK hP hD hS 2 1 rfl rfl (by omega) (by omega) dX1_startTweak_16 (fun H locs hP hD hS => ?_)
  have hP : va_P (dC, dI) mCl [((ad 6), .inr (1, [.ref (ad 0), .ref (ad 1), .ref (ad 2), .ref (ad 4)])), ((ad 0), .inl (cL, 16, .inr (.inl (f)))), ((ad 1), .inl (cL, 2, .inr (.inl (vp_updL (vp_updL (t) (0) (ae_l (ae_sn sn) 0)) (1) (lN 0))))), ((ad 2), .inr (0, [.ref (ad 3)])), ((ad 3), .inl (cI, 44, .inl (sD))), ((ad 4), .inr (0, [.ref (ad 5)])), ((ad 5), .inl (cI, 44, .inl (sT)))] H := hP
  have hD : va_D A [((ad 6), .inr (1, [.ref (ad 0), .ref (ad 1), .ref (ad 2), .ref (ad 4)])), ((ad 0), .inl (cL, 16, .inr (.inl (f)))), ((ad 1), .inl (cL, 2, .inr (.inl (vp_updL (vp_updL (t) (0) (ae_l (ae_sn sn) 0)) (1) (lN 0))))), ((ad 2), .inr (0, [.ref (ad 3)])), ((ad 3), .inl (cI, 44, .inl (sD))), ((ad 4), .inr (0, [.ref (ad 5)])), ((ad 5), .inl (cI, 44, .inl (sT)))] := hD
  refine lv_aload_n hx hb dX1_startTweak_17 rfl (lv_at hl 0 rfl) ?_
  refine va_get (D := (dC, dI)) (ci := 1) (v := .ref (ad 4)) (C := RX1) (T := TX1) (N := 4) hx hb htA inC1 hown hK hP 0 rfl rfl 3 (by decide) (htA _ mS_f23) (fun _ h9 => h9) rfl dX1_startTweak_18 ?_
  refine lv_aload_n hx hb dX1_startTweak_21 rfl (lv_at hl 0 rfl) ?_
  refine va_get (D := (dC, dI)) (ci := 1) (v := .ref (ad 1)) (C := RX1) (T := TX1) (N := 4) hx hb htA inC1 hown hK hP 0 rfl rfl 1 (by decide) (htA _ mS_f13) (fun _ h9 => h9) rfl dX1_startTweak_22 ?_
  refine lv_iconst (v := nI 0) hx hb dX1_startTweak_25 (by decide) ?_
  refine kp_callv (wr := [((ad 6), .inr (1, [.ref (ad 0), .ref (ad 1), .ref (ad 2), .ref (ad 4)])), ((ad 0), .inl (cL, 16, .inr (.inl (f)))), ((ad 2), .inr (0, [.ref (ad 3)])), ((ad 3), .inl (cI, 44, .inl (sD)))]) (nw := fun _u => [((ad 6), .inr (1, [.ref (ad 0), .ref (ad 1), .ref (ad 2), .ref (ad 4)])), ((ad 0), .inl (cL, 16, .inr (.inl (f)))), ((ad 1), .inl (cL, 2, .inr (.inl (vp_updL (vp_updL (vp_updL (vp_updL (t) (0) (ae_l (ae_sn sn) 0)) (1) (lN 0)) 0 (ae_l (ae_enc X (ae_sn sn)) 0)) (0 + 1) (ae_l (ae_enc X (ae_sn sn)) 8))))), ((ad 2), .inr (0, [.ref (ad 3)])), ((ad 3), .inl (cI, 44, .inl (sD))), ((ad 4), .inr (0, [.ref (ad 5)])), ((ad 5), .inl (cI, 44, .inl (sT)))]) (va_runV (As := [.ref (ad 1), .int (nI (0))]) (rest := []) ⟨hx, hb, hml, hown, htA⟩ (c_X0_encipher l dC dI cI cL _ (ad 4) (ad 5) (ad 1) 2 0 tS tI sT (vp_updL (vp_updL (t) (0) (ae_l (ae_sn sn) 0)) (1) (lN 0)) X (ae_sn sn) hBX (ae_sn_lt sn) hsT (by omega) (by omega) ((pk_uLn (by omega)).trans pk_uLs) (pk_uLs.trans (ae_sn8 sn))) (cwV 2 htA (goodC_V mS_l49 mA_instanceMethod_encipher mA_selects_encipher mA_code_encipher mA_initialized) rfl rfl rfl (by decide +kernel) ⟨Nat.le_trans (Nat.le_of_ble_eq_true rfl) hf.1, Nat.le_trans (Nat.le_of_ble_eq_true rfl) hf.2⟩) (kp_preV (wc := [((ad 4), .inr (0, [.ref (ad 5)])), ((ad 5), .inl (cI, 44, .inl (sT))), ((ad 1), .inl (cL, 2, .inr (.inl (vp_updL (vp_updL (t) (0) (ae_l (ae_sn sn) 0)) (1) (lN 0)))))]) (stX_kp tS tI) hX hP hD hK hS hA [5, 6, 2] rfl rfl rfl [0, 1] rfl (q0 := 5) rfl rfl) rfl rfl hl.1 rfl (lv_room (Nat.le_of_ble_eq_true rfl)) dX1_startTweak_26 ⟨hc.1, hc.2⟩) hP hD hS hA [5, 6, 2] [0, 1, 3, 4] rfl rfl rfl (by decide) [0, 1, 6, 2, 3, 4, 5] rfl (fun _ => rfl) (fun _ => rfl) (fun _u H locs _hu hP hD hS => ?_)
  exact kp_retv (vp_updL (vp_updL (vp_updL (vp_updL (t) (0) (ae_l (ae_sn sn) 0)) (1) (lN 0)) 0 (ae_l (ae_enc X (ae_sn sn)) 0)) (0 + 1) (ae_l (ae_enc X (ae_sn sn)) 8)) hx hb hr hlocks ⟨(pk_uLn (by omega)).trans pk_uLs, pk_uLs⟩ hP hD hS dX1_startTweak_29
set_option maxRecDepth 100000 in
set_option maxHeartbeats 4000000 in
theorem c_X1_doubleTweak (l : Launch) (dC : Nat → ClassId) (dI : Nat → Nat → Nat) (cI cL : ClassId) (ad : Nat → Nat) (sz : Nat) (f t : Nat → Int64) (sD sT : Nat → Int32) (T : Nat → Nat) (hB : ae_B T) (h0 : t 0 = ae_l T 0) (h1 : t 1 = ae_l T 8) : kp_Mv l yX1_doubleTweak wsC_X1_doubleTweak { frames := 1, cells := 0, slots := 0, locals := 21 } (dC, dI) mCl [.ref (ad 6)] [((ad 6), .inr (1, [.ref (ad 0), .ref (ad 1), .ref (ad 2), .ref (ad 4)])), ((ad 0), .inl (cL, 16, .inr (.inl (f)))), ((ad 1), .inl (cL, 2, .inr (.inl (t)))), ((ad 2), .inr (0, [.ref (ad 3)])), ((ad 3), .inl (cI, 44, .inl (sD))), ((ad 4), .inr (0, [.ref (ad 5)])), ((ad 5), .inl (cI, 44, .inl (sT)))] [(cI, .int), (cL, .long)] sz kp_T 0 0 (fun u : Nat → Int64 => u 0 = ae_l (ae_db T) 0 ∧ u 1 = ae_l (ae_db T) 8) (fun u => [((ad 6), .inr (1, [.ref (ad 0), .ref (ad 1), .ref (ad 2), .ref (ad 4)])), ((ad 0), .inl (cL, 16, .inr (.inl (f)))), ((ad 1), .inl (cL, 2, .inr (.inl (u)))), ((ad 2), .inr (0, [.ref (ad 3)])), ((ad 3), .inl (cI, 44, .inl (sD))), ((ad 4), .inr (0, [.ref (ad 5)])), ((ad 5), .inl (cI, 44, .inl (sT)))]) := by
  refine kp_ofv (cc := cX1_doubleTweak) (maxL := 9) (ret := none) (by decide) rfl (Nat.le_of_ble_eq_true rfl) ?_
  intro p e s m args below meth c ls A hx hb hr hts hown hlocks hml hnm hA hsz hl hP hD hK hX hS
  have hown : s.vm.findClass RX1 = some m.cls := hown
  have htA : ∀ w ∈ wsC_a, w.before args s = true := fun w h => hts w (List.mem_cons_of_mem _ h)
  have hf : 1 ≤ ({ frames := 1, cells := 0, slots := 0, locals := 21 } : Room).frames ∧ 21 ≤ ({ frames := 1, cells := 0, slots := 0, locals := 21 } : Room).locals := ⟨Nat.le_of_ble_eq_true rfl, Nat.le_of_ble_eq_true rfl⟩
  have hc : 0 ≤ ({ frames := 1, cells := 0, slots := 0, locals := 21 } : Room).cells ∧ 0 ≤ ({ frames := 1, cells := 0, slots := 0, locals := 21 } : Room).slots := ⟨Nat.zero_le _, Nat.zero_le _⟩
  have hl : lv_has ls 9 [(0, .ref (ad 6))] := hl
  have q0 := ae_hf_lt hB 0
  have q8 := ae_hf_lt hB 8
  refine lv_aload_n hx hb dX1_doubleTweak_0 rfl (lv_at hl 0 rfl) ?_
  refine va_get (D := (dC, dI)) (ci := 1) (v := .ref (ad 1)) (C := RX1) (T := TX1) (N := 4) hx hb htA inC1 hown hK hP 0 rfl rfl 1 (by decide) (htA _ mS_f13) (fun _ h9 => h9) rfl dX1_doubleTweak_1 ?_
  refine lv_iconst (v := nI 0) hx hb dX1_doubleTweak_4 (by decide) ?_
  refine xa_lld hx hb hK hP 2 1 rfl rfl (by omega) (by omega) (v := lN (ae_hf T 0)) (h0) dX1_doubleTweak_5 ?_
  refine lv_lstore_n (nL := 9) (lv' := [(1, .long (lN (ae_hf T 0))), (0, .ref (ad 6))]) hx hb dX1_doubleTweak_6 rfl hl (by decide) rfl (fun ls hl => ?_)
  refine lv_aload_n hx hb dX1_doubleTweak_7 rfl (lv_at hl 1 rfl) ?_
  refine va_get (D := (dC, dI)) (ci := 1) (v := .ref (ad 1)) (C := RX1) (T := TX1) (N := 4) hx hb htA inC1 hown hK hP 0 rfl rfl 1 (by decide) (htA _ mS_f13) (fun _ h9 => h9) rfl dX1_doubleTweak_8 ?_
  refine lv_iconst (v := nI 1) hx hb dX1_doubleTweak_11 (by decide) ?_
  refine xa_lld hx hb hK hP 2 1 rfl rfl (by omega) (by omega) (v := lN (ae_hf T 8)) (h1) dX1_doubleTweak_12 ?_
  refine lv_lstore_n (nL := 9) (lv' := [(3, .long (lN (ae_hf T 8))), (1, .long (lN (ae_hf T 0))), (0, .ref (ad 6))]) hx hb dX1_doubleTweak_13 rfl hl (by decide) rfl (fun ls hl => ?_)
  refine lv_lload_n hx hb dX1_doubleTweak_14 rfl (lv_at hl 1 rfl) ?_
  refine lv_bipush (v := nI 7) hx hb dX1_doubleTweak_15 (by decide) ?_
  refine lv_lushr hx hb dX1_doubleTweak_17 rfl ?_
  refine tw_l (y := lN (ae_hf T 0 / 2 ^ 7)) (ln_ushr q0 (by omega)) ?_
  refine lv_lconst (v := lN 1) hx hb dX1_doubleTweak_18 rfl ?_
  refine lv_land hx hb dX1_doubleTweak_19 ?_
  refine tw_l (y := lN (T 7 / 128)) (by rw [show (1 : Nat) = 2 ^ 1 - 1 from rfl, ln_and, Nat.and_two_pow_sub_one_eq_mod, show (2 : Nat) ^ 1 = 2 from rfl, ae_bit7 hB 0]) ?_
  refine lv_lstore (nL := 9) (lv' := [(5, .long (lN (T 7 / 128))), (3, .long (lN (ae_hf T 8))), (1, .long (lN (ae_hf T 0))), (0, .ref (ad 6))]) hx hb dX1_doubleTweak_20 hl (by decide) rfl (fun ls hl => ?_)
  refine lv_lload_n hx hb dX1_doubleTweak_22 rfl (lv_at hl 1 rfl) ?_
  refine lv_bipush (v := nI 7) hx hb dX1_doubleTweak_23 (by decide) ?_
  refine lv_lushr hx hb dX1_doubleTweak_25 rfl ?_
  refine tw_l (y := lN (ae_hf T 8 / 2 ^ 7)) (ln_ushr q8 (by omega)) ?_
  refine lv_lconst (v := lN 1) hx hb dX1_doubleTweak_26 rfl ?_
  refine lv_land hx hb dX1_doubleTweak_27 ?_
  refine tw_l (y := lN (T 15 / 128)) (by rw [show (1 : Nat) = 2 ^ 1 - 1 from rfl, ln_and, Nat.and_two_pow_sub_one_eq_mod, show (2 : Nat) ^ 1 = 2 from rfl, ae_bit7 hB 8]) ?_
  refine lv_lstore (nL := 9) (lv' := [(7, .long (lN (T 15 / 128))), (5, .long (lN (T 7 / 128))), (3, .long (lN (ae_hf T 8))), (1, .long (lN (ae_hf T 0))), (0, .ref (ad 6))]) hx hb dX1_doubleTweak_28 hl (by decide) rfl (fun ls hl => ?_)
  refine lv_aload_n hx hb dX1_doubleTweak_30 rfl (lv_at hl 4 rfl) ?_
  refine va_get (D := (dC, dI)) (ci := 1) (v := .ref (ad 1)) (C := RX1) (T := TX1) (N := 4) hx hb htA inC1 hown hK hP 0 rfl rfl 1 (by decide) (htA _ mS_f13) (fun _ h9 => h9) rfl dX1_doubleTweak_31 ?_
  refine lv_iconst (v := nI 0) hx hb dX1_doubleTweak_34 (by decide) ?_
  refine lv_lload_n hx hb dX1_doubleTweak_35 rfl (lv_at hl 3 rfl) ?_
  refine kp_purel (v := ae_l (ae_d8 T 0) 0) (va_runS (As := [.long (ae_l T 0)]) (rest := [.int (nI (0)), .ref (ad 1)]) ⟨hx, hb, hml, hown, htA⟩ (c_X1_doubleBytes l dC dI _ T hB 0) (va_cwS 1 htA (goodC_S mS_l67 mS_static_doubleBytes mS_code_doubleBytes mS_initialized) rfl rfl rfl (by decide +kernel) ⟨Nat.le_trans (Nat.le_of_ble_eq_true rfl) hf.1, Nat.le_trans (Nat.le_of_ble_eq_true rfl) hf.2⟩) (kp_preS (wc := []) kp_XT trivial hP hD hK hS hA [] rfl rfl rfl [] rfl) rfl rfl hl.1 rfl (lv_room (Nat.le_of_ble_eq_true rfl)) dX1_doubleTweak_36 ⟨hc.1, hc.2⟩) hP hS hA (fun H locs hP hS => ?_)
  refine lv_lload hx hb dX1_doubleTweak_39 (lv_at hl 0 rfl) ?_
  refine lv_ldc2 hx hb hown (htA _ mS_k71) dX1_doubleTweak_41 ?_
  refine tw_l (y := lN 135) (by decide) ?_
  refine lv_lmul hx hb dX1_doubleTweak_44 ?_
  refine tw_l (y := lN (T 15 / 128 * 135)) (lN_mul _ _) ?_
  refine lv_bipush (v := nI 56) hx hb dX1_doubleTweak_45 (by decide) ?_
  refine lv_lshl hx hb dX1_doubleTweak_47 rfl ?_
  refine tw_l (y := lN (T 15 / 128 * 135 * 2 ^ 56)) (ln_shl _ (by omega)) ?_
  refine lv_lxor hx hb dX1_doubleTweak_48 ?_
  refine tw_l (y := ae_l (ae_db T) 0) (ae_dt0 hB) ?_
  refine xa_lst hx hb hK hP hD hS 2 1 rfl rfl (by omega) (by omega) dX1_doubleTweak_49 (fun H locs hP hD hS => ?_)
  have hP : va_P (dC, dI) mCl [((ad 6), .inr (1, [.ref (ad 0), .ref (ad 1), .ref (ad 2), .ref (ad 4)])), ((ad 0), .inl (cL, 16, .inr (.inl (f)))), ((ad 1), .inl (cL, 2, .inr (.inl (vp_updL (t) (0) (ae_l (ae_db T) 0))))), ((ad 2), .inr (0, [.ref (ad 3)])), ((ad 3), .inl (cI, 44, .inl (sD))), ((ad 4), .inr (0, [.ref (ad 5)])), ((ad 5), .inl (cI, 44, .inl (sT)))] H := hP
  have hD : va_D A [((ad 6), .inr (1, [.ref (ad 0), .ref (ad 1), .ref (ad 2), .ref (ad 4)])), ((ad 0), .inl (cL, 16, .inr (.inl (f)))), ((ad 1), .inl (cL, 2, .inr (.inl (vp_updL (t) (0) (ae_l (ae_db T) 0))))), ((ad 2), .inr (0, [.ref (ad 3)])), ((ad 3), .inl (cI, 44, .inl (sD))), ((ad 4), .inr (0, [.ref (ad 5)])), ((ad 5), .inl (cI, 44, .inl (sT)))] := hD
  refine lv_aload_n hx hb dX1_doubleTweak_50 rfl (lv_at hl 4 rfl) ?_
  refine va_get (D := (dC, dI)) (ci := 1) (v := .ref (ad 1)) (C := RX1) (T := TX1) (N := 4) hx hb htA inC1 hown hK hP 0 rfl rfl 1 (by decide) (htA _ mS_f13) (fun _ h9 => h9) rfl dX1_doubleTweak_51 ?_
  refine lv_iconst (v := nI 1) hx hb dX1_doubleTweak_54 (by decide) ?_
  refine lv_lload_n hx hb dX1_doubleTweak_55 rfl (lv_at hl 2 rfl) ?_
  refine kp_purel (v := ae_l (ae_d8 T 8) 0) (va_runS (As := [.long (ae_l T 8)]) (rest := [.int (nI (1)), .ref (ad 1)]) ⟨hx, hb, hml, hown, htA⟩ (c_X1_doubleBytes l dC dI _ T hB 8) (va_cwS 1 htA (goodC_S mS_l67 mS_static_doubleBytes mS_code_doubleBytes mS_initialized) rfl rfl rfl (by decide +kernel) ⟨Nat.le_trans (Nat.le_of_ble_eq_true rfl) hf.1, Nat.le_trans (Nat.le_of_ble_eq_true rfl) hf.2⟩) (kp_preS (wc := []) kp_XT trivial hP hD hK hS hA [] rfl rfl rfl [] rfl) rfl rfl hl.1 rfl (lv_room (Nat.le_of_ble_eq_true rfl)) dX1_doubleTweak_56 ⟨hc.1, hc.2⟩) hP hS hA (fun H locs hP hS => ?_)
  refine lv_lload hx hb dX1_doubleTweak_59 (lv_at hl 1 rfl) ?_
  refine lv_bipush (v := nI 56) hx hb dX1_doubleTweak_61 (by decide) ?_
  refine lv_lshl hx hb dX1_doubleTweak_63 rfl ?_
  refine tw_l (y := lN (T 7 / 128 * 2 ^ 56)) (ln_shl _ (by omega)) ?_
  refine lv_lxor hx hb dX1_doubleTweak_64 ?_
  refine tw_l (y := ae_l (ae_db T) 8) (ae_dt1 hB) ?_
  refine xa_lst hx hb hK hP hD hS 2 1 rfl rfl (by omega) (by omega) dX1_doubleTweak_65 (fun H locs hP hD hS => ?_)
  have hP : va_P (dC, dI) mCl [((ad 6), .inr (1, [.ref (ad 0), .ref (ad 1), .ref (ad 2), .ref (ad 4)])), ((ad 0), .inl (cL, 16, .inr (.inl (f)))), ((ad 1), .inl (cL, 2, .inr (.inl (vp_updL (vp_updL (t) (0) (ae_l (ae_db T) 0)) (1) (ae_l (ae_db T) 8))))), ((ad 2), .inr (0, [.ref (ad 3)])), ((ad 3), .inl (cI, 44, .inl (sD))), ((ad 4), .inr (0, [.ref (ad 5)])), ((ad 5), .inl (cI, 44, .inl (sT)))] H := hP
  have hD : va_D A [((ad 6), .inr (1, [.ref (ad 0), .ref (ad 1), .ref (ad 2), .ref (ad 4)])), ((ad 0), .inl (cL, 16, .inr (.inl (f)))), ((ad 1), .inl (cL, 2, .inr (.inl (vp_updL (vp_updL (t) (0) (ae_l (ae_db T) 0)) (1) (ae_l (ae_db T) 8))))), ((ad 2), .inr (0, [.ref (ad 3)])), ((ad 3), .inl (cI, 44, .inl (sD))), ((ad 4), .inr (0, [.ref (ad 5)])), ((ad 5), .inl (cI, 44, .inl (sT)))] := hD
  exact kp_retv (vp_updL (vp_updL (t) (0) (ae_l (ae_db T) 0)) (1) (ae_l (ae_db T) 8)) hx hb hr hlocks ⟨(pk_uLn (by omega)).trans pk_uLs, pk_uLs⟩ hP hD hS dX1_doubleTweak_66
set_option maxRecDepth 100000 in
set_option maxHeartbeats 4000000 in
theorem c_X1_key (l : Launch) (dC : Nat → ClassId) (dI : Nat → Nat → Nat) (cI cL : ClassId) (ad : Nat → Nat) (sz tS tI : Nat) (f t : Nat → Int64) (sD sT : Nat → Int32) (KEY : Nat → Nat) (hB : ae_B KEY) : kp_Mv l yX1_key wsC_X1_key { frames := 2, cells := 0, slots := 0, locals := 52 } (dC, dI) mCl [.ref (ad 6), .long (ae_l KEY 0), .long (ae_l KEY 8), .long (ae_l KEY 16), .long (ae_l KEY 24)] [((ad 6), .inr (1, [.ref (ad 0), .ref (ad 1), .ref (ad 2), .ref (ad 4)])), ((ad 0), .inl (cL, 16, .inr (.inl (f)))), ((ad 1), .inl (cL, 2, .inr (.inl (t)))), ((ad 2), .inr (0, [.ref (ad 3)])), ((ad 3), .inl (cI, 44, .inl (sD))), ((ad 4), .inr (0, [.ref (ad 5)])), ((ad 5), .inl (cI, 44, .inl (sT)))] [(cI, .int), (cL, .long)] sz (st_X tS tI) 0 0 (fun u : (Nat → Int32) × (Nat → Int32) => (∀ i, i < 44 → u.1 i = ae_wf (ae_kx (ae_at KEY (16 * 0))) (4 * i)) ∧ (∀ i, i < 44 → u.2 i = ae_wf (ae_kx (ae_at KEY (16 * 1))) (4 * i))) (fun u => [((ad 6), .inr (1, [.ref (ad 0), .ref (ad 1), .ref (ad 2), .ref (ad 4)])), ((ad 0), .inl (cL, 16, .inr (.inl (f)))), ((ad 1), .inl (cL, 2, .inr (.inl (t)))), ((ad 2), .inr (0, [.ref (ad 3)])), ((ad 3), .inl (cI, 44, .inl (u.1))), ((ad 4), .inr (0, [.ref (ad 5)])), ((ad 5), .inl (cI, 44, .inl (u.2)))]) := by
  refine kp_ofv (cc := cX1_key) (maxL := 9) (ret := none) (by decide) rfl (Nat.le_of_ble_eq_true rfl) ?_
  intro p e s m args below meth c ls A hx hb hr hts hown hlocks hml hnm hA hsz hl hP hD hK hX hS
  have hown : s.vm.findClass RX1 = some m.cls := hown
  have htA : ∀ w ∈ wsC_a, w.before args s = true := fun w h => hts w (List.mem_cons_of_mem _ h)
  have hf : 2 ≤ ({ frames := 2, cells := 0, slots := 0, locals := 52 } : Room).frames ∧ 52 ≤ ({ frames := 2, cells := 0, slots := 0, locals := 52 } : Room).locals := ⟨Nat.le_of_ble_eq_true rfl, Nat.le_of_ble_eq_true rfl⟩
  have hc : 0 ≤ ({ frames := 2, cells := 0, slots := 0, locals := 52 } : Room).cells ∧ 0 ≤ ({ frames := 2, cells := 0, slots := 0, locals := 52 } : Room).slots := ⟨Nat.zero_le _, Nat.zero_le _⟩
  have hl : lv_has ls 9 [(0, .ref (ad 6)), (1, .long (ae_l KEY 0)), (3, .long (ae_l KEY 8)), (5, .long (ae_l KEY 16)), (7, .long (ae_l KEY 24))] := hl
  refine lv_aload_n hx hb dX1_key_0 rfl (lv_at hl 0 rfl) ?_
  refine va_get (D := (dC, dI)) (ci := 1) (v := .ref (ad 2)) (C := RX1) (T := TX1) (N := 4) hx hb htA inC1 hown hK hP 0 rfl rfl 2 (by decide) (htA _ mS_f19) (fun _ h9 => h9) rfl dX1_key_1 ?_
  refine lv_lload_n hx hb dX1_key_4 rfl (lv_at hl 1 rfl) ?_
  refine tw_l (y := ae_l (ae_at KEY (16 * 0)) 0) ((ae_l_at2 KEY (16 * 0) 0).symm) ?_
  refine lv_lload_n hx hb dX1_key_5 rfl (lv_at hl 2 rfl) ?_
  refine tw_l (y := ae_l (ae_at KEY (16 * 0)) 8) ((ae_l_at2 KEY (16 * 0) 8).symm) ?_
  refine kp_callv (wr := [((ad 6), .inr (1, [.ref (ad 0), .ref (ad 1), .ref (ad 2), .ref (ad 4)])), ((ad 0), .inl (cL, 16, .inr (.inl (f)))), ((ad 1), .inl (cL, 2, .inr (.inl (t)))), ((ad 4), .inr (0, [.ref (ad 5)])), ((ad 5), .inl (cI, 44, .inl (sT)))]) (nw := fun x1 => [((ad 6), .inr (1, [.ref (ad 0), .ref (ad 1), .ref (ad 2), .ref (ad 4)])), ((ad 0), .inl (cL, 16, .inr (.inl (f)))), ((ad 1), .inl (cL, 2, .inr (.inl (t)))), ((ad 2), .inr (0, [.ref (ad 3)])), ((ad 3), .inl (cI, 44, .inl (x1))), ((ad 4), .inr (0, [.ref (ad 5)])), ((ad 5), .inl (cI, 44, .inl (sT)))]) (va_runV (As := [.long (ae_l (ae_at KEY (16 * 0)) 0), .long (ae_l (ae_at KEY (16 * 0)) 8)]) (rest := []) ⟨hx, hb, hml, hown, htA⟩ (c_X0_expand l dC dI cI _ (ad 2) (ad 3) tS tI sD (ae_at KEY (16 * 0)) (ae_at_lt hB _)) (cwV 2 htA (goodC_V mS_l26 mA_instanceMethod_expand mA_selects_expand mA_code_expand mA_initialized) rfl rfl rfl (by decide +kernel) ⟨Nat.le_trans (Nat.le_of_ble_eq_true rfl) hf.1, Nat.le_trans (Nat.le_of_ble_eq_true rfl) hf.2⟩) (kp_preV (wc := [((ad 2), .inr (0, [.ref (ad 3)])), ((ad 3), .inl (cI, 44, .inl (sD)))]) (stX_kp tS tI) hX hP hD hK hS hA [3, 4] rfl rfl rfl [0] rfl (q0 := 3) rfl rfl) rfl rfl hl.1 rfl (lv_room (Nat.le_of_ble_eq_true rfl)) dX1_key_6 ⟨hc.1, hc.2⟩) hP hD hS hA [3, 4] [0, 1, 2, 5, 6] rfl rfl rfl (by decide) [0, 1, 2, 5, 6, 3, 4] rfl (fun _ => rfl) (fun _ => rfl) (fun x1 H locs h1 hP hD hS => ?_)
  refine lv_aload_n hx hb dX1_key_9 rfl (lv_at hl 0 rfl) ?_
  refine va_get (D := (dC, dI)) (ci := 1) (v := .ref (ad 4)) (C := RX1) (T := TX1) (N := 4) hx hb htA inC1 hown hK hP 0 rfl rfl 3 (by decide) (htA _ mS_f23) (fun _ h9 => h9) rfl dX1_key_10 ?_
  refine lv_lload hx hb dX1_key_13 (lv_at hl 3 rfl) ?_
  refine tw_l (y := ae_l (ae_at KEY (16 * 1)) 0) ((ae_l_at2 KEY (16 * 1) 0).symm) ?_
  refine lv_lload hx hb dX1_key_15 (lv_at hl 4 rfl) ?_
  refine tw_l (y := ae_l (ae_at KEY (16 * 1)) 8) ((ae_l_at2 KEY (16 * 1) 8).symm) ?_
  refine kp_callv (wr := [((ad 6), .inr (1, [.ref (ad 0), .ref (ad 1), .ref (ad 2), .ref (ad 4)])), ((ad 0), .inl (cL, 16, .inr (.inl (f)))), ((ad 1), .inl (cL, 2, .inr (.inl (t)))), ((ad 2), .inr (0, [.ref (ad 3)])), ((ad 3), .inl (cI, 44, .inl (x1)))]) (nw := fun x2 => [((ad 6), .inr (1, [.ref (ad 0), .ref (ad 1), .ref (ad 2), .ref (ad 4)])), ((ad 0), .inl (cL, 16, .inr (.inl (f)))), ((ad 1), .inl (cL, 2, .inr (.inl (t)))), ((ad 2), .inr (0, [.ref (ad 3)])), ((ad 3), .inl (cI, 44, .inl (x1))), ((ad 4), .inr (0, [.ref (ad 5)])), ((ad 5), .inl (cI, 44, .inl (x2)))]) (va_runV (As := [.long (ae_l (ae_at KEY (16 * 1)) 0), .long (ae_l (ae_at KEY (16 * 1)) 8)]) (rest := []) ⟨hx, hb, hml, hown, htA⟩ (c_X0_expand l dC dI cI _ (ad 4) (ad 5) tS tI sT (ae_at KEY (16 * 1)) (ae_at_lt hB _)) (cwV 2 htA (goodC_V mS_l26 mA_instanceMethod_expand mA_selects_expand mA_code_expand mA_initialized) rfl rfl rfl (by decide +kernel) ⟨Nat.le_trans (Nat.le_of_ble_eq_true rfl) hf.1, Nat.le_trans (Nat.le_of_ble_eq_true rfl) hf.2⟩) (kp_preV (wc := [((ad 4), .inr (0, [.ref (ad 5)])), ((ad 5), .inl (cI, 44, .inl (sT)))]) (stX_kp tS tI) hX hP hD hK hS hA [5, 6] rfl rfl rfl [0] rfl (q0 := 5) rfl rfl) rfl rfl hl.1 rfl (lv_room (Nat.le_of_ble_eq_true rfl)) dX1_key_17 ⟨hc.1, hc.2⟩) hP hD hS hA [5, 6] [0, 1, 2, 3, 4] rfl rfl rfl (by decide) [0, 1, 2, 3, 4, 5, 6] rfl (fun _ => rfl) (fun _ => rfl) (fun x2 H locs h2 hP hD hS => ?_)
  exact kp_retv (x1, x2) hx hb hr hlocks ⟨h1, h2⟩ hP hD hS dX1_key_20
