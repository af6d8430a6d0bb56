/-! the reference: key, put, get, sum, block -/
def ae_k4 (a b c d : Nat) (k : Nat) : Nat := if k < 8 then ae_by a k else if k < 16 then ae_by b (k - 8) else if k < 24 then ae_by c (k - 16) else ae_by d (k - 24)
theorem ae_k4_lt (a b c d : Nat) : ae_B (ae_k4 a b c d) := fun k => by
  unfold ae_k4
  split
  · exact ae_by_lt _ _
  · split
    · exact ae_by_lt _ _
    · split <;> exact ae_by_lt _ _
theorem ae_l_at (S : Nat → Nat) (i : Nat) : ae_l (ae_at S i) 0 = ae_l S i := congrArg lN (ae_hf_c (fun k _ => by unfold ae_at; rw [Nat.zero_add]))
def ae_sx (S : Nat → Nat) : Nat → Int64
  | 0 => lN 0
  | n + 1 => ae_sx S n ^^^ ae_l S (8 * n)
/-- eight bytes laid into a row -/
theorem li_lay {N i n : Nat} {f g : Nat → Int32} {S : Nat → Nat} (h : li_ag N f S) (h1 : ∀ k, k < 8 → g (i + k) = nI (ae_by n k)) (h2 : ∀ k, k < i ∨ i + 8 ≤ k → g k = f k) : li_ag N g (ae_pt S i 8 (ae_by n)) := fun k hk => by
  unfold ae_pt
  by_cases c : i ≤ k ∧ k < i + 8
  · rw [if_pos c]
    have := h1 (k - i) (by omega)
    rwa [show i + (k - i) = k by omega] at this
  · rw [if_neg c, h2 k (by omega)]; exact h k hk
theorem li_pt {N i : Nat} {f g : Nat → Int32} {S T : Nat → Nat} (h : li_ag N f S) (h1 : ∀ k, k < 16 → g (i + k) = nI (T k)) (h2 : ∀ k, k < i ∨ i + 16 ≤ k → g k = f k) : li_ag N g (ae_pt S i 16 T) := fun k hk => by
  unfold ae_pt
  by_cases c : i ≤ k ∧ k < i + 16
  · rw [if_pos c]
    have := h1 (k - i) (by omega)
    rwa [show i + (k - i) = k by omega] at this
  · rw [if_neg c, h2 k (by omega)]; exact h k hk
set_option maxRecDepth 100000 in
set_option maxHeartbeats 4000000 in
theorem c_key (l : Launch) (dC : Nat → ClassId) (dI : Nat → Nat → Nat) (cI : ClassId) (ad : Nat → Nat) (th : Int32) (f0 f1 f2 f3 f4 f5 f6 f7 : Nat → Int32) (sz : Nat) (a b c9 d : Nat) (ha : a < 18446744073709551616) (hb2 : b < 18446744073709551616) (hc2 : c9 < 18446744073709551616) (hd : d < 18446744073709551616) : kp_Mv l yM_key wsM_key { frames := 1, cells := 0, slots := 0, locals := 24 } (dC, dI) mCl [.ref (ad 8), .long (lN a), .long (lN b), .long (lN c9), .long (lN d)] (wM cI ad (th) (f0) (f1) (f2) (f3) (f4) (f5) (f6) (f7)) [(cI, .int)] sz kp_T 0 0 (fun u : Nat → Int32 => li_ag 32 u (ae_k4 a b c9 d)) (fun u => (wM cI ad (nI 0) (u) (f1) (f2) (f3) (f4) (f5) (f6) (f7))) := by
  refine kp_ofv (cc := cM_key) (maxL := 9) (ret := none) (by decide) rfl (Nat.le_of_ble_eq_true rfl) ?_
  intro p e s m args below meth c ls A hx hb hr hts hown hlocks hml hnm hA hsz hl hP hD hK hX hS
  have hown : s.vm.findClass RM = some m.cls := hown
  have htA : ∀ w ∈ wsM_a, w.before args s = true := fun w h => hts w (List.mem_cons_of_mem _ h)
  have hf : 1 ≤ ({ frames := 1, cells := 0, slots := 0, locals := 24 } : Room).frames ∧ 24 ≤ ({ frames := 1, cells := 0, slots := 0, locals := 24 } : Room).locals := ⟨Nat.le_of_ble_eq_true rfl, Nat.le_of_ble_eq_true rfl⟩
  have hc : 0 ≤ ({ frames := 1, cells := 0, slots := 0, locals := 24 } : Room).cells ∧ 0 ≤ ({ frames := 1, cells := 0, slots := 0, locals := 24 } : Room).slots := ⟨Nat.zero_le _, Nat.zero_le _⟩
  have hl : lv_has ls 9 [(0, .ref (ad 8)), (1, .long (lN a)), (3, .long (lN b)), (5, .long (lN c9)), (7, .long (lN d))] := hl
  refine lv_aload_n hx hb dM_key_0 rfl (lv_at hl 0 rfl) ?_
  refine lv_iconst (v := nI 0) hx hb dM_key_1 (by decide) ?_
  refine va_put (D := (dC, dI)) (ci := 2) (v := .int (nI (0))) (ty := .int) (C := RM) (T := TM) (N := 9) hx hb htA inM0 tyM tyM_ok nmM hown hK hP hD hS 0 rfl rfl 8 (by decide) (htA _ mM_f38) (fun _ h9 => h9) rfl (by decide +kernel) rfl rfl (Nat.le_of_ble_eq_true rfl) dM_key_2 (fun H locs hP hD hS => ?_)
  have hP : va_P (dC, dI) mCl (wM cI ad (nI (0)) (f0) (f1) (f2) (f3) (f4) (f5) (f6) (f7)) H := hP
  have hD : va_D A (wM cI ad (nI (0)) (f0) (f1) (f2) (f3) (f4) (f5) (f6) (f7)) := hD
  refine lv_aload_n hx hb dM_key_5 rfl (lv_at hl 0 rfl) ?_
  refine va_get (D := (dC, dI)) (ci := 2) (v := .ref (ad 0)) (C := RM) (T := TM) (N := 9) hx hb htA inM0 hown hK hP 0 rfl rfl 0 (by decide) (htA _ mM_f7) (fun _ h9 => h9) rfl dM_key_6 ?_
  refine lv_iconst (v := nI 0) hx hb dM_key_9 (by decide) ?_
  refine lv_lload_n hx hb dM_key_10 rfl (lv_at hl 1 rfl) ?_
  refine kp_callv (wr := [((ad 8), .inr (2, [.ref (ad 0), .ref (ad 1), .ref (ad 2), .ref (ad 3), .ref (ad 4), .ref (ad 5), .ref (ad 6), .ref (ad 7), .int (nI (0))])), ((ad 1), .inl (cI, 128, .inl (f1))), ((ad 2), .inl (cI, 256, .inl (f2))), ((ad 3), .inl (cI, 256, .inl (f3))), ((ad 4), .inl (cI, 176, .inl (f4))), ((ad 5), .inl (cI, 16, .inl (f5))), ((ad 6), .inl (cI, 16, .inl (f6))), ((ad 7), .inl (cI, 16, .inl (f7)))]) (nw := fun g0 => (wM cI ad (nI (0)) (g0) (f1) (f2) (f3) (f4) (f5) (f6) (f7))) (va_runS (As := [.ref (ad 0), .int (nI (0)), .long (lN a)]) (rest := []) ⟨hx, hb, hml, hown, htA⟩ (c_lay l dC dI cI H.size (ad 0) 32 0 a (f0) (by omega) (by omega) ha) (va_cwS 3 htA (goodM_S mM_l46 mM_static_lay mM_code_lay) rfl rfl rfl (by decide +kernel) ⟨Nat.le_trans (Nat.le_of_ble_eq_true rfl) hf.1, Nat.le_trans (Nat.le_of_ble_eq_true rfl) hf.2⟩) (kp_preS (wc := [((ad 0), .inl (cI, 32, .inl (f0)))]) kp_XT trivial hP hD hK hS hA [1] rfl rfl rfl [0] rfl) rfl rfl hl.1 rfl (lv_room (Nat.le_of_ble_eq_true rfl)) dM_key_11 ⟨hc.1, hc.2⟩) hP hD hS hA [1] [0, 2, 3, 4, 5, 6, 7, 8] rfl rfl rfl (by decide) [0, 8, 1, 2, 3, 4, 5, 6, 7] rfl (fun _ => rfl) (fun _ => rfl) (fun g0 H locs h0 hP hD hS => ?_)
  refine lv_aload_n hx hb dM_key_14 rfl (lv_at hl 0 rfl) ?_
  refine va_get (D := (dC, dI)) (ci := 2) (v := .ref (ad 0)) (C := RM) (T := TM) (N := 9) hx hb htA inM0 hown hK hP 0 rfl rfl 0 (by decide) (htA _ mM_f7) (fun _ h9 => h9) rfl dM_key_15 ?_
  refine lv_bipush (v := nI 8) hx hb dM_key_18 (by decide) ?_
  refine lv_lload_n hx hb dM_key_20 rfl (lv_at hl 2 rfl) ?_
  refine kp_callv (wr := [((ad 8), .inr (2, [.ref (ad 0), .ref (ad 1), .ref (ad 2), .ref (ad 3), .ref (ad 4), .ref (ad 5), .ref (ad 6), .ref (ad 7), .int (nI (0))])), ((ad 1), .inl (cI, 128, .inl (f1))), ((ad 2), .inl (cI, 256, .inl (f2))), ((ad 3), .inl (cI, 256, .inl (f3))), ((ad 4), .inl (cI, 176, .inl (f4))), ((ad 5), .inl (cI, 16, .inl (f5))), ((ad 6), .inl (cI, 16, .inl (f6))), ((ad 7), .inl (cI, 16, .inl (f7)))]) (nw := fun g1 => (wM cI ad (nI (0)) (g1) (f1) (f2) (f3) (f4) (f5) (f6) (f7))) (va_runS (As := [.ref (ad 0), .int (nI (8)), .long (lN b)]) (rest := []) ⟨hx, hb, hml, hown, htA⟩ (c_lay l dC dI cI H.size (ad 0) 32 8 b (g0) (by omega) (by omega) hb2) (va_cwS 3 htA (goodM_S mM_l46 mM_static_lay mM_code_lay) rfl rfl rfl (by decide +kernel) ⟨Nat.le_trans (Nat.le_of_ble_eq_true rfl) hf.1, Nat.le_trans (Nat.le_of_ble_eq_true rfl) hf.2⟩) (kp_preS (wc := [((ad 0), .inl (cI, 32, .inl (g0)))]) kp_XT trivial hP hD hK hS hA [1] rfl rfl rfl [0] rfl) rfl rfl hl.1 rfl (lv_room (Nat.le_of_ble_eq_true rfl)) dM_key_21 ⟨hc.1, hc.2⟩) hP hD hS hA [1] [0, 2, 3, 4, 5, 6, 7, 8] rfl rfl rfl (by decide) [0, 8, 1, 2, 3, 4, 5, 6, 7] rfl (fun _ => rfl) (fun _ => rfl) (fun g1 H locs h1 hP hD hS => ?_)
  refine lv_aload_n hx hb dM_key_24 rfl (lv_at hl 0 rfl) ?_
  refine va_get (D := (dC, dI)) (ci := 2) (v := .ref (ad 0)) (C := RM) (T := TM) (N := 9) hx hb htA inM0 hown hK hP 0 rfl rfl 0 (by decide) (htA _ mM_f7) (fun _ h9 => h9) rfl dM_key_25 ?_
  refine lv_bipush (v := nI 16) hx hb dM_key_28 (by decide) ?_
  refine lv_lload hx hb dM_key_30 (lv_at hl 3 rfl) ?_
  refine kp_callv (wr := [((ad 8), .inr (2, [.ref (ad 0), .ref (ad 1), .ref (ad 2), .ref (ad 3), .ref (ad 4), .ref (ad 5), .ref (ad 6), .ref (ad 7), .int (nI (0))])), ((ad 1), .inl (cI, 128, .inl (f1))), ((ad 2), .inl (cI, 256, .inl (f2))), ((ad 3), .inl (cI, 256, .inl (f3))), ((ad 4), .inl (cI, 176, .inl (f4))), ((ad 5), .inl (cI, 16, .inl (f5))), ((ad 6), .inl (cI, 16, .inl (f6))), ((ad 7), .inl (cI, 16, .inl (f7)))]) (nw := fun g2 => (wM cI ad (nI (0)) (g2) (f1) (f2) (f3) (f4) (f5) (f6) (f7))) (va_runS (As := [.ref (ad 0), .int (nI (16)), .long (lN c9)]) (rest := []) ⟨hx, hb, hml, hown, htA⟩ (c_lay l dC dI cI H.size (ad 0) 32 16 c9 (g1) (by omega) (by omega) hc2) (va_cwS 3 htA (goodM_S mM_l46 mM_static_lay mM_code_lay) rfl rfl rfl (by decide +kernel) ⟨Nat.le_trans (Nat.le_of_ble_eq_true rfl) hf.1, Nat.le_trans (Nat.le_of_ble_eq_true rfl) hf.2⟩) (kp_preS (wc := [((ad 0), .inl (cI, 32, .inl (g1)))]) kp_XT trivial hP hD hK hS hA [1] rfl rfl rfl [0] rfl) rfl rfl hl.1 rfl (lv_room (Nat.le_of_ble_eq_true rfl)) dM_key_32 ⟨hc.1, hc.2⟩) hP hD hS hA [1] [0, 2, 3, 4, 5, 6, 7, 8] rfl rfl rfl (by decide) [0, 8, 1, 2, 3, 4, 5, 6, 7] rfl (fun _ => rfl) (fun _ => rfl) (fun g2 H locs h2 hP hD hS => ?_)
  refine lv_aload_n hx hb dM_key_35 rfl (lv_at hl 0 rfl) ?_
  refine va_get (D := (dC, dI)) (ci := 2) (v := .ref (ad 0)) (C := RM) (T := TM) (N := 9) hx hb htA inM0 hown hK hP 0 rfl rfl 0 (by decide) (htA _ mM_f7) (fun _ h9 => h9) rfl dM_key_36 ?_
  refine lv_bipush (v := nI 24) hx hb dM_key_39 (by decide) ?_
  refine lv_lload hx hb dM_key_41 (lv_at hl 4 rfl) ?_
  refine kp_callv (wr := [((ad 8), .inr (2, [.ref (ad 0), .ref (ad 1), .ref (ad 2), .ref (ad 3), .ref (ad 4), .ref (ad 5), .ref (ad 6), .ref (ad 7), .int (nI (0))])), ((ad 1), .inl (cI, 128, .inl (f1))), ((ad 2), .inl (cI, 256, .inl (f2))), ((ad 3), .inl (cI, 256, .inl (f3))), ((ad 4), .inl (cI, 176, .inl (f4))), ((ad 5), .inl (cI, 16, .inl (f5))), ((ad 6), .inl (cI, 16, .inl (f6))), ((ad 7), .inl (cI, 16, .inl (f7)))]) (nw := fun g3 => (wM cI ad (nI (0)) (g3) (f1) (f2) (f3) (f4) (f5) (f6) (f7))) (va_runS (As := [.ref (ad 0), .int (nI (24)), .long (lN d)]) (rest := []) ⟨hx, hb, hml, hown, htA⟩ (c_lay l dC dI cI H.size (ad 0) 32 24 d (g2) (by omega) (by omega) hd) (va_cwS 3 htA (goodM_S mM_l46 mM_static_lay mM_code_lay) rfl rfl rfl (by decide +kernel) ⟨Nat.le_trans (Nat.le_of_ble_eq_true rfl) hf.1, Nat.le_trans (Nat.le_of_ble_eq_true rfl) hf.2⟩) (kp_preS (wc := [((ad 0), .inl (cI, 32, .inl (g2)))]) kp_XT trivial hP hD hK hS hA [1] rfl rfl rfl [0] rfl) rfl rfl hl.1 rfl (lv_room (Nat.le_of_ble_eq_true rfl)) dM_key_43 ⟨hc.1, hc.2⟩) hP hD hS hA [1] [0, 2, 3, 4, 5, 6, 7, 8] rfl rfl rfl (by decide) [0, 8, 1, 2, 3, 4, 5, 6, 7] rfl (fun _ => rfl) (fun _ => rfl) (fun g3 H locs h3 hP hD hS => ?_)
  refine kp_retv g3 hx hb hr hlocks (fun k hk => ?_) hP hD hS dM_key_46
  show g3 k = nI (ae_k4 a b c9 d k)
  unfold ae_k4
  by_cases c1 : k < 8
  · rw [if_pos c1, h3.2 k (by omega), h2.2 k (by omega), h1.2 k (by omega)]
    have := h0.1 k c1
    rwa [Nat.zero_add] at this
  · rw [if_neg c1]
    by_cases c2 : k < 16
    · rw [if_pos c2, h3.2 k (by omega), h2.2 k (by omega)]
      have := h1.1 (k - 8) (by omega)
      rwa [show 8 + (k - 8) = k by omega] at this
    · rw [if_neg c2]
      by_cases c3 : k < 24
      · rw [if_pos c3, h3.2 k (by omega)]
        have := h2.1 (k - 16) (by omega)
        rwa [show 16 + (k - 16) = k by omega] at this
      · rw [if_neg c3]
        have := h3.1 (k - 24) (by omega)
        rwa [show 24 + (k - 24) = k by omega] at this
set_option maxRecDepth 100000 in
set_option maxHeartbeats 4000000 in
theorem c_put_t (l : Launch) (dC : Nat → ClassId) (dI : Nat → Nat → Nat) (cI : ClassId) (ad : Nat → Nat) (th : Int32) (f0 f1 f2 f3 f4 f5 f6 f7 : Nat → Int32) (sz : Nat) (n : Nat) (hn : n < 18446744073709551616) (SEC : Nat → Nat) (hBS : ae_B SEC) (hk1 : li_ag 128 f1 SEC) (i : Nat) (hi : i < 16) : kp_Ml l yM_put wsM_put { frames := 1, cells := 0, slots := 0, locals := 24 } (dC, dI) mCl [.ref (ad 8), .int (nI i), .long (lN n)] (wM cI ad (th) (f0) (f1) (f2) (f3) (f4) (f5) (f6) (f7)) [(cI, .int)] sz kp_T (fun (r : Int64) (u : Nat → Int32) => r = ae_l SEC (8 * i) ∧ li_ag 128 u (ae_pt SEC (8 * i) 8 (ae_by n))) (fun u => (wM cI ad (nI 0) (f0) (u) (f2) (f3) (f4) (f5) (f6) (f7))) := by
  refine kp_ofl (cc := cM_put) (maxL := 6) (ret := some .long) (by decide) rfl (Nat.le_of_ble_eq_true rfl) ?_
  intro p e s m args below meth c ls A hx hb hr hts hown hlocks hml hnm hA hsz hl hP hD hK hX hS
  have hown : s.vm.findClass RM = some m.cls := hown
  have htA : ∀ w ∈ wsM_a, w.before args s = true := fun w h => hts w (List.mem_cons_of_mem _ h)
  have hf : 1 ≤ ({ frames := 1, cells := 0, slots := 0, locals := 24 } : Room).frames ∧ 24 ≤ ({ frames := 1, cells := 0, slots := 0, locals := 24 } : Room).locals := ⟨Nat.le_of_ble_eq_true rfl, Nat.le_of_ble_eq_true rfl⟩
  have hc : 0 ≤ ({ frames := 1, cells := 0, slots := 0, locals := 24 } : Room).cells ∧ 0 ≤ ({ frames := 1, cells := 0, slots := 0, locals := 24 } : Room).slots := ⟨Nat.zero_le _, Nat.zero_le _⟩
  have hl : lv_has ls 6 [(0, .ref (ad 8)), (1, .int (nI (i))), (2, .long (lN n))] := hl
  refine lv_aload_n hx hb dM_put_0 rfl (lv_at hl 0 rfl) ?_
  refine lv_iload_n hx hb dM_put_1 rfl (lv_at hl 1 rfl) ?_
  refine lv_bipush (v := nI 16) hx hb dM_put_2 (by decide) ?_
  refine kp_calli (wr := []) (nw := fun _u => (wM cI ad (nI 0) (f0) (f1) (f2) (f3) (f4) (f5) (f6) (f7))) (va_runV (As := [.int (nI (i)), .int (nI (16))]) (rest := []) ⟨hx, hb, hml, hown, htA⟩ (c_isIn_t l dC dI cI ad (th) (f0) (f1) (f2) (f3) (f4) (f5) (f6) (f7) s.heap.size 16 (by omega) i hi) (cwV 2 htA (goodM_V mM_l50 mM_instanceMethod_isIn mM_selects_isIn mM_code_isIn) rfl rfl rfl (by decide +kernel) ⟨Nat.le_trans (Nat.le_of_ble_eq_true rfl) hf.1, Nat.le_trans (Nat.le_of_ble_eq_true rfl) hf.2⟩) (kp_preV (wc := (wM cI ad (th) (f0) (f1) (f2) (f3) (f4) (f5) (f6) (f7))) kp_XT trivial hP hD hK hS hA [0, 1, 2, 3, 4, 5, 6, 7, 8] rfl rfl rfl [0] rfl (q0 := 0) rfl rfl) rfl rfl hl.1 rfl (lv_room (Nat.le_of_ble_eq_true rfl)) dM_put_4 ⟨hc.1, hc.2⟩) hP hD hS hA [0, 1, 2, 3, 4, 5, 6, 7, 8] [] rfl rfl rfl (by decide) [0, 1, 2, 3, 4, 5, 6, 7, 8] rfl (fun _ => rfl) (fun _ => rfl) (fun r _u H locs hr1 hP hD hS => ?_)
  subst hr1
  refine xi_if_ne (tgt := 12) hx hb dM_put_7 (by decide) (by omega) (fun hc0 => ?_) (fun h9 => absurd h9 (by omega))
  refine lv_aload_n hx hb dM_put_12 rfl (lv_at hl 0 rfl) ?_
  refine va_get (D := (dC, dI)) (ci := 2) (v := .ref (ad 1)) (C := RM) (T := TM) (N := 9) hx hb htA inM0 hown hK hP 0 rfl rfl 1 (by decide) (htA _ mM_f13) (fun _ h9 => h9) rfl dM_put_13 ?_
  refine lv_bipush (v := nI 8) hx hb dM_put_16 (by decide) ?_
  refine lv_iload_n hx hb dM_put_18 rfl (lv_at hl 1 rfl) ?_
  refine xi_imul hx hb dM_put_19 ?_
  refine kp_calll (wr := [((ad 8), .inr (2, [.ref (ad 0), .ref (ad 1), .ref (ad 2), .ref (ad 3), .ref (ad 4), .ref (ad 5), .ref (ad 6), .ref (ad 7), .int (nI 0)])), ((ad 0), .inl (cI, 32, .inl (f0))), ((ad 2), .inl (cI, 256, .inl (f2))), ((ad 3), .inl (cI, 256, .inl (f3))), ((ad 4), .inl (cI, 176, .inl (f4))), ((ad 5), .inl (cI, 16, .inl (f5))), ((ad 6), .inl (cI, 16, .inl (f6))), ((ad 7), .inl (cI, 16, .inl (f7)))]) (nw := fun _u => (wM cI ad (nI 0) (f0) (f1) (f2) (f3) (f4) (f5) (f6) (f7))) (va_runS (As := [.ref (ad 1), .int (nI (8 * i))]) (rest := []) ⟨hx, hb, hml, hown, htA⟩ (c_read l dC dI cI H.size (ad 1) 128 (8 * i) f1 (ae_at SEC (8 * i)) (by omega) (by omega) (ae_at_lt hBS _) (fun k hk => hk1 _ (by omega))) (va_cwS 2 htA (goodM_S mM_l54 mM_static_read mM_code_read) rfl rfl rfl (by decide +kernel) ⟨Nat.le_trans (Nat.le_of_ble_eq_true rfl) hf.1, Nat.le_trans (Nat.le_of_ble_eq_true rfl) hf.2⟩) (kp_preS (wc := [((ad 1), .inl (cI, 128, .inl (f1)))]) kp_XT trivial hP hD hK hS hA [2] rfl rfl rfl [0] rfl) rfl rfl hl.1 rfl (lv_room (Nat.le_of_ble_eq_true rfl)) dM_put_20 ⟨hc.1, hc.2⟩) hP hD hS hA [2] [0, 1, 3, 4, 5, 6, 7, 8] rfl rfl rfl (by decide) [0, 1, 8, 2, 3, 4, 5, 6, 7] rfl (fun _ => rfl) (fun _ => rfl) (fun r _u H locs hr2 hP hD hS => ?_)
  subst hr2
  refine lv_lstore (nL := 6) (lv' := [(4, .long (ae_l (ae_at SEC (8 * i)) 0)), (0, .ref (ad 8)), (1, .int (nI (i))), (2, .long (lN n))]) hx hb dM_put_23 hl (by decide) rfl (fun ls hl => ?_)
  refine lv_aload_n hx hb dM_put_25 rfl (lv_at hl 1 rfl) ?_
  refine va_get (D := (dC, dI)) (ci := 2) (v := .ref (ad 1)) (C := RM) (T := TM) (N := 9) hx hb htA inM0 hown hK hP 0 rfl rfl 1 (by decide) (htA _ mM_f13) (fun _ h9 => h9) rfl dM_put_26 ?_
  refine lv_bipush (v := nI 8) hx hb dM_put_29 (by decide) ?_
  refine lv_iload_n hx hb dM_put_31 rfl (lv_at hl 2 rfl) ?_
  refine xi_imul hx hb dM_put_32 ?_
  refine lv_lload_n hx hb dM_put_33 rfl (lv_at hl 3 rfl) ?_
  refine kp_callv (wr := [((ad 8), .inr (2, [.ref (ad 0), .ref (ad 1), .ref (ad 2), .ref (ad 3), .ref (ad 4), .ref (ad 5), .ref (ad 6), .ref (ad 7), .int (nI 0)])), ((ad 0), .inl (cI, 32, .inl (f0))), ((ad 2), .inl (cI, 256, .inl (f2))), ((ad 3), .inl (cI, 256, .inl (f3))), ((ad 4), .inl (cI, 176, .inl (f4))), ((ad 5), .inl (cI, 16, .inl (f5))), ((ad 6), .inl (cI, 16, .inl (f6))), ((ad 7), .inl (cI, 16, .inl (f7)))]) (nw := fun g => (wM cI ad (nI 0) (f0) (g) (f2) (f3) (f4) (f5) (f6) (f7))) (va_runS (As := [.ref (ad 1), .int (nI (8 * i)), .long (lN n)]) (rest := []) ⟨hx, hb, hml, hown, htA⟩ (c_lay l dC dI cI H.size (ad 1) 128 (8 * i) n f1 (by omega) (by omega) hn) (va_cwS 3 htA (goodM_S mM_l46 mM_static_lay mM_code_lay) rfl rfl rfl (by decide +kernel) ⟨Nat.le_trans (Nat.le_of_ble_eq_true rfl) hf.1, Nat.le_trans (Nat.le_of_ble_eq_true rfl) hf.2⟩) (kp_preS (wc := [((ad 1), .inl (cI, 128, .inl (f1)))]) kp_XT trivial hP hD hK hS hA [2] rfl rfl rfl [0] rfl) rfl rfl hl.1 rfl (lv_room (Nat.le_of_ble_eq_true rfl)) dM_put_34 ⟨hc.1, hc.2⟩) hP hD hS hA [2] [0, 1, 3, 4, 5, 6, 7, 8] rfl rfl rfl (by decide) [0, 1, 8, 2, 3, 4, 5, 6, 7] rfl (fun _ => rfl) (fun _ => rfl) (fun g H locs hg hP hD hS => ?_)
  refine lv_lload hx hb dM_put_37 (lv_at hl 0 rfl) ?_
  exact kp_retl g hx hb hr hlocks ⟨ae_l_at SEC (8 * i), li_lay hk1 hg.1 hg.2⟩ hP hD hS dM_put_39
set_option maxRecDepth 100000 in
set_option maxHeartbeats 4000000 in
theorem c_put_f (l : Launch) (dC : Nat → ClassId) (dI : Nat → Nat → Nat) (cI : ClassId) (ad : Nat → Nat) (th : Int32) (f0 f1 f2 f3 f4 f5 f6 f7 : Nat → Int32) (sz : Nat) (n : Nat) (hn : n < 18446744073709551616) (SEC : Nat → Nat) (hBS : ae_B SEC) (hk1 : li_ag 128 f1 SEC) (i : Int32) (hi : i < 0 ∨ nI 16 ≤ i) : kp_Ml l yM_put wsM_put { frames := 1, cells := 0, slots := 0, locals := 24 } (dC, dI) mCl [.ref (ad 8), .int i, .long (lN n)] (wM cI ad (th) (f0) (f1) (f2) (f3) (f4) (f5) (f6) (f7)) [(cI, .int)] sz kp_T (fun (r : Int64) (_ : Unit) => True) (fun _ => (wM cI ad (nI 1) (f0) (f1) (f2) (f3) (f4) (f5) (f6) (f7))) := by
  refine kp_ofl (cc := cM_put) (maxL := 6) (ret := some .long) (by decide) rfl (Nat.le_of_ble_eq_true rfl) ?_
  intro p e s m args below meth c ls A hx hb hr hts hown hlocks hml hnm hA hsz hl hP hD hK hX hS
  have hown : s.vm.findClass RM = some m.cls := hown
  have htA : ∀ w ∈ wsM_a, w.before args s = true := fun w h => hts w (List.mem_cons_of_mem _ h)
  have hf : 1 ≤ ({ frames := 1, cells := 0, slots := 0, locals := 24 } : Room).frames ∧ 24 ≤ ({ frames := 1, cells := 0, slots := 0, locals := 24 } : Room).locals := ⟨Nat.le_of_ble_eq_true rfl, Nat.le_of_ble_eq_true rfl⟩
  have hc : 0 ≤ ({ frames := 1, cells := 0, slots := 0, locals := 24 } : Room).cells ∧ 0 ≤ ({ frames := 1, cells := 0, slots := 0, locals := 24 } : Room).slots := ⟨Nat.zero_le _, Nat.zero_le _⟩
  have hl : lv_has ls 6 [(0, .ref (ad 8)), (1, .int (i)), (2, .long (lN n))] := hl
  refine lv_aload_n hx hb dM_put_0 rfl (lv_at hl 0 rfl) ?_
  refine lv_iload_n hx hb dM_put_1 rfl (lv_at hl 1 rfl) ?_
  refine lv_bipush (v := nI 16) hx hb dM_put_2 (by decide) ?_
  refine kp_calli (wr := []) (nw := fun _u => (wM cI ad (nI 1) (f0) (f1) (f2) (f3) (f4) (f5) (f6) (f7))) (va_runV (As := [.int (i), .int (nI (16))]) (rest := []) ⟨hx, hb, hml, hown, htA⟩ (c_isIn_f l dC dI cI ad (th) (f0) (f1) (f2) (f3) (f4) (f5) (f6) (f7) s.heap.size 16 (by omega) i hi) (cwV 2 htA (goodM_V mM_l50 mM_instanceMethod_isIn mM_selects_isIn mM_code_isIn) rfl rfl rfl (by decide +kernel) ⟨Nat.le_trans (Nat.le_of_ble_eq_true rfl) hf.1, Nat.le_trans (Nat.le_of_ble_eq_true rfl) hf.2⟩) (kp_preV (wc := (wM cI ad (th) (f0) (f1) (f2) (f3) (f4) (f5) (f6) (f7))) kp_XT trivial hP hD hK hS hA [0, 1, 2, 3, 4, 5, 6, 7, 8] rfl rfl rfl [0] rfl (q0 := 0) rfl rfl) rfl rfl hl.1 rfl (lv_room (Nat.le_of_ble_eq_true rfl)) dM_put_4 ⟨hc.1, hc.2⟩) hP hD hS hA [0, 1, 2, 3, 4, 5, 6, 7, 8] [] rfl rfl rfl (by decide) [0, 1, 2, 3, 4, 5, 6, 7, 8] rfl (fun _ => rfl) (fun _ => rfl) (fun r _u H locs hr1 hP hD hS => ?_)
  subst hr1
  refine xi_if_ne (tgt := 12) hx hb dM_put_7 (by decide) (by omega) (fun h9 => absurd h9 (fun z => z rfl)) (fun hc0 => ?_)
  refine lv_lconst (v := lN 0) hx hb dM_put_10 rfl ?_
  exact kp_retl () hx hb hr hlocks trivial hP hD hS dM_put_11
set_option maxRecDepth 100000 in
set_option maxHeartbeats 4000000 in
theorem c_get_t (l : Launch) (dC : Nat → ClassId) (dI : Nat → Nat → Nat) (cI : ClassId) (ad : Nat → Nat) (th : Int32) (f0 f1 f2 f3 f4 f5 f6 f7 : Nat → Int32) (sz : Nat) (SEC : Nat → Nat) (hBS : ae_B SEC) (hk1 : li_ag 128 f1 SEC) (i : Nat) (hi : i < 16) : kp_Ml l yM_get wsM_get { frames := 1, cells := 0, slots := 0, locals := 24 } (dC, dI) mCl [.ref (ad 8), .int (nI i)] (wM cI ad (th) (f0) (f1) (f2) (f3) (f4) (f5) (f6) (f7)) [(cI, .int)] sz kp_T (fun (r : Int64) (_ : Unit) => r = ae_l SEC (8 * i)) (fun _ => (wM cI ad (nI 0) (f0) (f1) (f2) (f3) (f4) (f5) (f6) (f7))) := by
  refine kp_ofl (cc := cM_get) (maxL := 2) (ret := some .long) (by decide) rfl (Nat.le_of_ble_eq_true rfl) ?_
  intro p e s m args below meth c ls A hx hb hr hts hown hlocks hml hnm hA hsz hl hP hD hK hX hS
  have hown : s.vm.findClass RM = some m.cls := hown
  have htA : ∀ w ∈ wsM_a, w.before args s = true := fun w h => hts w (List.mem_cons_of_mem _ h)
  have hf : 1 ≤ ({ frames := 1, cells := 0, slots := 0, locals := 24 } : Room).frames ∧ 24 ≤ ({ frames := 1, cells := 0, slots := 0, locals := 24 } : Room).locals := ⟨Nat.le_of_ble_eq_true rfl, Nat.le_of_ble_eq_true rfl⟩
  have hc : 0 ≤ ({ frames := 1, cells := 0, slots := 0, locals := 24 } : Room).cells ∧ 0 ≤ ({ frames := 1, cells := 0, slots := 0, locals := 24 } : Room).slots := ⟨Nat.zero_le _, Nat.zero_le _⟩
  have hl : lv_has ls 2 [(0, .ref (ad 8)), (1, .int (nI (i)))] := hl
  refine lv_aload_n hx hb dM_get_0 rfl (lv_at hl 0 rfl) ?_
  refine lv_iload_n hx hb dM_get_1 rfl (lv_at hl 1 rfl) ?_
  refine lv_bipush (v := nI 16) hx hb dM_get_2 (by decide) ?_
  refine kp_calli (wr := []) (nw := fun _u => (wM cI ad (nI 0) (f0) (f1) (f2) (f3) (f4) (f5) (f6) (f7))) (va_runV (As := [.int (nI (i)), .int (nI (16))]) (rest := []) ⟨hx, hb, hml, hown, htA⟩ (c_isIn_t l dC dI cI ad (th) (f0) (f1) (f2) (f3) (f4) (f5) (f6) (f7) s.heap.size 16 (by omega) i hi) (cwV 2 htA (goodM_V mM_l50 mM_instanceMethod_isIn mM_selects_isIn mM_code_isIn) rfl rfl rfl (by decide +kernel) ⟨Nat.le_trans (Nat.le_of_ble_eq_true rfl) hf.1, Nat.le_trans (Nat.le_of_ble_eq_true rfl) hf.2⟩) (kp_preV (wc := (wM cI ad (th) (f0) (f1) (f2) (f3) (f4) (f5) (f6) (f7))) kp_XT trivial hP hD hK hS hA [0, 1, 2, 3, 4, 5, 6, 7, 8] rfl rfl rfl [0] rfl (q0 := 0) rfl rfl) rfl rfl hl.1 rfl (lv_room (Nat.le_of_ble_eq_true rfl)) dM_get_4 ⟨hc.1, hc.2⟩) hP hD hS hA [0, 1, 2, 3, 4, 5, 6, 7, 8] [] rfl rfl rfl (by decide) [0, 1, 2, 3, 4, 5, 6, 7, 8] rfl (fun _ => rfl) (fun _ => rfl) (fun r _u H locs hr1 hP hD hS => ?_)
  subst hr1
  refine xi_if_eq (tgt := 24) hx hb dM_get_7 (by decide) (by omega) (fun h9 => absurd h9 (by omega)) (fun hc0 => ?_)
  refine lv_aload_n hx hb dM_get_10 rfl (lv_at hl 0 rfl) ?_
  refine va_get (D := (dC, dI)) (ci := 2) (v := .ref (ad 1)) (C := RM) (T := TM) (N := 9) hx hb htA inM0 hown hK hP 0 rfl rfl 1 (by decide) (htA _ mM_f13) (fun _ h9 => h9) rfl dM_get_11 ?_
  refine lv_bipush (v := nI 8) hx hb dM_get_14 (by decide) ?_
  refine lv_iload_n hx hb dM_get_16 rfl (lv_at hl 1 rfl) ?_
  refine xi_imul hx hb dM_get_17 ?_
  refine kp_calll (wr := [((ad 8), .inr (2, [.ref (ad 0), .ref (ad 1), .ref (ad 2), .ref (ad 3), .ref (ad 4), .ref (ad 5), .ref (ad 6), .ref (ad 7), .int (nI 0)])), ((ad 0), .inl (cI, 32, .inl (f0))), ((ad 2), .inl (cI, 256, .inl (f2))), ((ad 3), .inl (cI, 256, .inl (f3))), ((ad 4), .inl (cI, 176, .inl (f4))), ((ad 5), .inl (cI, 16, .inl (f5))), ((ad 6), .inl (cI, 16, .inl (f6))), ((ad 7), .inl (cI, 16, .inl (f7)))]) (nw := fun _u => (wM cI ad (nI 0) (f0) (f1) (f2) (f3) (f4) (f5) (f6) (f7))) (va_runS (As := [.ref (ad 1), .int (nI (8 * i))]) (rest := []) ⟨hx, hb, hml, hown, htA⟩ (c_read l dC dI cI H.size (ad 1) 128 (8 * i) f1 (ae_at SEC (8 * i)) (by omega) (by omega) (ae_at_lt hBS _) (fun k hk => hk1 _ (by omega))) (va_cwS 2 htA (goodM_S mM_l54 mM_static_read mM_code_read) rfl rfl rfl (by decide +kernel) ⟨Nat.le_trans (Nat.le_of_ble_eq_true rfl) hf.1, Nat.le_trans (Nat.le_of_ble_eq_true rfl) hf.2⟩) (kp_preS (wc := [((ad 1), .inl (cI, 128, .inl (f1)))]) kp_XT trivial hP hD hK hS hA [2] rfl rfl rfl [0] rfl) rfl rfl hl.1 rfl (lv_room (Nat.le_of_ble_eq_true rfl)) dM_get_18 ⟨hc.1, hc.2⟩) hP hD hS hA [2] [0, 1, 3, 4, 5, 6, 7, 8] rfl rfl rfl (by decide) [0, 1, 8, 2, 3, 4, 5, 6, 7] rfl (fun _ => rfl) (fun _ => rfl) (fun r _u H locs hr2 hP hD hS => ?_)
  subst hr2
  refine lv_goto (tgt := 25) hx hb dM_get_21 (by decide) ?_
  exact kp_retl () hx hb hr hlocks (ae_l_at SEC (8 * i)) hP hD hS dM_get_25
set_option maxRecDepth 100000 in
set_option maxHeartbeats 4000000 in
theorem c_get_f (l : Launch) (dC : Nat → ClassId) (dI : Nat → Nat → Nat) (cI : ClassId) (ad : Nat → Nat) (th : Int32) (f0 f1 f2 f3 f4 f5 f6 f7 : Nat → Int32) (sz : Nat) (SEC : Nat → Nat) (hBS : ae_B SEC) (hk1 : li_ag 128 f1 SEC) (i : Int32) (hi : i < 0 ∨ nI 16 ≤ i) : kp_Ml l yM_get wsM_get { frames := 1, cells := 0, slots := 0, locals := 24 } (dC, dI) mCl [.ref (ad 8), .int i] (wM cI ad (th) (f0) (f1) (f2) (f3) (f4) (f5) (f6) (f7)) [(cI, .int)] sz kp_T (fun (r : Int64) (_ : Unit) => True) (fun _ => (wM cI ad (nI 1) (f0) (f1) (f2) (f3) (f4) (f5) (f6) (f7))) := by
  refine kp_ofl (cc := cM_get) (maxL := 2) (ret := some .long) (by decide) rfl (Nat.le_of_ble_eq_true rfl) ?_
  intro p e s m args below meth c ls A hx hb hr hts hown hlocks hml hnm hA hsz hl hP hD hK hX hS
  have hown : s.vm.findClass RM = some m.cls := hown
  have htA : ∀ w ∈ wsM_a, w.before args s = true := fun w h => hts w (List.mem_cons_of_mem _ h)
  have hf : 1 ≤ ({ frames := 1, cells := 0, slots := 0, locals := 24 } : Room).frames ∧ 24 ≤ ({ frames := 1, cells := 0, slots := 0, locals := 24 } : Room).locals := ⟨Nat.le_of_ble_eq_true rfl, Nat.le_of_ble_eq_true rfl⟩
  have hc : 0 ≤ ({ frames := 1, cells := 0, slots := 0, locals := 24 } : Room).cells ∧ 0 ≤ ({ frames := 1, cells := 0, slots := 0, locals := 24 } : Room).slots := ⟨Nat.zero_le _, Nat.zero_le _⟩
  have hl : lv_has ls 2 [(0, .ref (ad 8)), (1, .int (i))] := hl
  refine lv_aload_n hx hb dM_get_0 rfl (lv_at hl 0 rfl) ?_
  refine lv_iload_n hx hb dM_get_1 rfl (lv_at hl 1 rfl) ?_
  refine lv_bipush (v := nI 16) hx hb dM_get_2 (by decide) ?_
  refine kp_calli (wr := []) (nw := fun _u => (wM cI ad (nI 1) (f0) (f1) (f2) (f3) (f4) (f5) (f6) (f7))) (va_runV (As := [.int (i), .int (nI (16))]) (rest := []) ⟨hx, hb, hml, hown, htA⟩ (c_isIn_f l dC dI cI ad (th) (f0) (f1) (f2) (f3) (f4) (f5) (f6) (f7) s.heap.size 16 (by omega) i hi) (cwV 2 htA (goodM_V mM_l50 mM_instanceMethod_isIn mM_selects_isIn mM_code_isIn) rfl rfl rfl (by decide +kernel) ⟨Nat.le_trans (Nat.le_of_ble_eq_true rfl) hf.1, Nat.le_trans (Nat.le_of_ble_eq_true rfl) hf.2⟩) (kp_preV (wc := (wM cI ad (th) (f0) (f1) (f2) (f3) (f4) (f5) (f6) (f7))) kp_XT trivial hP hD hK hS hA [0, 1, 2, 3, 4, 5, 6, 7, 8] rfl rfl rfl [0] rfl (q0 := 0) rfl rfl) rfl rfl hl.1 rfl (lv_room (Nat.le_of_ble_eq_true rfl)) dM_get_4 ⟨hc.1, hc.2⟩) hP hD hS hA [0, 1, 2, 3, 4, 5, 6, 7, 8] [] rfl rfl rfl (by decide) [0, 1, 2, 3, 4, 5, 6, 7, 8] rfl (fun _ => rfl) (fun _ => rfl) (fun r _u H locs hr1 hP hD hS => ?_)
  subst hr1
  refine xi_if_eq (tgt := 24) hx hb dM_get_7 (by decide) (by omega) (fun hc0 => ?_) (fun h9 => absurd h9 (fun z => z rfl))
  refine lv_lconst (v := lN 0) hx hb dM_get_24 rfl ?_
  exact kp_retl () hx hb hr hlocks trivial hP hD hS dM_get_25
section
variable {p : Program} {l : Launch} {e : Env} {R : Room} {s : State} {m : MethodId} {args : Array Value} {below : List Frame} {meth : Method} {c : Code} {cells slots : Nat} {Q : State → Prop} {dC : Nat → ClassId} {dI : Nat → Nat → Nat} {A : Nat → Prop}

set_option maxRecDepth 100000 in
set_option maxHeartbeats 4000000 in
theorem lp_sum (hx : p.tables.exec = Jvm.exec) (hb : c.code = cM_sum) (htA : ∀ w ∈ wsM_a, w.before args s = true) (hown : s.vm.findClass RM = some m.cls) (hml : c.maxLocals = 4) (hA : ∀ q, s.heap.size ≤ q → A q) (hc : cells ≤ R.cells ∧ slots ≤ R.slots) (hf : 1 ≤ R.frames ∧ 24 ≤ R.locals) {cI : ClassId} {ad : Nat → Nat} {th : Int32} {f0 f1 f2 f3 f4 f5 f6 f7 : Nat → Int32} (hK : va_K (dC, dI) mCl [(cI, .int)] s) {SEC : Nat → Nat} (hBS : ae_B SEC) (hk1 : li_ag 128 f1 SEC)
    (kk : ∀  (ls : Array Slot) (H : Heap) (locs : List Loc), True → lv_has ls 4 [(3, .int (nI (16))), (1, .long (ae_sx SEC 16)), (0, .ref (ad 8))] → va_P (dC, dI) mCl (wM cI ad (th) (f0) (f1) (f2) (f3) (f4) (f5) (f6) (f7)) H → va_D A (wM cI ad (th) (f0) (f1) (f2) (f3) (f4) (f5) (f6) (f7)) → va_S A s.heap H locs → W p l e R s m args below meth c H locs cells slots Q (F0 m 35 ls [])) :
    ∀ (j k : Nat)  (ls : Array Slot) (H : Heap) (locs : List Loc), k + j = 16 → True → lv_has ls 4 [(3, .int (nI (k))), (1, .long (ae_sx SEC k)), (0, .ref (ad 8))] → va_P (dC, dI) mCl (wM cI ad (th) (f0) (f1) (f2) (f3) (f4) (f5) (f6) (f7)) H → va_D A (wM cI ad (th) (f0) (f1) (f2) (f3) (f4) (f5) (f6) (f7)) → va_S A s.heap H locs → W p l e R s m args below meth c H locs cells slots Q (F0 m 9 ls []) := by
  intro j
  induction j with
  | zero =>
    intro k  ls H locs hj i1 hl hP hD hS
    have e : k = 16 := by omega
    subst e
    refine lv_iload_n hx hb dM_sum_9 rfl (lv_at hl 0 rfl) ?_
    refine lv_bipush (v := nI 16) hx hb dM_sum_10 (by decide) ?_
    refine xi_icmp_ge (tgt := 35) hx hb dM_sum_12 (by decide) (by omega) (by omega) (fun hc0 => ?_) (fun h9 => absurd h9 (by omega))
    exact kk ls H locs trivial hl hP hD hS
  | succ j ih =>
    intro k  ls H locs hj i1 hl hP hD hS
    refine lv_iload_n hx hb dM_sum_9 rfl (lv_at hl 0 rfl) ?_
    refine lv_bipush (v := nI 16) hx hb dM_sum_10 (by decide) ?_
    refine xi_icmp_ge (tgt := 35) hx hb dM_sum_12 (by decide) (by omega) (by omega) (fun h9 => absurd h9 (by omega)) (fun hc0 => ?_)
    refine lv_lload_n hx hb dM_sum_15 rfl (lv_at hl 1 rfl) ?_
    refine lv_aload_n hx hb dM_sum_16 rfl (lv_at hl 2 rfl) ?_
    refine va_get (D := (dC, dI)) (ci := 2) (v := .ref (ad 1)) (C := RM) (T := TM) (N := 9) hx hb htA inM0 hown hK hP 0 rfl rfl 1 (by decide) (htA _ mM_f13) (fun _ h9 => h9) rfl dM_sum_17 ?_
    refine lv_bipush (v := nI 8) hx hb dM_sum_20 (by decide) ?_
    refine lv_iload_n hx hb dM_sum_22 rfl (lv_at hl 0 rfl) ?_
    refine xi_imul hx hb dM_sum_23 ?_
    refine kp_calll (wr := [((ad 8), .inr (2, [.ref (ad 0), .ref (ad 1), .ref (ad 2), .ref (ad 3), .ref (ad 4), .ref (ad 5), .ref (ad 6), .ref (ad 7), .int (th)])), ((ad 0), .inl (cI, 32, .inl (f0))), ((ad 2), .inl (cI, 256, .inl (f2))), ((ad 3), .inl (cI, 256, .inl (f3))), ((ad 4), .inl (cI, 176, .inl (f4))), ((ad 5), .inl (cI, 16, .inl (f5))), ((ad 6), .inl (cI, 16, .inl (f6))), ((ad 7), .inl (cI, 16, .inl (f7)))]) (nw := fun _u => (wM cI ad (th) (f0) (f1) (f2) (f3) (f4) (f5) (f6) (f7))) (va_runS (As := [.ref (ad 1), .int (nI (8 * k))]) (rest := [.long (ae_sx SEC k)]) ⟨hx, hb, hml, hown, htA⟩ (c_read l dC dI cI H.size (ad 1) 128 (8 * k) f1 (ae_at SEC (8 * k)) (by omega) (by omega) (ae_at_lt hBS _) (fun i hi => hk1 _ (by omega))) (va_cwS 2 htA (goodM_S mM_l54 mM_static_read mM_code_read) rfl rfl rfl (by decide +kernel) ⟨Nat.le_trans (Nat.le_of_ble_eq_true rfl) hf.1, Nat.le_trans (Nat.le_of_ble_eq_true rfl) hf.2⟩) (kp_preS (wc := [((ad 1), .inl (cI, 128, .inl (f1)))]) kp_XT trivial hP hD hK hS hA [2] rfl rfl rfl [0] rfl) rfl rfl hl.1 rfl (lv_room (Nat.le_of_ble_eq_true rfl)) dM_sum_24 ⟨hc.1, hc.2⟩) hP hD hS hA [2] [0, 1, 3, 4, 5, 6, 7, 8] rfl rfl rfl (by decide) [0, 1, 8, 2, 3, 4, 5, 6, 7] rfl (fun _ => rfl) (fun _ => rfl) (fun r _u H locs hr2 hP hD hS => ?_)
    subst hr2
    refine tw_l (y := ae_l SEC (8 * k)) (ae_l_at SEC (8 * k)) ?_
    refine lv_lxor hx hb dM_sum_27 ?_
    refine lv_lstore_n (nL := 4) (lv' := [(1, .long ((ae_sx SEC k) ^^^ (ae_l SEC (8 * k)))), (3, .int (nI (k))), (0, .ref (ad 8))]) hx hb dM_sum_28 rfl hl (by decide) rfl (fun ls hl => ?_)
    refine lv_iinc (k := 1) (v := nI (k + 1)) (nL := 4) (lv' := [(3, .int (nI (k + 1))), (1, .long ((ae_sx SEC k) ^^^ (ae_l SEC (8 * k)))), (0, .ref (ad 8))]) hx hb dM_sum_29 hl rfl (nI_1 (k)) (by decide) rfl (fun ls hl => ?_)
    refine lv_goto (tgt := 9) hx hb dM_sum_32 (by decide) ?_
    exact ih (k + 1) ls H locs (by omega) trivial (lv_sub hl [0, 1, 2] rfl) hP hD hS
set_option maxRecDepth 100000 in
set_option maxHeartbeats 4000000 in
theorem lp_blk1 (hx : p.tables.exec = Jvm.exec) (hb : c.code = cM_block) (htA : ∀ w ∈ wsM_a, w.before args s = true) (hown : s.vm.findClass RM = some m.cls) (hml : c.maxLocals = 5) (hA : ∀ q, s.heap.size ≤ q → A q) (hc : cells ≤ R.cells ∧ slots ≤ R.slots) (hf : 3 ≤ R.frames ∧ 74 ≤ R.locals) {cI : ClassId} {ad : Nat → Nat} {th : Int32} {f0 f1 f2 f3 f4 f6 f7 : Nat → Int32} (hK : va_K (dC, dI) mCl [(cI, .int)] s) {SEC : Nat → Nat} {i : Nat} {bd bs : Int32} (hi : i < 8) (hk1 : li_ag 128 f1 SEC)
    (kk : ∀ (g : Nat → Int32) (ls : Array Slot) (H : Heap) (locs : List Loc), li_f 16 g (ae_at SEC (16 * i)) → lv_has ls 5 [(4, .int (nI (16))), (0, .ref (ad 8)), (1, .int (nI (i))), (2, .int (bd)), (3, .int (bs))] → va_P (dC, dI) mCl (wM cI ad (th) (f0) (f1) (f2) (f3) (f4) (g) (f6) (f7)) H → va_D A (wM cI ad (th) (f0) (f1) (f2) (f3) (f4) (g) (f6) (f7)) → va_S A s.heap H locs → W p l e R s m args below meth c H locs cells slots Q (F0 m 47 ls [])) :
    ∀ (j k : Nat) (g : Nat → Int32) (ls : Array Slot) (H : Heap) (locs : List Loc), k + j = 16 → li_f k g (ae_at SEC (16 * i)) → lv_has ls 5 [(4, .int (nI (k))), (0, .ref (ad 8)), (1, .int (nI (i))), (2, .int (bd)), (3, .int (bs))] → va_P (dC, dI) mCl (wM cI ad (th) (f0) (f1) (f2) (f3) (f4) (g) (f6) (f7)) H → va_D A (wM cI ad (th) (f0) (f1) (f2) (f3) (f4) (g) (f6) (f7)) → va_S A s.heap H locs → W p l e R s m args below meth c H locs cells slots Q (F0 m 15 ls []) := by
  intro j
  induction j with
  | zero =>
    intro k g ls H locs hj i1 hl hP hD hS
    have e : k = 16 := by omega
    subst e
    refine lv_iload hx hb dM_block_15 (lv_at hl 0 rfl) ?_
    refine lv_bipush (v := nI 16) hx hb dM_block_17 (by decide) ?_
    refine xi_icmp_ge (tgt := 47) hx hb dM_block_19 (by decide) (by omega) (by omega) (fun hc0 => ?_) (fun h9 => absurd h9 (by omega))
    exact kk g ls H locs i1 hl hP hD hS
  | succ j ih =>
    intro k g ls H locs hj i1 hl hP hD hS
    refine lv_iload hx hb dM_block_15 (lv_at hl 0 rfl) ?_
    refine lv_bipush (v := nI 16) hx hb dM_block_17 (by decide) ?_
    refine xi_icmp_ge (tgt := 47) hx hb dM_block_19 (by decide) (by omega) (by omega) (fun h9 => absurd h9 (by omega)) (fun hc0 => ?_)
    refine lv_aload_n hx hb dM_block_22 rfl (lv_at hl 1 rfl) ?_
    refine va_get (D := (dC, dI)) (ci := 2) (v := .ref (ad 5)) (C := RM) (T := TM) (N := 9) hx hb htA inM0 hown hK hP 0 rfl rfl 5 (by decide) (htA _ mM_f25) (fun _ h9 => h9) rfl dM_block_23 ?_
    refine lv_iload hx hb dM_block_26 (lv_at hl 0 rfl) ?_
    refine lv_aload_n hx hb dM_block_28 rfl (lv_at hl 1 rfl) ?_
    refine va_get (D := (dC, dI)) (ci := 2) (v := .ref (ad 1)) (C := RM) (T := TM) (N := 9) hx hb htA inM0 hown hK hP 0 rfl rfl 1 (by decide) (htA _ mM_f13) (fun _ h9 => h9) rfl dM_block_29 ?_
    refine lv_bipush (v := nI 16) hx hb dM_block_32 (by decide) ?_
    refine lv_iload_n hx hb dM_block_34 rfl (lv_at hl 2 rfl) ?_
    refine xi_imul hx hb dM_block_35 ?_
    refine lv_iload hx hb dM_block_36 (lv_at hl 0 rfl) ?_
    refine xi_iadd hx hb dM_block_38 ?_
    refine xa_ild hx hb hK hP 2 0 rfl rfl (by omega) (by omega) (v := nI (SEC (16 * i + k))) (hk1 _ (by omega)) dM_block_39 ?_
    refine xa_ist hx hb hK hP hD hS 6 0 rfl rfl (by omega) (by omega) dM_block_40 (fun H locs hP hD hS => ?_)
    have hP : va_P (dC, dI) mCl (wM cI ad (th) (f0) (f1) (f2) (f3) (f4) (upd (g) (k) (nI (SEC (16 * i + k)))) (f6) (f7)) H := hP
    have hD : va_D A (wM cI ad (th) (f0) (f1) (f2) (f3) (f4) (upd (g) (k) (nI (SEC (16 * i + k)))) (f6) (f7)) := hD
    refine lv_iinc (k := 0) (v := nI (k + 1)) (nL := 5) (lv' := [(4, .int (nI (k + 1))), (0, .ref (ad 8)), (1, .int (nI (i))), (2, .int (bd)), (3, .int (bs))]) hx hb dM_block_41 hl rfl (nI_1 (k)) (by decide) rfl (fun ls hl => ?_)
    refine lv_goto (tgt := 15) hx hb dM_block_44 (by decide) ?_
    exact ih (k + 1) _ ls H locs (by omega) (li_fs i1 rfl) hl hP hD hS
set_option maxRecDepth 100000 in
set_option maxHeartbeats 4000000 in
theorem lp_blk2 (hx : p.tables.exec = Jvm.exec) (hb : c.code = cM_block) (htA : ∀ w ∈ wsM_a, w.before args s = true) (hown : s.vm.findClass RM = some m.cls) (hml : c.maxLocals = 5) (hA : ∀ q, s.heap.size ≤ q → A q) (hc : cells ≤ R.cells ∧ slots ≤ R.slots) (hf : 3 ≤ R.frames ∧ 74 ≤ R.locals) {cI : ClassId} {ad : Nat → Nat} {th : Int32} {f0 f1 f2 f3 f4 f5 f6 f7 : Nat → Int32} (hK : va_K (dC, dI) mCl [(cI, .int)] s) {T : Nat → Nat} {i : Nat} {bd bs : Int32} (hi : i < 8) (hk5 : li_ag 16 f5 T)
    (kk : ∀ (g : Nat → Int32) (ls : Array Slot) (H : Heap) (locs : List Loc), (∀ j, j < 16 → g (16 * i + j) = nI (T j)) ∧ (∀ j, j < 16 * i ∨ 16 * i + 16 ≤ j → g j = f1 j) → lv_has ls 5 [(4, .int (nI (16))), (0, .ref (ad 8)), (1, .int (nI (i))), (2, .int (bd)), (3, .int (bs))] → va_P (dC, dI) mCl (wM cI ad (th) (f0) (g) (f2) (f3) (f4) (f5) (f6) (f7)) H → va_D A (wM cI ad (th) (f0) (g) (f2) (f3) (f4) (f5) (f6) (f7)) → va_S A s.heap H locs → W p l e R s m args below meth c H locs cells slots Q (F0 m 115 ls [])) :
    ∀ (j k : Nat) (g : Nat → Int32) (ls : Array Slot) (H : Heap) (locs : List Loc), k + j = 16 → (∀ j, j < k → g (16 * i + j) = nI (T j)) → (∀ j, j < 16 * i ∨ 16 * i + 16 ≤ j → g j = f1 j) → lv_has ls 5 [(4, .int (nI (k))), (0, .ref (ad 8)), (1, .int (nI (i))), (2, .int (bd)), (3, .int (bs))] → va_P (dC, dI) mCl (wM cI ad (th) (f0) (g) (f2) (f3) (f4) (f5) (f6) (f7)) H → va_D A (wM cI ad (th) (f0) (g) (f2) (f3) (f4) (f5) (f6) (f7)) → va_S A s.heap H locs → W p l e R s m args below meth c H locs cells slots Q (F0 m 83 ls []) := by
  intro j
  induction j with
  | zero =>
    intro k g ls H locs hj i1 i2 hl hP hD hS
    have e : k = 16 := by omega
    subst e
    refine lv_iload hx hb dM_block_83 (lv_at hl 0 rfl) ?_
    refine lv_bipush (v := nI 16) hx hb dM_block_85 (by decide) ?_
    refine xi_icmp_ge (tgt := 115) hx hb dM_block_87 (by decide) (by omega) (by omega) (fun hc0 => ?_) (fun h9 => absurd h9 (by omega))
    exact kk g ls H locs ⟨i1, i2⟩ hl hP hD hS
  | succ j ih =>
    intro k g ls H locs hj i1 i2 hl hP hD hS
    refine lv_iload hx hb dM_block_83 (lv_at hl 0 rfl) ?_
    refine lv_bipush (v := nI 16) hx hb dM_block_85 (by decide) ?_
    refine xi_icmp_ge (tgt := 115) hx hb dM_block_87 (by decide) (by omega) (by omega) (fun h9 => absurd h9 (by omega)) (fun hc0 => ?_)
    refine lv_aload_n hx hb dM_block_90 rfl (lv_at hl 1 rfl) ?_
    refine va_get (D := (dC, dI)) (ci := 2) (v := .ref (ad 1)) (C := RM) (T := TM) (N := 9) hx hb htA inM0 hown hK hP 0 rfl rfl 1 (by decide) (htA _ mM_f13) (fun _ h9 => h9) rfl dM_block_91 ?_
    refine lv_bipush (v := nI 16) hx hb dM_block_94 (by decide) ?_
    refine lv_iload_n hx hb dM_block_96 rfl (lv_at hl 2 rfl) ?_
    refine xi_imul hx hb dM_block_97 ?_
    refine lv_iload hx hb dM_block_98 (lv_at hl 0 rfl) ?_
    refine xi_iadd hx hb dM_block_100 ?_
    refine lv_aload_n hx hb dM_block_101 rfl (lv_at hl 1 rfl) ?_
    refine va_get (D := (dC, dI)) (ci := 2) (v := .ref (ad 5)) (C := RM) (T := TM) (N := 9) hx hb htA inM0 hown hK hP 0 rfl rfl 5 (by decide) (htA _ mM_f25) (fun _ h9 => h9) rfl dM_block_102 ?_
    refine lv_iload hx hb dM_block_105 (lv_at hl 0 rfl) ?_
    refine xa_ild hx hb hK hP 6 0 rfl rfl (by omega) (by omega) (v := nI (T k)) (hk5 _ (by omega)) dM_block_107 ?_
    refine xa_ist hx hb hK hP hD hS 2 0 rfl rfl (by omega) (by omega) dM_block_108 (fun H locs hP hD hS => ?_)
    have hP : va_P (dC, dI) mCl (wM cI ad (th) (f0) (upd (g) (((16) * (i)) + (k)) (nI (T k))) (f2) (f3) (f4) (f5) (f6) (f7)) H := hP
    have hD : va_D A (wM cI ad (th) (f0) (upd (g) (((16) * (i)) + (k)) (nI (T k))) (f2) (f3) (f4) (f5) (f6) (f7)) := hD
    refine lv_iinc (k := 0) (v := nI (k + 1)) (nL := 5) (lv' := [(4, .int (nI (k + 1))), (0, .ref (ad 8)), (1, .int (nI (i))), (2, .int (bd)), (3, .int (bs))]) hx hb dM_block_109 hl rfl (nI_1 (k)) (by decide) rfl (fun ls hl => ?_)
    refine lv_goto (tgt := 83) hx hb dM_block_112 (by decide) ?_
    refine ih (k + 1) _ ls H locs (by omega) (fun j hj => ?_) (fun j hj => ?_) hl hP hD hS
    · rcases Nat.lt_or_ge j k with h | h
      · rw [pk_un (by omega)]; exact i1 j h
      · rw [show j = k by omega]; exact pk_us
    · rw [pk_un (by omega)]; exact i2 j hj
end
set_option maxRecDepth 100000 in
set_option maxHeartbeats 4000000 in
theorem c_sum (l : Launch) (dC : Nat → ClassId) (dI : Nat → Nat → Nat) (cI : ClassId) (ad : Nat → Nat) (th : Int32) (f0 f1 f2 f3 f4 f5 f6 f7 : Nat → Int32) (sz : Nat) (SEC : Nat → Nat) (hBS : ae_B SEC) (hk1 : li_ag 128 f1 SEC) : kp_Ml l yM_sum wsM_sum { frames := 1, cells := 0, slots := 0, locals := 24 } (dC, dI) mCl [.ref (ad 8)] (wM cI ad (th) (f0) (f1) (f2) (f3) (f4) (f5) (f6) (f7)) [(cI, .int)] sz kp_T (fun (r : Int64) (_ : Unit) => r = ae_sx SEC 16) (fun _ => (wM cI ad (nI 0) (f0) (f1) (f2) (f3) (f4) (f5) (f6) (f7))) := by
  refine kp_ofl (cc := cM_sum) (maxL := 4) (ret := some .long) (by decide) rfl (Nat.le_of_ble_eq_true rfl) ?_
  intro p e s m args below meth c ls A hx hb hr hts hown hlocks hml hnm hA hsz hl hP hD hK hX hS
  have hown : s.vm.findClass RM = some m.cls := hown
  have htA : ∀ w ∈ wsM_a, w.before args s = true := fun w h => hts w (List.mem_cons_of_mem _ h)
  have hf : 1 ≤ ({ frames := 1, cells := 0, slots := 0, locals := 24 } : Room).frames ∧ 24 ≤ ({ frames := 1, cells := 0, slots := 0, locals := 24 } : Room).locals := ⟨Nat.le_of_ble_eq_true rfl, Nat.le_of_ble_eq_true rfl⟩
  have hc : 0 ≤ ({ frames := 1, cells := 0, slots := 0, locals := 24 } : Room).cells ∧ 0 ≤ ({ frames := 1, cells := 0, slots := 0, locals := 24 } : Room).slots := ⟨Nat.zero_le _, Nat.zero_le _⟩
  have hl : lv_has ls 4 [(0, .ref (ad 8))] := hl
  refine lv_aload_n hx hb dM_sum_0 rfl (lv_at hl 0 rfl) ?_
  refine lv_iconst (v := nI 0) hx hb dM_sum_1 (by decide) ?_
  refine va_put (D := (dC, dI)) (ci := 2) (v := .int (nI (0))) (ty := .int) (C := RM) (T := TM) (N := 9) hx hb htA inM0 tyM tyM_ok nmM hown hK hP hD hS 0 rfl rfl 8 (by decide) (htA _ mM_f38) (fun _ h9 => h9) rfl (by decide +kernel) rfl rfl (Nat.le_of_ble_eq_true rfl) dM_sum_2 (fun H locs hP hD hS => ?_)
  have hP : va_P (dC, dI) mCl (wM cI ad (nI (0)) (f0) (f1) (f2) (f3) (f4) (f5) (f6) (f7)) H := hP
  have hD : va_D A (wM cI ad (nI (0)) (f0) (f1) (f2) (f3) (f4) (f5) (f6) (f7)) := hD
  refine lv_lconst (v := lN 0) hx hb dM_sum_5 rfl ?_
  refine lv_lstore_n (nL := 4) (lv' := [(1, .long (lN 0)), (0, .ref (ad 8))]) hx hb dM_sum_6 rfl hl (by decide) rfl (fun ls hl => ?_)
  refine lv_iconst (v := nI 0) hx hb dM_sum_7 (by decide) ?_
  refine lv_istore_n (nL := 4) (lv' := [(3, .int (nI (0))), (1, .long (lN 0)), (0, .ref (ad 8))]) hx hb dM_sum_8 rfl hl (by decide) rfl (fun ls hl => ?_)
  refine lp_sum hx hb htA hown hml hA hc hf hK hBS hk1 (fun ls H locs _ hl hP hD hS => ?_) 16 0 ls H locs (by omega) trivial hl hP hD hS
  refine lv_lload_n hx hb dM_sum_35 rfl (lv_at hl 1 rfl) ?_
  exact kp_retl () hx hb hr hlocks rfl hP hD hS dM_sum_36
set_option maxRecDepth 100000 in
set_option maxHeartbeats 4000000 in
theorem c_block_t (l : Launch) (dC : Nat → ClassId) (dI : Nat → Nat → Nat) (cI : ClassId) (ad : Nat → Nat) (th : Int32) (f0 f1 f2 f3 f4 f5 f6 f7 : Nat → Int32) (sz : Nat) (KEY SEC : Nat → Nat) (hBK : ae_B KEY) (hBS : ae_B SEC) (hk0 : li_ag 32 f0 KEY) (hk1 : li_ag 128 f1 SEC) (hbx : li_ag 256 f2 ae_sb) (hbk : li_ag 256 f3 ae_ib) (bd bs : Int32) (i : Nat) (hi : i < 8) : kp_Ml l yM_block wsM_block { frames := 3, cells := 0, slots := 0, locals := 74 } (dC, dI) mCl [.ref (ad 8), .int (nI i), .int bd, .int bs] (wM cI ad (th) (f0) (f1) (f2) (f3) (f4) (f5) (f6) (f7)) [(cI, .int)] sz kp_T (fun (r : Int64) (u : (Nat → Int32) × (Nat → Int32) × (Nat → Int32) × (Nat → Int32)) => r = ae_l (ae_pt SEC (16 * i) 16 ((if bd = 0 then ae_enc else ae_dec) (ae_kx (ae_at KEY (16 * (if bs = 0 then 0 else 1)))) (ae_at SEC (16 * i)))) (16 * i) ∧ li_ag 128 u.1 (ae_pt SEC (16 * i) 16 ((if bd = 0 then ae_enc else ae_dec) (ae_kx (ae_at KEY (16 * (if bs = 0 then 0 else 1)))) (ae_at SEC (16 * i))))) (fun u => (wM cI ad (nI 0) (f0) (u.1) (f2) (f3) (u.2.1) (u.2.2.1) (u.2.2.2) (f7))) := by
  refine kp_ofl (cc := cM_block) (maxL := 5) (ret := some .long) (by decide) rfl (Nat.le_of_ble_eq_true rfl) ?_
  intro p e s m args below meth c ls A hx hb hr hts hown hlocks hml hnm hA hsz hl hP hD hK hX hS
  have hown : s.vm.findClass RM = some m.cls := hown
  have htA : ∀ w ∈ wsM_a, w.before args s = true := fun w h => hts w (List.mem_cons_of_mem _ h)
  have hf : 3 ≤ ({ frames := 3, cells := 0, slots := 0, locals := 74 } : Room).frames ∧ 74 ≤ ({ frames := 3, cells := 0, slots := 0, locals := 74 } : Room).locals := ⟨Nat.le_of_ble_eq_true rfl, Nat.le_of_ble_eq_true rfl⟩
  have hc : 0 ≤ ({ frames := 3, cells := 0, slots := 0, locals := 74 } : Room).cells ∧ 0 ≤ ({ frames := 3, cells := 0, slots := 0, locals := 74 } : Room).slots := ⟨Nat.zero_le _, Nat.zero_le _⟩
  have hl : lv_has ls 5 [(0, .ref (ad 8)), (1, .int (nI (i))), (2, .int (bd)), (3, .int (bs))] := hl
  refine lv_aload_n hx hb dM_block_0 rfl (lv_at hl 0 rfl) ?_
  refine lv_iload_n hx hb dM_block_1 rfl (lv_at hl 1 rfl) ?_
  refine lv_bipush (v := nI 8) hx hb dM_block_2 (by decide) ?_
  refine kp_calli (wr := []) (nw := fun _u => (wM cI ad (nI 0) (f0) (f1) (f2) (f3) (f4) (f5) (f6) (f7))) (va_runV (As := [.int (nI (i)), .int (nI (8))]) (rest := []) ⟨hx, hb, hml, hown, htA⟩ (c_isIn_t l dC dI cI ad (th) (f0) (f1) (f2) (f3) (f4) (f5) (f6) (f7) s.heap.size 8 (by omega) i hi) (cwV 2 htA (goodM_V mM_l50 mM_instanceMethod_isIn mM_selects_isIn mM_code_isIn) rfl rfl rfl (by decide +kernel) ⟨Nat.le_trans (Nat.le_of_ble_eq_true rfl) hf.1, Nat.le_trans (Nat.le_of_ble_eq_true rfl) hf.2⟩) (kp_preV (wc := (wM cI ad (th) (f0) (f1) (f2) (f3) (f4) (f5) (f6) (f7))) kp_XT trivial hP hD hK hS hA [0, 1, 2, 3, 4, 5, 6, 7, 8] rfl rfl rfl [0] rfl (q0 := 0) rfl rfl) rfl rfl hl.1 rfl (lv_room (Nat.le_of_ble_eq_true rfl)) dM_block_4 ⟨hc.1, hc.2⟩) hP hD hS hA [0, 1, 2, 3, 4, 5, 6, 7, 8] [] rfl rfl rfl (by decide) [0, 1, 2, 3, 4, 5, 6, 7, 8] rfl (fun _ => rfl) (fun _ => rfl) (fun r _u H locs hr1 hP hD hS => ?_)
  subst hr1
  refine xi_if_ne (tgt := 12) hx hb dM_block_7 (by decide) (by omega) (fun hc0 => ?_) (fun h9 => absurd h9 (by omega))
  refine lv_iconst (v := nI 0) hx hb dM_block_12 (by decide) ?_
  refine lv_istore (nL := 5) (lv' := [(4, .int (nI (0))), (0, .ref (ad 8)), (1, .int (nI (i))), (2, .int (bd)), (3, .int (bs))]) hx hb dM_block_13 hl (by decide) rfl (fun ls hl => ?_)
  refine lp_blk1 hx hb htA hown hml hA hc hf hK (bd := bd) (bs := bs) hi hk1 (fun g ls H locs hg hl hP hD hS => ?_) 16 0 f5 ls H locs (by omega) li_f0 (lv_sub hl [0, 1, 2, 3, 4] rfl) hP hD hS
  refine lv_iload_n hx hb dM_block_47 rfl (lv_at hl 3 rfl) ?_
  refine lv_if_eq (tgt := 67) hx hb dM_block_48 (by decide) (fun hc1 => ?_) (fun hc1 => ?_)
  · refine lv_aload_n hx hb dM_block_67 rfl (lv_at hl 1 rfl) ?_
    refine lv_iload_n hx hb dM_block_68 rfl (lv_at hl 4 rfl) ?_
    refine lv_if_eq (tgt := 76) hx hb dM_block_69 (by decide) (fun hc2 => ?_) (fun hc2 => ?_)
    · refine lv_iconst (v := nI 0) hx hb dM_block_76 (by decide) ?_
      refine kp_callv (wr := []) (nw := fun u => (wM cI ad (nI 0) (f0) (f1) (f2) (f3) (u.1) (u.2.1) (u.2.2) (f7))) (va_runV (As := [.int (nI (0))]) (rest := []) ⟨hx, hb, hml, hown, htA⟩ (c_encipher l dC dI cI ad (nI 0) (f0) (f1) (f2) (f3) (f4) (g) (f6) (f7) H.size KEY (ae_at SEC (16 * i)) 0 (by omega) hBK (ae_at_lt hBS _) hk0 hbx hbk hg) (cwV 1 htA (goodM_V mM_l75 mM_instanceMethod_encipher mM_selects_encipher mM_code_encipher) rfl rfl rfl (by decide +kernel) ⟨Nat.le_trans (Nat.le_of_ble_eq_true rfl) hf.1, Nat.le_trans (Nat.le_of_ble_eq_true rfl) hf.2⟩) (kp_preV (wc := (wM cI ad (nI 0) (f0) (f1) (f2) (f3) (f4) (g) (f6) (f7))) kp_XT trivial hP hD hK hS hA [0, 1, 2, 3, 4, 5, 6, 7, 8] rfl rfl rfl [0] rfl (q0 := 0) rfl rfl) rfl rfl hl.1 rfl (lv_room (Nat.le_of_ble_eq_true rfl)) dM_block_77 ⟨hc.1, hc.2⟩) hP hD hS hA [0, 1, 2, 3, 4, 5, 6, 7, 8] [] rfl rfl rfl (by decide) [0, 1, 2, 3, 4, 5, 6, 7, 8] rfl (fun _ => rfl) (fun _ => rfl) (fun u H locs hu hP hD hS => ?_)
      obtain ⟨t4, t5, t6⟩ := u
      have hu : li_ag 16 t5 ((if bd = 0 then ae_enc else ae_dec) (ae_kx (ae_at KEY (16 * (if bs = 0 then 0 else 1)))) (ae_at SEC (16 * i))) := by rw [if_pos hc1, if_pos hc2]; exact hu
      refine lv_iconst (v := nI 0) hx hb dM_block_80 (by decide) ?_
      refine lv_istore (nL := 5) (lv' := [(4, .int (nI (0))), (0, .ref (ad 8)), (1, .int (nI (i))), (2, .int (bd)), (3, .int (bs))]) hx hb dM_block_81 hl (by decide) rfl (fun ls hl => ?_)
      refine lp_blk2 hx hb htA hown hml hA hc hf hK (bd := bd) (bs := bs) hi hu (fun g1 ls H locs hg1 hl hP hD hS => ?_) 16 0 f1 ls H locs (by omega) (fun j hj => by omega) (fun j hj => rfl) (lv_sub hl [0, 1, 2, 3, 4] rfl) hP hD hS
      have hS2 : li_ag 128 g1 (ae_pt SEC (16 * i) 16 ((if bd = 0 then ae_enc else ae_dec) (ae_kx (ae_at KEY (16 * (if bs = 0 then 0 else 1)))) (ae_at SEC (16 * i)))) := li_pt hk1 hg1.1 hg1.2
      have hB2 : ae_B (ae_pt SEC (16 * i) 16 ((if bd = 0 then ae_enc else ae_dec) (ae_kx (ae_at KEY (16 * (if bs = 0 then 0 else 1)))) (ae_at SEC (16 * i)))) := by rw [if_pos hc1]; exact ae_pt_lt hBS (ae_en_lt (fun k => ae_kx_lt (ae_at_lt hBK _) k) (ae_at_lt hBS _) 10) _ _
      refine lv_aload_n hx hb dM_block_115 rfl (lv_at hl 1 rfl) ?_
      refine va_get (D := (dC, dI)) (ci := 2) (v := .ref (ad 1)) (C := RM) (T := TM) (N := 9) hx hb htA inM0 hown hK hP 0 rfl rfl 1 (by decide) (htA _ mM_f13) (fun _ h9 => h9) rfl dM_block_116 ?_
      refine lv_bipush (v := nI 16) hx hb dM_block_119 (by decide) ?_
      refine lv_iload_n hx hb dM_block_121 rfl (lv_at hl 2 rfl) ?_
      refine xi_imul hx hb dM_block_122 ?_
      refine kp_calll (wr := [((ad 8), .inr (2, [.ref (ad 0), .ref (ad 1), .ref (ad 2), .ref (ad 3), .ref (ad 4), .ref (ad 5), .ref (ad 6), .ref (ad 7), .int (nI 0)])), ((ad 0), .inl (cI, 32, .inl (f0))), ((ad 2), .inl (cI, 256, .inl (f2))), ((ad 3), .inl (cI, 256, .inl (f3))), ((ad 4), .inl (cI, 176, .inl (t4))), ((ad 5), .inl (cI, 16, .inl (t5))), ((ad 6), .inl (cI, 16, .inl (t6))), ((ad 7), .inl (cI, 16, .inl (f7)))]) (nw := fun _u => (wM cI ad (nI 0) (f0) (g1) (f2) (f3) (t4) (t5) (t6) (f7))) (va_runS (As := [.ref (ad 1), .int (nI (16 * i))]) (rest := []) ⟨hx, hb, hml, hown, htA⟩ (c_read l dC dI cI H.size (ad 1) 128 (16 * i) g1 (ae_at (ae_pt SEC (16 * i) 16 ((if bd = 0 then ae_enc else ae_dec) (ae_kx (ae_at KEY (16 * (if bs = 0 then 0 else 1)))) (ae_at SEC (16 * i)))) (16 * i)) (by omega) (by omega) (ae_at_lt hB2 _) (fun k hk => hS2 _ (by omega))) (va_cwS 2 htA (goodM_S mM_l54 mM_static_read mM_code_read) rfl rfl rfl (by decide +kernel) ⟨Nat.le_trans (Nat.le_of_ble_eq_true rfl) hf.1, Nat.le_trans (Nat.le_of_ble_eq_true rfl) hf.2⟩) (kp_preS (wc := [((ad 1), .inl (cI, 128, .inl (g1)))]) kp_XT trivial hP hD hK hS hA [2] rfl rfl rfl [0] rfl) rfl rfl hl.1 rfl (lv_room (Nat.le_of_ble_eq_true rfl)) dM_block_123 ⟨hc.1, hc.2⟩) hP hD hS hA [2] [0, 1, 3, 4, 5, 6, 7, 8] rfl rfl rfl (by decide) [0, 1, 8, 2, 3, 4, 5, 6, 7] rfl (fun _ => rfl) (fun _ => rfl) (fun r _u H locs hr2 hP hD hS => ?_)
      subst hr2
      exact kp_retl (g1, t4, t5, t6) hx hb hr hlocks ⟨ae_l_at _ (16 * i), hS2⟩ hP hD hS dM_block_126
    · refine lv_iconst (v := nI 1) hx hb dM_block_72 (by decide) ?_
      refine lv_goto (tgt := 77) hx hb dM_block_73 (by decide) ?_
      refine kp_callv (wr := []) (nw := fun u => (wM cI ad (nI 0) (f0) (f1) (f2) (f3) (u.1) (u.2.1) (u.2.2) (f7))) (va_runV (As := [.int (nI (1))]) (rest := []) ⟨hx, hb, hml, hown, htA⟩ (c_encipher l dC dI cI ad (nI 0) (f0) (f1) (f2) (f3) (f4) (g) (f6) (f7) H.size KEY (ae_at SEC (16 * i)) 1 (by omega) hBK (ae_at_lt hBS _) hk0 hbx hbk hg) (cwV 1 htA (goodM_V mM_l75 mM_instanceMethod_encipher mM_selects_encipher mM_code_encipher) rfl rfl rfl (by decide +kernel) ⟨Nat.le_trans (Nat.le_of_ble_eq_true rfl) hf.1, Nat.le_trans (Nat.le_of_ble_eq_true rfl) hf.2⟩) (kp_preV (wc := (wM cI ad (nI 0) (f0) (f1) (f2) (f3) (f4) (g) (f6) (f7))) kp_XT trivial hP hD hK hS hA [0, 1, 2, 3, 4, 5, 6, 7, 8] rfl rfl rfl [0] rfl (q0 := 0) rfl rfl) rfl rfl hl.1 rfl (lv_room (Nat.le_of_ble_eq_true rfl)) dM_block_77 ⟨hc.1, hc.2⟩) hP hD hS hA [0, 1, 2, 3, 4, 5, 6, 7, 8] [] rfl rfl rfl (by decide) [0, 1, 2, 3, 4, 5, 6, 7, 8] rfl (fun _ => rfl) (fun _ => rfl) (fun u H locs hu hP hD hS => ?_)
      obtain ⟨t4, t5, t6⟩ := u
      have hu : li_ag 16 t5 ((if bd = 0 then ae_enc else ae_dec) (ae_kx (ae_at KEY (16 * (if bs = 0 then 0 else 1)))) (ae_at SEC (16 * i))) := by rw [if_pos hc1, if_neg hc2]; exact hu
      refine lv_iconst (v := nI 0) hx hb dM_block_80 (by decide) ?_
      refine lv_istore (nL := 5) (lv' := [(4, .int (nI (0))), (0, .ref (ad 8)), (1, .int (nI (i))), (2, .int (bd)), (3, .int (bs))]) hx hb dM_block_81 hl (by decide) rfl (fun ls hl => ?_)
      refine lp_blk2 hx hb htA hown hml hA hc hf hK (bd := bd) (bs := bs) hi hu (fun g1 ls H locs hg1 hl hP hD hS => ?_) 16 0 f1 ls H locs (by omega) (fun j hj => by omega) (fun j hj => rfl) (lv_sub hl [0, 1, 2, 3, 4] rfl) hP hD hS
      have hS2 : li_ag 128 g1 (ae_pt SEC (16 * i) 16 ((if bd = 0 then ae_enc else ae_dec) (ae_kx (ae_at KEY (16 * (if bs = 0 then 0 else 1)))) (ae_at SEC (16 * i)))) := li_pt hk1 hg1.1 hg1.2
      have hB2 : ae_B (ae_pt SEC (16 * i) 16 ((if bd = 0 then ae_enc else ae_dec) (ae_kx (ae_at KEY (16 * (if bs = 0 then 0 else 1)))) (ae_at SEC (16 * i)))) := by rw [if_pos hc1]; exact ae_pt_lt hBS (ae_en_lt (fun k => ae_kx_lt (ae_at_lt hBK _) k) (ae_at_lt hBS _) 10) _ _
      refine lv_aload_n hx hb dM_block_115 rfl (lv_at hl 1 rfl) ?_
      refine va_get (D := (dC, dI)) (ci := 2) (v := .ref (ad 1)) (C := RM) (T := TM) (N := 9) hx hb htA inM0 hown hK hP 0 rfl rfl 1 (by decide) (htA _ mM_f13) (fun _ h9 => h9) rfl dM_block_116 ?_
      refine lv_bipush (v := nI 16) hx hb dM_block_119 (by decide) ?_
      refine lv_iload_n hx hb dM_block_121 rfl (lv_at hl 2 rfl) ?_
      refine xi_imul hx hb dM_block_122 ?_
      refine kp_calll (wr := [((ad 8), .inr (2, [.ref (ad 0), .ref (ad 1), .ref (ad 2), .ref (ad 3), .ref (ad 4), .ref (ad 5), .ref (ad 6), .ref (ad 7), .int (nI 0)])), ((ad 0), .inl (cI, 32, .inl (f0))), ((ad 2), .inl (cI, 256, .inl (f2))), ((ad 3), .inl (cI, 256, .inl (f3))), ((ad 4), .inl (cI, 176, .inl (t4))), ((ad 5), .inl (cI, 16, .inl (t5))), ((ad 6), .inl (cI, 16, .inl (t6))), ((ad 7), .inl (cI, 16, .inl (f7)))]) (nw := fun _u => (wM cI ad (nI 0) (f0) (g1) (f2) (f3) (t4) (t5) (t6) (f7))) (va_runS (As := [.ref (ad 1), .int (nI (16 * i))]) (rest := []) ⟨hx, hb, hml, hown, htA⟩ (c_read l dC dI cI H.size (ad 1) 128 (16 * i) g1 (ae_at (ae_pt SEC (16 * i) 16 ((if bd = 0 then ae_enc else ae_dec) (ae_kx (ae_at KEY (16 * (if bs = 0 then 0 else 1)))) (ae_at SEC (16 * i)))) (16 * i)) (by omega) (by omega) (ae_at_lt hB2 _) (fun k hk => hS2 _ (by omega))) (va_cwS 2 htA (goodM_S mM_l54 mM_static_read mM_code_read) rfl rfl rfl (by decide +kernel) ⟨Nat.le_trans (Nat.le_of_ble_eq_true rfl) hf.1, Nat.le_trans (Nat.le_of_ble_eq_true rfl) hf.2⟩) (kp_preS (wc := [((ad 1), .inl (cI, 128, .inl (g1)))]) kp_XT trivial hP hD hK hS hA [2] rfl rfl rfl [0] rfl) rfl rfl hl.1 rfl (lv_room (Nat.le_of_ble_eq_true rfl)) dM_block_123 ⟨hc.1, hc.2⟩) hP hD hS hA [2] [0, 1, 3, 4, 5, 6, 7, 8] rfl rfl rfl (by decide) [0, 1, 8, 2, 3, 4, 5, 6, 7] rfl (fun _ => rfl) (fun _ => rfl) (fun r _u H locs hr2 hP hD hS => ?_)
      subst hr2
      exact kp_retl (g1, t4, t5, t6) hx hb hr hlocks ⟨ae_l_at _ (16 * i), hS2⟩ hP hD hS dM_block_126
  · refine lv_aload_n hx hb dM_block_51 rfl (lv_at hl 1 rfl) ?_
    refine lv_iload_n hx hb dM_block_52 rfl (lv_at hl 4 rfl) ?_
    refine lv_if_eq (tgt := 60) hx hb dM_block_53 (by decide) (fun hc2 => ?_) (fun hc2 => ?_)
    · refine lv_iconst (v := nI 0) hx hb dM_block_60 (by decide) ?_
      refine kp_callv (wr := []) (nw := fun u => (wM cI ad (nI 0) (f0) (f1) (f2) (f3) (u.1) (u.2.1) (u.2.2) (f7))) (va_runV (As := [.int (nI (0))]) (rest := []) ⟨hx, hb, hml, hown, htA⟩ (c_decipher l dC dI cI ad (nI 0) (f0) (f1) (f2) (f3) (f4) (g) (f6) (f7) H.size KEY (ae_at SEC (16 * i)) 0 (by omega) hBK (ae_at_lt hBS _) hk0 hbx hbk hg) (cwV 1 htA (goodM_V mM_l72 mM_instanceMethod_decipher mM_selects_decipher mM_code_decipher) rfl rfl rfl (by decide +kernel) ⟨Nat.le_trans (Nat.le_of_ble_eq_true rfl) hf.1, Nat.le_trans (Nat.le_of_ble_eq_true rfl) hf.2⟩) (kp_preV (wc := (wM cI ad (nI 0) (f0) (f1) (f2) (f3) (f4) (g) (f6) (f7))) kp_XT trivial hP hD hK hS hA [0, 1, 2, 3, 4, 5, 6, 7, 8] rfl rfl rfl [0] rfl (q0 := 0) rfl rfl) rfl rfl hl.1 rfl (lv_room (Nat.le_of_ble_eq_true rfl)) dM_block_61 ⟨hc.1, hc.2⟩) hP hD hS hA [0, 1, 2, 3, 4, 5, 6, 7, 8] [] rfl rfl rfl (by decide) [0, 1, 2, 3, 4, 5, 6, 7, 8] rfl (fun _ => rfl) (fun _ => rfl) (fun u H locs hu hP hD hS => ?_)
      obtain ⟨t4, t5, t6⟩ := u
      have hu : li_ag 16 t5 ((if bd = 0 then ae_enc else ae_dec) (ae_kx (ae_at KEY (16 * (if bs = 0 then 0 else 1)))) (ae_at SEC (16 * i))) := by rw [if_neg hc1, if_pos hc2]; exact hu
      refine lv_goto (tgt := 80) hx hb dM_block_64 (by decide) ?_
      refine lv_iconst (v := nI 0) hx hb dM_block_80 (by decide) ?_
      refine lv_istore (nL := 5) (lv' := [(4, .int (nI (0))), (0, .ref (ad 8)), (1, .int (nI (i))), (2, .int (bd)), (3, .int (bs))]) hx hb dM_block_81 hl (by decide) rfl (fun ls hl => ?_)
      refine lp_blk2 hx hb htA hown hml hA hc hf hK (bd := bd) (bs := bs) hi hu (fun g1 ls H locs hg1 hl hP hD hS => ?_) 16 0 f1 ls H locs (by omega) (fun j hj => by omega) (fun j hj => rfl) (lv_sub hl [0, 1, 2, 3, 4] rfl) hP hD hS
      have hS2 : li_ag 128 g1 (ae_pt SEC (16 * i) 16 ((if bd = 0 then ae_enc else ae_dec) (ae_kx (ae_at KEY (16 * (if bs = 0 then 0 else 1)))) (ae_at SEC (16 * i)))) := li_pt hk1 hg1.1 hg1.2
      have hB2 : ae_B (ae_pt SEC (16 * i) 16 ((if bd = 0 then ae_enc else ae_dec) (ae_kx (ae_at KEY (16 * (if bs = 0 then 0 else 1)))) (ae_at SEC (16 * i)))) := by rw [if_neg hc1]; exact ae_pt_lt hBS (ae_dX_lt (fun k => ae_kx_lt (ae_at_lt hBK _) k) (ae_rh_lt (fun k => ae_kx_lt (ae_at_lt hBK _) k) (ae_at_lt hBS _) 10) 0) _ _
      refine lv_aload_n hx hb dM_block_115 rfl (lv_at hl 1 rfl) ?_
      refine va_get (D := (dC, dI)) (ci := 2) (v := .ref (ad 1)) (C := RM) (T := TM) (N := 9) hx hb htA inM0 hown hK hP 0 rfl rfl 1 (by decide) (htA _ mM_f13) (fun _ h9 => h9) rfl dM_block_116 ?_
      refine lv_bipush (v := nI 16) hx hb dM_block_119 (by decide) ?_
      refine lv_iload_n hx hb dM_block_121 rfl (lv_at hl 2 rfl) ?_
      refine xi_imul hx hb dM_block_122 ?_
      refine kp_calll (wr := [((ad 8), .inr (2, [.ref (ad 0), .ref (ad 1), .ref (ad 2), .ref (ad 3), .ref (ad 4), .ref (ad 5), .ref (ad 6), .ref (ad 7), .int (nI 0)])), ((ad 0), .inl (cI, 32, .inl (f0))), ((ad 2), .inl (cI, 256, .inl (f2))), ((ad 3), .inl (cI, 256, .inl (f3))), ((ad 4), .inl (cI, 176, .inl (t4))), ((ad 5), .inl (cI, 16, .inl (t5))), ((ad 6), .inl (cI, 16, .inl (t6))), ((ad 7), .inl (cI, 16, .inl (f7)))]) (nw := fun _u => (wM cI ad (nI 0) (f0) (g1) (f2) (f3) (t4) (t5) (t6) (f7))) (va_runS (As := [.ref (ad 1), .int (nI (16 * i))]) (rest := []) ⟨hx, hb, hml, hown, htA⟩ (c_read l dC dI cI H.size (ad 1) 128 (16 * i) g1 (ae_at (ae_pt SEC (16 * i) 16 ((if bd = 0 then ae_enc else ae_dec) (ae_kx (ae_at KEY (16 * (if bs = 0 then 0 else 1)))) (ae_at SEC (16 * i)))) (16 * i)) (by omega) (by omega) (ae_at_lt hB2 _) (fun k hk => hS2 _ (by omega))) (va_cwS 2 htA (goodM_S mM_l54 mM_static_read mM_code_read) rfl rfl rfl (by decide +kernel) ⟨Nat.le_trans (Nat.le_of_ble_eq_true rfl) hf.1, Nat.le_trans (Nat.le_of_ble_eq_true rfl) hf.2⟩) (kp_preS (wc := [((ad 1), .inl (cI, 128, .inl (g1)))]) kp_XT trivial hP hD hK hS hA [2] rfl rfl rfl [0] rfl) rfl rfl hl.1 rfl (lv_room (Nat.le_of_ble_eq_true rfl)) dM_block_123 ⟨hc.1, hc.2⟩) hP hD hS hA [2] [0, 1, 3, 4, 5, 6, 7, 8] rfl rfl rfl (by decide) [0, 1, 8, 2, 3, 4, 5, 6, 7] rfl (fun _ => rfl) (fun _ => rfl) (fun r _u H locs hr2 hP hD hS => ?_)
      subst hr2
      exact kp_retl (g1, t4, t5, t6) hx hb hr hlocks ⟨ae_l_at _ (16 * i), hS2⟩ hP hD hS dM_block_126
    · refine lv_iconst (v := nI 1) hx hb dM_block_56 (by decide) ?_
      refine lv_goto (tgt := 61) hx hb dM_block_57 (by decide) ?_
      refine kp_callv (wr := []) (nw := fun u => (wM cI ad (nI 0) (f0) (f1) (f2) (f3) (u.1) (u.2.1) (u.2.2) (f7))) (va_runV (As := [.int (nI (1))]) (rest := []) ⟨hx, hb, hml, hown, htA⟩ (c_decipher l dC dI cI ad (nI 0) (f0) (f1) (f2) (f3) (f4) (g) (f6) (f7) H.size KEY (ae_at SEC (16 * i)) 1 (by omega) hBK (ae_at_lt hBS _) hk0 hbx hbk hg) (cwV 1 htA (goodM_V mM_l72 mM_instanceMethod_decipher mM_selects_decipher mM_code_decipher) rfl rfl rfl (by decide +kernel) ⟨Nat.le_trans (Nat.le_of_ble_eq_true rfl) hf.1, Nat.le_trans (Nat.le_of_ble_eq_true rfl) hf.2⟩) (kp_preV (wc := (wM cI ad (nI 0) (f0) (f1) (f2) (f3) (f4) (g) (f6) (f7))) kp_XT trivial hP hD hK hS hA [0, 1, 2, 3, 4, 5, 6, 7, 8] rfl rfl rfl [0] rfl (q0 := 0) rfl rfl) rfl rfl hl.1 rfl (lv_room (Nat.le_of_ble_eq_true rfl)) dM_block_61 ⟨hc.1, hc.2⟩) hP hD hS hA [0, 1, 2, 3, 4, 5, 6, 7, 8] [] rfl rfl rfl (by decide) [0, 1, 2, 3, 4, 5, 6, 7, 8] rfl (fun _ => rfl) (fun _ => rfl) (fun u H locs hu hP hD hS => ?_)
      obtain ⟨t4, t5, t6⟩ := u
      have hu : li_ag 16 t5 ((if bd = 0 then ae_enc else ae_dec) (ae_kx (ae_at KEY (16 * (if bs = 0 then 0 else 1)))) (ae_at SEC (16 * i))) := by rw [if_neg hc1, if_neg hc2]; exact hu
      refine lv_goto (tgt := 80) hx hb dM_block_64 (by decide) ?_
      refine lv_iconst (v := nI 0) hx hb dM_block_80 (by decide) ?_
      refine lv_istore (nL := 5) (lv' := [(4, .int (nI (0))), (0, .ref (ad 8)), (1, .int (nI (i))), (2, .int (bd)), (3, .int (bs))]) hx hb dM_block_81 hl (by decide) rfl (fun ls hl => ?_)
      refine lp_blk2 hx hb htA hown hml hA hc hf hK (bd := bd) (bs := bs) hi hu (fun g1 ls H locs hg1 hl hP hD hS => ?_) 16 0 f1 ls H locs (by omega) (fun j hj => by omega) (fun j hj => rfl) (lv_sub hl [0, 1, 2, 3, 4] rfl) hP hD hS
      have hS2 : li_ag 128 g1 (ae_pt SEC (16 * i) 16 ((if bd = 0 then ae_enc else ae_dec) (ae_kx (ae_at KEY (16 * (if bs = 0 then 0 else 1)))) (ae_at SEC (16 * i)))) := li_pt hk1 hg1.1 hg1.2
      have hB2 : ae_B (ae_pt SEC (16 * i) 16 ((if bd = 0 then ae_enc else ae_dec) (ae_kx (ae_at KEY (16 * (if bs = 0 then 0 else 1)))) (ae_at SEC (16 * i)))) := by rw [if_neg hc1]; exact ae_pt_lt hBS (ae_dX_lt (fun k => ae_kx_lt (ae_at_lt hBK _) k) (ae_rh_lt (fun k => ae_kx_lt (ae_at_lt hBK _) k) (ae_at_lt hBS _) 10) 0) _ _
      refine lv_aload_n hx hb dM_block_115 rfl (lv_at hl 1 rfl) ?_
      refine va_get (D := (dC, dI)) (ci := 2) (v := .ref (ad 1)) (C := RM) (T := TM) (N := 9) hx hb htA inM0 hown hK hP 0 rfl rfl 1 (by decide) (htA _ mM_f13) (fun _ h9 => h9) rfl dM_block_116 ?_
      refine lv_bipush (v := nI 16) hx hb dM_block_119 (by decide) ?_
      refine lv_iload_n hx hb dM_block_121 rfl (lv_at hl 2 rfl) ?_
      refine xi_imul hx hb dM_block_122 ?_
      refine kp_calll (wr := [((ad 8), .inr (2, [.ref (ad 0), .ref (ad 1), .ref (ad 2), .ref (ad 3), .ref (ad 4), .ref (ad 5), .ref (ad 6), .ref (ad 7), .int (nI 0)])), ((ad 0), .inl (cI, 32, .inl (f0))), ((ad 2), .inl (cI, 256, .inl (f2))), ((ad 3), .inl (cI, 256, .inl (f3))), ((ad 4), .inl (cI, 176, .inl (t4))), ((ad 5), .inl (cI, 16, .inl (t5))), ((ad 6), .inl (cI, 16, .inl (t6))), ((ad 7), .inl (cI, 16, .inl (f7)))]) (nw := fun _u => (wM cI ad (nI 0) (f0) (g1) (f2) (f3) (t4) (t5) (t6) (f7))) (va_runS (As := [.ref (ad 1), .int (nI (16 * i))]) (rest := []) ⟨hx, hb, hml, hown, htA⟩ (c_read l dC dI cI H.size (ad 1) 128 (16 * i) g1 (ae_at (ae_pt SEC (16 * i) 16 ((if bd = 0 then ae_enc else ae_dec) (ae_kx (ae_at KEY (16 * (if bs = 0 then 0 else 1)))) (ae_at SEC (16 * i)))) (16 * i)) (by omega) (by omega) (ae_at_lt hB2 _) (fun k hk => hS2 _ (by omega))) (va_cwS 2 htA (goodM_S mM_l54 mM_static_read mM_code_read) rfl rfl rfl (by decide +kernel) ⟨Nat.le_trans (Nat.le_of_ble_eq_true rfl) hf.1, Nat.le_trans (Nat.le_of_ble_eq_true rfl) hf.2⟩) (kp_preS (wc := [((ad 1), .inl (cI, 128, .inl (g1)))]) kp_XT trivial hP hD hK hS hA [2] rfl rfl rfl [0] rfl) rfl rfl hl.1 rfl (lv_room (Nat.le_of_ble_eq_true rfl)) dM_block_123 ⟨hc.1, hc.2⟩) hP hD hS hA [2] [0, 1, 3, 4, 5, 6, 7, 8] rfl rfl rfl (by decide) [0, 1, 8, 2, 3, 4, 5, 6, 7] rfl (fun _ => rfl) (fun _ => rfl) (fun r _u H locs hr2 hP hD hS => ?_)
      subst hr2
      exact kp_retl (g1, t4, t5, t6) hx hb hr hlocks ⟨ae_l_at _ (16 * i), hS2⟩ hP hD hS dM_block_126
set_option maxRecDepth 100000 in
set_option maxHeartbeats 4000000 in
theorem c_block_f (l : Launch) (dC : Nat → ClassId) (dI : Nat → Nat → Nat) (cI : ClassId) (ad : Nat → Nat) (th : Int32) (f0 f1 f2 f3 f4 f5 f6 f7 : Nat → Int32) (sz : Nat) (KEY SEC : Nat → Nat) (hBK : ae_B KEY) (hBS : ae_B SEC) (hk0 : li_ag 32 f0 KEY) (hk1 : li_ag 128 f1 SEC) (hbx : li_ag 256 f2 ae_sb) (hbk : li_ag 256 f3 ae_ib) (bd bs : Int32) (i : Int32) (hi : i < 0 ∨ nI 8 ≤ i) : kp_Ml l yM_block wsM_block { frames := 3, cells := 0, slots := 0, locals := 74 } (dC, dI) mCl [.ref (ad 8), .int i, .int bd, .int bs] (wM cI ad (th) (f0) (f1) (f2) (f3) (f4) (f5) (f6) (f7)) [(cI, .int)] sz kp_T (fun (r : Int64) (_ : Unit) => True) (fun _ => (wM cI ad (nI 1) (f0) (f1) (f2) (f3) (f4) (f5) (f6) (f7))) := by
  refine kp_ofl (cc := cM_block) (maxL := 5) (ret := some .long) (by decide) rfl (Nat.le_of_ble_eq_true rfl) ?_
  intro p e s m args below meth c ls A hx hb hr hts hown hlocks hml hnm hA hsz hl hP hD hK hX hS
  have hown : s.vm.findClass RM = some m.cls := hown
  have htA : ∀ w ∈ wsM_a, w.before args s = true := fun w h => hts w (List.mem_cons_of_mem _ h)
  have hf : 3 ≤ ({ frames := 3, cells := 0, slots := 0, locals := 74 } : Room).frames ∧ 74 ≤ ({ frames := 3, cells := 0, slots := 0, locals := 74 } : Room).locals := ⟨Nat.le_of_ble_eq_true rfl, Nat.le_of_ble_eq_true rfl⟩
  have hc : 0 ≤ ({ frames := 3, cells := 0, slots := 0, locals := 74 } : Room).cells ∧ 0 ≤ ({ frames := 3, cells := 0, slots := 0, locals := 74 } : Room).slots := ⟨Nat.zero_le _, Nat.zero_le _⟩
  have hl : lv_has ls 5 [(0, .ref (ad 8)), (1, .int (i)), (2, .int (bd)), (3, .int (bs))] := hl
  refine lv_aload_n hx hb dM_block_0 rfl (lv_at hl 0 rfl) ?_
  refine lv_iload_n hx hb dM_block_1 rfl (lv_at hl 1 rfl) ?_
  refine lv_bipush (v := nI 8) hx hb dM_block_2 (by decide) ?_
  refine kp_calli (wr := []) (nw := fun _u => (wM cI ad (nI 1) (f0) (f1) (f2) (f3) (f4) (f5) (f6) (f7))) (va_runV (As := [.int (i), .int (nI (8))]) (rest := []) ⟨hx, hb, hml, hown, htA⟩ (c_isIn_f l dC dI cI ad (th) (f0) (f1) (f2) (f3) (f4) (f5) (f6) (f7) s.heap.size 8 (by omega) i hi) (cwV 2 htA (goodM_V mM_l50 mM_instanceMethod_isIn mM_selects_isIn mM_code_isIn) rfl rfl rfl (by decide +kernel) ⟨Nat.le_trans (Nat.le_of_ble_eq_true rfl) hf.1, Nat.le_trans (Nat.le_of_ble_eq_true rfl) hf.2⟩) (kp_preV (wc := (wM cI ad (th) (f0) (f1) (f2) (f3) (f4) (f5) (f6) (f7))) kp_XT trivial hP hD hK hS hA [0, 1, 2, 3, 4, 5, 6, 7, 8] rfl rfl rfl [0] rfl (q0 := 0) rfl rfl) rfl rfl hl.1 rfl (lv_room (Nat.le_of_ble_eq_true rfl)) dM_block_4 ⟨hc.1, hc.2⟩) hP hD hS hA [0, 1, 2, 3, 4, 5, 6, 7, 8] [] rfl rfl rfl (by decide) [0, 1, 2, 3, 4, 5, 6, 7, 8] rfl (fun _ => rfl) (fun _ => rfl) (fun r _u H locs hr1 hP hD hS => ?_)
  subst hr1
  refine xi_if_ne (tgt := 12) hx hb dM_block_7 (by decide) (by omega) (fun h9 => absurd h9 (fun z => z rfl)) (fun hc0 => ?_)
  refine lv_lconst (v := lN 0) hx hb dM_block_10 rfl ?_
  exact kp_retl () hx hb hr hlocks trivial hP hD hS dM_block_11
