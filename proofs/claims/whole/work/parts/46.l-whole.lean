/-! from the law's entry to its loop -/
set_option maxRecDepth 100000 in
set_option maxHeartbeats 4000000 in
theorem whole_start {p : Program} {e : Env} {s : State} {m : MethodId} {below : List Frame} {meth : Method} {c : Code} (l : Launch) (hfl : l.flags = flags0) {b L : Nat} {xs : Nat → Int32} (hL : L ≤ 4608) (C0 : lw_At p s m meth c b L xs) : W p l e room_1 s m #[Value.ref b] below meth c s.heap [] 0 0 (lw_Z below #[Value.ref b] s) (entryFrame m ([Value.ref b] : List Value).toArray 8) := by
  have hlt : l.stackTraces = false := by unfold Launch.stackTraces; rw [hfl]; decide
  obtain ⟨dC, dI, cI, cL, tS, tI, sa1, sa2, sa3, hK, hX, hW1, hW2, hW3⟩ := lf_start C0
  obtain ⟨hx, hb, hr, hml, hown, htA, hXs, hbl, hlocks, hgv⟩ := C0
  have hb : c.code = cL_law := hb
  have hown : s.vm.findClass RL = some m.cls := hown
  obtain ⟨A, hAd⟩ : ∃ A : Nat → Prop, A = fun q => s.heap.size ≤ q := ⟨_, rfl⟩
  rw [← hAd] at hX hW1 hW2 hW3
  have hA : ∀ q, s.heap.size ≤ q → A q := fun q h => by rw [hAd]; exact h
  have hfree : ∀ q, A q → s.heap.size ≤ q := fun q h => by rw [hAd] at h; exact h
  have hbA : ¬ A b := fun h => absurd (hfree b h) (by omega)
  have hf : 10 ≤ room_1.frames ∧ 360 ≤ room_1.locals := ⟨Nat.le_of_ble_eq_true rfl, Nat.le_of_ble_eq_true rfl⟩
  have hP : va_P (dC, dI) mCl [] s.heap := fun k q hq => by simp at hq
  have hD : va_D A [] := ⟨fun i j q r h => by simp at h, fun k q h => by simp at h⟩
  have hS : va_S A s.heap s.heap [] := va_S.rf
  have hl := lv_entry [Value.ref b] (n := 8) (Nat.le_of_ble_eq_true rfl)
  rw [lg_entry_eq]
  generalize (lg_sl [Value.ref b] ++ List.replicate (8 - (lg_sl [Value.ref b]).length) Slot.unset).toArray = ls at hl ⊢
  have hl : lv_has ls 8 [(0, .ref b)] := hl
  refine va_new (ci := 1) (fs := [.null, .null, .null, .null]) (C := RX1) (T := TX1) (N := 4) hx hb htA tb_X1 tyX1 tyX1_ok hown (htA _ tl_c8) (htA _ (tb_C _ mS_instantiable)) (htA _ (tb_C _ mS_initialized)) hK hP hD hS hA rfl (fun j hj => by rcases (show j = 0 ∨ j = 1 ∨ j = 2 ∨ j = 3 by omega) with rfl | rfl | rfl | rfl <;> rfl) (Nat.le_of_ble_eq_true rfl) (Nat.le_of_ble_eq_true rfl) dL_law_0 (fun q1 H hP hD hS => ?_)
  have hP : va_P (dC, dI) mCl [(q1, .inr (1, [.null, .null, .null, .null]))] H := hP
  have hD : va_D A [(q1, .inr (1, [.null, .null, .null, .null]))] := hD
  refine lv_dup hx hb dL_law_3 rfl ?_
  refine kp_callv (wr := []) (nw := fun u => [((u.1 6), .inr (1, [.ref (u.1 0), .ref (u.1 1), .ref (u.1 2), .ref (u.1 4)])), ((u.1 0), .inl (cL, 16, .inr (.inl (fun _ => lN 0)))), ((u.1 1), .inl (cL, 2, .inr (.inl (fun _ => lN 0)))), ((u.1 2), .inr (0, [.ref (u.1 3)])), ((u.1 3), .inl (cI, 44, .inl (u.2.1))), ((u.1 4), .inr (0, [.ref (u.1 5)])), ((u.1 5), .inl (cI, 44, .inl (u.2.2)))]) (va_runI (b := q1) (As := []) (rest := [.ref q1]) ⟨hx, hb, hml, hown, htA⟩ (c_X1_init l dC dI cI cL H.size q1 tS tI) (cwI 0 htA (goodT_C mS_code_init) rfl rfl rfl (htA _ (tb_C _ mS_initialized)) (htA _ tl_l29) (htA _ (tb_C _ mS_instanceMethod_init)) rfl (by decide +kernel) ⟨Nat.le_trans (Nat.le_of_ble_eq_true rfl) hf.1, Nat.le_trans (Nat.le_of_ble_eq_true rfl) hf.2⟩) (kp_preS (wc := [(q1, .inr (1, [.null, .null, .null, .null]))]) (ini_kp tS tI) hX hP hD hK hS hA [0] rfl rfl rfl [0, 1] rfl) rfl rfl hl.1 rfl (lv_room (Nat.le_of_ble_eq_true rfl)) dL_law_4 ⟨Nat.le_of_ble_eq_true rfl, Nat.le_of_ble_eq_true rfl⟩) hP hD hS hA [0] [] rfl rfl rfl (by decide) [0, 1, 2, 3, 4, 5, 6] rfl (fun _ => rfl) (fun _ => rfl) (fun u H locs hu hP hD hS => ?_)
  obtain ⟨ad, x1, x2⟩ := u
  obtain ⟨e6, hx1, hx2⟩ := hu
  have e6 : ad 6 = q1 := e6
  have hP2 := hP
  have hD2 := hD
  subst e6
  have hP := hP2
  have hD := hD2
  have hP : va_P (dC, dI) mCl [((ad 6), .inr (1, [.ref (ad 0), .ref (ad 1), .ref (ad 2), .ref (ad 4)])), ((ad 0), .inl (cL, 16, .inr (.inl (fun _ => lN 0)))), ((ad 1), .inl (cL, 2, .inr (.inl (fun _ => lN 0)))), ((ad 2), .inr (0, [.ref (ad 3)])), ((ad 3), .inl (cI, 44, .inl (x1))), ((ad 4), .inr (0, [.ref (ad 5)])), ((ad 5), .inl (cI, 44, .inl (x2)))] H := hP
  have hD : va_D A [((ad 6), .inr (1, [.ref (ad 0), .ref (ad 1), .ref (ad 2), .ref (ad 4)])), ((ad 0), .inl (cL, 16, .inr (.inl (fun _ => lN 0)))), ((ad 1), .inl (cL, 2, .inr (.inl (fun _ => lN 0)))), ((ad 2), .inr (0, [.ref (ad 3)])), ((ad 3), .inl (cI, 44, .inl (x1))), ((ad 4), .inr (0, [.ref (ad 5)])), ((ad 5), .inl (cI, 44, .inl (x2)))] := hD
  refine lv_astore_n (nL := 8) (lv' := [(1, .ref (ad 6)), (0, .ref b)]) hx hb dL_law_7 rfl hl (by decide) rfl (fun ls hl => ?_)
  refine va_new (ci := 2) (fs := [.null, .null, .null, .null, .null, .null, .null, .null, .int (nI 0)]) (C := RM) (T := TM) (N := 9) hx hb htA tb_M0 tyM tyM_ok hown (htA _ tl_c30) (htA _ (tb_M _ mM_instantiable)) (htA _ (tb_M _ mM_initialized)) hK hP hD hS hA rfl (fun j hj => by rcases (show j = 0 ∨ j = 1 ∨ j = 2 ∨ j = 3 ∨ j = 4 ∨ j = 5 ∨ j = 6 ∨ j = 7 ∨ j = 8 by omega) with rfl | rfl | rfl | rfl | rfl | rfl | rfl | rfl | rfl <;> rfl) (Nat.le_of_ble_eq_true rfl) (Nat.le_of_ble_eq_true rfl) dL_law_8 (fun q2 H hP hD hS => ?_)
  have hP : va_P (dC, dI) mCl [((ad 6), .inr (1, [.ref (ad 0), .ref (ad 1), .ref (ad 2), .ref (ad 4)])), ((ad 0), .inl (cL, 16, .inr (.inl (fun _ => lN 0)))), ((ad 1), .inl (cL, 2, .inr (.inl (fun _ => lN 0)))), ((ad 2), .inr (0, [.ref (ad 3)])), ((ad 3), .inl (cI, 44, .inl (x1))), ((ad 4), .inr (0, [.ref (ad 5)])), ((ad 5), .inl (cI, 44, .inl (x2))), (q2, .inr (2, [.null, .null, .null, .null, .null, .null, .null, .null, .int (nI 0)]))] H := hP
  have hD : va_D A [((ad 6), .inr (1, [.ref (ad 0), .ref (ad 1), .ref (ad 2), .ref (ad 4)])), ((ad 0), .inl (cL, 16, .inr (.inl (fun _ => lN 0)))), ((ad 1), .inl (cL, 2, .inr (.inl (fun _ => lN 0)))), ((ad 2), .inr (0, [.ref (ad 3)])), ((ad 3), .inl (cI, 44, .inl (x1))), ((ad 4), .inr (0, [.ref (ad 5)])), ((ad 5), .inl (cI, 44, .inl (x2))), (q2, .inr (2, [.null, .null, .null, .null, .null, .null, .null, .null, .int (nI 0)]))] := hD
  refine lv_dup hx hb dL_law_11 rfl ?_
  refine kp_callv (wr := [((ad 6), .inr (1, [.ref (ad 0), .ref (ad 1), .ref (ad 2), .ref (ad 4)])), ((ad 0), .inl (cL, 16, .inr (.inl (fun _ => lN 0)))), ((ad 1), .inl (cL, 2, .inr (.inl (fun _ => lN 0)))), ((ad 2), .inr (0, [.ref (ad 3)])), ((ad 3), .inl (cI, 44, .inl (x1))), ((ad 4), .inr (0, [.ref (ad 5)])), ((ad 5), .inl (cI, 44, .inl (x2)))]) (nw := fun v => [((ad 6), .inr (1, [.ref (ad 0), .ref (ad 1), .ref (ad 2), .ref (ad 4)])), ((ad 0), .inl (cL, 16, .inr (.inl (fun _ => lN 0)))), ((ad 1), .inl (cL, 2, .inr (.inl (fun _ => lN 0)))), ((ad 2), .inr (0, [.ref (ad 3)])), ((ad 3), .inl (cI, 44, .inl (x1))), ((ad 4), .inr (0, [.ref (ad 5)])), ((ad 5), .inl (cI, 44, .inl (x2))), ((v.1 8), .inr (2, [.ref (v.1 0), .ref (v.1 1), .ref (v.1 2), .ref (v.1 3), .ref (v.1 4), .ref (v.1 5), .ref (v.1 6), .ref (v.1 7), .int (nI 0)])), ((v.1 0), .inl (cI, 32, .inl (fun _ => nI 0))), ((v.1 1), .inl (cI, 128, .inl (fun _ => nI 0))), ((v.1 2), .inl (cI, 256, .inl (v.2.1))), ((v.1 3), .inl (cI, 256, .inl (v.2.2))), ((v.1 4), .inl (cI, 176, .inl (fun _ => nI 0))), ((v.1 5), .inl (cI, 16, .inl (fun _ => nI 0))), ((v.1 6), .inl (cI, 16, .inl (fun _ => nI 0))), ((v.1 7), .inl (cI, 16, .inl (fun _ => nI 0)))]) (va_runI (b := q2) (As := []) (rest := [.ref q2]) ⟨hx, hb, hml, hown, htA⟩ (c_init l dC dI cI H.size q2) (cwI 0 htA (goodT_M mM_code_init) rfl rfl rfl (htA _ (tb_M _ mM_initialized)) (htA _ tl_l32) (htA _ (tb_M _ mM_instanceMethod_init)) rfl (by decide +kernel) ⟨Nat.le_trans (Nat.le_of_ble_eq_true rfl) hf.1, Nat.le_trans (Nat.le_of_ble_eq_true rfl) hf.2⟩) (kp_preS (wc := [(q2, .inr (2, [.null, .null, .null, .null, .null, .null, .null, .null, .int (nI 0)]))]) kp_XT trivial hP hD hK hS hA [7] rfl rfl rfl [0] rfl) rfl rfl hl.1 rfl (lv_room (Nat.le_of_ble_eq_true rfl)) dL_law_12 ⟨Nat.le_of_ble_eq_true rfl, Nat.le_of_ble_eq_true rfl⟩) hP hD hS hA [7] [0, 1, 2, 3, 4, 5, 6] rfl rfl rfl (by decide) [0, 1, 2, 3, 4, 5, 6, 7, 8, 9, 10, 11, 12, 13, 14, 15] rfl (fun _ => rfl) (fun _ => rfl) (fun v H locs hv hP hD hS => ?_)
  obtain ⟨am, y1, y2⟩ := v
  obtain ⟨e8, hy1, hy2⟩ := hv
  have e8 : am 8 = q2 := e8
  have hP2 := hP
  have hD2 := hD
  subst e8
  have hP := hP2
  have hD := hD2
  have hP : va_P (dC, dI) mCl [((ad 6), .inr (1, [.ref (ad 0), .ref (ad 1), .ref (ad 2), .ref (ad 4)])), ((ad 0), .inl (cL, 16, .inr (.inl (fun _ => lN 0)))), ((ad 1), .inl (cL, 2, .inr (.inl (fun _ => lN 0)))), ((ad 2), .inr (0, [.ref (ad 3)])), ((ad 3), .inl (cI, 44, .inl (x1))), ((ad 4), .inr (0, [.ref (ad 5)])), ((ad 5), .inl (cI, 44, .inl (x2))), ((am 8), .inr (2, [.ref (am 0), .ref (am 1), .ref (am 2), .ref (am 3), .ref (am 4), .ref (am 5), .ref (am 6), .ref (am 7), .int (nI 0)])), ((am 0), .inl (cI, 32, .inl (fun _ => nI 0))), ((am 1), .inl (cI, 128, .inl (fun _ => nI 0))), ((am 2), .inl (cI, 256, .inl (y1))), ((am 3), .inl (cI, 256, .inl (y2))), ((am 4), .inl (cI, 176, .inl (fun _ => nI 0))), ((am 5), .inl (cI, 16, .inl (fun _ => nI 0))), ((am 6), .inl (cI, 16, .inl (fun _ => nI 0))), ((am 7), .inl (cI, 16, .inl (fun _ => nI 0)))] H := hP
  have hD : va_D A [((ad 6), .inr (1, [.ref (ad 0), .ref (ad 1), .ref (ad 2), .ref (ad 4)])), ((ad 0), .inl (cL, 16, .inr (.inl (fun _ => lN 0)))), ((ad 1), .inl (cL, 2, .inr (.inl (fun _ => lN 0)))), ((ad 2), .inr (0, [.ref (ad 3)])), ((ad 3), .inl (cI, 44, .inl (x1))), ((ad 4), .inr (0, [.ref (ad 5)])), ((ad 5), .inl (cI, 44, .inl (x2))), ((am 8), .inr (2, [.ref (am 0), .ref (am 1), .ref (am 2), .ref (am 3), .ref (am 4), .ref (am 5), .ref (am 6), .ref (am 7), .int (nI 0)])), ((am 0), .inl (cI, 32, .inl (fun _ => nI 0))), ((am 1), .inl (cI, 128, .inl (fun _ => nI 0))), ((am 2), .inl (cI, 256, .inl (y1))), ((am 3), .inl (cI, 256, .inl (y2))), ((am 4), .inl (cI, 176, .inl (fun _ => nI 0))), ((am 5), .inl (cI, 16, .inl (fun _ => nI 0))), ((am 6), .inl (cI, 16, .inl (fun _ => nI 0))), ((am 7), .inl (cI, 16, .inl (fun _ => nI 0)))] := hD
  refine lv_astore_n (nL := 8) (lv' := [(2, .ref (am 8)), (1, .ref (ad 6)), (0, .ref b)]) hx hb dL_law_15 rfl hl (by decide) rfl (fun ls hl => ?_)
  refine lv_iconst (v := nI 1) hx hb dL_law_16 (by decide) ?_
  refine xa_newl hx hb (htA _ (tb_C _ mC_arrayLong)) hK hP hD hS hA 1 rfl (n := 1) (by omega) (Nat.le_of_ble_eq_true rfl) (Nat.le_of_ble_eq_true rfl) dL_law_17 (fun qo H hP hD hS => ?_)
  have hP : va_P (dC, dI) mCl (wL cI cL ad am qo (fun _ => lN 0) (fun _ => lN 0) (x1) (x2) (nI 0) (fun _ => nI 0) (fun _ => nI 0) (y1) (y2) (fun _ => nI 0) (fun _ => nI 0) (fun _ => nI 0) (fun _ => nI 0) (fun _ => lN 0)) H := hP
  have hD : va_D A (wL cI cL ad am qo (fun _ => lN 0) (fun _ => lN 0) (x1) (x2) (nI 0) (fun _ => nI 0) (fun _ => nI 0) (y1) (y2) (fun _ => nI 0) (fun _ => nI 0) (fun _ => nI 0) (fun _ => nI 0) (fun _ => lN 0)) := hD
  refine lv_astore_n (nL := 8) (lv' := [(3, .ref qo), (2, .ref (am 8)), (1, .ref (ad 6)), (0, .ref b)]) hx hb dL_law_19 rfl hl (by decide) rfl (fun ls hl => ?_)
  refine lv_iconst (v := nI 0) hx hb dL_law_20 (by decide) ?_
  refine lv_istore (nL := 8) (lv' := [(4, .int (nI (0))), (3, .ref qo), (2, .ref (am 8)), (1, .ref (ad 6)), (0, .ref b)]) hx hb dL_law_21 hl (by decide) rfl (fun ls hl => ?_)
  exact lw_loop hx hb htA hown hml hA hbA hXs hbl hL hlt hK hX.1 hW1 hW2 hW3 hf ⟨Nat.le_of_ble_eq_true rfl, Nat.le_of_ble_eq_true rfl⟩ (fun ls H locs hS => lv_iconst (v := 1) hx hb dL_law_641 (by decide) (va_forget (fun q hq => hfree _ (hS.2.2 q hq)) (lw_ret hx hb hr hlocks dL_law_642))) 512 0 (fun _ => 0) (fun _ => 0) (fun _ => lN 0) (fun _ => lN 0) x1 x2 (nI 0) (fun _ => nI 0) (fun _ => nI 0) y1 y2 (fun _ => nI 0) (fun _ => nI 0) (fun _ => nI 0) (fun _ => nI 0) (fun _ => lN 0) ls H locs (by omega) (by omega) ⟨fun _ => (by show 0 < 256; decide), fun _ => (by show 0 < 256; decide), fun i hi => rfl, hx1, hx2, fun i hi => rfl, fun i hi => rfl, hy1, hy2⟩ (lv_sub hl [0, 4, 3, 2, 1] rfl) hP hD hS
