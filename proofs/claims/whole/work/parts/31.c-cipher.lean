/-! the class's schedule and cipher -/
theorem ae_wk_a {K : Nat → Nat} (hB : ae_B K) {k rc : Nat} (h : 4 ≤ k) (h4 : k % 4 = 0) (hrc : rc = ae_rc ((k - 1) / 4)) : ae_wf (ae_kx K) (4 * (k - 4)) ^^^ nI (ae_h4 (ae_sb (ae_kx K (4 * (k - 1) + 1))) (ae_sb (ae_kx K (4 * (k - 1) + 2))) (ae_sb (ae_kx K (4 * (k - 1) + 3))) (ae_sb (ae_kx K (4 * (k - 1)))) ^^^ rc * 2 ^ 24) = ae_wf (ae_kx K) (4 * k) := by
  have hX : ae_B (ae_kx K) := fun i => ae_kx_lt hB i
  have s0 : ∀ i, ae_sb (ae_kx K i) < 256 := fun i => ae_sb_lt _ (hX i)
  have hr : rc < 256 := by rw [hrc]; exact ae_rc_lt _
  have e0 : ae_kx K (4 * k) = ae_kx K (4 * (k - 4)) ^^^ (ae_sb (ae_kx K (4 * (k - 1) + 1)) ^^^ rc) := by
    rw [ae_kx_a (K := K) (k := 4 * k) (by omega) (by omega), Nat.xor_assoc, show 4 * k - 16 = 4 * (k - 4) by omega, show 4 * k - 4 * k % 4 - 4 + (4 * k + 1) % 4 = 4 * (k - 1) + 1 by omega, show 4 * k / 16 - 1 = (k - 1) / 4 by omega, ← hrc]
  have e1 : ae_kx K (4 * k + 1) = ae_kx K (4 * (k - 4) + 1) ^^^ (ae_sb (ae_kx K (4 * (k - 1) + 2)) ^^^ 0) := by
    rw [ae_kx_b (K := K) (k := 4 * k + 1) (by omega) (by omega) (by omega), Nat.xor_assoc, show 4 * k + 1 - 16 = 4 * (k - 4) + 1 by omega, show 4 * k + 1 - (4 * k + 1) % 4 - 4 + (4 * k + 1 + 1) % 4 = 4 * (k - 1) + 2 by omega]
  have e2 : ae_kx K (4 * k + 2) = ae_kx K (4 * (k - 4) + 2) ^^^ (ae_sb (ae_kx K (4 * (k - 1) + 3)) ^^^ 0) := by
    rw [ae_kx_b (K := K) (k := 4 * k + 2) (by omega) (by omega) (by omega), Nat.xor_assoc, show 4 * k + 2 - 16 = 4 * (k - 4) + 2 by omega, show 4 * k + 2 - (4 * k + 2) % 4 - 4 + (4 * k + 2 + 1) % 4 = 4 * (k - 1) + 3 by omega]
  have e3 : ae_kx K (4 * k + 3) = ae_kx K (4 * (k - 4) + 3) ^^^ (ae_sb (ae_kx K (4 * (k - 1))) ^^^ 0) := by
    rw [ae_kx_b (K := K) (k := 4 * k + 3) (by omega) (by omega) (by omega), Nat.xor_assoc, show 4 * k + 3 - 16 = 4 * (k - 4) + 3 by omega, show 4 * k + 3 - (4 * k + 3) % 4 - 4 + (4 * k + 3 + 1) % 4 = 4 * (k - 1) by omega]
  rw [show rc * 2 ^ 24 = ae_h4 rc 0 0 0 by unfold ae_h4; omega, ae_x4 (s0 _) (s0 _) (s0 _) (by omega) (by omega) (by omega)]
  show ae_w _ _ _ _ ^^^ ae_w _ _ _ _ = ae_w (ae_kx K (4 * k)) (ae_kx K (4 * k + 1)) (ae_kx K (4 * k + 2)) (ae_kx K (4 * k + 3))
  rw [ae_wx (hX _) (hX _) (hX _) (ae_x_lt (s0 _) (by omega)) (ae_x_lt (s0 _) (by omega)) (ae_x_lt (s0 _) (by omega)), e0, e1, e2, e3]
theorem ae_wk_b {K : Nat → Nat} (hB : ae_B K) {k : Nat} (h : 4 ≤ k) (h4 : k % 4 ≠ 0) : ae_wf (ae_kx K) (4 * (k - 4)) ^^^ ae_wf (ae_kx K) (4 * (k - 1)) = ae_wf (ae_kx K) (4 * k) := by
  have hX : ae_B (ae_kx K) := fun i => ae_kx_lt hB i
  have e : ∀ r, r < 4 → ae_kx K (4 * k + r) = ae_kx K (4 * (k - 4) + r) ^^^ ae_kx K (4 * (k - 1) + r) := fun r hr => by
    rw [ae_kx_c (K := K) (k := 4 * k + r) (by omega) (by omega), Nat.xor_zero, show 4 * k + r - 16 = 4 * (k - 4) + r by omega, show 4 * k + r - 4 = 4 * (k - 1) + r by omega]
  rw [ae_wfx hX hX]
  have e0 := e 0 (by omega)
  rw [Nat.add_zero, Nat.add_zero, Nat.add_zero] at e0
  show ae_w _ _ _ _ = ae_w (ae_kx K (4 * k)) (ae_kx K (4 * k + 1)) (ae_kx K (4 * k + 2)) (ae_kx K (4 * k + 3))
  rw [e0, e 1 (by omega), e 2 (by omega), e 3 (by omega)]
/-- a column behind a round of enciphering -/
theorem ae_encC {X S M : Nat → Nat} {k : Nat} (hk : 1 ≤ k) (hM : ae_B M) (hX : ae_B X) (e : ∀ j, M j = if k < 10 then ae_mg 2 3 1 1 (ae_eS (ae_en X S (k - 1))) j else ae_eS (ae_en X S (k - 1)) j) (c : Nat) : ae_wf M (4 * c) ^^^ ae_wf X (4 * (4 * k + c)) = ae_wf (ae_en X S k) (4 * c) := by
  have e2 : ∀ j, ae_en X S k j = M j ^^^ X (16 * k + j) := fun j => by rw [ae_en_s hk]; unfold ae_eR; rw [← e j]
  rw [ae_wfx hM hX]
  show ae_w _ _ _ _ = ae_w (ae_en X S k (4 * c)) (ae_en X S k (4 * c + 1)) (ae_en X S k (4 * c + 2)) (ae_en X S k (4 * c + 3))
  rw [e2, e2, e2, e2, show 4 * (4 * k + c) = 16 * k + 4 * c by omega]
  rfl
theorem ae_decC {X M : Nat → Nat} (hM : ae_B M) (hX : ae_B X) (r c : Nat) : ae_wf M (4 * c) ^^^ ae_wf X (4 * (4 * r + c)) = ae_wf (fun j => M j ^^^ X (16 * r + j)) (4 * c) := by
  rw [ae_wfx hM hX, show 4 * (4 * r + c) = 16 * r + 4 * c by omega]
  rfl
section
variable {p : Program} {l : Launch} {e : Env} {R : Room} {s : State} {m : MethodId} {args : Array Value} {below : List Frame} {meth : Method} {c : Code} {cells slots : Nat} {Q : State → Prop} {dC : Nat → ClassId} {dI : Nat → Nat → Nat} {A : Nat → Prop}

set_option maxRecDepth 100000 in
set_option maxHeartbeats 4000000 in
theorem lc_expand (hx : p.tables.exec = Jvm.exec) (hb : c.code = cX0_expand) (htA : ∀ w ∈ wsC_a, w.before args s = true) (hown : s.vm.findClass RX0 = some m.cls) (hml : c.maxLocals = 9) (hA : ∀ q, s.heap.size ≤ q → A q) (hc : cells ≤ R.cells ∧ slots ≤ R.slots) (hf : 1 ≤ R.frames ∧ 24 ≤ R.locals) {cI : ClassId} {h0 q0 tS tI : Nat} {K : Nat → Nat} (hB : ae_B K) (hK : va_K (dC, dI) mCl [(cI, .int)] s) (hX : st_X tS tI A s)
    (kk : ∀ (g : Nat → Int32) (rc : Nat) (ls : Array Slot) (H : Heap) (locs : List Loc), (∀ i, i < 44 → g i = ae_wf (ae_kx K) (4 * i)) → lv_has ls 9 [(6, .int (nI (44))), (5, .int (nI (rc))), (0, .ref h0), (1, .long (ae_l K 0)), (3, .long (ae_l K 8))] → va_P (dC, dI) mCl [(h0, .inr (0, [.ref q0])), (q0, .inl (cI, 44, .inl (g)))] H → va_D A [(h0, .inr (0, [.ref q0])), (q0, .inl (cI, 44, .inl (g)))] → va_S A s.heap H locs → W p l e R s m args below meth c H locs cells slots Q (F0 m 130 ls [])) :
    ∀ (j k : Nat) (g : Nat → Int32) (rc : Nat) (ls : Array Slot) (H : Heap) (locs : List Loc), k + j = 44 → (∀ i, i < k → g i = ae_wf (ae_kx K) (4 * i)) → rc = ae_rc ((k - 1) / 4) → 4 ≤ k → lv_has ls 9 [(6, .int (nI (k))), (5, .int (nI (rc))), (0, .ref h0), (1, .long (ae_l K 0)), (3, .long (ae_l K 8))] → va_P (dC, dI) mCl [(h0, .inr (0, [.ref q0])), (q0, .inl (cI, 44, .inl (g)))] H → va_D A [(h0, .inr (0, [.ref q0])), (q0, .inl (cI, 44, .inl (g)))] → va_S A s.heap H locs → W p l e R s m args below meth c H locs cells slots Q (F0 m 42 ls []) := by
  intro j
  induction j with
  | zero =>
    intro k g rc ls H locs hj i1 i2 i3 hl hP hD hS
    have e : k = 44 := by omega
    subst e
    refine lv_iload hx hb dX0_expand_42 (lv_at hl 0 rfl) ?_
    refine lv_bipush (v := nI 44) hx hb dX0_expand_44 (by decide) ?_
    refine xi_icmp_ge (tgt := 130) hx hb dX0_expand_46 (by decide) (by omega) (by omega) (fun hc0 => ?_) (fun h9 => absurd h9 (by omega))
    exact kk g rc ls H locs i1 hl hP hD hS
  | succ j ih =>
    intro k g rc ls H locs hj i1 i2 i3 hl hP hD hS
    have hBX : ae_B (ae_kx K) := fun i => ae_kx_lt hB i
    have hq := ae_h4_lt (hBX (4 * (k - 1))) (hBX (4 * (k - 1) + 1)) (hBX (4 * (k - 1) + 2)) (hBX (4 * (k - 1) + 3))
    have hrc : rc < 256 := by rw [i2]; exact ae_rc_lt _
    refine lv_iload hx hb dX0_expand_42 (lv_at hl 0 rfl) ?_
    refine lv_bipush (v := nI 44) hx hb dX0_expand_44 (by decide) ?_
    refine xi_icmp_ge (tgt := 130) hx hb dX0_expand_46 (by decide) (by omega) (by omega) (fun h9 => absurd h9 (by omega)) (fun hc0 => ?_)
    refine lv_aload_n hx hb dX0_expand_49 rfl (lv_at hl 2 rfl) ?_
    refine va_get (D := (dC, dI)) (ci := 0) (v := .ref q0) (C := RX0) (T := TX0) (N := 1) hx hb htA inC0 hown hK hP 0 rfl rfl 0 (by decide) (htA _ mA_f9) (fun _ h9 => h9) rfl dX0_expand_50 ?_
    refine lv_iload hx hb dX0_expand_53 (lv_at hl 0 rfl) ?_
    refine lv_iconst (v := nI 1) hx hb dX0_expand_55 (by decide) ?_
    refine xi_isub hx hb dX0_expand_56 (by omega) ?_
    refine xa_ild hx hb hK hP 1 0 rfl rfl (by omega) (by omega) (v := nI (ae_h4 (ae_kx K (4 * (k - 1))) (ae_kx K (4 * (k - 1) + 1)) (ae_kx K (4 * (k - 1) + 2)) (ae_kx K (4 * (k - 1) + 3)))) (i1 _ (by omega)) dX0_expand_57 ?_
    refine lv_istore (nL := 9) (lv' := [(7, .int (nI (ae_h4 (ae_kx K (4 * (k - 1))) (ae_kx K (4 * (k - 1) + 1)) (ae_kx K (4 * (k - 1) + 2)) (ae_kx K (4 * (k - 1) + 3))))), (6, .int (nI (k))), (5, .int (nI (rc))), (0, .ref h0), (1, .long (ae_l K 0)), (3, .long (ae_l K 8))]) hx hb dX0_expand_58 hl (by decide) rfl (fun ls hl => ?_)
    refine lv_iload hx hb dX0_expand_60 (lv_at hl 1 rfl) ?_
    refine lv_iconst (v := nI 4) hx hb dX0_expand_62 (by decide) ?_
    refine xi_irem hx hb dX0_expand_63 (by omega) (by omega) (by omega) ?_
    refine xi_if_ne (tgt := 105) hx hb dX0_expand_64 (by decide) (by omega) (fun hc1 => ?_) (fun hc1 => ?_)
    · refine lv_aload_n hx hb dX0_expand_105 rfl (lv_at hl 3 rfl) ?_
      refine va_get (D := (dC, dI)) (ci := 0) (v := .ref q0) (C := RX0) (T := TX0) (N := 1) hx hb htA inC0 hown hK hP 0 rfl rfl 0 (by decide) (htA _ mA_f9) (fun _ h9 => h9) rfl dX0_expand_106 ?_
      refine lv_iload hx hb dX0_expand_109 (lv_at hl 1 rfl) ?_
      refine lv_aload_n hx hb dX0_expand_111 rfl (lv_at hl 3 rfl) ?_
      refine va_get (D := (dC, dI)) (ci := 0) (v := .ref q0) (C := RX0) (T := TX0) (N := 1) hx hb htA inC0 hown hK hP 0 rfl rfl 0 (by decide) (htA _ mA_f9) (fun _ h9 => h9) rfl dX0_expand_112 ?_
      refine lv_iload hx hb dX0_expand_115 (lv_at hl 1 rfl) ?_
      refine lv_iconst (v := nI 4) hx hb dX0_expand_117 (by decide) ?_
      refine xi_isub hx hb dX0_expand_118 (by omega) ?_
      refine xa_ild hx hb hK hP 1 0 rfl rfl (by omega) (by omega) (v := ae_wf (ae_kx K) (4 * (k - 4))) (i1 _ (by omega)) dX0_expand_119 ?_
      refine lv_iload hx hb dX0_expand_120 (lv_at hl 0 rfl) ?_
      refine lv_ixor hx hb dX0_expand_122 ?_
      refine tw_i (y := ae_wf (ae_kx K) (4 * k)) (ae_wk_b hB i3 hc1) ?_
      refine xa_ist hx hb hK hP hD hS 1 0 rfl rfl (by omega) (by omega) dX0_expand_123 (fun H locs hP hD hS => ?_)
      have hP : va_P (dC, dI) mCl [(h0, .inr (0, [.ref q0])), (q0, .inl (cI, 44, .inl (upd (g) (k) (ae_wf (ae_kx K) (4 * k)))))] H := hP
      have hD : va_D A [(h0, .inr (0, [.ref q0])), (q0, .inl (cI, 44, .inl (upd (g) (k) (ae_wf (ae_kx K) (4 * k)))))] := hD
      refine lv_iinc (k := 1) (v := nI (k + 1)) (nL := 9) (lv' := [(6, .int (nI (k + 1))), (7, .int (nI (ae_h4 (ae_kx K (4 * (k - 1))) (ae_kx K (4 * (k - 1) + 1)) (ae_kx K (4 * (k - 1) + 2)) (ae_kx K (4 * (k - 1) + 3))))), (5, .int (nI (rc))), (0, .ref h0), (1, .long (ae_l K 0)), (3, .long (ae_l K 8))]) hx hb dX0_expand_124 hl rfl (nI_1 (k)) (by decide) rfl (fun ls hl => ?_)
      refine lv_goto (tgt := 42) hx hb dX0_expand_127 (by decide) ?_
      refine ih (k + 1) _ (rc) ls H locs (by omega) (fun i hi => ?_) (by rw [i2]; congr 1; omega) (by omega) (lv_sub hl [0, 2, 3, 4, 5] rfl) hP hD hS
      rcases Nat.lt_or_ge i k with h | h
      · rw [pk_un (by omega)]; exact i1 i h
      · rw [show i = k by omega]; exact pk_us
    · refine lv_iload hx hb dX0_expand_67 (lv_at hl 0 rfl) ?_
      refine lv_bipush (v := nI 8) hx hb dX0_expand_69 (by decide) ?_
      refine kp_purei (v := nI ((ae_h4 (ae_kx K (4 * (k - 1))) (ae_kx K (4 * (k - 1) + 1)) (ae_kx K (4 * (k - 1) + 2)) (ae_kx K (4 * (k - 1) + 3))) * 2 ^ 8 ||| (ae_h4 (ae_kx K (4 * (k - 1))) (ae_kx K (4 * (k - 1) + 1)) (ae_kx K (4 * (k - 1) + 2)) (ae_kx K (4 * (k - 1) + 3))) / 2 ^ (32 - 8))) (va_runS (As := [.int (nI (ae_h4 (ae_kx K (4 * (k - 1))) (ae_kx K (4 * (k - 1) + 1)) (ae_kx K (4 * (k - 1) + 2)) (ae_kx K (4 * (k - 1) + 3)))), .int (nI (8))]) (rest := []) ⟨hx, hb, hml, hown, htA⟩ (c_X0_turn l dC dI _ (ae_h4 (ae_kx K (4 * (k - 1))) (ae_kx K (4 * (k - 1) + 1)) (ae_kx K (4 * (k - 1) + 2)) (ae_kx K (4 * (k - 1) + 3))) 8 hq (by omega) (by omega)) (va_cwS 2 htA (goodC_S mA_l17 mA_static_turn mA_code_turn mA_initialized) rfl rfl rfl (by decide +kernel) ⟨Nat.le_trans (Nat.le_of_ble_eq_true rfl) hf.1, Nat.le_trans (Nat.le_of_ble_eq_true rfl) hf.2⟩) (kp_preS (wc := []) kp_XT trivial hP hD hK hS hA [] rfl rfl rfl [] rfl) rfl rfl hl.1 rfl (lv_room (Nat.le_of_ble_eq_true rfl)) dX0_expand_71 ⟨hc.1, hc.2⟩) hP hS hA (fun H locs hP hS => ?_)
      refine tw_i (y := ae_wf (fun j => ae_kx K (4 * (k - 1) + (j + 1) % 4)) 0) (ae_turn8 (hBX _) (hBX _) (hBX _) (hBX _)) ?_
      refine lv_istore (nL := 9) (lv' := [(8, .int (ae_wf (fun j => ae_kx K (4 * (k - 1) + (j + 1) % 4)) 0)), (7, .int (nI (ae_h4 (ae_kx K (4 * (k - 1))) (ae_kx K (4 * (k - 1) + 1)) (ae_kx K (4 * (k - 1) + 2)) (ae_kx K (4 * (k - 1) + 3))))), (6, .int (nI (k))), (5, .int (nI (rc))), (0, .ref h0), (1, .long (ae_l K 0)), (3, .long (ae_l K 8))]) hx hb dX0_expand_74 hl (by decide) rfl (fun ls hl => ?_)
      refine va_gets hx hb hX.1.1 hS hown (htA _ mA_f21) (fun _ h9 => h9) dX0_expand_76 ?_
      refine lv_iload hx hb dX0_expand_79 (lv_at hl 0 rfl) ?_
      refine lv_iload hx hb dX0_expand_81 (lv_at hl 0 rfl) ?_
      refine lv_iload hx hb dX0_expand_83 (lv_at hl 0 rfl) ?_
      refine lv_iload hx hb dX0_expand_85 (lv_at hl 0 rfl) ?_
      refine kp_purei (v := nI (ae_h4 (ae_sb (ae_kx K (4 * (k - 1) + 1))) (ae_sb (ae_kx K (4 * (k - 1) + 2))) (ae_sb (ae_kx K (4 * (k - 1) + 3))) (ae_sb (ae_kx K (4 * (k - 1)))))) (va_runS (As := [.ref tS, .int (ae_wf (fun j => ae_kx K (4 * (k - 1) + (j + 1) % 4)) 0), .int (ae_wf (fun j => ae_kx K (4 * (k - 1) + (j + 1) % 4)) 0), .int (ae_wf (fun j => ae_kx K (4 * (k - 1) + (j + 1) % 4)) 0), .int (ae_wf (fun j => ae_kx K (4 * (k - 1) + (j + 1) % 4)) 0)]) (rest := []) ⟨hx, hb, hml, hown, htA⟩ (c_X0_substitute l dC dI _ tS ae_sb ae_sb_lt (fun j => ae_kx K (4 * (k - 1) + (j + 1) % 4)) (fun j => hBX _) 0 0 0 0) (va_cwS 5 htA (goodC_S mA_l24 mA_static_substitute mA_code_substitute mA_initialized) rfl rfl rfl (by decide +kernel) ⟨Nat.le_trans (Nat.le_of_ble_eq_true rfl) hf.1, Nat.le_trans (Nat.le_of_ble_eq_true rfl) hf.2⟩) (kp_preS (wc := []) (tb_kp tS ae_sb) hX.1.2 hP hD hK hS hA [] rfl rfl rfl [] rfl) rfl rfl hl.1 rfl (lv_room (Nat.le_of_ble_eq_true rfl)) dX0_expand_87 ⟨hc.1, hc.2⟩) hP hS hA (fun H locs hP hS => ?_)
      refine lv_iload hx hb dX0_expand_90 (lv_at hl 3 rfl) ?_
      refine lv_bipush (v := nI 24) hx hb dX0_expand_92 (by decide) ?_
      refine xi_ishl hx hb dX0_expand_94 (by omega) ?_
      refine xi_ixor hx hb dX0_expand_95 ?_
      refine lv_istore (nL := 9) (lv' := [(7, .int (nI ((ae_h4 (ae_sb (ae_kx K (4 * (k - 1) + 1))) (ae_sb (ae_kx K (4 * (k - 1) + 2))) (ae_sb (ae_kx K (4 * (k - 1) + 3))) (ae_sb (ae_kx K (4 * (k - 1))))) ^^^ ((rc) * 2 ^ (24))))), (8, .int (ae_wf (fun j => ae_kx K (4 * (k - 1) + (j + 1) % 4)) 0)), (6, .int (nI (k))), (5, .int (nI (rc))), (0, .ref h0), (1, .long (ae_l K 0)), (3, .long (ae_l K 8))]) hx hb dX0_expand_96 hl (by decide) rfl (fun ls hl => ?_)
      refine lv_iload hx hb dX0_expand_98 (lv_at hl 3 rfl) ?_
      refine tw_i (y := nI (ae_h4 0 0 0 rc)) (by unfold ae_h4; congr 1; omega) ?_
      refine kp_purei (v := nI (ae_h4 (ae_tq 0) (ae_tq 0) (ae_tq 0) (ae_tq rc))) (va_runS (As := [.int (nI (ae_h4 0 0 0 rc))]) (rest := []) ⟨hx, hb, hml, hown, htA⟩ (c_X0_doubleEach l dC dI _ 0 0 0 rc (by omega) (by omega) (by omega) hrc) (va_cwS 1 htA (goodC_S mA_l28 mA_static_doubleEach mA_code_doubleEach mA_initialized) rfl rfl rfl (by decide +kernel) ⟨Nat.le_trans (Nat.le_of_ble_eq_true rfl) hf.1, Nat.le_trans (Nat.le_of_ble_eq_true rfl) hf.2⟩) (kp_preS (wc := []) kp_XT trivial hP hD hK hS hA [] rfl rfl rfl [] rfl) rfl rfl hl.1 rfl (lv_room (Nat.le_of_ble_eq_true rfl)) dX0_expand_100 ⟨hc.1, hc.2⟩) hP hS hA (fun H locs hP hS => ?_)
      refine tw_i (y := nI (ae_tm rc 2)) (by rw [ae_tm2 rc hrc]; show nI (ae_h4 0 0 0 (ae_tq rc)) = _; unfold ae_h4; congr 1; omega) ?_
      refine lv_istore (nL := 9) (lv' := [(5, .int (nI (ae_tm rc 2))), (7, .int (nI ((ae_h4 (ae_sb (ae_kx K (4 * (k - 1) + 1))) (ae_sb (ae_kx K (4 * (k - 1) + 2))) (ae_sb (ae_kx K (4 * (k - 1) + 3))) (ae_sb (ae_kx K (4 * (k - 1))))) ^^^ ((rc) * 2 ^ (24))))), (8, .int (ae_wf (fun j => ae_kx K (4 * (k - 1) + (j + 1) % 4)) 0)), (6, .int (nI (k))), (0, .ref h0), (1, .long (ae_l K 0)), (3, .long (ae_l K 8))]) hx hb dX0_expand_103 hl (by decide) rfl (fun ls hl => ?_)
      refine lv_aload_n hx hb dX0_expand_105 rfl (lv_at hl 4 rfl) ?_
      refine va_get (D := (dC, dI)) (ci := 0) (v := .ref q0) (C := RX0) (T := TX0) (N := 1) hx hb htA inC0 hown hK hP 0 rfl rfl 0 (by decide) (htA _ mA_f9) (fun _ h9 => h9) rfl dX0_expand_106 ?_
      refine lv_iload hx hb dX0_expand_109 (lv_at hl 3 rfl) ?_
      refine lv_aload_n hx hb dX0_expand_111 rfl (lv_at hl 4 rfl) ?_
      refine va_get (D := (dC, dI)) (ci := 0) (v := .ref q0) (C := RX0) (T := TX0) (N := 1) hx hb htA inC0 hown hK hP 0 rfl rfl 0 (by decide) (htA _ mA_f9) (fun _ h9 => h9) rfl dX0_expand_112 ?_
      refine lv_iload hx hb dX0_expand_115 (lv_at hl 3 rfl) ?_
      refine lv_iconst (v := nI 4) hx hb dX0_expand_117 (by decide) ?_
      refine xi_isub hx hb dX0_expand_118 (by omega) ?_
      refine xa_ild hx hb hK hP 1 0 rfl rfl (by omega) (by omega) (v := ae_wf (ae_kx K) (4 * (k - 4))) (i1 _ (by omega)) dX0_expand_119 ?_
      refine lv_iload hx hb dX0_expand_120 (lv_at hl 1 rfl) ?_
      refine lv_ixor hx hb dX0_expand_122 ?_
      refine tw_i (y := ae_wf (ae_kx K) (4 * k)) (ae_wk_a hB i3 hc1 i2) ?_
      refine xa_ist hx hb hK hP hD hS 1 0 rfl rfl (by omega) (by omega) dX0_expand_123 (fun H locs hP hD hS => ?_)
      have hP : va_P (dC, dI) mCl [(h0, .inr (0, [.ref q0])), (q0, .inl (cI, 44, .inl (upd (g) (k) (ae_wf (ae_kx K) (4 * k)))))] H := hP
      have hD : va_D A [(h0, .inr (0, [.ref q0])), (q0, .inl (cI, 44, .inl (upd (g) (k) (ae_wf (ae_kx K) (4 * k)))))] := hD
      refine lv_iinc (k := 3) (v := nI (k + 1)) (nL := 9) (lv' := [(6, .int (nI (k + 1))), (5, .int (nI (ae_tm rc 2))), (7, .int (nI ((ae_h4 (ae_sb (ae_kx K (4 * (k - 1) + 1))) (ae_sb (ae_kx K (4 * (k - 1) + 2))) (ae_sb (ae_kx K (4 * (k - 1) + 3))) (ae_sb (ae_kx K (4 * (k - 1))))) ^^^ ((rc) * 2 ^ (24))))), (8, .int (ae_wf (fun j => ae_kx K (4 * (k - 1) + (j + 1) % 4)) 0)), (0, .ref h0), (1, .long (ae_l K 0)), (3, .long (ae_l K 8))]) hx hb dX0_expand_124 hl rfl (nI_1 (k)) (by decide) rfl (fun ls hl => ?_)
      refine lv_goto (tgt := 42) hx hb dX0_expand_127 (by decide) ?_
      refine ih (k + 1) _ (ae_tm rc 2) ls H locs (by omega) (fun i hi => ?_) (by rw [i2, show (k + 1 - 1) / 4 = (k - 1) / 4 + 1 by omega]; rfl) (by omega) (lv_sub hl [0, 1, 4, 5, 6] rfl) hP hD hS
      rcases Nat.lt_or_ge i k with h | h
      · rw [pk_un (by omega)]; exact i1 i h
      · rw [show i = k by omega]; exact pk_us
set_option maxRecDepth 100000 in
set_option maxHeartbeats 4000000 in
theorem lc_enc (hx : p.tables.exec = Jvm.exec) (hb : c.code = cX0_encipher) (htA : ∀ w ∈ wsC_a, w.before args s = true) (hown : s.vm.findClass RX0 = some m.cls) (hml : c.maxLocals = 14) (hA : ∀ q, s.heap.size ≤ q → A q) (hc : cells ≤ R.cells ∧ slots ≤ R.slots) (hf : 2 ≤ R.frames ∧ 42 ≤ R.locals) {cI cL : ClassId} {h0 q0 rr n at_ tS tI : Nat} {sch : Nat → Int32} {f : Nat → Int64} {X S : Nat → Nat} (hBX : ae_B X) (hBS : ae_B S) (hsch : ∀ i, i < 44 → sch i = ae_wf X (4 * i)) (hK : va_K (dC, dI) mCl [(cI, .int), (cL, .long)] s) (hX : st_X tS tI A s)
    (kk : ∀  (ls : Array Slot) (H : Heap) (locs : List Loc), True → lv_has ls 14 [(7, .int (nI (11))), (3, .int (ae_wf (ae_en X S (11 - 1)) 0)), (4, .int (ae_wf (ae_en X S (11 - 1)) 4)), (5, .int (ae_wf (ae_en X S (11 - 1)) 8)), (6, .int (ae_wf (ae_en X S (11 - 1)) 12)), (0, .ref h0), (1, .ref rr), (2, .int (nI (at_)))] → va_P (dC, dI) mCl [(h0, .inr (0, [.ref q0])), (q0, .inl (cI, 44, .inl (sch))), (rr, .inl (cL, n, .inr (.inl (f))))] H → va_D A [(h0, .inr (0, [.ref q0])), (q0, .inl (cI, 44, .inl (sch))), (rr, .inl (cL, n, .inr (.inl (f))))] → va_S A s.heap H locs → W p l e R s m args below meth c H locs cells slots Q (F0 m 260 ls [])) :
    ∀ (j k : Nat)  (ls : Array Slot) (H : Heap) (locs : List Loc), k + j = 11 → 1 ≤ k → lv_has ls 14 [(7, .int (nI (k))), (3, .int (ae_wf (ae_en X S (k - 1)) 0)), (4, .int (ae_wf (ae_en X S (k - 1)) 4)), (5, .int (ae_wf (ae_en X S (k - 1)) 8)), (6, .int (ae_wf (ae_en X S (k - 1)) 12)), (0, .ref h0), (1, .ref rr), (2, .int (nI (at_)))] → va_P (dC, dI) mCl [(h0, .inr (0, [.ref q0])), (q0, .inl (cI, 44, .inl (sch))), (rr, .inl (cL, n, .inr (.inl (f))))] H → va_D A [(h0, .inr (0, [.ref q0])), (q0, .inl (cI, 44, .inl (sch))), (rr, .inl (cL, n, .inr (.inl (f))))] → va_S A s.heap H locs → W p l e R s m args below meth c H locs cells slots Q (F0 m 62 ls []) := by
  intro j
  induction j with
  | zero =>
    intro k  ls H locs hj i2 hl hP hD hS
    have e : k = 11 := by omega
    subst e
    refine lv_iload hx hb dX0_encipher_62 (lv_at hl 0 rfl) ?_
    refine lv_bipush (v := nI 10) hx hb dX0_encipher_64 (by decide) ?_
    refine xi_icmp_gt (tgt := 260) hx hb dX0_encipher_66 (by decide) (by omega) (by omega) (fun hc0 => ?_) (fun h9 => absurd h9 (by omega))
    exact kk ls H locs trivial hl hP hD hS
  | succ j ih =>
    intro k  ls H locs hj i2 hl hP hD hS
    have hBT : ae_B (ae_en X S (k - 1)) := ae_en_lt hBX hBS _
    have hBE : ae_B (ae_eS (ae_en X S (k - 1))) := ae_eS_lt hBT
    have hBM : ae_B (ae_mg 2 3 1 1 (ae_eS (ae_en X S (k - 1)))) := ae_mg_lt hBE _ _ _ _
    refine lv_iload hx hb dX0_encipher_62 (lv_at hl 0 rfl) ?_
    refine lv_bipush (v := nI 10) hx hb dX0_encipher_64 (by decide) ?_
    refine xi_icmp_gt (tgt := 260) hx hb dX0_encipher_66 (by decide) (by omega) (by omega) (fun h9 => absurd h9 (by omega)) (fun hc0 => ?_)
    refine va_gets hx hb hX.1.1 hS hown (htA _ mA_f21) (fun _ h9 => h9) dX0_encipher_69 ?_
    refine lv_iload_n hx hb dX0_encipher_72 rfl (lv_at hl 1 rfl) ?_
    refine lv_iload hx hb dX0_encipher_73 (lv_at hl 2 rfl) ?_
    refine lv_iload hx hb dX0_encipher_75 (lv_at hl 3 rfl) ?_
    refine lv_iload hx hb dX0_encipher_77 (lv_at hl 4 rfl) ?_
    refine kp_purei (v := ae_wf (ae_eS (ae_en X S (k - 1))) 0) (va_runS (As := [.ref tS, .int (ae_wf (ae_en X S (k - 1)) 0), .int (ae_wf (ae_en X S (k - 1)) 4), .int (ae_wf (ae_en X S (k - 1)) 8), .int (ae_wf (ae_en X S (k - 1)) 12)]) (rest := []) ⟨hx, hb, hml, hown, htA⟩ (c_X0_substitute l dC dI _ tS ae_sb ae_sb_lt (ae_en X S (k - 1)) hBT 0 4 8 12) (va_cwS 5 htA (goodC_S mA_l24 mA_static_substitute mA_code_substitute mA_initialized) rfl rfl rfl (by decide +kernel) ⟨Nat.le_trans (Nat.le_of_ble_eq_true rfl) hf.1, Nat.le_trans (Nat.le_of_ble_eq_true rfl) hf.2⟩) (kp_preS (wc := []) (tb_kp tS ae_sb) hX.1.2 hP hD hK hS hA [] rfl rfl rfl [] rfl) rfl rfl hl.1 rfl (lv_room (Nat.le_of_ble_eq_true rfl)) dX0_encipher_79 ⟨hc.1, hc.2⟩) hP hS hA (fun H locs hP hS => ?_)
    refine lv_istore (nL := 14) (lv' := [(8, .int (ae_wf (ae_eS (ae_en X S (k - 1))) 0)), (7, .int (nI (k))), (3, .int (ae_wf (ae_en X S (k - 1)) 0)), (4, .int (ae_wf (ae_en X S (k - 1)) 4)), (5, .int (ae_wf (ae_en X S (k - 1)) 8)), (6, .int (ae_wf (ae_en X S (k - 1)) 12)), (0, .ref h0), (1, .ref rr), (2, .int (nI (at_)))]) hx hb dX0_encipher_82 hl (by decide) rfl (fun ls hl => ?_)
    refine va_gets hx hb hX.1.1 hS hown (htA _ mA_f21) (fun _ h9 => h9) dX0_encipher_84 ?_
    refine lv_iload hx hb dX0_encipher_87 (lv_at hl 3 rfl) ?_
    refine lv_iload hx hb dX0_encipher_89 (lv_at hl 4 rfl) ?_
    refine lv_iload hx hb dX0_encipher_91 (lv_at hl 5 rfl) ?_
    refine lv_iload_n hx hb dX0_encipher_93 rfl (lv_at hl 2 rfl) ?_
    refine kp_purei (v := ae_wf (ae_eS (ae_en X S (k - 1))) 4) (va_runS (As := [.ref tS, .int (ae_wf (ae_en X S (k - 1)) 4), .int (ae_wf (ae_en X S (k - 1)) 8), .int (ae_wf (ae_en X S (k - 1)) 12), .int (ae_wf (ae_en X S (k - 1)) 0)]) (rest := []) ⟨hx, hb, hml, hown, htA⟩ (c_X0_substitute l dC dI _ tS ae_sb ae_sb_lt (ae_en X S (k - 1)) hBT 4 8 12 0) (va_cwS 5 htA (goodC_S mA_l24 mA_static_substitute mA_code_substitute mA_initialized) rfl rfl rfl (by decide +kernel) ⟨Nat.le_trans (Nat.le_of_ble_eq_true rfl) hf.1, Nat.le_trans (Nat.le_of_ble_eq_true rfl) hf.2⟩) (kp_preS (wc := []) (tb_kp tS ae_sb) hX.1.2 hP hD hK hS hA [] rfl rfl rfl [] rfl) rfl rfl hl.1 rfl (lv_room (Nat.le_of_ble_eq_true rfl)) dX0_encipher_94 ⟨hc.1, hc.2⟩) hP hS hA (fun H locs hP hS => ?_)
    refine lv_istore (nL := 14) (lv' := [(9, .int (ae_wf (ae_eS (ae_en X S (k - 1))) 4)), (8, .int (ae_wf (ae_eS (ae_en X S (k - 1))) 0)), (7, .int (nI (k))), (3, .int (ae_wf (ae_en X S (k - 1)) 0)), (4, .int (ae_wf (ae_en X S (k - 1)) 4)), (5, .int (ae_wf (ae_en X S (k - 1)) 8)), (6, .int (ae_wf (ae_en X S (k - 1)) 12)), (0, .ref h0), (1, .ref rr), (2, .int (nI (at_)))]) hx hb dX0_encipher_97 hl (by decide) rfl (fun ls hl => ?_)
    refine va_gets hx hb hX.1.1 hS hown (htA _ mA_f21) (fun _ h9 => h9) dX0_encipher_99 ?_
    refine lv_iload hx hb dX0_encipher_102 (lv_at hl 5 rfl) ?_
    refine lv_iload hx hb dX0_encipher_104 (lv_at hl 6 rfl) ?_
    refine lv_iload_n hx hb dX0_encipher_106 rfl (lv_at hl 3 rfl) ?_
    refine lv_iload hx hb dX0_encipher_107 (lv_at hl 4 rfl) ?_
    refine kp_purei (v := ae_wf (ae_eS (ae_en X S (k - 1))) 8) (va_runS (As := [.ref tS, .int (ae_wf (ae_en X S (k - 1)) 8), .int (ae_wf (ae_en X S (k - 1)) 12), .int (ae_wf (ae_en X S (k - 1)) 0), .int (ae_wf (ae_en X S (k - 1)) 4)]) (rest := []) ⟨hx, hb, hml, hown, htA⟩ (c_X0_substitute l dC dI _ tS ae_sb ae_sb_lt (ae_en X S (k - 1)) hBT 8 12 0 4) (va_cwS 5 htA (goodC_S mA_l24 mA_static_substitute mA_code_substitute mA_initialized) rfl rfl rfl (by decide +kernel) ⟨Nat.le_trans (Nat.le_of_ble_eq_true rfl) hf.1, Nat.le_trans (Nat.le_of_ble_eq_true rfl) hf.2⟩) (kp_preS (wc := []) (tb_kp tS ae_sb) hX.1.2 hP hD hK hS hA [] rfl rfl rfl [] rfl) rfl rfl hl.1 rfl (lv_room (Nat.le_of_ble_eq_true rfl)) dX0_encipher_109 ⟨hc.1, hc.2⟩) hP hS hA (fun H locs hP hS => ?_)
    refine lv_istore (nL := 14) (lv' := [(10, .int (ae_wf (ae_eS (ae_en X S (k - 1))) 8)), (9, .int (ae_wf (ae_eS (ae_en X S (k - 1))) 4)), (8, .int (ae_wf (ae_eS (ae_en X S (k - 1))) 0)), (7, .int (nI (k))), (3, .int (ae_wf (ae_en X S (k - 1)) 0)), (4, .int (ae_wf (ae_en X S (k - 1)) 4)), (5, .int (ae_wf (ae_en X S (k - 1)) 8)), (6, .int (ae_wf (ae_en X S (k - 1)) 12)), (0, .ref h0), (1, .ref rr), (2, .int (nI (at_)))]) hx hb dX0_encipher_112 hl (by decide) rfl (fun ls hl => ?_)
    refine va_gets hx hb hX.1.1 hS hown (htA _ mA_f21) (fun _ h9 => h9) dX0_encipher_114 ?_
    refine lv_iload hx hb dX0_encipher_117 (lv_at hl 7 rfl) ?_
    refine lv_iload_n hx hb dX0_encipher_119 rfl (lv_at hl 4 rfl) ?_
    refine lv_iload hx hb dX0_encipher_120 (lv_at hl 5 rfl) ?_
    refine lv_iload hx hb dX0_encipher_122 (lv_at hl 6 rfl) ?_
    refine kp_purei (v := ae_wf (ae_eS (ae_en X S (k - 1))) 12) (va_runS (As := [.ref tS, .int (ae_wf (ae_en X S (k - 1)) 12), .int (ae_wf (ae_en X S (k - 1)) 0), .int (ae_wf (ae_en X S (k - 1)) 4), .int (ae_wf (ae_en X S (k - 1)) 8)]) (rest := []) ⟨hx, hb, hml, hown, htA⟩ (c_X0_substitute l dC dI _ tS ae_sb ae_sb_lt (ae_en X S (k - 1)) hBT 12 0 4 8) (va_cwS 5 htA (goodC_S mA_l24 mA_static_substitute mA_code_substitute mA_initialized) rfl rfl rfl (by decide +kernel) ⟨Nat.le_trans (Nat.le_of_ble_eq_true rfl) hf.1, Nat.le_trans (Nat.le_of_ble_eq_true rfl) hf.2⟩) (kp_preS (wc := []) (tb_kp tS ae_sb) hX.1.2 hP hD hK hS hA [] rfl rfl rfl [] rfl) rfl rfl hl.1 rfl (lv_room (Nat.le_of_ble_eq_true rfl)) dX0_encipher_124 ⟨hc.1, hc.2⟩) hP hS hA (fun H locs hP hS => ?_)
    refine lv_istore (nL := 14) (lv' := [(11, .int (ae_wf (ae_eS (ae_en X S (k - 1))) 12)), (10, .int (ae_wf (ae_eS (ae_en X S (k - 1))) 8)), (9, .int (ae_wf (ae_eS (ae_en X S (k - 1))) 4)), (8, .int (ae_wf (ae_eS (ae_en X S (k - 1))) 0)), (7, .int (nI (k))), (3, .int (ae_wf (ae_en X S (k - 1)) 0)), (4, .int (ae_wf (ae_en X S (k - 1)) 4)), (5, .int (ae_wf (ae_en X S (k - 1)) 8)), (6, .int (ae_wf (ae_en X S (k - 1)) 12)), (0, .ref h0), (1, .ref rr), (2, .int (nI (at_)))]) hx hb dX0_encipher_127 hl (by decide) rfl (fun ls hl => ?_)
    refine lv_iload hx hb dX0_encipher_129 (lv_at hl 4 rfl) ?_
    refine lv_bipush (v := nI 10) hx hb dX0_encipher_131 (by decide) ?_
    refine xi_icmp_ge (tgt := 140) hx hb dX0_encipher_133 (by decide) (by omega) (by omega) (fun hc1 => ?_) (fun hc1 => ?_)
    · refine lv_iconst (v := nI 0) hx hb dX0_encipher_140 (by decide) ?_
      refine lv_istore (nL := 14) (lv' := [(12, .int (nI (0))), (11, .int (ae_wf (ae_eS (ae_en X S (k - 1))) 12)), (10, .int (ae_wf (ae_eS (ae_en X S (k - 1))) 8)), (9, .int (ae_wf (ae_eS (ae_en X S (k - 1))) 4)), (8, .int (ae_wf (ae_eS (ae_en X S (k - 1))) 0)), (7, .int (nI (k))), (3, .int (ae_wf (ae_en X S (k - 1)) 0)), (4, .int (ae_wf (ae_en X S (k - 1)) 4)), (5, .int (ae_wf (ae_en X S (k - 1)) 8)), (6, .int (ae_wf (ae_en X S (k - 1)) 12)), (0, .ref h0), (1, .ref rr), (2, .int (nI (at_)))]) hx hb dX0_encipher_141 hl (by decide) rfl (fun ls hl => ?_)
      refine lv_iconst (v := nI 4) hx hb dX0_encipher_143 (by decide) ?_
      refine lv_iload hx hb dX0_encipher_144 (lv_at hl 5 rfl) ?_
      refine xi_imul hx hb dX0_encipher_146 ?_
      refine lv_istore (nL := 14) (lv' := [(13, .int (nI ((4) * (k)))), (12, .int (nI (0))), (11, .int (ae_wf (ae_eS (ae_en X S (k - 1))) 12)), (10, .int (ae_wf (ae_eS (ae_en X S (k - 1))) 8)), (9, .int (ae_wf (ae_eS (ae_en X S (k - 1))) 4)), (8, .int (ae_wf (ae_eS (ae_en X S (k - 1))) 0)), (7, .int (nI (k))), (3, .int (ae_wf (ae_en X S (k - 1)) 0)), (4, .int (ae_wf (ae_en X S (k - 1)) 4)), (5, .int (ae_wf (ae_en X S (k - 1)) 8)), (6, .int (ae_wf (ae_en X S (k - 1)) 12)), (0, .ref h0), (1, .ref rr), (2, .int (nI (at_)))]) hx hb dX0_encipher_147 hl (by decide) rfl (fun ls hl => ?_)
      refine lv_iload hx hb dX0_encipher_149 (lv_at hl 1 rfl) ?_
      refine xi_if_eq (tgt := 162) hx hb dX0_encipher_151 (by decide) (by omega) (fun hz => ?_) (fun h9 => absurd h9 (fun z => z rfl))
      refine lv_iload hx hb dX0_encipher_162 (lv_at hl 5 rfl) ?_
      refine lv_aload_n hx hb dX0_encipher_164 rfl (lv_at hl 11 rfl) ?_
      refine va_get (D := (dC, dI)) (ci := 0) (v := .ref q0) (C := RX0) (T := TX0) (N := 1) hx hb htA inC0 hown hK hP 0 rfl rfl 0 (by decide) (htA _ mA_f9) (fun _ h9 => h9) rfl dX0_encipher_165 ?_
      refine lv_iload hx hb dX0_encipher_168 (lv_at hl 0 rfl) ?_
      refine xa_ild hx hb hK hP 1 0 rfl rfl (by omega) (by omega) (v := ae_wf X (4 * (4 * k))) (hsch _ (by omega)) dX0_encipher_170 ?_
      refine lv_ixor hx hb dX0_encipher_171 ?_
      refine tw_i (y := ae_wf (ae_en X S k) 0) (ae_encC i2 hBE hBX (fun j => by rw [if_neg (by omega)]) 0) ?_
      refine lv_istore_n (nL := 14) (lv' := [(3, .int (ae_wf (ae_en X S k) 0)), (13, .int (nI ((4) * (k)))), (12, .int (nI (0))), (11, .int (ae_wf (ae_eS (ae_en X S (k - 1))) 12)), (10, .int (ae_wf (ae_eS (ae_en X S (k - 1))) 8)), (9, .int (ae_wf (ae_eS (ae_en X S (k - 1))) 4)), (8, .int (ae_wf (ae_eS (ae_en X S (k - 1))) 0)), (7, .int (nI (k))), (4, .int (ae_wf (ae_en X S (k - 1)) 4)), (5, .int (ae_wf (ae_en X S (k - 1)) 8)), (6, .int (ae_wf (ae_en X S (k - 1)) 12)), (0, .ref h0), (1, .ref rr), (2, .int (nI (at_)))]) hx hb dX0_encipher_172 rfl hl (by decide) rfl (fun ls hl => ?_)
      refine lv_iload hx hb dX0_encipher_173 (lv_at hl 2 rfl) ?_
      refine xi_if_eq (tgt := 186) hx hb dX0_encipher_175 (by decide) (by omega) (fun hz => ?_) (fun h9 => absurd h9 (fun z => z rfl))
      refine lv_iload hx hb dX0_encipher_186 (lv_at hl 5 rfl) ?_
      refine lv_aload_n hx hb dX0_encipher_188 rfl (lv_at hl 11 rfl) ?_
      refine va_get (D := (dC, dI)) (ci := 0) (v := .ref q0) (C := RX0) (T := TX0) (N := 1) hx hb htA inC0 hown hK hP 0 rfl rfl 0 (by decide) (htA _ mA_f9) (fun _ h9 => h9) rfl dX0_encipher_189 ?_
      refine lv_iload hx hb dX0_encipher_192 (lv_at hl 1 rfl) ?_
      refine lv_iconst (v := nI 1) hx hb dX0_encipher_194 (by decide) ?_
      refine xi_iadd hx hb dX0_encipher_195 ?_
      refine xa_ild hx hb hK hP 1 0 rfl rfl (by omega) (by omega) (v := ae_wf X (4 * (4 * k + 1))) (hsch _ (by omega)) dX0_encipher_196 ?_
      refine lv_ixor hx hb dX0_encipher_197 ?_
      refine tw_i (y := ae_wf (ae_en X S k) 4) (ae_encC i2 hBE hBX (fun j => by rw [if_neg (by omega)]) 1) ?_
      refine lv_istore (nL := 14) (lv' := [(4, .int (ae_wf (ae_en X S k) 4)), (3, .int (ae_wf (ae_en X S k) 0)), (13, .int (nI ((4) * (k)))), (12, .int (nI (0))), (11, .int (ae_wf (ae_eS (ae_en X S (k - 1))) 12)), (10, .int (ae_wf (ae_eS (ae_en X S (k - 1))) 8)), (9, .int (ae_wf (ae_eS (ae_en X S (k - 1))) 4)), (8, .int (ae_wf (ae_eS (ae_en X S (k - 1))) 0)), (7, .int (nI (k))), (5, .int (ae_wf (ae_en X S (k - 1)) 8)), (6, .int (ae_wf (ae_en X S (k - 1)) 12)), (0, .ref h0), (1, .ref rr), (2, .int (nI (at_)))]) hx hb dX0_encipher_198 hl (by decide) rfl (fun ls hl => ?_)
      refine lv_iload hx hb dX0_encipher_200 (lv_at hl 3 rfl) ?_
      refine xi_if_eq (tgt := 213) hx hb dX0_encipher_202 (by decide) (by omega) (fun hz => ?_) (fun h9 => absurd h9 (fun z => z rfl))
      refine lv_iload hx hb dX0_encipher_213 (lv_at hl 5 rfl) ?_
      refine lv_aload_n hx hb dX0_encipher_215 rfl (lv_at hl 11 rfl) ?_
      refine va_get (D := (dC, dI)) (ci := 0) (v := .ref q0) (C := RX0) (T := TX0) (N := 1) hx hb htA inC0 hown hK hP 0 rfl rfl 0 (by decide) (htA _ mA_f9) (fun _ h9 => h9) rfl dX0_encipher_216 ?_
      refine lv_iload hx hb dX0_encipher_219 (lv_at hl 2 rfl) ?_
      refine lv_iconst (v := nI 2) hx hb dX0_encipher_221 (by decide) ?_
      refine xi_iadd hx hb dX0_encipher_222 ?_
      refine xa_ild hx hb hK hP 1 0 rfl rfl (by omega) (by omega) (v := ae_wf X (4 * (4 * k + 2))) (hsch _ (by omega)) dX0_encipher_223 ?_
      refine lv_ixor hx hb dX0_encipher_224 ?_
      refine tw_i (y := ae_wf (ae_en X S k) 8) (ae_encC i2 hBE hBX (fun j => by rw [if_neg (by omega)]) 2) ?_
      refine lv_istore (nL := 14) (lv' := [(5, .int (ae_wf (ae_en X S k) 8)), (4, .int (ae_wf (ae_en X S k) 4)), (3, .int (ae_wf (ae_en X S k) 0)), (13, .int (nI ((4) * (k)))), (12, .int (nI (0))), (11, .int (ae_wf (ae_eS (ae_en X S (k - 1))) 12)), (10, .int (ae_wf (ae_eS (ae_en X S (k - 1))) 8)), (9, .int (ae_wf (ae_eS (ae_en X S (k - 1))) 4)), (8, .int (ae_wf (ae_eS (ae_en X S (k - 1))) 0)), (7, .int (nI (k))), (6, .int (ae_wf (ae_en X S (k - 1)) 12)), (0, .ref h0), (1, .ref rr), (2, .int (nI (at_)))]) hx hb dX0_encipher_225 hl (by decide) rfl (fun ls hl => ?_)
      refine lv_iload hx hb dX0_encipher_227 (lv_at hl 4 rfl) ?_
      refine xi_if_eq (tgt := 240) hx hb dX0_encipher_229 (by decide) (by omega) (fun hz => ?_) (fun h9 => absurd h9 (fun z => z rfl))
      refine lv_iload hx hb dX0_encipher_240 (lv_at hl 5 rfl) ?_
      refine lv_aload_n hx hb dX0_encipher_242 rfl (lv_at hl 11 rfl) ?_
      refine va_get (D := (dC, dI)) (ci := 0) (v := .ref q0) (C := RX0) (T := TX0) (N := 1) hx hb htA inC0 hown hK hP 0 rfl rfl 0 (by decide) (htA _ mA_f9) (fun _ h9 => h9) rfl dX0_encipher_243 ?_
      refine lv_iload hx hb dX0_encipher_246 (lv_at hl 3 rfl) ?_
      refine lv_iconst (v := nI 3) hx hb dX0_encipher_248 (by decide) ?_
      refine xi_iadd hx hb dX0_encipher_249 ?_
      refine xa_ild hx hb hK hP 1 0 rfl rfl (by omega) (by omega) (v := ae_wf X (4 * (4 * k + 3))) (hsch _ (by omega)) dX0_encipher_250 ?_
      refine lv_ixor hx hb dX0_encipher_251 ?_
      refine tw_i (y := ae_wf (ae_en X S k) 12) (ae_encC i2 hBE hBX (fun j => by rw [if_neg (by omega)]) 3) ?_
      refine lv_istore (nL := 14) (lv' := [(6, .int (ae_wf (ae_en X S k) 12)), (5, .int (ae_wf (ae_en X S k) 8)), (4, .int (ae_wf (ae_en X S k) 4)), (3, .int (ae_wf (ae_en X S k) 0)), (13, .int (nI ((4) * (k)))), (12, .int (nI (0))), (11, .int (ae_wf (ae_eS (ae_en X S (k - 1))) 12)), (10, .int (ae_wf (ae_eS (ae_en X S (k - 1))) 8)), (9, .int (ae_wf (ae_eS (ae_en X S (k - 1))) 4)), (8, .int (ae_wf (ae_eS (ae_en X S (k - 1))) 0)), (7, .int (nI (k))), (0, .ref h0), (1, .ref rr), (2, .int (nI (at_)))]) hx hb dX0_encipher_252 hl (by decide) rfl (fun ls hl => ?_)
      refine lv_iinc (k := 10) (v := nI (k + 1)) (nL := 14) (lv' := [(7, .int (nI (k + 1))), (6, .int (ae_wf (ae_en X S k) 12)), (5, .int (ae_wf (ae_en X S k) 8)), (4, .int (ae_wf (ae_en X S k) 4)), (3, .int (ae_wf (ae_en X S k) 0)), (13, .int (nI ((4) * (k)))), (12, .int (nI (0))), (11, .int (ae_wf (ae_eS (ae_en X S (k - 1))) 12)), (10, .int (ae_wf (ae_eS (ae_en X S (k - 1))) 8)), (9, .int (ae_wf (ae_eS (ae_en X S (k - 1))) 4)), (8, .int (ae_wf (ae_eS (ae_en X S (k - 1))) 0)), (0, .ref h0), (1, .ref rr), (2, .int (nI (at_)))]) hx hb dX0_encipher_254 hl rfl (nI_1 (k)) (by decide) rfl (fun ls hl => ?_)
      refine lv_goto (tgt := 62) hx hb dX0_encipher_257 (by decide) ?_
      exact ih (k + 1) ls H locs (by omega) (by omega) (lv_sub hl [0, 4, 3, 2, 1, 11, 12, 13] rfl) hP hD hS
    · refine lv_iconst (v := nI 1) hx hb dX0_encipher_136 (by decide) ?_
      refine lv_goto (tgt := 141) hx hb dX0_encipher_137 (by decide) ?_
      refine lv_istore (nL := 14) (lv' := [(12, .int (nI (1))), (11, .int (ae_wf (ae_eS (ae_en X S (k - 1))) 12)), (10, .int (ae_wf (ae_eS (ae_en X S (k - 1))) 8)), (9, .int (ae_wf (ae_eS (ae_en X S (k - 1))) 4)), (8, .int (ae_wf (ae_eS (ae_en X S (k - 1))) 0)), (7, .int (nI (k))), (3, .int (ae_wf (ae_en X S (k - 1)) 0)), (4, .int (ae_wf (ae_en X S (k - 1)) 4)), (5, .int (ae_wf (ae_en X S (k - 1)) 8)), (6, .int (ae_wf (ae_en X S (k - 1)) 12)), (0, .ref h0), (1, .ref rr), (2, .int (nI (at_)))]) hx hb dX0_encipher_141 hl (by decide) rfl (fun ls hl => ?_)
      refine lv_iconst (v := nI 4) hx hb dX0_encipher_143 (by decide) ?_
      refine lv_iload hx hb dX0_encipher_144 (lv_at hl 5 rfl) ?_
      refine xi_imul hx hb dX0_encipher_146 ?_
      refine lv_istore (nL := 14) (lv' := [(13, .int (nI ((4) * (k)))), (12, .int (nI (1))), (11, .int (ae_wf (ae_eS (ae_en X S (k - 1))) 12)), (10, .int (ae_wf (ae_eS (ae_en X S (k - 1))) 8)), (9, .int (ae_wf (ae_eS (ae_en X S (k - 1))) 4)), (8, .int (ae_wf (ae_eS (ae_en X S (k - 1))) 0)), (7, .int (nI (k))), (3, .int (ae_wf (ae_en X S (k - 1)) 0)), (4, .int (ae_wf (ae_en X S (k - 1)) 4)), (5, .int (ae_wf (ae_en X S (k - 1)) 8)), (6, .int (ae_wf (ae_en X S (k - 1)) 12)), (0, .ref h0), (1, .ref rr), (2, .int (nI (at_)))]) hx hb dX0_encipher_147 hl (by decide) rfl (fun ls hl => ?_)
      refine lv_iload hx hb dX0_encipher_149 (lv_at hl 1 rfl) ?_
      refine xi_if_eq (tgt := 162) hx hb dX0_encipher_151 (by decide) (by omega) (fun h9 => absurd h9 (by omega)) (fun hz => ?_)
      refine lv_iload hx hb dX0_encipher_154 (lv_at hl 5 rfl) ?_
      refine kp_purei (v := ae_w (ae_mx (ae_eS (ae_en X S (k - 1)) (0)) (ae_eS (ae_en X S (k - 1)) (0 + 1)) (ae_eS (ae_en X S (k - 1)) (0 + 2)) (ae_eS (ae_en X S (k - 1)) (0 + 3))) (ae_mx (ae_eS (ae_en X S (k - 1)) (0 + 1)) (ae_eS (ae_en X S (k - 1)) (0 + 2)) (ae_eS (ae_en X S (k - 1)) (0 + 3)) (ae_eS (ae_en X S (k - 1)) (0))) (ae_mx (ae_eS (ae_en X S (k - 1)) (0 + 2)) (ae_eS (ae_en X S (k - 1)) (0 + 3)) (ae_eS (ae_en X S (k - 1)) (0)) (ae_eS (ae_en X S (k - 1)) (0 + 1))) (ae_mx (ae_eS (ae_en X S (k - 1)) (0 + 3)) (ae_eS (ae_en X S (k - 1)) (0)) (ae_eS (ae_en X S (k - 1)) (0 + 1)) (ae_eS (ae_en X S (k - 1)) (0 + 2)))) (va_runS (As := [.int (ae_wf (ae_eS (ae_en X S (k - 1))) 0)]) (rest := []) ⟨hx, hb, hml, hown, htA⟩ (c_X0_mix l dC dI _ _ _ _ _ (hBE _) (hBE _) (hBE _) (hBE _)) (va_cwS 1 htA (goodC_S mA_l32 mA_static_mix mA_code_mix mA_initialized) rfl rfl rfl (by decide +kernel) ⟨Nat.le_trans (Nat.le_of_ble_eq_true rfl) hf.1, Nat.le_trans (Nat.le_of_ble_eq_true rfl) hf.2⟩) (kp_preS (wc := []) kp_XT trivial hP hD hK hS hA [] rfl rfl rfl [] rfl) rfl rfl hl.1 rfl (lv_room (Nat.le_of_ble_eq_true rfl)) dX0_encipher_156 ⟨hc.1, hc.2⟩) hP hS hA (fun H locs hP hS => ?_)
      refine tw_i (y := ae_wf (ae_mg 2 3 1 1 (ae_eS (ae_en X S (k - 1)))) 0) (ae_mxc hBE 0) ?_
      refine lv_goto (tgt := 164) hx hb dX0_encipher_159 (by decide) ?_
      refine lv_aload_n hx hb dX0_encipher_164 rfl (lv_at hl 11 rfl) ?_
      refine va_get (D := (dC, dI)) (ci := 0) (v := .ref q0) (C := RX0) (T := TX0) (N := 1) hx hb htA inC0 hown hK hP 0 rfl rfl 0 (by decide) (htA _ mA_f9) (fun _ h9 => h9) rfl dX0_encipher_165 ?_
      refine lv_iload hx hb dX0_encipher_168 (lv_at hl 0 rfl) ?_
      refine xa_ild hx hb hK hP 1 0 rfl rfl (by omega) (by omega) (v := ae_wf X (4 * (4 * k))) (hsch _ (by omega)) dX0_encipher_170 ?_
      refine lv_ixor hx hb dX0_encipher_171 ?_
      refine tw_i (y := ae_wf (ae_en X S k) 0) (ae_encC i2 hBM hBX (fun j => by rw [if_pos hc1]) 0) ?_
      refine lv_istore_n (nL := 14) (lv' := [(3, .int (ae_wf (ae_en X S k) 0)), (13, .int (nI ((4) * (k)))), (12, .int (nI (1))), (11, .int (ae_wf (ae_eS (ae_en X S (k - 1))) 12)), (10, .int (ae_wf (ae_eS (ae_en X S (k - 1))) 8)), (9, .int (ae_wf (ae_eS (ae_en X S (k - 1))) 4)), (8, .int (ae_wf (ae_eS (ae_en X S (k - 1))) 0)), (7, .int (nI (k))), (4, .int (ae_wf (ae_en X S (k - 1)) 4)), (5, .int (ae_wf (ae_en X S (k - 1)) 8)), (6, .int (ae_wf (ae_en X S (k - 1)) 12)), (0, .ref h0), (1, .ref rr), (2, .int (nI (at_)))]) hx hb dX0_encipher_172 rfl hl (by decide) rfl (fun ls hl => ?_)
      refine lv_iload hx hb dX0_encipher_173 (lv_at hl 2 rfl) ?_
      refine xi_if_eq (tgt := 186) hx hb dX0_encipher_175 (by decide) (by omega) (fun h9 => absurd h9 (by omega)) (fun hz => ?_)
      refine lv_iload hx hb dX0_encipher_178 (lv_at hl 5 rfl) ?_
      refine kp_purei (v := ae_w (ae_mx (ae_eS (ae_en X S (k - 1)) (4)) (ae_eS (ae_en X S (k - 1)) (4 + 1)) (ae_eS (ae_en X S (k - 1)) (4 + 2)) (ae_eS (ae_en X S (k - 1)) (4 + 3))) (ae_mx (ae_eS (ae_en X S (k - 1)) (4 + 1)) (ae_eS (ae_en X S (k - 1)) (4 + 2)) (ae_eS (ae_en X S (k - 1)) (4 + 3)) (ae_eS (ae_en X S (k - 1)) (4))) (ae_mx (ae_eS (ae_en X S (k - 1)) (4 + 2)) (ae_eS (ae_en X S (k - 1)) (4 + 3)) (ae_eS (ae_en X S (k - 1)) (4)) (ae_eS (ae_en X S (k - 1)) (4 + 1))) (ae_mx (ae_eS (ae_en X S (k - 1)) (4 + 3)) (ae_eS (ae_en X S (k - 1)) (4)) (ae_eS (ae_en X S (k - 1)) (4 + 1)) (ae_eS (ae_en X S (k - 1)) (4 + 2)))) (va_runS (As := [.int (ae_wf (ae_eS (ae_en X S (k - 1))) 4)]) (rest := []) ⟨hx, hb, hml, hown, htA⟩ (c_X0_mix l dC dI _ _ _ _ _ (hBE _) (hBE _) (hBE _) (hBE _)) (va_cwS 1 htA (goodC_S mA_l32 mA_static_mix mA_code_mix mA_initialized) rfl rfl rfl (by decide +kernel) ⟨Nat.le_trans (Nat.le_of_ble_eq_true rfl) hf.1, Nat.le_trans (Nat.le_of_ble_eq_true rfl) hf.2⟩) (kp_preS (wc := []) kp_XT trivial hP hD hK hS hA [] rfl rfl rfl [] rfl) rfl rfl hl.1 rfl (lv_room (Nat.le_of_ble_eq_true rfl)) dX0_encipher_180 ⟨hc.1, hc.2⟩) hP hS hA (fun H locs hP hS => ?_)
      refine tw_i (y := ae_wf (ae_mg 2 3 1 1 (ae_eS (ae_en X S (k - 1)))) 4) (ae_mxc hBE 1) ?_
      refine lv_goto (tgt := 188) hx hb dX0_encipher_183 (by decide) ?_
      refine lv_aload_n hx hb dX0_encipher_188 rfl (lv_at hl 11 rfl) ?_
      refine va_get (D := (dC, dI)) (ci := 0) (v := .ref q0) (C := RX0) (T := TX0) (N := 1) hx hb htA inC0 hown hK hP 0 rfl rfl 0 (by decide) (htA _ mA_f9) (fun _ h9 => h9) rfl dX0_encipher_189 ?_
      refine lv_iload hx hb dX0_encipher_192 (lv_at hl 1 rfl) ?_
      refine lv_iconst (v := nI 1) hx hb dX0_encipher_194 (by decide) ?_
      refine xi_iadd hx hb dX0_encipher_195 ?_
      refine xa_ild hx hb hK hP 1 0 rfl rfl (by omega) (by omega) (v := ae_wf X (4 * (4 * k + 1))) (hsch _ (by omega)) dX0_encipher_196 ?_
      refine lv_ixor hx hb dX0_encipher_197 ?_
      refine tw_i (y := ae_wf (ae_en X S k) 4) (ae_encC i2 hBM hBX (fun j => by rw [if_pos hc1]) 1) ?_
      refine lv_istore (nL := 14) (lv' := [(4, .int (ae_wf (ae_en X S k) 4)), (3, .int (ae_wf (ae_en X S k) 0)), (13, .int (nI ((4) * (k)))), (12, .int (nI (1))), (11, .int (ae_wf (ae_eS (ae_en X S (k - 1))) 12)), (10, .int (ae_wf (ae_eS (ae_en X S (k - 1))) 8)), (9, .int (ae_wf (ae_eS (ae_en X S (k - 1))) 4)), (8, .int (ae_wf (ae_eS (ae_en X S (k - 1))) 0)), (7, .int (nI (k))), (5, .int (ae_wf (ae_en X S (k - 1)) 8)), (6, .int (ae_wf (ae_en X S (k - 1)) 12)), (0, .ref h0), (1, .ref rr), (2, .int (nI (at_)))]) hx hb dX0_encipher_198 hl (by decide) rfl (fun ls hl => ?_)
      refine lv_iload hx hb dX0_encipher_200 (lv_at hl 3 rfl) ?_
      refine xi_if_eq (tgt := 213) hx hb dX0_encipher_202 (by decide) (by omega) (fun h9 => absurd h9 (by omega)) (fun hz => ?_)
      refine lv_iload hx hb dX0_encipher_205 (lv_at hl 5 rfl) ?_
      refine kp_purei (v := ae_w (ae_mx (ae_eS (ae_en X S (k - 1)) (8)) (ae_eS (ae_en X S (k - 1)) (8 + 1)) (ae_eS (ae_en X S (k - 1)) (8 + 2)) (ae_eS (ae_en X S (k - 1)) (8 + 3))) (ae_mx (ae_eS (ae_en X S (k - 1)) (8 + 1)) (ae_eS (ae_en X S (k - 1)) (8 + 2)) (ae_eS (ae_en X S (k - 1)) (8 + 3)) (ae_eS (ae_en X S (k - 1)) (8))) (ae_mx (ae_eS (ae_en X S (k - 1)) (8 + 2)) (ae_eS (ae_en X S (k - 1)) (8 + 3)) (ae_eS (ae_en X S (k - 1)) (8)) (ae_eS (ae_en X S (k - 1)) (8 + 1))) (ae_mx (ae_eS (ae_en X S (k - 1)) (8 + 3)) (ae_eS (ae_en X S (k - 1)) (8)) (ae_eS (ae_en X S (k - 1)) (8 + 1)) (ae_eS (ae_en X S (k - 1)) (8 + 2)))) (va_runS (As := [.int (ae_wf (ae_eS (ae_en X S (k - 1))) 8)]) (rest := []) ⟨hx, hb, hml, hown, htA⟩ (c_X0_mix l dC dI _ _ _ _ _ (hBE _) (hBE _) (hBE _) (hBE _)) (va_cwS 1 htA (goodC_S mA_l32 mA_static_mix mA_code_mix mA_initialized) rfl rfl rfl (by decide +kernel) ⟨Nat.le_trans (Nat.le_of_ble_eq_true rfl) hf.1, Nat.le_trans (Nat.le_of_ble_eq_true rfl) hf.2⟩) (kp_preS (wc := []) kp_XT trivial hP hD hK hS hA [] rfl rfl rfl [] rfl) rfl rfl hl.1 rfl (lv_room (Nat.le_of_ble_eq_true rfl)) dX0_encipher_207 ⟨hc.1, hc.2⟩) hP hS hA (fun H locs hP hS => ?_)
      refine tw_i (y := ae_wf (ae_mg 2 3 1 1 (ae_eS (ae_en X S (k - 1)))) 8) (ae_mxc hBE 2) ?_
      refine lv_goto (tgt := 215) hx hb dX0_encipher_210 (by decide) ?_
      refine lv_aload_n hx hb dX0_encipher_215 rfl (lv_at hl 11 rfl) ?_
      refine va_get (D := (dC, dI)) (ci := 0) (v := .ref q0) (C := RX0) (T := TX0) (N := 1) hx hb htA inC0 hown hK hP 0 rfl rfl 0 (by decide) (htA _ mA_f9) (fun _ h9 => h9) rfl dX0_encipher_216 ?_
      refine lv_iload hx hb dX0_encipher_219 (lv_at hl 2 rfl) ?_
      refine lv_iconst (v := nI 2) hx hb dX0_encipher_221 (by decide) ?_
      refine xi_iadd hx hb dX0_encipher_222 ?_
      refine xa_ild hx hb hK hP 1 0 rfl rfl (by omega) (by omega) (v := ae_wf X (4 * (4 * k + 2))) (hsch _ (by omega)) dX0_encipher_223 ?_
      refine lv_ixor hx hb dX0_encipher_224 ?_
      refine tw_i (y := ae_wf (ae_en X S k) 8) (ae_encC i2 hBM hBX (fun j => by rw [if_pos hc1]) 2) ?_
      refine lv_istore (nL := 14) (lv' := [(5, .int (ae_wf (ae_en X S k) 8)), (4, .int (ae_wf (ae_en X S k) 4)), (3, .int (ae_wf (ae_en X S k) 0)), (13, .int (nI ((4) * (k)))), (12, .int (nI (1))), (11, .int (ae_wf (ae_eS (ae_en X S (k - 1))) 12)), (10, .int (ae_wf (ae_eS (ae_en X S (k - 1))) 8)), (9, .int (ae_wf (ae_eS (ae_en X S (k - 1))) 4)), (8, .int (ae_wf (ae_eS (ae_en X S (k - 1))) 0)), (7, .int (nI (k))), (6, .int (ae_wf (ae_en X S (k - 1)) 12)), (0, .ref h0), (1, .ref rr), (2, .int (nI (at_)))]) hx hb dX0_encipher_225 hl (by decide) rfl (fun ls hl => ?_)
      refine lv_iload hx hb dX0_encipher_227 (lv_at hl 4 rfl) ?_
      refine xi_if_eq (tgt := 240) hx hb dX0_encipher_229 (by decide) (by omega) (fun h9 => absurd h9 (by omega)) (fun hz => ?_)
      refine lv_iload hx hb dX0_encipher_232 (lv_at hl 5 rfl) ?_
      refine kp_purei (v := ae_w (ae_mx (ae_eS (ae_en X S (k - 1)) (12)) (ae_eS (ae_en X S (k - 1)) (12 + 1)) (ae_eS (ae_en X S (k - 1)) (12 + 2)) (ae_eS (ae_en X S (k - 1)) (12 + 3))) (ae_mx (ae_eS (ae_en X S (k - 1)) (12 + 1)) (ae_eS (ae_en X S (k - 1)) (12 + 2)) (ae_eS (ae_en X S (k - 1)) (12 + 3)) (ae_eS (ae_en X S (k - 1)) (12))) (ae_mx (ae_eS (ae_en X S (k - 1)) (12 + 2)) (ae_eS (ae_en X S (k - 1)) (12 + 3)) (ae_eS (ae_en X S (k - 1)) (12)) (ae_eS (ae_en X S (k - 1)) (12 + 1))) (ae_mx (ae_eS (ae_en X S (k - 1)) (12 + 3)) (ae_eS (ae_en X S (k - 1)) (12)) (ae_eS (ae_en X S (k - 1)) (12 + 1)) (ae_eS (ae_en X S (k - 1)) (12 + 2)))) (va_runS (As := [.int (ae_wf (ae_eS (ae_en X S (k - 1))) 12)]) (rest := []) ⟨hx, hb, hml, hown, htA⟩ (c_X0_mix l dC dI _ _ _ _ _ (hBE _) (hBE _) (hBE _) (hBE _)) (va_cwS 1 htA (goodC_S mA_l32 mA_static_mix mA_code_mix mA_initialized) rfl rfl rfl (by decide +kernel) ⟨Nat.le_trans (Nat.le_of_ble_eq_true rfl) hf.1, Nat.le_trans (Nat.le_of_ble_eq_true rfl) hf.2⟩) (kp_preS (wc := []) kp_XT trivial hP hD hK hS hA [] rfl rfl rfl [] rfl) rfl rfl hl.1 rfl (lv_room (Nat.le_of_ble_eq_true rfl)) dX0_encipher_234 ⟨hc.1, hc.2⟩) hP hS hA (fun H locs hP hS => ?_)
      refine tw_i (y := ae_wf (ae_mg 2 3 1 1 (ae_eS (ae_en X S (k - 1)))) 12) (ae_mxc hBE 3) ?_
      refine lv_goto (tgt := 242) hx hb dX0_encipher_237 (by decide) ?_
      refine lv_aload_n hx hb dX0_encipher_242 rfl (lv_at hl 11 rfl) ?_
      refine va_get (D := (dC, dI)) (ci := 0) (v := .ref q0) (C := RX0) (T := TX0) (N := 1) hx hb htA inC0 hown hK hP 0 rfl rfl 0 (by decide) (htA _ mA_f9) (fun _ h9 => h9) rfl dX0_encipher_243 ?_
      refine lv_iload hx hb dX0_encipher_246 (lv_at hl 3 rfl) ?_
      refine lv_iconst (v := nI 3) hx hb dX0_encipher_248 (by decide) ?_
      refine xi_iadd hx hb dX0_encipher_249 ?_
      refine xa_ild hx hb hK hP 1 0 rfl rfl (by omega) (by omega) (v := ae_wf X (4 * (4 * k + 3))) (hsch _ (by omega)) dX0_encipher_250 ?_
      refine lv_ixor hx hb dX0_encipher_251 ?_
      refine tw_i (y := ae_wf (ae_en X S k) 12) (ae_encC i2 hBM hBX (fun j => by rw [if_pos hc1]) 3) ?_
      refine lv_istore (nL := 14) (lv' := [(6, .int (ae_wf (ae_en X S k) 12)), (5, .int (ae_wf (ae_en X S k) 8)), (4, .int (ae_wf (ae_en X S k) 4)), (3, .int (ae_wf (ae_en X S k) 0)), (13, .int (nI ((4) * (k)))), (12, .int (nI (1))), (11, .int (ae_wf (ae_eS (ae_en X S (k - 1))) 12)), (10, .int (ae_wf (ae_eS (ae_en X S (k - 1))) 8)), (9, .int (ae_wf (ae_eS (ae_en X S (k - 1))) 4)), (8, .int (ae_wf (ae_eS (ae_en X S (k - 1))) 0)), (7, .int (nI (k))), (0, .ref h0), (1, .ref rr), (2, .int (nI (at_)))]) hx hb dX0_encipher_252 hl (by decide) rfl (fun ls hl => ?_)
      refine lv_iinc (k := 10) (v := nI (k + 1)) (nL := 14) (lv' := [(7, .int (nI (k + 1))), (6, .int (ae_wf (ae_en X S k) 12)), (5, .int (ae_wf (ae_en X S k) 8)), (4, .int (ae_wf (ae_en X S k) 4)), (3, .int (ae_wf (ae_en X S k) 0)), (13, .int (nI ((4) * (k)))), (12, .int (nI (1))), (11, .int (ae_wf (ae_eS (ae_en X S (k - 1))) 12)), (10, .int (ae_wf (ae_eS (ae_en X S (k - 1))) 8)), (9, .int (ae_wf (ae_eS (ae_en X S (k - 1))) 4)), (8, .int (ae_wf (ae_eS (ae_en X S (k - 1))) 0)), (0, .ref h0), (1, .ref rr), (2, .int (nI (at_)))]) hx hb dX0_encipher_254 hl rfl (nI_1 (k)) (by decide) rfl (fun ls hl => ?_)
      refine lv_goto (tgt := 62) hx hb dX0_encipher_257 (by decide) ?_
      exact ih (k + 1) ls H locs (by omega) (by omega) (lv_sub hl [0, 4, 3, 2, 1, 11, 12, 13] rfl) hP hD hS
set_option maxRecDepth 100000 in
set_option maxHeartbeats 4000000 in
theorem lc_dec (hx : p.tables.exec = Jvm.exec) (hb : c.code = cX0_decipher) (htA : ∀ w ∈ wsC_a, w.before args s = true) (hown : s.vm.findClass RX0 = some m.cls) (hml : c.maxLocals = 15) (hA : ∀ q, s.heap.size ≤ q → A q) (hc : cells ≤ R.cells ∧ slots ≤ R.slots) (hf : 3 ≤ R.frames ∧ 63 ≤ R.locals) {cI cL : ClassId} {h0 q0 rr n at_ tS tI : Nat} {sch : Nat → Int32} {f : Nat → Int64} {X S : Nat → Nat} (hBX : ae_B X) (hBS : ae_B S) (hsch : ∀ i, i < 44 → sch i = ae_wf X (4 * i)) (hK : va_K (dC, dI) mCl [(cI, .int), (cL, .long)] s) (hX : st_X tS tI A s)
    (kk : ∀  (ls : Array Slot) (H : Heap) (locs : List Loc), True → lv_has ls 15 [(8, .int (nI (10 - 10) + (-1))), (4, .int (ae_wf (ae_dX X (10 - 10) (ae_rh X S 10)) 0)), (5, .int (ae_wf (ae_dX X (10 - 10) (ae_rh X S 10)) 4)), (6, .int (ae_wf (ae_dX X (10 - 10) (ae_rh X S 10)) 8)), (7, .int (ae_wf (ae_dX X (10 - 10) (ae_rh X S 10)) 12)), (0, .ref h0), (1, .ref rr), (2, .int (nI (at_)))] → va_P (dC, dI) mCl [(h0, .inr (0, [.ref q0])), (q0, .inl (cI, 44, .inl (sch))), (rr, .inl (cL, n, .inr (.inl (f))))] H → va_D A [(h0, .inr (0, [.ref q0])), (q0, .inl (cI, 44, .inl (sch))), (rr, .inl (cL, n, .inr (.inl (f))))] → va_S A s.heap H locs → W p l e R s m args below meth c H locs cells slots Q (F0 m 272 ls [])) :
    ∀ (j k : Nat)  (ls : Array Slot) (H : Heap) (locs : List Loc), k + j = 10 → lv_has ls 15 [(8, .int (nI (10 - k) + (-1))), (4, .int (ae_wf (ae_dX X (10 - k) (ae_rh X S k)) 0)), (5, .int (ae_wf (ae_dX X (10 - k) (ae_rh X S k)) 4)), (6, .int (ae_wf (ae_dX X (10 - k) (ae_rh X S k)) 8)), (7, .int (ae_wf (ae_dX X (10 - k) (ae_rh X S k)) 12)), (0, .ref h0), (1, .ref rr), (2, .int (nI (at_)))] → va_P (dC, dI) mCl [(h0, .inr (0, [.ref q0])), (q0, .inl (cI, 44, .inl (sch))), (rr, .inl (cL, n, .inr (.inl (f))))] H → va_D A [(h0, .inr (0, [.ref q0])), (q0, .inl (cI, 44, .inl (sch))), (rr, .inl (cL, n, .inr (.inl (f))))] → va_S A s.heap H locs → W p l e R s m args below meth c H locs cells slots Q (F0 m 73 ls []) := by
  intro j
  induction j with
  | zero =>
    intro k  ls H locs hj  hl hP hD hS
    have e : k = 10 := by omega
    subst e
    refine lv_iload hx hb dX0_decipher_73 (lv_at hl 0 rfl) ?_
    refine lv_if_lt (tgt := 272) hx hb dX0_decipher_75 (by decide) (fun hc0 => ?_) (fun h9 => absurd h9 (fun z => z (by decide)))
    exact kk ls H locs trivial hl hP hD hS
  | succ j ih =>
    intro k  ls H locs hj  hl hP hD hS
    have hBR : ae_B (ae_rh X S (k + 1)) := ae_rh_lt hBX hBS _
    have hBD : ae_B (ae_dX X (10 - k) (ae_rh X S k)) := ae_dX_lt hBX (ae_rh_lt hBX hBS k) _
    have hBY : ae_B (fun j => ae_rh X S (k + 1) j ^^^ X (16 * (9 - k) + j)) := fun j => ae_x_lt (hBR j) (hBX _)
    have hr9 : nI (10 - k) + (-1) = nI (9 - k) := by rw [show 10 - k = (9 - k) + 1 by omega]; exact pk_m1 _
    rw [hr9] at hl
    refine lv_iload hx hb dX0_decipher_73 (lv_at hl 0 rfl) ?_
    refine lv_if_lt (tgt := 272) hx hb dX0_decipher_75 (by decide) (fun h9 => absurd h9 (nI_pos (by omega))) (fun hc0 => ?_)
    refine lv_iconst (v := nI 4) hx hb dX0_decipher_78 (by decide) ?_
    refine lv_iload hx hb dX0_decipher_79 (lv_at hl 0 rfl) ?_
    refine xi_imul hx hb dX0_decipher_81 ?_
    refine lv_istore (nL := 15) (lv' := [(9, .int (nI ((4) * (9 - k)))), (8, .int (nI (9 - k))), (4, .int (ae_wf (ae_dX X (10 - k) (ae_rh X S k)) 0)), (5, .int (ae_wf (ae_dX X (10 - k) (ae_rh X S k)) 4)), (6, .int (ae_wf (ae_dX X (10 - k) (ae_rh X S k)) 8)), (7, .int (ae_wf (ae_dX X (10 - k) (ae_rh X S k)) 12)), (0, .ref h0), (1, .ref rr), (2, .int (nI (at_)))]) hx hb dX0_decipher_82 hl (by decide) rfl (fun ls hl => ?_)
    refine va_gets hx hb hX.2.1 hS hown (htA _ mA_f39) (fun _ h9 => h9) dX0_decipher_84 ?_
    refine lv_iload hx hb dX0_decipher_87 (lv_at hl 2 rfl) ?_
    refine lv_iload hx hb dX0_decipher_89 (lv_at hl 5 rfl) ?_
    refine lv_iload hx hb dX0_decipher_91 (lv_at hl 4 rfl) ?_
    refine lv_iload hx hb dX0_decipher_93 (lv_at hl 3 rfl) ?_
    refine kp_purei (v := ae_wf (ae_rh X S (k + 1)) 0) (va_runS (As := [.ref tI, .int (ae_wf (ae_dX X (10 - k) (ae_rh X S k)) 0), .int (ae_wf (ae_dX X (10 - k) (ae_rh X S k)) 12), .int (ae_wf (ae_dX X (10 - k) (ae_rh X S k)) 8), .int (ae_wf (ae_dX X (10 - k) (ae_rh X S k)) 4)]) (rest := []) ⟨hx, hb, hml, hown, htA⟩ (c_X0_substitute l dC dI _ tI ae_ib ae_ib_lt (ae_dX X (10 - k) (ae_rh X S k)) hBD 0 12 8 4) (va_cwS 5 htA (goodC_S mA_l24 mA_static_substitute mA_code_substitute mA_initialized) rfl rfl rfl (by decide +kernel) ⟨Nat.le_trans (Nat.le_of_ble_eq_true rfl) hf.1, Nat.le_trans (Nat.le_of_ble_eq_true rfl) hf.2⟩) (kp_preS (wc := []) (tb_kp tI ae_ib) hX.2.2 hP hD hK hS hA [] rfl rfl rfl [] rfl) rfl rfl hl.1 rfl (lv_room (Nat.le_of_ble_eq_true rfl)) dX0_decipher_95 ⟨hc.1, hc.2⟩) hP hS hA (fun H locs hP hS => ?_)
    refine lv_aload_n hx hb dX0_decipher_98 rfl (lv_at hl 6 rfl) ?_
    refine va_get (D := (dC, dI)) (ci := 0) (v := .ref q0) (C := RX0) (T := TX0) (N := 1) hx hb htA inC0 hown hK hP 0 rfl rfl 0 (by decide) (htA _ mA_f9) (fun _ h9 => h9) rfl dX0_decipher_99 ?_
    refine lv_iload hx hb dX0_decipher_102 (lv_at hl 0 rfl) ?_
    refine xa_ild hx hb hK hP 1 0 rfl rfl (by omega) (by omega) (v := ae_wf X (4 * (4 * (9 - k)))) (hsch _ (by omega)) dX0_decipher_104 ?_
    refine lv_ixor hx hb dX0_decipher_105 ?_
    refine tw_i (y := ae_wf (fun j => ae_rh X S (k + 1) j ^^^ X (16 * (9 - k) + j)) 0) (ae_decC hBR hBX (9 - k) 0) ?_
    refine lv_istore (nL := 15) (lv' := [(10, .int (ae_wf (fun j => ae_rh X S (k + 1) j ^^^ X (16 * (9 - k) + j)) 0)), (9, .int (nI ((4) * (9 - k)))), (8, .int (nI (9 - k))), (4, .int (ae_wf (ae_dX X (10 - k) (ae_rh X S k)) 0)), (5, .int (ae_wf (ae_dX X (10 - k) (ae_rh X S k)) 4)), (6, .int (ae_wf (ae_dX X (10 - k) (ae_rh X S k)) 8)), (7, .int (ae_wf (ae_dX X (10 - k) (ae_rh X S k)) 12)), (0, .ref h0), (1, .ref rr), (2, .int (nI (at_)))]) hx hb dX0_decipher_106 hl (by decide) rfl (fun ls hl => ?_)
    refine va_gets hx hb hX.2.1 hS hown (htA _ mA_f39) (fun _ h9 => h9) dX0_decipher_108 ?_
    refine lv_iload hx hb dX0_decipher_111 (lv_at hl 4 rfl) ?_
    refine lv_iload hx hb dX0_decipher_113 (lv_at hl 3 rfl) ?_
    refine lv_iload hx hb dX0_decipher_115 (lv_at hl 6 rfl) ?_
    refine lv_iload hx hb dX0_decipher_117 (lv_at hl 5 rfl) ?_
    refine kp_purei (v := ae_wf (ae_rh X S (k + 1)) 4) (va_runS (As := [.ref tI, .int (ae_wf (ae_dX X (10 - k) (ae_rh X S k)) 4), .int (ae_wf (ae_dX X (10 - k) (ae_rh X S k)) 0), .int (ae_wf (ae_dX X (10 - k) (ae_rh X S k)) 12), .int (ae_wf (ae_dX X (10 - k) (ae_rh X S k)) 8)]) (rest := []) ⟨hx, hb, hml, hown, htA⟩ (c_X0_substitute l dC dI _ tI ae_ib ae_ib_lt (ae_dX X (10 - k) (ae_rh X S k)) hBD 4 0 12 8) (va_cwS 5 htA (goodC_S mA_l24 mA_static_substitute mA_code_substitute mA_initialized) rfl rfl rfl (by decide +kernel) ⟨Nat.le_trans (Nat.le_of_ble_eq_true rfl) hf.1, Nat.le_trans (Nat.le_of_ble_eq_true rfl) hf.2⟩) (kp_preS (wc := []) (tb_kp tI ae_ib) hX.2.2 hP hD hK hS hA [] rfl rfl rfl [] rfl) rfl rfl hl.1 rfl (lv_room (Nat.le_of_ble_eq_true rfl)) dX0_decipher_119 ⟨hc.1, hc.2⟩) hP hS hA (fun H locs hP hS => ?_)
    refine lv_aload_n hx hb dX0_decipher_122 rfl (lv_at hl 7 rfl) ?_
    refine va_get (D := (dC, dI)) (ci := 0) (v := .ref q0) (C := RX0) (T := TX0) (N := 1) hx hb htA inC0 hown hK hP 0 rfl rfl 0 (by decide) (htA _ mA_f9) (fun _ h9 => h9) rfl dX0_decipher_123 ?_
    refine lv_iload hx hb dX0_decipher_126 (lv_at hl 1 rfl) ?_
    refine lv_iconst (v := nI 1) hx hb dX0_decipher_128 (by decide) ?_
    refine xi_iadd hx hb dX0_decipher_129 ?_
    refine xa_ild hx hb hK hP 1 0 rfl rfl (by omega) (by omega) (v := ae_wf X (4 * (4 * (9 - k) + 1))) (hsch _ (by omega)) dX0_decipher_130 ?_
    refine lv_ixor hx hb dX0_decipher_131 ?_
    refine tw_i (y := ae_wf (fun j => ae_rh X S (k + 1) j ^^^ X (16 * (9 - k) + j)) 4) (ae_decC hBR hBX (9 - k) 1) ?_
    refine lv_istore (nL := 15) (lv' := [(11, .int (ae_wf (fun j => ae_rh X S (k + 1) j ^^^ X (16 * (9 - k) + j)) 4)), (10, .int (ae_wf (fun j => ae_rh X S (k + 1) j ^^^ X (16 * (9 - k) + j)) 0)), (9, .int (nI ((4) * (9 - k)))), (8, .int (nI (9 - k))), (4, .int (ae_wf (ae_dX X (10 - k) (ae_rh X S k)) 0)), (5, .int (ae_wf (ae_dX X (10 - k) (ae_rh X S k)) 4)), (6, .int (ae_wf (ae_dX X (10 - k) (ae_rh X S k)) 8)), (7, .int (ae_wf (ae_dX X (10 - k) (ae_rh X S k)) 12)), (0, .ref h0), (1, .ref rr), (2, .int (nI (at_)))]) hx hb dX0_decipher_132 hl (by decide) rfl (fun ls hl => ?_)
    refine va_gets hx hb hX.2.1 hS hown (htA _ mA_f39) (fun _ h9 => h9) dX0_decipher_134 ?_
    refine lv_iload hx hb dX0_decipher_137 (lv_at hl 6 rfl) ?_
    refine lv_iload hx hb dX0_decipher_139 (lv_at hl 5 rfl) ?_
    refine lv_iload hx hb dX0_decipher_141 (lv_at hl 4 rfl) ?_
    refine lv_iload hx hb dX0_decipher_143 (lv_at hl 7 rfl) ?_
    refine kp_purei (v := ae_wf (ae_rh X S (k + 1)) 8) (va_runS (As := [.ref tI, .int (ae_wf (ae_dX X (10 - k) (ae_rh X S k)) 8), .int (ae_wf (ae_dX X (10 - k) (ae_rh X S k)) 4), .int (ae_wf (ae_dX X (10 - k) (ae_rh X S k)) 0), .int (ae_wf (ae_dX X (10 - k) (ae_rh X S k)) 12)]) (rest := []) ⟨hx, hb, hml, hown, htA⟩ (c_X0_substitute l dC dI _ tI ae_ib ae_ib_lt (ae_dX X (10 - k) (ae_rh X S k)) hBD 8 4 0 12) (va_cwS 5 htA (goodC_S mA_l24 mA_static_substitute mA_code_substitute mA_initialized) rfl rfl rfl (by decide +kernel) ⟨Nat.le_trans (Nat.le_of_ble_eq_true rfl) hf.1, Nat.le_trans (Nat.le_of_ble_eq_true rfl) hf.2⟩) (kp_preS (wc := []) (tb_kp tI ae_ib) hX.2.2 hP hD hK hS hA [] rfl rfl rfl [] rfl) rfl rfl hl.1 rfl (lv_room (Nat.le_of_ble_eq_true rfl)) dX0_decipher_145 ⟨hc.1, hc.2⟩) hP hS hA (fun H locs hP hS => ?_)
    refine lv_aload_n hx hb dX0_decipher_148 rfl (lv_at hl 8 rfl) ?_
    refine va_get (D := (dC, dI)) (ci := 0) (v := .ref q0) (C := RX0) (T := TX0) (N := 1) hx hb htA inC0 hown hK hP 0 rfl rfl 0 (by decide) (htA _ mA_f9) (fun _ h9 => h9) rfl dX0_decipher_149 ?_
    refine lv_iload hx hb dX0_decipher_152 (lv_at hl 2 rfl) ?_
    refine lv_iconst (v := nI 2) hx hb dX0_decipher_154 (by decide) ?_
    refine xi_iadd hx hb dX0_decipher_155 ?_
    refine xa_ild hx hb hK hP 1 0 rfl rfl (by omega) (by omega) (v := ae_wf X (4 * (4 * (9 - k) + 2))) (hsch _ (by omega)) dX0_decipher_156 ?_
    refine lv_ixor hx hb dX0_decipher_157 ?_
    refine tw_i (y := ae_wf (fun j => ae_rh X S (k + 1) j ^^^ X (16 * (9 - k) + j)) 8) (ae_decC hBR hBX (9 - k) 2) ?_
    refine lv_istore (nL := 15) (lv' := [(12, .int (ae_wf (fun j => ae_rh X S (k + 1) j ^^^ X (16 * (9 - k) + j)) 8)), (11, .int (ae_wf (fun j => ae_rh X S (k + 1) j ^^^ X (16 * (9 - k) + j)) 4)), (10, .int (ae_wf (fun j => ae_rh X S (k + 1) j ^^^ X (16 * (9 - k) + j)) 0)), (9, .int (nI ((4) * (9 - k)))), (8, .int (nI (9 - k))), (4, .int (ae_wf (ae_dX X (10 - k) (ae_rh X S k)) 0)), (5, .int (ae_wf (ae_dX X (10 - k) (ae_rh X S k)) 4)), (6, .int (ae_wf (ae_dX X (10 - k) (ae_rh X S k)) 8)), (7, .int (ae_wf (ae_dX X (10 - k) (ae_rh X S k)) 12)), (0, .ref h0), (1, .ref rr), (2, .int (nI (at_)))]) hx hb dX0_decipher_158 hl (by decide) rfl (fun ls hl => ?_)
    refine va_gets hx hb hX.2.1 hS hown (htA _ mA_f39) (fun _ h9 => h9) dX0_decipher_160 ?_
    refine lv_iload hx hb dX0_decipher_163 (lv_at hl 8 rfl) ?_
    refine lv_iload hx hb dX0_decipher_165 (lv_at hl 7 rfl) ?_
    refine lv_iload hx hb dX0_decipher_167 (lv_at hl 6 rfl) ?_
    refine lv_iload hx hb dX0_decipher_169 (lv_at hl 5 rfl) ?_
    refine kp_purei (v := ae_wf (ae_rh X S (k + 1)) 12) (va_runS (As := [.ref tI, .int (ae_wf (ae_dX X (10 - k) (ae_rh X S k)) 12), .int (ae_wf (ae_dX X (10 - k) (ae_rh X S k)) 8), .int (ae_wf (ae_dX X (10 - k) (ae_rh X S k)) 4), .int (ae_wf (ae_dX X (10 - k) (ae_rh X S k)) 0)]) (rest := []) ⟨hx, hb, hml, hown, htA⟩ (c_X0_substitute l dC dI _ tI ae_ib ae_ib_lt (ae_dX X (10 - k) (ae_rh X S k)) hBD 12 8 4 0) (va_cwS 5 htA (goodC_S mA_l24 mA_static_substitute mA_code_substitute mA_initialized) rfl rfl rfl (by decide +kernel) ⟨Nat.le_trans (Nat.le_of_ble_eq_true rfl) hf.1, Nat.le_trans (Nat.le_of_ble_eq_true rfl) hf.2⟩) (kp_preS (wc := []) (tb_kp tI ae_ib) hX.2.2 hP hD hK hS hA [] rfl rfl rfl [] rfl) rfl rfl hl.1 rfl (lv_room (Nat.le_of_ble_eq_true rfl)) dX0_decipher_171 ⟨hc.1, hc.2⟩) hP hS hA (fun H locs hP hS => ?_)
    refine lv_aload_n hx hb dX0_decipher_174 rfl (lv_at hl 9 rfl) ?_
    refine va_get (D := (dC, dI)) (ci := 0) (v := .ref q0) (C := RX0) (T := TX0) (N := 1) hx hb htA inC0 hown hK hP 0 rfl rfl 0 (by decide) (htA _ mA_f9) (fun _ h9 => h9) rfl dX0_decipher_175 ?_
    refine lv_iload hx hb dX0_decipher_178 (lv_at hl 3 rfl) ?_
    refine lv_iconst (v := nI 3) hx hb dX0_decipher_180 (by decide) ?_
    refine xi_iadd hx hb dX0_decipher_181 ?_
    refine xa_ild hx hb hK hP 1 0 rfl rfl (by omega) (by omega) (v := ae_wf X (4 * (4 * (9 - k) + 3))) (hsch _ (by omega)) dX0_decipher_182 ?_
    refine lv_ixor hx hb dX0_decipher_183 ?_
    refine tw_i (y := ae_wf (fun j => ae_rh X S (k + 1) j ^^^ X (16 * (9 - k) + j)) 12) (ae_decC hBR hBX (9 - k) 3) ?_
    refine lv_istore (nL := 15) (lv' := [(13, .int (ae_wf (fun j => ae_rh X S (k + 1) j ^^^ X (16 * (9 - k) + j)) 12)), (12, .int (ae_wf (fun j => ae_rh X S (k + 1) j ^^^ X (16 * (9 - k) + j)) 8)), (11, .int (ae_wf (fun j => ae_rh X S (k + 1) j ^^^ X (16 * (9 - k) + j)) 4)), (10, .int (ae_wf (fun j => ae_rh X S (k + 1) j ^^^ X (16 * (9 - k) + j)) 0)), (9, .int (nI ((4) * (9 - k)))), (8, .int (nI (9 - k))), (4, .int (ae_wf (ae_dX X (10 - k) (ae_rh X S k)) 0)), (5, .int (ae_wf (ae_dX X (10 - k) (ae_rh X S k)) 4)), (6, .int (ae_wf (ae_dX X (10 - k) (ae_rh X S k)) 8)), (7, .int (ae_wf (ae_dX X (10 - k) (ae_rh X S k)) 12)), (0, .ref h0), (1, .ref rr), (2, .int (nI (at_)))]) hx hb dX0_decipher_184 hl (by decide) rfl (fun ls hl => ?_)
    refine lv_iload hx hb dX0_decipher_186 (lv_at hl 5 rfl) ?_
    rcases Nat.lt_or_ge k 9 with hk9 | hk9
    · refine lv_if_le (tgt := 195) hx hb dX0_decipher_188 (by decide) (fun h9 => absurd h9 (nI_nle (by omega) (by omega))) (fun hc1 => ?_)
      refine lv_iconst (v := nI 1) hx hb dX0_decipher_191 (by decide) ?_
      refine lv_goto (tgt := 196) hx hb dX0_decipher_192 (by decide) ?_
      refine lv_istore (nL := 15) (lv' := [(14, .int (nI (1))), (13, .int (ae_wf (fun j => ae_rh X S (k + 1) j ^^^ X (16 * (9 - k) + j)) 12)), (12, .int (ae_wf (fun j => ae_rh X S (k + 1) j ^^^ X (16 * (9 - k) + j)) 8)), (11, .int (ae_wf (fun j => ae_rh X S (k + 1) j ^^^ X (16 * (9 - k) + j)) 4)), (10, .int (ae_wf (fun j => ae_rh X S (k + 1) j ^^^ X (16 * (9 - k) + j)) 0)), (9, .int (nI ((4) * (9 - k)))), (8, .int (nI (9 - k))), (4, .int (ae_wf (ae_dX X (10 - k) (ae_rh X S k)) 0)), (5, .int (ae_wf (ae_dX X (10 - k) (ae_rh X S k)) 4)), (6, .int (ae_wf (ae_dX X (10 - k) (ae_rh X S k)) 8)), (7, .int (ae_wf (ae_dX X (10 - k) (ae_rh X S k)) 12)), (0, .ref h0), (1, .ref rr), (2, .int (nI (at_)))]) hx hb dX0_decipher_196 hl (by decide) rfl (fun ls hl => ?_)
      refine lv_iload hx hb dX0_decipher_198 (lv_at hl 0 rfl) ?_
      refine xi_if_eq (tgt := 211) hx hb dX0_decipher_200 (by decide) (by omega) (fun h9 => absurd h9 (by omega)) (fun hz => ?_)
      refine lv_iload hx hb dX0_decipher_203 (lv_at hl 4 rfl) ?_
      refine kp_purei (v := ae_w (ae_um ((fun j => ae_rh X S (k + 1) j ^^^ X (16 * (9 - k) + j)) (0)) ((fun j => ae_rh X S (k + 1) j ^^^ X (16 * (9 - k) + j)) (0 + 1)) ((fun j => ae_rh X S (k + 1) j ^^^ X (16 * (9 - k) + j)) (0 + 2)) ((fun j => ae_rh X S (k + 1) j ^^^ X (16 * (9 - k) + j)) (0 + 3))) (ae_um ((fun j => ae_rh X S (k + 1) j ^^^ X (16 * (9 - k) + j)) (0 + 1)) ((fun j => ae_rh X S (k + 1) j ^^^ X (16 * (9 - k) + j)) (0 + 2)) ((fun j => ae_rh X S (k + 1) j ^^^ X (16 * (9 - k) + j)) (0 + 3)) ((fun j => ae_rh X S (k + 1) j ^^^ X (16 * (9 - k) + j)) (0))) (ae_um ((fun j => ae_rh X S (k + 1) j ^^^ X (16 * (9 - k) + j)) (0 + 2)) ((fun j => ae_rh X S (k + 1) j ^^^ X (16 * (9 - k) + j)) (0 + 3)) ((fun j => ae_rh X S (k + 1) j ^^^ X (16 * (9 - k) + j)) (0)) ((fun j => ae_rh X S (k + 1) j ^^^ X (16 * (9 - k) + j)) (0 + 1))) (ae_um ((fun j => ae_rh X S (k + 1) j ^^^ X (16 * (9 - k) + j)) (0 + 3)) ((fun j => ae_rh X S (k + 1) j ^^^ X (16 * (9 - k) + j)) (0)) ((fun j => ae_rh X S (k + 1) j ^^^ X (16 * (9 - k) + j)) (0 + 1)) ((fun j => ae_rh X S (k + 1) j ^^^ X (16 * (9 - k) + j)) (0 + 2)))) (va_runS (As := [.int (ae_wf (fun j => ae_rh X S (k + 1) j ^^^ X (16 * (9 - k) + j)) 0)]) (rest := []) ⟨hx, hb, hml, hown, htA⟩ (c_X0_unmix l dC dI _ _ _ _ _ (hBY _) (hBY _) (hBY _) (hBY _)) (va_cwS 1 htA (goodC_S mA_l42 mA_static_unmix mA_code_unmix mA_initialized) rfl rfl rfl (by decide +kernel) ⟨Nat.le_trans (Nat.le_of_ble_eq_true rfl) hf.1, Nat.le_trans (Nat.le_of_ble_eq_true rfl) hf.2⟩) (kp_preS (wc := []) kp_XT trivial hP hD hK hS hA [] rfl rfl rfl [] rfl) rfl rfl hl.1 rfl (lv_room (Nat.le_of_ble_eq_true rfl)) dX0_decipher_205 ⟨hc.1, hc.2⟩) hP hS hA (fun H locs hP hS => ?_)
      refine tw_i (y := ae_wf (ae_mg 14 11 13 9 (fun j => ae_rh X S (k + 1) j ^^^ X (16 * (9 - k) + j))) 0) (ae_umc (fun j => ae_rh X S (k + 1) j ^^^ X (16 * (9 - k) + j)) 0) ?_
      refine lv_goto (tgt := 213) hx hb dX0_decipher_208 (by decide) ?_
      refine lv_istore (nL := 15) (lv' := [(4, .int (ae_wf (ae_mg 14 11 13 9 (fun j => ae_rh X S (k + 1) j ^^^ X (16 * (9 - k) + j))) 0)), (14, .int (nI (1))), (13, .int (ae_wf (fun j => ae_rh X S (k + 1) j ^^^ X (16 * (9 - k) + j)) 12)), (12, .int (ae_wf (fun j => ae_rh X S (k + 1) j ^^^ X (16 * (9 - k) + j)) 8)), (11, .int (ae_wf (fun j => ae_rh X S (k + 1) j ^^^ X (16 * (9 - k) + j)) 4)), (10, .int (ae_wf (fun j => ae_rh X S (k + 1) j ^^^ X (16 * (9 - k) + j)) 0)), (9, .int (nI ((4) * (9 - k)))), (8, .int (nI (9 - k))), (5, .int (ae_wf (ae_dX X (10 - k) (ae_rh X S k)) 4)), (6, .int (ae_wf (ae_dX X (10 - k) (ae_rh X S k)) 8)), (7, .int (ae_wf (ae_dX X (10 - k) (ae_rh X S k)) 12)), (0, .ref h0), (1, .ref rr), (2, .int (nI (at_)))]) hx hb dX0_decipher_213 hl (by decide) rfl (fun ls hl => ?_)
      refine lv_iload hx hb dX0_decipher_215 (lv_at hl 1 rfl) ?_
      refine xi_if_eq (tgt := 228) hx hb dX0_decipher_217 (by decide) (by omega) (fun h9 => absurd h9 (by omega)) (fun hz => ?_)
      refine lv_iload hx hb dX0_decipher_220 (lv_at hl 4 rfl) ?_
      refine kp_purei (v := ae_w (ae_um ((fun j => ae_rh X S (k + 1) j ^^^ X (16 * (9 - k) + j)) (4)) ((fun j => ae_rh X S (k + 1) j ^^^ X (16 * (9 - k) + j)) (4 + 1)) ((fun j => ae_rh X S (k + 1) j ^^^ X (16 * (9 - k) + j)) (4 + 2)) ((fun j => ae_rh X S (k + 1) j ^^^ X (16 * (9 - k) + j)) (4 + 3))) (ae_um ((fun j => ae_rh X S (k + 1) j ^^^ X (16 * (9 - k) + j)) (4 + 1)) ((fun j => ae_rh X S (k + 1) j ^^^ X (16 * (9 - k) + j)) (4 + 2)) ((fun j => ae_rh X S (k + 1) j ^^^ X (16 * (9 - k) + j)) (4 + 3)) ((fun j => ae_rh X S (k + 1) j ^^^ X (16 * (9 - k) + j)) (4))) (ae_um ((fun j => ae_rh X S (k + 1) j ^^^ X (16 * (9 - k) + j)) (4 + 2)) ((fun j => ae_rh X S (k + 1) j ^^^ X (16 * (9 - k) + j)) (4 + 3)) ((fun j => ae_rh X S (k + 1) j ^^^ X (16 * (9 - k) + j)) (4)) ((fun j => ae_rh X S (k + 1) j ^^^ X (16 * (9 - k) + j)) (4 + 1))) (ae_um ((fun j => ae_rh X S (k + 1) j ^^^ X (16 * (9 - k) + j)) (4 + 3)) ((fun j => ae_rh X S (k + 1) j ^^^ X (16 * (9 - k) + j)) (4)) ((fun j => ae_rh X S (k + 1) j ^^^ X (16 * (9 - k) + j)) (4 + 1)) ((fun j => ae_rh X S (k + 1) j ^^^ X (16 * (9 - k) + j)) (4 + 2)))) (va_runS (As := [.int (ae_wf (fun j => ae_rh X S (k + 1) j ^^^ X (16 * (9 - k) + j)) 4)]) (rest := []) ⟨hx, hb, hml, hown, htA⟩ (c_X0_unmix l dC dI _ _ _ _ _ (hBY _) (hBY _) (hBY _) (hBY _)) (va_cwS 1 htA (goodC_S mA_l42 mA_static_unmix mA_code_unmix mA_initialized) rfl rfl rfl (by decide +kernel) ⟨Nat.le_trans (Nat.le_of_ble_eq_true rfl) hf.1, Nat.le_trans (Nat.le_of_ble_eq_true rfl) hf.2⟩) (kp_preS (wc := []) kp_XT trivial hP hD hK hS hA [] rfl rfl rfl [] rfl) rfl rfl hl.1 rfl (lv_room (Nat.le_of_ble_eq_true rfl)) dX0_decipher_222 ⟨hc.1, hc.2⟩) hP hS hA (fun H locs hP hS => ?_)
      refine tw_i (y := ae_wf (ae_mg 14 11 13 9 (fun j => ae_rh X S (k + 1) j ^^^ X (16 * (9 - k) + j))) 4) (ae_umc (fun j => ae_rh X S (k + 1) j ^^^ X (16 * (9 - k) + j)) 1) ?_
      refine lv_goto (tgt := 230) hx hb dX0_decipher_225 (by decide) ?_
      refine lv_istore (nL := 15) (lv' := [(5, .int (ae_wf (ae_mg 14 11 13 9 (fun j => ae_rh X S (k + 1) j ^^^ X (16 * (9 - k) + j))) 4)), (4, .int (ae_wf (ae_mg 14 11 13 9 (fun j => ae_rh X S (k + 1) j ^^^ X (16 * (9 - k) + j))) 0)), (14, .int (nI (1))), (13, .int (ae_wf (fun j => ae_rh X S (k + 1) j ^^^ X (16 * (9 - k) + j)) 12)), (12, .int (ae_wf (fun j => ae_rh X S (k + 1) j ^^^ X (16 * (9 - k) + j)) 8)), (11, .int (ae_wf (fun j => ae_rh X S (k + 1) j ^^^ X (16 * (9 - k) + j)) 4)), (10, .int (ae_wf (fun j => ae_rh X S (k + 1) j ^^^ X (16 * (9 - k) + j)) 0)), (9, .int (nI ((4) * (9 - k)))), (8, .int (nI (9 - k))), (6, .int (ae_wf (ae_dX X (10 - k) (ae_rh X S k)) 8)), (7, .int (ae_wf (ae_dX X (10 - k) (ae_rh X S k)) 12)), (0, .ref h0), (1, .ref rr), (2, .int (nI (at_)))]) hx hb dX0_decipher_230 hl (by decide) rfl (fun ls hl => ?_)
      refine lv_iload hx hb dX0_decipher_232 (lv_at hl 2 rfl) ?_
      refine xi_if_eq (tgt := 245) hx hb dX0_decipher_234 (by decide) (by omega) (fun h9 => absurd h9 (by omega)) (fun hz => ?_)
      refine lv_iload hx hb dX0_decipher_237 (lv_at hl 4 rfl) ?_
      refine kp_purei (v := ae_w (ae_um ((fun j => ae_rh X S (k + 1) j ^^^ X (16 * (9 - k) + j)) (8)) ((fun j => ae_rh X S (k + 1) j ^^^ X (16 * (9 - k) + j)) (8 + 1)) ((fun j => ae_rh X S (k + 1) j ^^^ X (16 * (9 - k) + j)) (8 + 2)) ((fun j => ae_rh X S (k + 1) j ^^^ X (16 * (9 - k) + j)) (8 + 3))) (ae_um ((fun j => ae_rh X S (k + 1) j ^^^ X (16 * (9 - k) + j)) (8 + 1)) ((fun j => ae_rh X S (k + 1) j ^^^ X (16 * (9 - k) + j)) (8 + 2)) ((fun j => ae_rh X S (k + 1) j ^^^ X (16 * (9 - k) + j)) (8 + 3)) ((fun j => ae_rh X S (k + 1) j ^^^ X (16 * (9 - k) + j)) (8))) (ae_um ((fun j => ae_rh X S (k + 1) j ^^^ X (16 * (9 - k) + j)) (8 + 2)) ((fun j => ae_rh X S (k + 1) j ^^^ X (16 * (9 - k) + j)) (8 + 3)) ((fun j => ae_rh X S (k + 1) j ^^^ X (16 * (9 - k) + j)) (8)) ((fun j => ae_rh X S (k + 1) j ^^^ X (16 * (9 - k) + j)) (8 + 1))) (ae_um ((fun j => ae_rh X S (k + 1) j ^^^ X (16 * (9 - k) + j)) (8 + 3)) ((fun j => ae_rh X S (k + 1) j ^^^ X (16 * (9 - k) + j)) (8)) ((fun j => ae_rh X S (k + 1) j ^^^ X (16 * (9 - k) + j)) (8 + 1)) ((fun j => ae_rh X S (k + 1) j ^^^ X (16 * (9 - k) + j)) (8 + 2)))) (va_runS (As := [.int (ae_wf (fun j => ae_rh X S (k + 1) j ^^^ X (16 * (9 - k) + j)) 8)]) (rest := []) ⟨hx, hb, hml, hown, htA⟩ (c_X0_unmix l dC dI _ _ _ _ _ (hBY _) (hBY _) (hBY _) (hBY _)) (va_cwS 1 htA (goodC_S mA_l42 mA_static_unmix mA_code_unmix mA_initialized) rfl rfl rfl (by decide +kernel) ⟨Nat.le_trans (Nat.le_of_ble_eq_true rfl) hf.1, Nat.le_trans (Nat.le_of_ble_eq_true rfl) hf.2⟩) (kp_preS (wc := []) kp_XT trivial hP hD hK hS hA [] rfl rfl rfl [] rfl) rfl rfl hl.1 rfl (lv_room (Nat.le_of_ble_eq_true rfl)) dX0_decipher_239 ⟨hc.1, hc.2⟩) hP hS hA (fun H locs hP hS => ?_)
      refine tw_i (y := ae_wf (ae_mg 14 11 13 9 (fun j => ae_rh X S (k + 1) j ^^^ X (16 * (9 - k) + j))) 8) (ae_umc (fun j => ae_rh X S (k + 1) j ^^^ X (16 * (9 - k) + j)) 2) ?_
      refine lv_goto (tgt := 247) hx hb dX0_decipher_242 (by decide) ?_
      refine lv_istore (nL := 15) (lv' := [(6, .int (ae_wf (ae_mg 14 11 13 9 (fun j => ae_rh X S (k + 1) j ^^^ X (16 * (9 - k) + j))) 8)), (5, .int (ae_wf (ae_mg 14 11 13 9 (fun j => ae_rh X S (k + 1) j ^^^ X (16 * (9 - k) + j))) 4)), (4, .int (ae_wf (ae_mg 14 11 13 9 (fun j => ae_rh X S (k + 1) j ^^^ X (16 * (9 - k) + j))) 0)), (14, .int (nI (1))), (13, .int (ae_wf (fun j => ae_rh X S (k + 1) j ^^^ X (16 * (9 - k) + j)) 12)), (12, .int (ae_wf (fun j => ae_rh X S (k + 1) j ^^^ X (16 * (9 - k) + j)) 8)), (11, .int (ae_wf (fun j => ae_rh X S (k + 1) j ^^^ X (16 * (9 - k) + j)) 4)), (10, .int (ae_wf (fun j => ae_rh X S (k + 1) j ^^^ X (16 * (9 - k) + j)) 0)), (9, .int (nI ((4) * (9 - k)))), (8, .int (nI (9 - k))), (7, .int (ae_wf (ae_dX X (10 - k) (ae_rh X S k)) 12)), (0, .ref h0), (1, .ref rr), (2, .int (nI (at_)))]) hx hb dX0_decipher_247 hl (by decide) rfl (fun ls hl => ?_)
      refine lv_iload hx hb dX0_decipher_249 (lv_at hl 3 rfl) ?_
      refine xi_if_eq (tgt := 262) hx hb dX0_decipher_251 (by decide) (by omega) (fun h9 => absurd h9 (by omega)) (fun hz => ?_)
      refine lv_iload hx hb dX0_decipher_254 (lv_at hl 4 rfl) ?_
      refine kp_purei (v := ae_w (ae_um ((fun j => ae_rh X S (k + 1) j ^^^ X (16 * (9 - k) + j)) (12)) ((fun j => ae_rh X S (k + 1) j ^^^ X (16 * (9 - k) + j)) (12 + 1)) ((fun j => ae_rh X S (k + 1) j ^^^ X (16 * (9 - k) + j)) (12 + 2)) ((fun j => ae_rh X S (k + 1) j ^^^ X (16 * (9 - k) + j)) (12 + 3))) (ae_um ((fun j => ae_rh X S (k + 1) j ^^^ X (16 * (9 - k) + j)) (12 + 1)) ((fun j => ae_rh X S (k + 1) j ^^^ X (16 * (9 - k) + j)) (12 + 2)) ((fun j => ae_rh X S (k + 1) j ^^^ X (16 * (9 - k) + j)) (12 + 3)) ((fun j => ae_rh X S (k + 1) j ^^^ X (16 * (9 - k) + j)) (12))) (ae_um ((fun j => ae_rh X S (k + 1) j ^^^ X (16 * (9 - k) + j)) (12 + 2)) ((fun j => ae_rh X S (k + 1) j ^^^ X (16 * (9 - k) + j)) (12 + 3)) ((fun j => ae_rh X S (k + 1) j ^^^ X (16 * (9 - k) + j)) (12)) ((fun j => ae_rh X S (k + 1) j ^^^ X (16 * (9 - k) + j)) (12 + 1))) (ae_um ((fun j => ae_rh X S (k + 1) j ^^^ X (16 * (9 - k) + j)) (12 + 3)) ((fun j => ae_rh X S (k + 1) j ^^^ X (16 * (9 - k) + j)) (12)) ((fun j => ae_rh X S (k + 1) j ^^^ X (16 * (9 - k) + j)) (12 + 1)) ((fun j => ae_rh X S (k + 1) j ^^^ X (16 * (9 - k) + j)) (12 + 2)))) (va_runS (As := [.int (ae_wf (fun j => ae_rh X S (k + 1) j ^^^ X (16 * (9 - k) + j)) 12)]) (rest := []) ⟨hx, hb, hml, hown, htA⟩ (c_X0_unmix l dC dI _ _ _ _ _ (hBY _) (hBY _) (hBY _) (hBY _)) (va_cwS 1 htA (goodC_S mA_l42 mA_static_unmix mA_code_unmix mA_initialized) rfl rfl rfl (by decide +kernel) ⟨Nat.le_trans (Nat.le_of_ble_eq_true rfl) hf.1, Nat.le_trans (Nat.le_of_ble_eq_true rfl) hf.2⟩) (kp_preS (wc := []) kp_XT trivial hP hD hK hS hA [] rfl rfl rfl [] rfl) rfl rfl hl.1 rfl (lv_room (Nat.le_of_ble_eq_true rfl)) dX0_decipher_256 ⟨hc.1, hc.2⟩) hP hS hA (fun H locs hP hS => ?_)
      refine tw_i (y := ae_wf (ae_mg 14 11 13 9 (fun j => ae_rh X S (k + 1) j ^^^ X (16 * (9 - k) + j))) 12) (ae_umc (fun j => ae_rh X S (k + 1) j ^^^ X (16 * (9 - k) + j)) 3) ?_
      refine lv_goto (tgt := 264) hx hb dX0_decipher_259 (by decide) ?_
      refine lv_istore (nL := 15) (lv' := [(7, .int (ae_wf (ae_mg 14 11 13 9 (fun j => ae_rh X S (k + 1) j ^^^ X (16 * (9 - k) + j))) 12)), (6, .int (ae_wf (ae_mg 14 11 13 9 (fun j => ae_rh X S (k + 1) j ^^^ X (16 * (9 - k) + j))) 8)), (5, .int (ae_wf (ae_mg 14 11 13 9 (fun j => ae_rh X S (k + 1) j ^^^ X (16 * (9 - k) + j))) 4)), (4, .int (ae_wf (ae_mg 14 11 13 9 (fun j => ae_rh X S (k + 1) j ^^^ X (16 * (9 - k) + j))) 0)), (14, .int (nI (1))), (13, .int (ae_wf (fun j => ae_rh X S (k + 1) j ^^^ X (16 * (9 - k) + j)) 12)), (12, .int (ae_wf (fun j => ae_rh X S (k + 1) j ^^^ X (16 * (9 - k) + j)) 8)), (11, .int (ae_wf (fun j => ae_rh X S (k + 1) j ^^^ X (16 * (9 - k) + j)) 4)), (10, .int (ae_wf (fun j => ae_rh X S (k + 1) j ^^^ X (16 * (9 - k) + j)) 0)), (9, .int (nI ((4) * (9 - k)))), (8, .int (nI (9 - k))), (0, .ref h0), (1, .ref rr), (2, .int (nI (at_)))]) hx hb dX0_decipher_264 hl (by decide) rfl (fun ls hl => ?_)
      refine lv_iinc (k := 10) (v := nI (10 - (k + 1)) + (-1)) (nL := 15) (lv' := [(8, .int (nI (10 - (k + 1)) + (-1))), (7, .int (ae_wf (ae_mg 14 11 13 9 (fun j => ae_rh X S (k + 1) j ^^^ X (16 * (9 - k) + j))) 12)), (6, .int (ae_wf (ae_mg 14 11 13 9 (fun j => ae_rh X S (k + 1) j ^^^ X (16 * (9 - k) + j))) 8)), (5, .int (ae_wf (ae_mg 14 11 13 9 (fun j => ae_rh X S (k + 1) j ^^^ X (16 * (9 - k) + j))) 4)), (4, .int (ae_wf (ae_mg 14 11 13 9 (fun j => ae_rh X S (k + 1) j ^^^ X (16 * (9 - k) + j))) 0)), (14, .int (nI (1))), (13, .int (ae_wf (fun j => ae_rh X S (k + 1) j ^^^ X (16 * (9 - k) + j)) 12)), (12, .int (ae_wf (fun j => ae_rh X S (k + 1) j ^^^ X (16 * (9 - k) + j)) 8)), (11, .int (ae_wf (fun j => ae_rh X S (k + 1) j ^^^ X (16 * (9 - k) + j)) 4)), (10, .int (ae_wf (fun j => ae_rh X S (k + 1) j ^^^ X (16 * (9 - k) + j)) 0)), (9, .int (nI ((4) * (9 - k)))), (0, .ref h0), (1, .ref rr), (2, .int (nI (at_)))]) hx hb dX0_decipher_266 hl rfl (by rw [show 10 - (k + 1) = 9 - k by omega]; rfl) (by decide) rfl (fun ls hl => ?_)
      refine lv_goto (tgt := 73) hx hb dX0_decipher_269 (by decide) ?_
      have eD : ae_dX X (10 - (k + 1)) (ae_rh X S (k + 1)) = ae_mg 14 11 13 9 (fun j => ae_rh X S (k + 1) j ^^^ X (16 * (9 - k) + j)) := by funext j; unfold ae_dX; rw [if_neg (by omega), show 10 - (k + 1) = 9 - k by omega]
      exact ih (k + 1) ls H locs (by omega) (by rw [eD]; exact lv_sub hl [0, 4, 3, 2, 1, 11, 12, 13] rfl) hP hD hS
    · refine lv_if_le (tgt := 195) hx hb dX0_decipher_188 (by decide) (fun hc1 => ?_) (fun h9 => absurd h9 (fun z => z (by rw [show 9 - k = 0 by omega]; decide)))
      refine lv_iconst (v := nI 0) hx hb dX0_decipher_195 (by decide) ?_
      refine lv_istore (nL := 15) (lv' := [(14, .int (nI (0))), (13, .int (ae_wf (fun j => ae_rh X S (k + 1) j ^^^ X (16 * (9 - k) + j)) 12)), (12, .int (ae_wf (fun j => ae_rh X S (k + 1) j ^^^ X (16 * (9 - k) + j)) 8)), (11, .int (ae_wf (fun j => ae_rh X S (k + 1) j ^^^ X (16 * (9 - k) + j)) 4)), (10, .int (ae_wf (fun j => ae_rh X S (k + 1) j ^^^ X (16 * (9 - k) + j)) 0)), (9, .int (nI ((4) * (9 - k)))), (8, .int (nI (9 - k))), (4, .int (ae_wf (ae_dX X (10 - k) (ae_rh X S k)) 0)), (5, .int (ae_wf (ae_dX X (10 - k) (ae_rh X S k)) 4)), (6, .int (ae_wf (ae_dX X (10 - k) (ae_rh X S k)) 8)), (7, .int (ae_wf (ae_dX X (10 - k) (ae_rh X S k)) 12)), (0, .ref h0), (1, .ref rr), (2, .int (nI (at_)))]) hx hb dX0_decipher_196 hl (by decide) rfl (fun ls hl => ?_)
      refine lv_iload hx hb dX0_decipher_198 (lv_at hl 0 rfl) ?_
      refine xi_if_eq (tgt := 211) hx hb dX0_decipher_200 (by decide) (by omega) (fun hz => ?_) (fun h9 => absurd h9 (fun z => z rfl))
      refine lv_iload hx hb dX0_decipher_211 (lv_at hl 4 rfl) ?_
      refine lv_istore (nL := 15) (lv' := [(4, .int (ae_wf (fun j => ae_rh X S (k + 1) j ^^^ X (16 * (9 - k) + j)) 0)), (14, .int (nI (0))), (13, .int (ae_wf (fun j => ae_rh X S (k + 1) j ^^^ X (16 * (9 - k) + j)) 12)), (12, .int (ae_wf (fun j => ae_rh X S (k + 1) j ^^^ X (16 * (9 - k) + j)) 8)), (11, .int (ae_wf (fun j => ae_rh X S (k + 1) j ^^^ X (16 * (9 - k) + j)) 4)), (10, .int (ae_wf (fun j => ae_rh X S (k + 1) j ^^^ X (16 * (9 - k) + j)) 0)), (9, .int (nI ((4) * (9 - k)))), (8, .int (nI (9 - k))), (5, .int (ae_wf (ae_dX X (10 - k) (ae_rh X S k)) 4)), (6, .int (ae_wf (ae_dX X (10 - k) (ae_rh X S k)) 8)), (7, .int (ae_wf (ae_dX X (10 - k) (ae_rh X S k)) 12)), (0, .ref h0), (1, .ref rr), (2, .int (nI (at_)))]) hx hb dX0_decipher_213 hl (by decide) rfl (fun ls hl => ?_)
      refine lv_iload hx hb dX0_decipher_215 (lv_at hl 1 rfl) ?_
      refine xi_if_eq (tgt := 228) hx hb dX0_decipher_217 (by decide) (by omega) (fun hz => ?_) (fun h9 => absurd h9 (fun z => z rfl))
      refine lv_iload hx hb dX0_decipher_228 (lv_at hl 4 rfl) ?_
      refine lv_istore (nL := 15) (lv' := [(5, .int (ae_wf (fun j => ae_rh X S (k + 1) j ^^^ X (16 * (9 - k) + j)) 4)), (4, .int (ae_wf (fun j => ae_rh X S (k + 1) j ^^^ X (16 * (9 - k) + j)) 0)), (14, .int (nI (0))), (13, .int (ae_wf (fun j => ae_rh X S (k + 1) j ^^^ X (16 * (9 - k) + j)) 12)), (12, .int (ae_wf (fun j => ae_rh X S (k + 1) j ^^^ X (16 * (9 - k) + j)) 8)), (11, .int (ae_wf (fun j => ae_rh X S (k + 1) j ^^^ X (16 * (9 - k) + j)) 4)), (10, .int (ae_wf (fun j => ae_rh X S (k + 1) j ^^^ X (16 * (9 - k) + j)) 0)), (9, .int (nI ((4) * (9 - k)))), (8, .int (nI (9 - k))), (6, .int (ae_wf (ae_dX X (10 - k) (ae_rh X S k)) 8)), (7, .int (ae_wf (ae_dX X (10 - k) (ae_rh X S k)) 12)), (0, .ref h0), (1, .ref rr), (2, .int (nI (at_)))]) hx hb dX0_decipher_230 hl (by decide) rfl (fun ls hl => ?_)
      refine lv_iload hx hb dX0_decipher_232 (lv_at hl 2 rfl) ?_
      refine xi_if_eq (tgt := 245) hx hb dX0_decipher_234 (by decide) (by omega) (fun hz => ?_) (fun h9 => absurd h9 (fun z => z rfl))
      refine lv_iload hx hb dX0_decipher_245 (lv_at hl 4 rfl) ?_
      refine lv_istore (nL := 15) (lv' := [(6, .int (ae_wf (fun j => ae_rh X S (k + 1) j ^^^ X (16 * (9 - k) + j)) 8)), (5, .int (ae_wf (fun j => ae_rh X S (k + 1) j ^^^ X (16 * (9 - k) + j)) 4)), (4, .int (ae_wf (fun j => ae_rh X S (k + 1) j ^^^ X (16 * (9 - k) + j)) 0)), (14, .int (nI (0))), (13, .int (ae_wf (fun j => ae_rh X S (k + 1) j ^^^ X (16 * (9 - k) + j)) 12)), (12, .int (ae_wf (fun j => ae_rh X S (k + 1) j ^^^ X (16 * (9 - k) + j)) 8)), (11, .int (ae_wf (fun j => ae_rh X S (k + 1) j ^^^ X (16 * (9 - k) + j)) 4)), (10, .int (ae_wf (fun j => ae_rh X S (k + 1) j ^^^ X (16 * (9 - k) + j)) 0)), (9, .int (nI ((4) * (9 - k)))), (8, .int (nI (9 - k))), (7, .int (ae_wf (ae_dX X (10 - k) (ae_rh X S k)) 12)), (0, .ref h0), (1, .ref rr), (2, .int (nI (at_)))]) hx hb dX0_decipher_247 hl (by decide) rfl (fun ls hl => ?_)
      refine lv_iload hx hb dX0_decipher_249 (lv_at hl 3 rfl) ?_
      refine xi_if_eq (tgt := 262) hx hb dX0_decipher_251 (by decide) (by omega) (fun hz => ?_) (fun h9 => absurd h9 (fun z => z rfl))
      refine lv_iload hx hb dX0_decipher_262 (lv_at hl 4 rfl) ?_
      refine lv_istore (nL := 15) (lv' := [(7, .int (ae_wf (fun j => ae_rh X S (k + 1) j ^^^ X (16 * (9 - k) + j)) 12)), (6, .int (ae_wf (fun j => ae_rh X S (k + 1) j ^^^ X (16 * (9 - k) + j)) 8)), (5, .int (ae_wf (fun j => ae_rh X S (k + 1) j ^^^ X (16 * (9 - k) + j)) 4)), (4, .int (ae_wf (fun j => ae_rh X S (k + 1) j ^^^ X (16 * (9 - k) + j)) 0)), (14, .int (nI (0))), (13, .int (ae_wf (fun j => ae_rh X S (k + 1) j ^^^ X (16 * (9 - k) + j)) 12)), (12, .int (ae_wf (fun j => ae_rh X S (k + 1) j ^^^ X (16 * (9 - k) + j)) 8)), (11, .int (ae_wf (fun j => ae_rh X S (k + 1) j ^^^ X (16 * (9 - k) + j)) 4)), (10, .int (ae_wf (fun j => ae_rh X S (k + 1) j ^^^ X (16 * (9 - k) + j)) 0)), (9, .int (nI ((4) * (9 - k)))), (8, .int (nI (9 - k))), (0, .ref h0), (1, .ref rr), (2, .int (nI (at_)))]) hx hb dX0_decipher_264 hl (by decide) rfl (fun ls hl => ?_)
      refine lv_iinc (k := 10) (v := nI (10 - (k + 1)) + (-1)) (nL := 15) (lv' := [(8, .int (nI (10 - (k + 1)) + (-1))), (7, .int (ae_wf (fun j => ae_rh X S (k + 1) j ^^^ X (16 * (9 - k) + j)) 12)), (6, .int (ae_wf (fun j => ae_rh X S (k + 1) j ^^^ X (16 * (9 - k) + j)) 8)), (5, .int (ae_wf (fun j => ae_rh X S (k + 1) j ^^^ X (16 * (9 - k) + j)) 4)), (4, .int (ae_wf (fun j => ae_rh X S (k + 1) j ^^^ X (16 * (9 - k) + j)) 0)), (14, .int (nI (0))), (13, .int (ae_wf (fun j => ae_rh X S (k + 1) j ^^^ X (16 * (9 - k) + j)) 12)), (12, .int (ae_wf (fun j => ae_rh X S (k + 1) j ^^^ X (16 * (9 - k) + j)) 8)), (11, .int (ae_wf (fun j => ae_rh X S (k + 1) j ^^^ X (16 * (9 - k) + j)) 4)), (10, .int (ae_wf (fun j => ae_rh X S (k + 1) j ^^^ X (16 * (9 - k) + j)) 0)), (9, .int (nI ((4) * (9 - k)))), (0, .ref h0), (1, .ref rr), (2, .int (nI (at_)))]) hx hb dX0_decipher_266 hl rfl (by rw [show 10 - (k + 1) = 9 - k by omega]; rfl) (by decide) rfl (fun ls hl => ?_)
      refine lv_goto (tgt := 73) hx hb dX0_decipher_269 (by decide) ?_
      have eD : ae_dX X (10 - (k + 1)) (ae_rh X S (k + 1)) = (fun j => ae_rh X S (k + 1) j ^^^ X (16 * (9 - k) + j)) := by funext j; unfold ae_dX; rw [if_pos (by omega), show 10 - (k + 1) = 9 - k by omega]
      exact ih (k + 1) ls H locs (by omega) (by rw [eD]; exact lv_sub hl [0, 4, 3, 2, 1, 11, 12, 13] rfl) hP hD hS
end
set_option maxRecDepth 100000 in
set_option maxHeartbeats 4000000 in
theorem c_X0_expand (l : Launch) (dC : Nat → ClassId) (dI : Nat → Nat → Nat) (cI : ClassId) (sz h0 q0 tS tI : Nat) (sch : Nat → Int32) (K : Nat → Nat) (hB : ae_B K) : kp_Mv l yX0_expand wsC_X0_expand { frames := 1, cells := 0, slots := 0, locals := 24 } (dC, dI) mCl [.ref h0, .long (ae_l K 0), .long (ae_l K 8)] [(h0, .inr (0, [.ref q0])), (q0, .inl (cI, 44, .inl (sch)))] [(cI, .int)] sz (st_X tS tI) 0 0 (fun u : Nat → Int32 => ∀ i, i < 44 → u i = ae_wf (ae_kx K) (4 * i)) (fun u => [(h0, .inr (0, [.ref q0])), (q0, .inl (cI, 44, .inl (u)))]) := by
  refine kp_ofv (cc := cX0_expand) (maxL := 9) (ret := none) (by decide) rfl (Nat.le_of_ble_eq_true rfl) ?_
  intro p e s m args below meth c ls A hx hb hr hts hown hlocks hml hnm hA hsz hl hP hD hK hX hS
  have hown : s.vm.findClass RX0 = some m.cls := hown
  have htA : ∀ w ∈ wsC_a, w.before args s = true := fun w h => hts w (List.mem_cons_of_mem _ h)
  have hf : 1 ≤ ({ frames := 1, cells := 0, slots := 0, locals := 24 } : Room).frames ∧ 24 ≤ ({ frames := 1, cells := 0, slots := 0, locals := 24 } : Room).locals := ⟨Nat.le_of_ble_eq_true rfl, Nat.le_of_ble_eq_true rfl⟩
  have hc : 0 ≤ ({ frames := 1, cells := 0, slots := 0, locals := 24 } : Room).cells ∧ 0 ≤ ({ frames := 1, cells := 0, slots := 0, locals := 24 } : Room).slots := ⟨Nat.zero_le _, Nat.zero_le _⟩
  have hl : lv_has ls 9 [(0, .ref h0), (1, .long (ae_l K 0)), (3, .long (ae_l K 8))] := hl
  refine lv_aload_n hx hb dX0_expand_0 rfl (lv_at hl 0 rfl) ?_
  refine va_get (D := (dC, dI)) (ci := 0) (v := .ref q0) (C := RX0) (T := TX0) (N := 1) hx hb htA inC0 hown hK hP 0 rfl rfl 0 (by decide) (htA _ mA_f9) (fun _ h9 => h9) rfl dX0_expand_1 ?_
  refine lv_iconst (v := nI 0) hx hb dX0_expand_4 (by decide) ?_
  refine lv_lload_n hx hb dX0_expand_5 rfl (lv_at hl 1 rfl) ?_
  refine kp_purei (v := ae_wf K 0) (va_runS (As := [.long (ae_l K 0)]) (rest := [.int (nI (0)), .ref q0]) ⟨hx, hb, hml, hown, htA⟩ (c_X0_highInt l dC dI _ K hB 0) (va_cwS 1 htA (goodC_S mA_l13 mA_static_highInt mA_code_highInt mA_initialized) rfl rfl rfl (by decide +kernel) ⟨Nat.le_trans (Nat.le_of_ble_eq_true rfl) hf.1, Nat.le_trans (Nat.le_of_ble_eq_true rfl) hf.2⟩) (kp_preS (wc := []) kp_XT trivial hP hD hK hS hA [] rfl rfl rfl [] rfl) rfl rfl hl.1 rfl (lv_room (Nat.le_of_ble_eq_true rfl)) dX0_expand_6 ⟨hc.1, hc.2⟩) hP hS hA (fun H locs hP hS => ?_)
  refine xa_ist hx hb hK hP hD hS 1 0 rfl rfl (by omega) (by omega) dX0_expand_9 (fun H locs hP hD hS => ?_)
  have hP : va_P (dC, dI) mCl [(h0, .inr (0, [.ref q0])), (q0, .inl (cI, 44, .inl (upd (sch) (0) (ae_wf K 0))))] H := hP
  have hD : va_D A [(h0, .inr (0, [.ref q0])), (q0, .inl (cI, 44, .inl (upd (sch) (0) (ae_wf K 0))))] := hD
  refine lv_aload_n hx hb dX0_expand_10 rfl (lv_at hl 0 rfl) ?_
  refine va_get (D := (dC, dI)) (ci := 0) (v := .ref q0) (C := RX0) (T := TX0) (N := 1) hx hb htA inC0 hown hK hP 0 rfl rfl 0 (by decide) (htA _ mA_f9) (fun _ h9 => h9) rfl dX0_expand_11 ?_
  refine lv_iconst (v := nI 1) hx hb dX0_expand_14 (by decide) ?_
  refine lv_lload_n hx hb dX0_expand_15 rfl (lv_at hl 1 rfl) ?_
  refine lv_l2i hx hb dX0_expand_16 rfl ?_
  refine tw_i (y := ae_wf K 4) (ae_l_lo hB 0) ?_
  refine xa_ist hx hb hK hP hD hS 1 0 rfl rfl (by omega) (by omega) dX0_expand_17 (fun H locs hP hD hS => ?_)
  have hP : va_P (dC, dI) mCl [(h0, .inr (0, [.ref q0])), (q0, .inl (cI, 44, .inl (upd (upd (sch) (0) (ae_wf K 0)) (1) (ae_wf K 4))))] H := hP
  have hD : va_D A [(h0, .inr (0, [.ref q0])), (q0, .inl (cI, 44, .inl (upd (upd (sch) (0) (ae_wf K 0)) (1) (ae_wf K 4))))] := hD
  refine lv_aload_n hx hb dX0_expand_18 rfl (lv_at hl 0 rfl) ?_
  refine va_get (D := (dC, dI)) (ci := 0) (v := .ref q0) (C := RX0) (T := TX0) (N := 1) hx hb htA inC0 hown hK hP 0 rfl rfl 0 (by decide) (htA _ mA_f9) (fun _ h9 => h9) rfl dX0_expand_19 ?_
  refine lv_iconst (v := nI 2) hx hb dX0_expand_22 (by decide) ?_
  refine lv_lload_n hx hb dX0_expand_23 rfl (lv_at hl 2 rfl) ?_
  refine kp_purei (v := ae_wf K 8) (va_runS (As := [.long (ae_l K 8)]) (rest := [.int (nI (2)), .ref q0]) ⟨hx, hb, hml, hown, htA⟩ (c_X0_highInt l dC dI _ K hB 8) (va_cwS 1 htA (goodC_S mA_l13 mA_static_highInt mA_code_highInt mA_initialized) rfl rfl rfl (by decide +kernel) ⟨Nat.le_trans (Nat.le_of_ble_eq_true rfl) hf.1, Nat.le_trans (Nat.le_of_ble_eq_true rfl) hf.2⟩) (kp_preS (wc := []) kp_XT trivial hP hD hK hS hA [] rfl rfl rfl [] rfl) rfl rfl hl.1 rfl (lv_room (Nat.le_of_ble_eq_true rfl)) dX0_expand_24 ⟨hc.1, hc.2⟩) hP hS hA (fun H locs hP hS => ?_)
  refine xa_ist hx hb hK hP hD hS 1 0 rfl rfl (by omega) (by omega) dX0_expand_27 (fun H locs hP hD hS => ?_)
  have hP : va_P (dC, dI) mCl [(h0, .inr (0, [.ref q0])), (q0, .inl (cI, 44, .inl (upd (upd (upd (sch) (0) (ae_wf K 0)) (1) (ae_wf K 4)) (2) (ae_wf K 8))))] H := hP
  have hD : va_D A [(h0, .inr (0, [.ref q0])), (q0, .inl (cI, 44, .inl (upd (upd (upd (sch) (0) (ae_wf K 0)) (1) (ae_wf K 4)) (2) (ae_wf K 8))))] := hD
  refine lv_aload_n hx hb dX0_expand_28 rfl (lv_at hl 0 rfl) ?_
  refine va_get (D := (dC, dI)) (ci := 0) (v := .ref q0) (C := RX0) (T := TX0) (N := 1) hx hb htA inC0 hown hK hP 0 rfl rfl 0 (by decide) (htA _ mA_f9) (fun _ h9 => h9) rfl dX0_expand_29 ?_
  refine lv_iconst (v := nI 3) hx hb dX0_expand_32 (by decide) ?_
  refine lv_lload_n hx hb dX0_expand_33 rfl (lv_at hl 2 rfl) ?_
  refine lv_l2i hx hb dX0_expand_34 rfl ?_
  refine tw_i (y := ae_wf K 12) (ae_l_lo hB 8) ?_
  refine xa_ist hx hb hK hP hD hS 1 0 rfl rfl (by omega) (by omega) dX0_expand_35 (fun H locs hP hD hS => ?_)
  have hP : va_P (dC, dI) mCl [(h0, .inr (0, [.ref q0])), (q0, .inl (cI, 44, .inl (upd (upd (upd (upd (sch) (0) (ae_wf K 0)) (1) (ae_wf K 4)) (2) (ae_wf K 8)) (3) (ae_wf K 12))))] H := hP
  have hD : va_D A [(h0, .inr (0, [.ref q0])), (q0, .inl (cI, 44, .inl (upd (upd (upd (upd (sch) (0) (ae_wf K 0)) (1) (ae_wf K 4)) (2) (ae_wf K 8)) (3) (ae_wf K 12))))] := hD
  refine lv_iconst (v := nI 1) hx hb dX0_expand_36 (by decide) ?_
  refine lv_istore (nL := 9) (lv' := [(5, .int (nI (1))), (0, .ref h0), (1, .long (ae_l K 0)), (3, .long (ae_l K 8))]) hx hb dX0_expand_37 hl (by decide) rfl (fun ls hl => ?_)
  refine lv_iconst (v := nI 4) hx hb dX0_expand_39 (by decide) ?_
  refine lv_istore (nL := 9) (lv' := [(6, .int (nI (4))), (5, .int (nI (1))), (0, .ref h0), (1, .long (ae_l K 0)), (3, .long (ae_l K 8))]) hx hb dX0_expand_40 hl (by decide) rfl (fun ls hl => ?_)
  refine lc_expand hx hb htA hown hml hA hc hf hB hK hX (fun g rc ls H locs hg hl hP hD hS => ?_) 40 4 (upd (upd (upd (upd (sch) (0) (ae_wf K 0)) (1) (ae_wf K 4)) (2) (ae_wf K 8)) (3) (ae_wf K 12)) 1 ls H locs (by omega) (fun i hi => ?_) rfl (by omega) (lv_sub hl [0, 1, 2, 3, 4] rfl) hP hD hS
  · exact kp_retv g hx hb hr hlocks hg hP hD hS dX0_expand_130
  · have e : ∀ c, c < 4 → ae_wf K (4 * c) = ae_wf (ae_kx K) (4 * c) := fun c hc => by
      show ae_w (K (4 * c)) (K (4 * c + 1)) (K (4 * c + 2)) (K (4 * c + 3)) = ae_w _ _ _ _
      rw [ae_kx_0 (K := K) (k := 4 * c) (by omega), ae_kx_0 (K := K) (k := 4 * c + 1) (by omega), ae_kx_0 (K := K) (k := 4 * c + 2) (by omega), ae_kx_0 (K := K) (k := 4 * c + 3) (by omega)]
    rw [← e i hi]
    rcases (show i = 0 ∨ i = 1 ∨ i = 2 ∨ i = 3 by omega) with h | h | h | h <;> subst h <;> rfl
set_option maxRecDepth 100000 in
set_option maxHeartbeats 4000000 in
theorem c_X0_encipher (l : Launch) (dC : Nat → ClassId) (dI : Nat → Nat → Nat) (cI cL : ClassId) (sz h0 q0 rr n at_ tS tI : Nat) (sch : Nat → Int32) (f : Nat → Int64) (X S : Nat → Nat) (hBX : ae_B X) (hBS : ae_B S) (hsch : ∀ i, i < 44 → sch i = ae_wf X (4 * i)) (hn : at_ + 2 ≤ n) (hn2 : n < 2147483648) (hf0 : f at_ = ae_l S 0) (hf1 : f (at_ + 1) = ae_l S 8) : kp_Mv l yX0_encipher wsC_X0_encipher { frames := 2, cells := 0, slots := 0, locals := 42 } (dC, dI) mCl [.ref h0, .ref rr, .int (nI at_)] [(h0, .inr (0, [.ref q0])), (q0, .inl (cI, 44, .inl (sch))), (rr, .inl (cL, n, .inr (.inl (f))))] [(cI, .int), (cL, .long)] sz (st_X tS tI) 0 0 (fun _ : Unit => True) (fun _ => [(h0, .inr (0, [.ref q0])), (q0, .inl (cI, 44, .inl (sch))), (rr, .inl (cL, n, .inr (.inl (vp_updL (vp_updL f at_ (ae_l (ae_enc X S) 0)) (at_ + 1) (ae_l (ae_enc X S) 8)))))]) := by
  refine kp_ofv (cc := cX0_encipher) (maxL := 14) (ret := none) (by decide) rfl (Nat.le_of_ble_eq_true rfl) ?_
  intro p e s m args below meth c ls A hx hb hr hts hown hlocks hml hnm hA hsz hl hP hD hK hX hS
  have hown : s.vm.findClass RX0 = some m.cls := hown
  have htA : ∀ w ∈ wsC_a, w.before args s = true := fun w h => hts w (List.mem_cons_of_mem _ h)
  have hf : 2 ≤ ({ frames := 2, cells := 0, slots := 0, locals := 42 } : Room).frames ∧ 42 ≤ ({ frames := 2, cells := 0, slots := 0, locals := 42 } : Room).locals := ⟨Nat.le_of_ble_eq_true rfl, Nat.le_of_ble_eq_true rfl⟩
  have hc : 0 ≤ ({ frames := 2, cells := 0, slots := 0, locals := 42 } : Room).cells ∧ 0 ≤ ({ frames := 2, cells := 0, slots := 0, locals := 42 } : Room).slots := ⟨Nat.zero_le _, Nat.zero_le _⟩
  have hl : lv_has ls 14 [(0, .ref h0), (1, .ref rr), (2, .int (nI (at_)))] := hl
  refine lv_aload_n hx hb dX0_encipher_0 rfl (lv_at hl 1 rfl) ?_
  refine lv_iload_n hx hb dX0_encipher_1 rfl (lv_at hl 2 rfl) ?_
  refine xa_lld hx hb hK hP 2 1 rfl rfl (by omega) (by omega) (v := ae_l S 0) (hf0) dX0_encipher_2 ?_
  refine kp_purei (v := ae_wf S 0) (va_runS (As := [.long (ae_l S 0)]) (rest := []) ⟨hx, hb, hml, hown, htA⟩ (c_X0_highInt l dC dI _ S hBS 0) (va_cwS 1 htA (goodC_S mA_l13 mA_static_highInt mA_code_highInt mA_initialized) rfl rfl rfl (by decide +kernel) ⟨Nat.le_trans (Nat.le_of_ble_eq_true rfl) hf.1, Nat.le_trans (Nat.le_of_ble_eq_true rfl) hf.2⟩) (kp_preS (wc := []) kp_XT trivial hP hD hK hS hA [] rfl rfl rfl [] rfl) rfl rfl hl.1 rfl (lv_room (Nat.le_of_ble_eq_true rfl)) dX0_encipher_3 ⟨hc.1, hc.2⟩) hP hS hA (fun H locs hP hS => ?_)
  refine lv_aload_n hx hb dX0_encipher_6 rfl (lv_at hl 0 rfl) ?_
  refine va_get (D := (dC, dI)) (ci := 0) (v := .ref q0) (C := RX0) (T := TX0) (N := 1) hx hb htA inC0 hown hK hP 0 rfl rfl 0 (by decide) (htA _ mA_f9) (fun _ h9 => h9) rfl dX0_encipher_7 ?_
  refine lv_iconst (v := nI 0) hx hb dX0_encipher_10 (by decide) ?_
  refine xa_ild hx hb hK hP 1 0 rfl rfl (by omega) (by omega) (v := ae_wf X (4 * 0)) (hsch 0 (by omega)) dX0_encipher_11 ?_
  refine lv_ixor hx hb dX0_encipher_12 ?_
  refine tw_i (y := ae_wf (ae_en X S 0) 0) (ae_wfx hBS hBX 0 (4 * 0)) ?_
  refine lv_istore_n (nL := 14) (lv' := [(3, .int (ae_wf (ae_en X S 0) 0)), (0, .ref h0), (1, .ref rr), (2, .int (nI (at_)))]) hx hb dX0_encipher_13 rfl hl (by decide) rfl (fun ls hl => ?_)
  refine lv_aload_n hx hb dX0_encipher_14 rfl (lv_at hl 2 rfl) ?_
  refine lv_iload_n hx hb dX0_encipher_15 rfl (lv_at hl 3 rfl) ?_
  refine xa_lld hx hb hK hP 2 1 rfl rfl (by omega) (by omega) (v := ae_l S 0) (hf0) dX0_encipher_16 ?_
  refine lv_l2i hx hb dX0_encipher_17 rfl ?_
  refine tw_i (y := ae_wf S 4) (ae_l_lo hBS 0) ?_
  refine lv_aload_n hx hb dX0_encipher_18 rfl (lv_at hl 1 rfl) ?_
  refine va_get (D := (dC, dI)) (ci := 0) (v := .ref q0) (C := RX0) (T := TX0) (N := 1) hx hb htA inC0 hown hK hP 0 rfl rfl 0 (by decide) (htA _ mA_f9) (fun _ h9 => h9) rfl dX0_encipher_19 ?_
  refine lv_iconst (v := nI 1) hx hb dX0_encipher_22 (by decide) ?_
  refine xa_ild hx hb hK hP 1 0 rfl rfl (by omega) (by omega) (v := ae_wf X (4 * 1)) (hsch 1 (by omega)) dX0_encipher_23 ?_
  refine lv_ixor hx hb dX0_encipher_24 ?_
  refine tw_i (y := ae_wf (ae_en X S 0) 4) (ae_wfx hBS hBX 4 (4 * 1)) ?_
  refine lv_istore (nL := 14) (lv' := [(4, .int (ae_wf (ae_en X S 0) 4)), (3, .int (ae_wf (ae_en X S 0) 0)), (0, .ref h0), (1, .ref rr), (2, .int (nI (at_)))]) hx hb dX0_encipher_25 hl (by decide) rfl (fun ls hl => ?_)
  refine lv_aload_n hx hb dX0_encipher_27 rfl (lv_at hl 3 rfl) ?_
  refine lv_iload_n hx hb dX0_encipher_28 rfl (lv_at hl 4 rfl) ?_
  refine lv_iconst (v := nI 1) hx hb dX0_encipher_29 (by decide) ?_
  refine xi_iadd hx hb dX0_encipher_30 ?_
  refine xa_lld hx hb hK hP 2 1 rfl rfl (by omega) (by omega) (v := ae_l S 8) (hf1) dX0_encipher_31 ?_
  refine kp_purei (v := ae_wf S 8) (va_runS (As := [.long (ae_l S 8)]) (rest := []) ⟨hx, hb, hml, hown, htA⟩ (c_X0_highInt l dC dI _ S hBS 8) (va_cwS 1 htA (goodC_S mA_l13 mA_static_highInt mA_code_highInt mA_initialized) rfl rfl rfl (by decide +kernel) ⟨Nat.le_trans (Nat.le_of_ble_eq_true rfl) hf.1, Nat.le_trans (Nat.le_of_ble_eq_true rfl) hf.2⟩) (kp_preS (wc := []) kp_XT trivial hP hD hK hS hA [] rfl rfl rfl [] rfl) rfl rfl hl.1 rfl (lv_room (Nat.le_of_ble_eq_true rfl)) dX0_encipher_32 ⟨hc.1, hc.2⟩) hP hS hA (fun H locs hP hS => ?_)
  refine lv_aload_n hx hb dX0_encipher_35 rfl (lv_at hl 2 rfl) ?_
  refine va_get (D := (dC, dI)) (ci := 0) (v := .ref q0) (C := RX0) (T := TX0) (N := 1) hx hb htA inC0 hown hK hP 0 rfl rfl 0 (by decide) (htA _ mA_f9) (fun _ h9 => h9) rfl dX0_encipher_36 ?_
  refine lv_iconst (v := nI 2) hx hb dX0_encipher_39 (by decide) ?_
  refine xa_ild hx hb hK hP 1 0 rfl rfl (by omega) (by omega) (v := ae_wf X (4 * 2)) (hsch 2 (by omega)) dX0_encipher_40 ?_
  refine lv_ixor hx hb dX0_encipher_41 ?_
  refine tw_i (y := ae_wf (ae_en X S 0) 8) (ae_wfx hBS hBX 8 (4 * 2)) ?_
  refine lv_istore (nL := 14) (lv' := [(5, .int (ae_wf (ae_en X S 0) 8)), (4, .int (ae_wf (ae_en X S 0) 4)), (3, .int (ae_wf (ae_en X S 0) 0)), (0, .ref h0), (1, .ref rr), (2, .int (nI (at_)))]) hx hb dX0_encipher_42 hl (by decide) rfl (fun ls hl => ?_)
  refine lv_aload_n hx hb dX0_encipher_44 rfl (lv_at hl 4 rfl) ?_
  refine lv_iload_n hx hb dX0_encipher_45 rfl (lv_at hl 5 rfl) ?_
  refine lv_iconst (v := nI 1) hx hb dX0_encipher_46 (by decide) ?_
  refine xi_iadd hx hb dX0_encipher_47 ?_
  refine xa_lld hx hb hK hP 2 1 rfl rfl (by omega) (by omega) (v := ae_l S 8) (hf1) dX0_encipher_48 ?_
  refine lv_l2i hx hb dX0_encipher_49 rfl ?_
  refine tw_i (y := ae_wf S 12) (ae_l_lo hBS 8) ?_
  refine lv_aload_n hx hb dX0_encipher_50 rfl (lv_at hl 3 rfl) ?_
  refine va_get (D := (dC, dI)) (ci := 0) (v := .ref q0) (C := RX0) (T := TX0) (N := 1) hx hb htA inC0 hown hK hP 0 rfl rfl 0 (by decide) (htA _ mA_f9) (fun _ h9 => h9) rfl dX0_encipher_51 ?_
  refine lv_iconst (v := nI 3) hx hb dX0_encipher_54 (by decide) ?_
  refine xa_ild hx hb hK hP 1 0 rfl rfl (by omega) (by omega) (v := ae_wf X (4 * 3)) (hsch 3 (by omega)) dX0_encipher_55 ?_
  refine lv_ixor hx hb dX0_encipher_56 ?_
  refine tw_i (y := ae_wf (ae_en X S 0) 12) (ae_wfx hBS hBX 12 (4 * 3)) ?_
  refine lv_istore (nL := 14) (lv' := [(6, .int (ae_wf (ae_en X S 0) 12)), (5, .int (ae_wf (ae_en X S 0) 8)), (4, .int (ae_wf (ae_en X S 0) 4)), (3, .int (ae_wf (ae_en X S 0) 0)), (0, .ref h0), (1, .ref rr), (2, .int (nI (at_)))]) hx hb dX0_encipher_57 hl (by decide) rfl (fun ls hl => ?_)
  refine lv_iconst (v := nI 1) hx hb dX0_encipher_59 (by decide) ?_
  refine lv_istore (nL := 14) (lv' := [(7, .int (nI (1))), (6, .int (ae_wf (ae_en X S 0) 12)), (5, .int (ae_wf (ae_en X S 0) 8)), (4, .int (ae_wf (ae_en X S 0) 4)), (3, .int (ae_wf (ae_en X S 0) 0)), (0, .ref h0), (1, .ref rr), (2, .int (nI (at_)))]) hx hb dX0_encipher_60 hl (by decide) rfl (fun ls hl => ?_)
  refine lc_enc hx hb htA hown hml hA hc hf hBX hBS hsch hK hX (fun ls H locs _ hl hP hD hS => ?_) 10 1 ls H locs (by omega) (by omega) (lv_sub hl [0, 4, 3, 2, 1, 5, 6, 7] rfl) hP hD hS
  refine lv_aload_n hx hb dX0_encipher_260 rfl (lv_at hl 6 rfl) ?_
  refine lv_iload_n hx hb dX0_encipher_261 rfl (lv_at hl 7 rfl) ?_
  refine lv_iload_n hx hb dX0_encipher_262 rfl (lv_at hl 1 rfl) ?_
  refine lv_iload hx hb dX0_encipher_263 (lv_at hl 2 rfl) ?_
  refine kp_purel (v := ae_l (ae_en X S 10) 0) (va_runS (As := [.int (ae_wf (ae_en X S 10) 0), .int (ae_wf (ae_en X S 10) 4)]) (rest := [.int (nI (at_)), .ref rr]) ⟨hx, hb, hml, hown, htA⟩ (c_X0_join l dC dI _ (ae_en X S 10) (ae_en_lt hBX hBS 10) 0) (va_cwS 2 htA (goodC_S mA_l35 mA_static_join mA_code_join mA_initialized) rfl rfl rfl (by decide +kernel) ⟨Nat.le_trans (Nat.le_of_ble_eq_true rfl) hf.1, Nat.le_trans (Nat.le_of_ble_eq_true rfl) hf.2⟩) (kp_preS (wc := []) kp_XT trivial hP hD hK hS hA [] rfl rfl rfl [] rfl) rfl rfl hl.1 rfl (lv_room (Nat.le_of_ble_eq_true rfl)) dX0_encipher_265 ⟨hc.1, hc.2⟩) hP hS hA (fun H locs hP hS => ?_)
  refine xa_lst hx hb hK hP hD hS 2 1 rfl rfl (by omega) (by omega) dX0_encipher_268 (fun H locs hP hD hS => ?_)
  have hP : va_P (dC, dI) mCl [(h0, .inr (0, [.ref q0])), (q0, .inl (cI, 44, .inl (sch))), (rr, .inl (cL, n, .inr (.inl (vp_updL (f) (at_) (ae_l (ae_en X S 10) 0)))))] H := hP
  have hD : va_D A [(h0, .inr (0, [.ref q0])), (q0, .inl (cI, 44, .inl (sch))), (rr, .inl (cL, n, .inr (.inl (vp_updL (f) (at_) (ae_l (ae_en X S 10) 0)))))] := hD
  refine lv_aload_n hx hb dX0_encipher_269 rfl (lv_at hl 6 rfl) ?_
  refine lv_iload_n hx hb dX0_encipher_270 rfl (lv_at hl 7 rfl) ?_
  refine lv_iconst (v := nI 1) hx hb dX0_encipher_271 (by decide) ?_
  refine xi_iadd hx hb dX0_encipher_272 ?_
  refine lv_iload hx hb dX0_encipher_273 (lv_at hl 3 rfl) ?_
  refine lv_iload hx hb dX0_encipher_275 (lv_at hl 4 rfl) ?_
  refine kp_purel (v := ae_l (ae_en X S 10) 8) (va_runS (As := [.int (ae_wf (ae_en X S 10) 8), .int (ae_wf (ae_en X S 10) 12)]) (rest := [.int (nI ((at_) + (1))), .ref rr]) ⟨hx, hb, hml, hown, htA⟩ (c_X0_join l dC dI _ (ae_en X S 10) (ae_en_lt hBX hBS 10) 8) (va_cwS 2 htA (goodC_S mA_l35 mA_static_join mA_code_join mA_initialized) rfl rfl rfl (by decide +kernel) ⟨Nat.le_trans (Nat.le_of_ble_eq_true rfl) hf.1, Nat.le_trans (Nat.le_of_ble_eq_true rfl) hf.2⟩) (kp_preS (wc := []) kp_XT trivial hP hD hK hS hA [] rfl rfl rfl [] rfl) rfl rfl hl.1 rfl (lv_room (Nat.le_of_ble_eq_true rfl)) dX0_encipher_277 ⟨hc.1, hc.2⟩) hP hS hA (fun H locs hP hS => ?_)
  refine xa_lst hx hb hK hP hD hS 2 1 rfl rfl (by omega) (by omega) dX0_encipher_280 (fun H locs hP hD hS => ?_)
  have hP : va_P (dC, dI) mCl [(h0, .inr (0, [.ref q0])), (q0, .inl (cI, 44, .inl (sch))), (rr, .inl (cL, n, .inr (.inl (vp_updL (vp_updL (f) (at_) (ae_l (ae_en X S 10) 0)) ((at_) + (1)) (ae_l (ae_en X S 10) 8)))))] H := hP
  have hD : va_D A [(h0, .inr (0, [.ref q0])), (q0, .inl (cI, 44, .inl (sch))), (rr, .inl (cL, n, .inr (.inl (vp_updL (vp_updL (f) (at_) (ae_l (ae_en X S 10) 0)) ((at_) + (1)) (ae_l (ae_en X S 10) 8)))))] := hD
  exact kp_retv () hx hb hr hlocks trivial hP hD hS dX0_encipher_281
set_option maxRecDepth 100000 in
set_option maxHeartbeats 4000000 in
theorem c_X0_decipher (l : Launch) (dC : Nat → ClassId) (dI : Nat → Nat → Nat) (cI cL : ClassId) (sz h0 q0 rr n at_ tS tI : Nat) (sch : Nat → Int32) (f : Nat → Int64) (X S : Nat → Nat) (hBX : ae_B X) (hBS : ae_B S) (hsch : ∀ i, i < 44 → sch i = ae_wf X (4 * i)) (hn : at_ + 2 ≤ n) (hn2 : n < 2147483648) (hf0 : f at_ = ae_l S 0) (hf1 : f (at_ + 1) = ae_l S 8) : kp_Mv l yX0_decipher wsC_X0_decipher { frames := 3, cells := 0, slots := 0, locals := 63 } (dC, dI) mCl [.ref h0, .ref rr, .int (nI at_)] [(h0, .inr (0, [.ref q0])), (q0, .inl (cI, 44, .inl (sch))), (rr, .inl (cL, n, .inr (.inl (f))))] [(cI, .int), (cL, .long)] sz (st_X tS tI) 0 0 (fun _ : Unit => True) (fun _ => [(h0, .inr (0, [.ref q0])), (q0, .inl (cI, 44, .inl (sch))), (rr, .inl (cL, n, .inr (.inl (vp_updL (vp_updL f at_ (ae_l (ae_dec X S) 0)) (at_ + 1) (ae_l (ae_dec X S) 8)))))]) := by
  refine kp_ofv (cc := cX0_decipher) (maxL := 15) (ret := none) (by decide) rfl (Nat.le_of_ble_eq_true rfl) ?_
  intro p e s m args below meth c ls A hx hb hr hts hown hlocks hml hnm hA hsz hl hP hD hK hX hS
  have hown : s.vm.findClass RX0 = some m.cls := hown
  have htA : ∀ w ∈ wsC_a, w.before args s = true := fun w h => hts w (List.mem_cons_of_mem _ h)
  have hf : 3 ≤ ({ frames := 3, cells := 0, slots := 0, locals := 63 } : Room).frames ∧ 63 ≤ ({ frames := 3, cells := 0, slots := 0, locals := 63 } : Room).locals := ⟨Nat.le_of_ble_eq_true rfl, Nat.le_of_ble_eq_true rfl⟩
  have hc : 0 ≤ ({ frames := 3, cells := 0, slots := 0, locals := 63 } : Room).cells ∧ 0 ≤ ({ frames := 3, cells := 0, slots := 0, locals := 63 } : Room).slots := ⟨Nat.zero_le _, Nat.zero_le _⟩
  have hl : lv_has ls 15 [(0, .ref h0), (1, .ref rr), (2, .int (nI (at_)))] := hl
  refine lv_bipush (v := nI 40) hx hb dX0_decipher_0 (by decide) ?_
  refine lv_istore_n (nL := 15) (lv' := [(3, .int (nI (40))), (0, .ref h0), (1, .ref rr), (2, .int (nI (at_)))]) hx hb dX0_decipher_2 rfl hl (by decide) rfl (fun ls hl => ?_)
  refine lv_aload_n hx hb dX0_decipher_3 rfl (lv_at hl 2 rfl) ?_
  refine lv_iload_n hx hb dX0_decipher_4 rfl (lv_at hl 3 rfl) ?_
  refine xa_lld hx hb hK hP 2 1 rfl rfl (by omega) (by omega) (v := ae_l S 0) (hf0) dX0_decipher_5 ?_
  refine kp_purei (v := ae_wf S 0) (va_runS (As := [.long (ae_l S 0)]) (rest := []) ⟨hx, hb, hml, hown, htA⟩ (c_X0_highInt l dC dI _ S hBS 0) (va_cwS 1 htA (goodC_S mA_l13 mA_static_highInt mA_code_highInt mA_initialized) rfl rfl rfl (by decide +kernel) ⟨Nat.le_trans (Nat.le_of_ble_eq_true rfl) hf.1, Nat.le_trans (Nat.le_of_ble_eq_true rfl) hf.2⟩) (kp_preS (wc := []) kp_XT trivial hP hD hK hS hA [] rfl rfl rfl [] rfl) rfl rfl hl.1 rfl (lv_room (Nat.le_of_ble_eq_true rfl)) dX0_decipher_6 ⟨hc.1, hc.2⟩) hP hS hA (fun H locs hP hS => ?_)
  refine lv_aload_n hx hb dX0_decipher_9 rfl (lv_at hl 1 rfl) ?_
  refine va_get (D := (dC, dI)) (ci := 0) (v := .ref q0) (C := RX0) (T := TX0) (N := 1) hx hb htA inC0 hown hK hP 0 rfl rfl 0 (by decide) (htA _ mA_f9) (fun _ h9 => h9) rfl dX0_decipher_10 ?_
  refine lv_iload_n hx hb dX0_decipher_13 rfl (lv_at hl 0 rfl) ?_
  refine xa_ild hx hb hK hP 1 0 rfl rfl (by omega) (by omega) (v := ae_wf X (4 * 40)) (hsch 40 (by omega)) dX0_decipher_14 ?_
  refine lv_ixor hx hb dX0_decipher_15 ?_
  refine tw_i (y := ae_wf (ae_dX X (10 - 0) (ae_rh X S 0)) 0) (ae_decC hBS hBX 10 0) ?_
  refine lv_istore (nL := 15) (lv' := [(4, .int (ae_wf (ae_dX X (10 - 0) (ae_rh X S 0)) 0)), (3, .int (nI (40))), (0, .ref h0), (1, .ref rr), (2, .int (nI (at_)))]) hx hb dX0_decipher_16 hl (by decide) rfl (fun ls hl => ?_)
  refine lv_aload_n hx hb dX0_decipher_18 rfl (lv_at hl 3 rfl) ?_
  refine lv_iload_n hx hb dX0_decipher_19 rfl (lv_at hl 4 rfl) ?_
  refine xa_lld hx hb hK hP 2 1 rfl rfl (by omega) (by omega) (v := ae_l S 0) (hf0) dX0_decipher_20 ?_
  refine lv_l2i hx hb dX0_decipher_21 rfl ?_
  refine tw_i (y := ae_wf S 4) (ae_l_lo hBS 0) ?_
  refine lv_aload_n hx hb dX0_decipher_22 rfl (lv_at hl 2 rfl) ?_
  refine va_get (D := (dC, dI)) (ci := 0) (v := .ref q0) (C := RX0) (T := TX0) (N := 1) hx hb htA inC0 hown hK hP 0 rfl rfl 0 (by decide) (htA _ mA_f9) (fun _ h9 => h9) rfl dX0_decipher_23 ?_
  refine lv_iload_n hx hb dX0_decipher_26 rfl (lv_at hl 1 rfl) ?_
  refine lv_iconst (v := nI 1) hx hb dX0_decipher_27 (by decide) ?_
  refine xi_iadd hx hb dX0_decipher_28 ?_
  refine xa_ild hx hb hK hP 1 0 rfl rfl (by omega) (by omega) (v := ae_wf X (4 * (40 + 1))) (hsch (40 + 1) (by omega)) dX0_decipher_29 ?_
  refine lv_ixor hx hb dX0_decipher_30 ?_
  refine tw_i (y := ae_wf (ae_dX X (10 - 0) (ae_rh X S 0)) 4) (ae_decC hBS hBX 10 1) ?_
  refine lv_istore (nL := 15) (lv' := [(5, .int (ae_wf (ae_dX X (10 - 0) (ae_rh X S 0)) 4)), (4, .int (ae_wf (ae_dX X (10 - 0) (ae_rh X S 0)) 0)), (3, .int (nI (40))), (0, .ref h0), (1, .ref rr), (2, .int (nI (at_)))]) hx hb dX0_decipher_31 hl (by decide) rfl (fun ls hl => ?_)
  refine lv_aload_n hx hb dX0_decipher_33 rfl (lv_at hl 4 rfl) ?_
  refine lv_iload_n hx hb dX0_decipher_34 rfl (lv_at hl 5 rfl) ?_
  refine lv_iconst (v := nI 1) hx hb dX0_decipher_35 (by decide) ?_
  refine xi_iadd hx hb dX0_decipher_36 ?_
  refine xa_lld hx hb hK hP 2 1 rfl rfl (by omega) (by omega) (v := ae_l S 8) (hf1) dX0_decipher_37 ?_
  refine kp_purei (v := ae_wf S 8) (va_runS (As := [.long (ae_l S 8)]) (rest := []) ⟨hx, hb, hml, hown, htA⟩ (c_X0_highInt l dC dI _ S hBS 8) (va_cwS 1 htA (goodC_S mA_l13 mA_static_highInt mA_code_highInt mA_initialized) rfl rfl rfl (by decide +kernel) ⟨Nat.le_trans (Nat.le_of_ble_eq_true rfl) hf.1, Nat.le_trans (Nat.le_of_ble_eq_true rfl) hf.2⟩) (kp_preS (wc := []) kp_XT trivial hP hD hK hS hA [] rfl rfl rfl [] rfl) rfl rfl hl.1 rfl (lv_room (Nat.le_of_ble_eq_true rfl)) dX0_decipher_38 ⟨hc.1, hc.2⟩) hP hS hA (fun H locs hP hS => ?_)
  refine lv_aload_n hx hb dX0_decipher_41 rfl (lv_at hl 3 rfl) ?_
  refine va_get (D := (dC, dI)) (ci := 0) (v := .ref q0) (C := RX0) (T := TX0) (N := 1) hx hb htA inC0 hown hK hP 0 rfl rfl 0 (by decide) (htA _ mA_f9) (fun _ h9 => h9) rfl dX0_decipher_42 ?_
  refine lv_iload_n hx hb dX0_decipher_45 rfl (lv_at hl 2 rfl) ?_
  refine lv_iconst (v := nI 2) hx hb dX0_decipher_46 (by decide) ?_
  refine xi_iadd hx hb dX0_decipher_47 ?_
  refine xa_ild hx hb hK hP 1 0 rfl rfl (by omega) (by omega) (v := ae_wf X (4 * (40 + 2))) (hsch (40 + 2) (by omega)) dX0_decipher_48 ?_
  refine lv_ixor hx hb dX0_decipher_49 ?_
  refine tw_i (y := ae_wf (ae_dX X (10 - 0) (ae_rh X S 0)) 8) (ae_decC hBS hBX 10 2) ?_
  refine lv_istore (nL := 15) (lv' := [(6, .int (ae_wf (ae_dX X (10 - 0) (ae_rh X S 0)) 8)), (5, .int (ae_wf (ae_dX X (10 - 0) (ae_rh X S 0)) 4)), (4, .int (ae_wf (ae_dX X (10 - 0) (ae_rh X S 0)) 0)), (3, .int (nI (40))), (0, .ref h0), (1, .ref rr), (2, .int (nI (at_)))]) hx hb dX0_decipher_50 hl (by decide) rfl (fun ls hl => ?_)
  refine lv_aload_n hx hb dX0_decipher_52 rfl (lv_at hl 5 rfl) ?_
  refine lv_iload_n hx hb dX0_decipher_53 rfl (lv_at hl 6 rfl) ?_
  refine lv_iconst (v := nI 1) hx hb dX0_decipher_54 (by decide) ?_
  refine xi_iadd hx hb dX0_decipher_55 ?_
  refine xa_lld hx hb hK hP 2 1 rfl rfl (by omega) (by omega) (v := ae_l S 8) (hf1) dX0_decipher_56 ?_
  refine lv_l2i hx hb dX0_decipher_57 rfl ?_
  refine tw_i (y := ae_wf S 12) (ae_l_lo hBS 8) ?_
  refine lv_aload_n hx hb dX0_decipher_58 rfl (lv_at hl 4 rfl) ?_
  refine va_get (D := (dC, dI)) (ci := 0) (v := .ref q0) (C := RX0) (T := TX0) (N := 1) hx hb htA inC0 hown hK hP 0 rfl rfl 0 (by decide) (htA _ mA_f9) (fun _ h9 => h9) rfl dX0_decipher_59 ?_
  refine lv_iload_n hx hb dX0_decipher_62 rfl (lv_at hl 3 rfl) ?_
  refine lv_iconst (v := nI 3) hx hb dX0_decipher_63 (by decide) ?_
  refine xi_iadd hx hb dX0_decipher_64 ?_
  refine xa_ild hx hb hK hP 1 0 rfl rfl (by omega) (by omega) (v := ae_wf X (4 * (40 + 3))) (hsch (40 + 3) (by omega)) dX0_decipher_65 ?_
  refine lv_ixor hx hb dX0_decipher_66 ?_
  refine tw_i (y := ae_wf (ae_dX X (10 - 0) (ae_rh X S 0)) 12) (ae_decC hBS hBX 10 3) ?_
  refine lv_istore (nL := 15) (lv' := [(7, .int (ae_wf (ae_dX X (10 - 0) (ae_rh X S 0)) 12)), (6, .int (ae_wf (ae_dX X (10 - 0) (ae_rh X S 0)) 8)), (5, .int (ae_wf (ae_dX X (10 - 0) (ae_rh X S 0)) 4)), (4, .int (ae_wf (ae_dX X (10 - 0) (ae_rh X S 0)) 0)), (3, .int (nI (40))), (0, .ref h0), (1, .ref rr), (2, .int (nI (at_)))]) hx hb dX0_decipher_67 hl (by decide) rfl (fun ls hl => ?_)
  refine lv_bipush (v := nI 9) hx hb dX0_decipher_69 (by decide) ?_
  refine tw_i (y := nI (10 - 0) + (-1)) (by decide) ?_
  refine lv_istore (nL := 15) (lv' := [(8, .int (nI (10 - 0) + (-1))), (7, .int (ae_wf (ae_dX X (10 - 0) (ae_rh X S 0)) 12)), (6, .int (ae_wf (ae_dX X (10 - 0) (ae_rh X S 0)) 8)), (5, .int (ae_wf (ae_dX X (10 - 0) (ae_rh X S 0)) 4)), (4, .int (ae_wf (ae_dX X (10 - 0) (ae_rh X S 0)) 0)), (3, .int (nI (40))), (0, .ref h0), (1, .ref rr), (2, .int (nI (at_)))]) hx hb dX0_decipher_71 hl (by decide) rfl (fun ls hl => ?_)
  refine lc_dec hx hb htA hown hml hA hc hf hBX hBS hsch hK hX (fun ls H locs _ hl hP hD hS => ?_) 10 0 ls H locs (by omega) (lv_sub hl [0, 4, 3, 2, 1, 6, 7, 8] rfl) hP hD hS
  refine lv_aload_n hx hb dX0_decipher_272 rfl (lv_at hl 6 rfl) ?_
  refine lv_iload_n hx hb dX0_decipher_273 rfl (lv_at hl 7 rfl) ?_
  refine lv_iload hx hb dX0_decipher_274 (lv_at hl 1 rfl) ?_
  refine lv_iload hx hb dX0_decipher_276 (lv_at hl 2 rfl) ?_
  refine kp_purel (v := ae_l (ae_dX X (10 - 10) (ae_rh X S 10)) 0) (va_runS (As := [.int (ae_wf (ae_dX X (10 - 10) (ae_rh X S 10)) 0), .int (ae_wf (ae_dX X (10 - 10) (ae_rh X S 10)) 4)]) (rest := [.int (nI (at_)), .ref rr]) ⟨hx, hb, hml, hown, htA⟩ (c_X0_join l dC dI _ (ae_dX X (10 - 10) (ae_rh X S 10)) (ae_dX_lt hBX (ae_rh_lt hBX hBS 10) _) 0) (va_cwS 2 htA (goodC_S mA_l35 mA_static_join mA_code_join mA_initialized) rfl rfl rfl (by decide +kernel) ⟨Nat.le_trans (Nat.le_of_ble_eq_true rfl) hf.1, Nat.le_trans (Nat.le_of_ble_eq_true rfl) hf.2⟩) (kp_preS (wc := []) kp_XT trivial hP hD hK hS hA [] rfl rfl rfl [] rfl) rfl rfl hl.1 rfl (lv_room (Nat.le_of_ble_eq_true rfl)) dX0_decipher_278 ⟨hc.1, hc.2⟩) hP hS hA (fun H locs hP hS => ?_)
  refine xa_lst hx hb hK hP hD hS 2 1 rfl rfl (by omega) (by omega) dX0_decipher_281 (fun H locs hP hD hS => ?_)
  have hP : va_P (dC, dI) mCl [(h0, .inr (0, [.ref q0])), (q0, .inl (cI, 44, .inl (sch))), (rr, .inl (cL, n, .inr (.inl (vp_updL (f) (at_) (ae_l (ae_dX X (10 - 10) (ae_rh X S 10)) 0)))))] H := hP
  have hD : va_D A [(h0, .inr (0, [.ref q0])), (q0, .inl (cI, 44, .inl (sch))), (rr, .inl (cL, n, .inr (.inl (vp_updL (f) (at_) (ae_l (ae_dX X (10 - 10) (ae_rh X S 10)) 0)))))] := hD
  refine lv_aload_n hx hb dX0_decipher_282 rfl (lv_at hl 6 rfl) ?_
  refine lv_iload_n hx hb dX0_decipher_283 rfl (lv_at hl 7 rfl) ?_
  refine lv_iconst (v := nI 1) hx hb dX0_decipher_284 (by decide) ?_
  refine xi_iadd hx hb dX0_decipher_285 ?_
  refine lv_iload hx hb dX0_decipher_286 (lv_at hl 3 rfl) ?_
  refine lv_iload hx hb dX0_decipher_288 (lv_at hl 4 rfl) ?_
  refine kp_purel (v := ae_l (ae_dX X (10 - 10) (ae_rh X S 10)) 8) (va_runS (As := [.int (ae_wf (ae_dX X (10 - 10) (ae_rh X S 10)) 8), .int (ae_wf (ae_dX X (10 - 10) (ae_rh X S 10)) 12)]) (rest := [.int (nI ((at_) + (1))), .ref rr]) ⟨hx, hb, hml, hown, htA⟩ (c_X0_join l dC dI _ (ae_dX X (10 - 10) (ae_rh X S 10)) (ae_dX_lt hBX (ae_rh_lt hBX hBS 10) _) 8) (va_cwS 2 htA (goodC_S mA_l35 mA_static_join mA_code_join mA_initialized) rfl rfl rfl (by decide +kernel) ⟨Nat.le_trans (Nat.le_of_ble_eq_true rfl) hf.1, Nat.le_trans (Nat.le_of_ble_eq_true rfl) hf.2⟩) (kp_preS (wc := []) kp_XT trivial hP hD hK hS hA [] rfl rfl rfl [] rfl) rfl rfl hl.1 rfl (lv_room (Nat.le_of_ble_eq_true rfl)) dX0_decipher_290 ⟨hc.1, hc.2⟩) hP hS hA (fun H locs hP hS => ?_)
  refine xa_lst hx hb hK hP hD hS 2 1 rfl rfl (by omega) (by omega) dX0_decipher_293 (fun H locs hP hD hS => ?_)
  have hP : va_P (dC, dI) mCl [(h0, .inr (0, [.ref q0])), (q0, .inl (cI, 44, .inl (sch))), (rr, .inl (cL, n, .inr (.inl (vp_updL (vp_updL (f) (at_) (ae_l (ae_dX X (10 - 10) (ae_rh X S 10)) 0)) ((at_) + (1)) (ae_l (ae_dX X (10 - 10) (ae_rh X S 10)) 8)))))] H := hP
  have hD : va_D A [(h0, .inr (0, [.ref q0])), (q0, .inl (cI, 44, .inl (sch))), (rr, .inl (cL, n, .inr (.inl (vp_updL (vp_updL (f) (at_) (ae_l (ae_dX X (10 - 10) (ae_rh X S 10)) 0)) ((at_) + (1)) (ae_l (ae_dX X (10 - 10) (ae_rh X S 10)) 8)))))] := hD
  exact kp_retv () hx hb hr hlocks trivial hP hD hS dX0_decipher_294
