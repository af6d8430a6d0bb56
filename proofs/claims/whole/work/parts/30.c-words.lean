/-! the class's leaves: words and bytes -/
theorem goodC_mem {w : Cond} (h : w ∈ wsC_a) : w ∈ wsC_a ∧ ((w.onTables && w.keeps) = true ∨ ∃ ty, w = .arrayClass ty) := ⟨h, good_of_word (List.all_eq_true.mp wsC_good w h)⟩
theorem goodC_c {c : Cond} (h : c ∈ wsC_a) : GoodIn wsC_a (c :: wsC_a) := fun w hw => by
  rcases List.mem_cons.mp hw with e | e
  · rw [e]; exact goodC_mem h
  · exact goodC_mem e
theorem goodC_S {own : String} {idx : Nat} {y : MethodName} {c : Cond} (h1 : Cond.methodLink own idx y ∈ wsC_a) (h2 : Cond.static y ∈ wsC_a) (h4 : c ∈ wsC_a) (h3 : Cond.initialized y.cls ∈ wsC_a) : GoodIn wsC_a (va_wsS own idx y (c :: wsC_a)) :=
  goodIn_app (fun w hw => by
    simp only [List.mem_cons, List.not_mem_nil, or_false] at hw
    rcases hw with e | e | e <;> rw [e]
    · exact goodC_mem h1
    · exact goodC_mem h2
    · exact goodC_mem h3) (goodC_c h4)
theorem goodC_V {own C : String} {idx : Nat} {y : MethodName} {c : Cond} (h1 : Cond.methodLink own idx y ∈ wsC_a) (h2 : Cond.instanceMethod y ∈ wsC_a) (h3 : Cond.selects C y y ∈ wsC_a) (h4 : c ∈ wsC_a) (h5 : Cond.initialized C ∈ wsC_a) : GoodIn wsC_a (wsV own idx C y (c :: wsC_a)) :=
  goodIn_app (fun w hw => by
    simp only [List.mem_cons, List.not_mem_nil, or_false] at hw
    rcases hw with e | e | e | e <;> rw [e]
    · exact goodC_mem h1
    · exact goodC_mem h2
    · exact goodC_mem h3
    · exact goodC_mem h5) (goodC_c h4)
/-- a table of bytes that nobody writes -/
def tb_X (t : Nat) (bx : Nat → Nat) : (Nat → Prop) → State → Prop := fun A U => va_T .int t 256 (fun j => .int (nI (bx j))) A U U.heap
theorem tb_kp (t : Nat) (bx : Nat → Nat) : kp_X (tb_X t bx) := fun _ _ _ _ h hvm hq hAB => va_T.narrow (va_T.moved hvm.alike (va_T.kept h hq)) hAB
def st_Z (n : String) (t : Nat) : (Nat → Prop) → State → Prop := fun A U => va_Z "SectorSeal$Aes" n "[I" (.ref t) A U U.heap
theorem st_kp (n : String) (t : Nat) : kp_X (st_Z n t) := fun _ _ _ _ h hvm hq hAB => va_Z.narrow (va_Z.moved hvm.alike (va_Z.kept h hq)) hAB
/-- the class's two boxes -/
def st_X (tS tI : Nat) : (Nat → Prop) → State → Prop := fun A U => (st_Z "S_BOX" tS A U ∧ tb_X tS ae_sb A U) ∧ (st_Z "INVERSE_S_BOX" tI A U ∧ tb_X tI ae_ib A U)
theorem stX_kp (tS tI : Nat) : kp_X (st_X tS tI) := fun A B u U h hvm hq hAB => ⟨⟨st_kp _ _ A B u U h.1.1 hvm hq hAB, tb_kp _ _ A B u U h.1.2 hvm hq hAB⟩, ⟨st_kp _ _ A B u U h.2.1 hvm hq hAB, tb_kp _ _ A B u U h.2.2 hvm hq hAB⟩⟩
set_option maxRecDepth 100000 in
set_option maxHeartbeats 4000000 in
theorem c_X0_highInt (l : Launch) (dC : Nat → ClassId) (dI : Nat → Nat → Nat) (sz : Nat) (S : Nat → Nat) (hB : ae_B S) (i : Nat) : kp_Mi l yX0_highInt wsC_X0_highInt { frames := 0, cells := 0, slots := 0, locals := 0 } (dC, dI) mCl [.long (ae_l S i)] [] [] sz kp_T (fun (r : Int32) (_ : Unit) => r = ae_wf S i) (fun _ => []) := by
  refine kp_ofi (cc := cX0_highInt) (maxL := 2) (ret := some .int) (by decide) rfl (Nat.le_of_ble_eq_true rfl) ?_
  intro p e s m args below meth c ls A hx hb hr hts hown hlocks hml hnm hA hsz hl hP hD hK hX hS
  have hown : s.vm.findClass RX0 = some m.cls := hown
  have htA : ∀ w ∈ wsC_a, w.before args s = true := fun w h => hts w (List.mem_cons_of_mem _ h)
  have hf : 0 ≤ ({ frames := 0, cells := 0, slots := 0, locals := 0 } : Room).frames ∧ 0 ≤ ({ frames := 0, cells := 0, slots := 0, locals := 0 } : Room).locals := ⟨Nat.le_of_ble_eq_true rfl, Nat.le_of_ble_eq_true rfl⟩
  have hc : 0 ≤ ({ frames := 0, cells := 0, slots := 0, locals := 0 } : Room).cells ∧ 0 ≤ ({ frames := 0, cells := 0, slots := 0, locals := 0 } : Room).slots := ⟨Nat.zero_le _, Nat.zero_le _⟩
  have hl : lv_has ls 2 [(0, .long (ae_l S i))] := hl
  refine lv_lload_n hx hb dX0_highInt_0 rfl (lv_at hl 0 rfl) ?_
  refine lv_bipush (v := nI 32) hx hb dX0_highInt_1 (by decide) ?_
  refine lv_lushr hx hb dX0_highInt_3 rfl ?_
  refine lv_l2i hx hb dX0_highInt_4 rfl ?_
  refine tw_i (y := ae_wf S i) (ae_l_hi hB i) ?_
  exact kp_reti () hx hb hr rfl hlocks rfl hP hD hS dX0_highInt_5
set_option maxRecDepth 100000 in
set_option maxHeartbeats 4000000 in
theorem c_X0_turn (l : Launch) (dC : Nat → ClassId) (dI : Nat → Nat → Nat) (sz n k : Nat) (hn : n < 4294967296) (h0 : 0 < k) (hk : k < 32) : kp_Mi l yX0_turn wsC_X0_turn { frames := 0, cells := 0, slots := 0, locals := 0 } (dC, dI) mCl [.int (nI n), .int (nI k)] [] [] sz kp_T (fun (r : Int32) (_ : Unit) => r = nI (n * 2 ^ k ||| n / 2 ^ (32 - k))) (fun _ => []) := by
  refine kp_ofi (cc := cX0_turn) (maxL := 2) (ret := some .int) (by decide) rfl (Nat.le_of_ble_eq_true rfl) ?_
  intro p e s m args below meth c ls A hx hb hr hts hown hlocks hml hnm hA hsz hl hP hD hK hX hS
  have hown : s.vm.findClass RX0 = some m.cls := hown
  have htA : ∀ w ∈ wsC_a, w.before args s = true := fun w h => hts w (List.mem_cons_of_mem _ h)
  have hf : 0 ≤ ({ frames := 0, cells := 0, slots := 0, locals := 0 } : Room).frames ∧ 0 ≤ ({ frames := 0, cells := 0, slots := 0, locals := 0 } : Room).locals := ⟨Nat.le_of_ble_eq_true rfl, Nat.le_of_ble_eq_true rfl⟩
  have hc : 0 ≤ ({ frames := 0, cells := 0, slots := 0, locals := 0 } : Room).cells ∧ 0 ≤ ({ frames := 0, cells := 0, slots := 0, locals := 0 } : Room).slots := ⟨Nat.zero_le _, Nat.zero_le _⟩
  have hl : lv_has ls 2 [(0, .int (nI (n))), (1, .int (nI (k)))] := hl
  refine lv_iload_n hx hb dX0_turn_0 rfl (lv_at hl 0 rfl) ?_
  refine lv_iload_n hx hb dX0_turn_1 rfl (lv_at hl 1 rfl) ?_
  refine xi_ishl hx hb dX0_turn_2 (by omega) ?_
  refine lv_iload_n hx hb dX0_turn_3 rfl (lv_at hl 0 rfl) ?_
  refine lv_bipush (v := nI 32) hx hb dX0_turn_4 (by decide) ?_
  refine lv_iload_n hx hb dX0_turn_6 rfl (lv_at hl 1 rfl) ?_
  refine xi_isub hx hb dX0_turn_7 (by omega) ?_
  refine xi_iushr hx hb dX0_turn_8 (by omega) (by omega) ?_
  refine xi_ior hx hb dX0_turn_9 ?_
  exact kp_reti () hx hb hr rfl hlocks rfl hP hD hS dX0_turn_10
set_option maxRecDepth 100000 in
set_option maxHeartbeats 4000000 in
theorem c_X0_doubleEach (l : Launch) (dC : Nat → ClassId) (dI : Nat → Nat → Nat) (sz : Nat) (a b c9 d : Nat) (ha : a < 256) (hb2 : b < 256) (hc9 : c9 < 256) (hd : d < 256) : kp_Mi l yX0_doubleEach wsC_X0_doubleEach { frames := 0, cells := 0, slots := 0, locals := 0 } (dC, dI) mCl [.int (ae_w a b c9 d)] [] [] sz kp_T (fun (r : Int32) (_ : Unit) => r = ae_w (ae_tq a) (ae_tq b) (ae_tq c9) (ae_tq d)) (fun _ => []) := by
  refine kp_ofi (cc := cX0_doubleEach) (maxL := 1) (ret := some .int) (by decide) rfl (Nat.le_of_ble_eq_true rfl) ?_
  intro p e s m args below meth c ls A hx hb hr hts hown hlocks hml hnm hA hsz hl hP hD hK hX hS
  have hown : s.vm.findClass RX0 = some m.cls := hown
  have htA : ∀ w ∈ wsC_a, w.before args s = true := fun w h => hts w (List.mem_cons_of_mem _ h)
  have hf : 0 ≤ ({ frames := 0, cells := 0, slots := 0, locals := 0 } : Room).frames ∧ 0 ≤ ({ frames := 0, cells := 0, slots := 0, locals := 0 } : Room).locals := ⟨Nat.le_of_ble_eq_true rfl, Nat.le_of_ble_eq_true rfl⟩
  have hc : 0 ≤ ({ frames := 0, cells := 0, slots := 0, locals := 0 } : Room).cells ∧ 0 ≤ ({ frames := 0, cells := 0, slots := 0, locals := 0 } : Room).slots := ⟨Nat.zero_le _, Nat.zero_le _⟩
  have hl : lv_has ls 1 [(0, .int (nI (ae_h4 a b c9 d)))] := hl
  have hq := ae_h4_lt ha hb2 hc9 hd
  refine lv_iload_n hx hb dX0_doubleEach_0 rfl (lv_at hl 0 rfl) ?_
  refine lv_ldc hx hb hown (htA _ mA_k45) dX0_doubleEach_1 ?_
  refine tw_i (y := nI (2139062143)) (by decide) ?_
  refine xi_iand hx hb dX0_doubleEach_3 ?_
  refine lv_iconst (v := nI 1) hx hb dX0_doubleEach_4 (by decide) ?_
  refine xi_ishl hx hb dX0_doubleEach_5 (by omega) ?_
  refine lv_iload_n hx hb dX0_doubleEach_6 rfl (lv_at hl 0 rfl) ?_
  refine lv_bipush (v := nI 7) hx hb dX0_doubleEach_7 (by decide) ?_
  refine xi_iushr hx hb dX0_doubleEach_9 (by omega) (by omega) ?_
  refine lv_ldc hx hb hown (htA _ mA_k46) dX0_doubleEach_10 ?_
  refine tw_i (y := nI (16843009)) (by decide) ?_
  refine xi_iand hx hb dX0_doubleEach_12 ?_
  refine lv_bipush (v := nI 27) hx hb dX0_doubleEach_13 (by decide) ?_
  refine xi_imul hx hb dX0_doubleEach_15 ?_
  refine xi_ixor hx hb dX0_doubleEach_16 ?_
  refine tw_i (y := ae_w (ae_tq a) (ae_tq b) (ae_tq c9) (ae_tq d)) (ae_dbl ha hb2 hc9 hd) ?_
  exact kp_reti () hx hb hr rfl hlocks rfl hP hD hS dX0_doubleEach_17
set_option maxRecDepth 100000 in
set_option maxHeartbeats 4000000 in
theorem c_X0_join (l : Launch) (dC : Nat → ClassId) (dI : Nat → Nat → Nat) (sz : Nat) (S : Nat → Nat) (hB : ae_B S) (i : Nat) : kp_Ml l yX0_join wsC_X0_join { frames := 0, cells := 0, slots := 0, locals := 0 } (dC, dI) mCl [.int (ae_wf S i), .int (ae_wf S (i + 4))] [] [] sz kp_T (fun (r : Int64) (_ : Unit) => r = ae_l S i) (fun _ => []) := by
  refine kp_ofl (cc := cX0_join) (maxL := 2) (ret := some .long) (by decide) rfl (Nat.le_of_ble_eq_true rfl) ?_
  intro p e s m args below meth c ls A hx hb hr hts hown hlocks hml hnm hA hsz hl hP hD hK hX hS
  have hown : s.vm.findClass RX0 = some m.cls := hown
  have htA : ∀ w ∈ wsC_a, w.before args s = true := fun w h => hts w (List.mem_cons_of_mem _ h)
  have hf : 0 ≤ ({ frames := 0, cells := 0, slots := 0, locals := 0 } : Room).frames ∧ 0 ≤ ({ frames := 0, cells := 0, slots := 0, locals := 0 } : Room).locals := ⟨Nat.le_of_ble_eq_true rfl, Nat.le_of_ble_eq_true rfl⟩
  have hc : 0 ≤ ({ frames := 0, cells := 0, slots := 0, locals := 0 } : Room).cells ∧ 0 ≤ ({ frames := 0, cells := 0, slots := 0, locals := 0 } : Room).slots := ⟨Nat.zero_le _, Nat.zero_le _⟩
  have hl : lv_has ls 2 [(0, .int (ae_wf S i)), (1, .int (ae_wf S (i + 4)))] := hl
  refine lv_iload_n hx hb dX0_join_0 rfl (lv_at hl 0 rfl) ?_
  refine lv_i2l hx hb dX0_join_1 rfl ?_
  refine lv_bipush (v := nI 32) hx hb dX0_join_2 (by decide) ?_
  refine lv_lshl hx hb dX0_join_4 rfl ?_
  refine lv_iload_n hx hb dX0_join_5 rfl (lv_at hl 1 rfl) ?_
  refine lv_i2l hx hb dX0_join_6 rfl ?_
  refine lv_ldc2 hx hb hown (htA _ mA_k47) dX0_join_7 ?_
  refine tw_l (y := lN 4294967295) (by decide) ?_
  refine lv_land hx hb dX0_join_10 ?_
  refine lv_lor hx hb dX0_join_11 ?_
  refine tw_l (y := ae_l S i) (ae_l_join hB i) ?_
  exact kp_retl () hx hb hr hlocks rfl hP hD hS dX0_join_12
set_option maxRecDepth 100000 in
set_option maxHeartbeats 4000000 in
theorem c_X0_substitute (l : Launch) (dC : Nat → ClassId) (dI : Nat → Nat → Nat) (sz t : Nat) (bx : Nat → Nat) (hbx : ∀ v, v < 256 → bx v < 256) (S : Nat → Nat) (hB : ae_B S) (i0 i1 i2 i3 : Nat) : kp_Mi l yX0_substitute wsC_X0_substitute { frames := 0, cells := 0, slots := 0, locals := 0 } (dC, dI) mCl [.ref t, .int (ae_wf S i0), .int (ae_wf S i1), .int (ae_wf S i2), .int (ae_wf S i3)] [] [] sz (tb_X t bx) (fun (r : Int32) (_ : Unit) => r = ae_w (bx (S i0)) (bx (S (i1 + 1))) (bx (S (i2 + 2))) (bx (S (i3 + 3)))) (fun _ => []) := by
  refine kp_ofi (cc := cX0_substitute) (maxL := 5) (ret := some .int) (by decide) rfl (Nat.le_of_ble_eq_true rfl) ?_
  intro p e s m args below meth c ls A hx hb hr hts hown hlocks hml hnm hA hsz hl hP hD hK hX hS
  have hown : s.vm.findClass RX0 = some m.cls := hown
  have htA : ∀ w ∈ wsC_a, w.before args s = true := fun w h => hts w (List.mem_cons_of_mem _ h)
  have hf : 0 ≤ ({ frames := 0, cells := 0, slots := 0, locals := 0 } : Room).frames ∧ 0 ≤ ({ frames := 0, cells := 0, slots := 0, locals := 0 } : Room).locals := ⟨Nat.le_of_ble_eq_true rfl, Nat.le_of_ble_eq_true rfl⟩
  have hc : 0 ≤ ({ frames := 0, cells := 0, slots := 0, locals := 0 } : Room).cells ∧ 0 ≤ ({ frames := 0, cells := 0, slots := 0, locals := 0 } : Room).slots := ⟨Nat.zero_le _, Nat.zero_le _⟩
  have hl : lv_has ls 5 [(0, .ref t), (1, .int (nI (ae_h4 (S i0) (S (i0 + 1)) (S (i0 + 2)) (S (i0 + 3))))), (2, .int (nI (ae_h4 (S i1) (S (i1 + 1)) (S (i1 + 2)) (S (i1 + 3))))), (3, .int (nI (ae_h4 (S i2) (S (i2 + 1)) (S (i2 + 2)) (S (i2 + 3))))), (4, .int (nI (ae_h4 (S i3) (S (i3 + 1)) (S (i3 + 2)) (S (i3 + 3)))))] := hl
  have hq0 := ae_h4_lt (hB i0) (hB (i0 + 1)) (hB (i0 + 2)) (hB (i0 + 3))
  have hq1 := ae_h4_lt (hB i1) (hB (i1 + 1)) (hB (i1 + 2)) (hB (i1 + 3))
  have hq2 := ae_h4_lt (hB i2) (hB (i2 + 1)) (hB (i2 + 2)) (hB (i2 + 3))
  have hq3 := ae_h4_lt (hB i3) (hB (i3 + 1)) (hB (i3 + 2)) (hB (i3 + 3))
  refine lv_aload_n hx hb dX0_substitute_0 rfl (lv_at hl 0 rfl) ?_
  refine lv_iload_n hx hb dX0_substitute_1 rfl (lv_at hl 1 rfl) ?_
  refine lv_bipush (v := nI 24) hx hb dX0_substitute_2 (by decide) ?_
  refine xi_iushr hx hb dX0_substitute_4 (by omega) (by omega) ?_
  refine tw_i (y := nI (S i0)) (by rw [ae_g0 (hB _) (hB _) (hB _)]) ?_
  refine xa_tld hx hb hX hS (by omega) (hB _) (v := .int (nI (bx (S i0)))) (rfl) dX0_substitute_5 ?_
  refine lv_bipush (v := nI 24) hx hb dX0_substitute_6 (by decide) ?_
  refine xi_ishl hx hb dX0_substitute_8 (by omega) ?_
  refine lv_aload_n hx hb dX0_substitute_9 rfl (lv_at hl 0 rfl) ?_
  refine lv_iload_n hx hb dX0_substitute_10 rfl (lv_at hl 2 rfl) ?_
  refine lv_bipush (v := nI 16) hx hb dX0_substitute_11 (by decide) ?_
  refine xi_iushr hx hb dX0_substitute_13 (by omega) (by omega) ?_
  refine lv_sipush (v := nI 255) hx hb dX0_substitute_14 (by decide) ?_
  refine xi_mask hx hb 8 dX0_substitute_17 (by decide) ?_
  refine tw_i (y := nI (S (i1 + 1))) (by rw [ae_g1 (hB _) (hB _) (hB _)]) ?_
  refine xa_tld hx hb hX hS (by omega) (hB _) (v := .int (nI (bx (S (i1 + 1))))) (rfl) dX0_substitute_18 ?_
  refine lv_bipush (v := nI 16) hx hb dX0_substitute_19 (by decide) ?_
  refine xi_ishl hx hb dX0_substitute_21 (by omega) ?_
  refine xi_ior hx hb dX0_substitute_22 ?_
  refine lv_aload_n hx hb dX0_substitute_23 rfl (lv_at hl 0 rfl) ?_
  refine lv_iload_n hx hb dX0_substitute_24 rfl (lv_at hl 3 rfl) ?_
  refine lv_bipush (v := nI 8) hx hb dX0_substitute_25 (by decide) ?_
  refine xi_iushr hx hb dX0_substitute_27 (by omega) (by omega) ?_
  refine lv_sipush (v := nI 255) hx hb dX0_substitute_28 (by decide) ?_
  refine xi_mask hx hb 8 dX0_substitute_31 (by decide) ?_
  refine tw_i (y := nI (S (i2 + 2))) (by rw [ae_g2 (hB _) (hB _)]) ?_
  refine xa_tld hx hb hX hS (by omega) (hB _) (v := .int (nI (bx (S (i2 + 2))))) (rfl) dX0_substitute_32 ?_
  refine lv_bipush (v := nI 8) hx hb dX0_substitute_33 (by decide) ?_
  refine xi_ishl hx hb dX0_substitute_35 (by omega) ?_
  refine xi_ior hx hb dX0_substitute_36 ?_
  refine lv_aload_n hx hb dX0_substitute_37 rfl (lv_at hl 0 rfl) ?_
  refine lv_iload hx hb dX0_substitute_38 (lv_at hl 4 rfl) ?_
  refine lv_sipush (v := nI 255) hx hb dX0_substitute_40 (by decide) ?_
  refine xi_mask hx hb 8 dX0_substitute_43 (by decide) ?_
  refine tw_i (y := nI (S (i3 + 3))) (by rw [ae_g3 (hB _)]) ?_
  refine xa_tld hx hb hX hS (by omega) (hB _) (v := .int (nI (bx (S (i3 + 3))))) (rfl) dX0_substitute_44 ?_
  refine xi_ior hx hb dX0_substitute_45 ?_
  refine tw_i (y := nI (ae_h4 (bx (S i0)) (bx (S (i1 + 1))) (bx (S (i2 + 2))) (bx (S (i3 + 3))))) (by rw [ae_o4 (hbx _ (hB _)) (hbx _ (hB _)) (hbx _ (hB _))]) ?_
  exact kp_reti () hx hb hr rfl hlocks rfl hP hD hS dX0_substitute_46
set_option maxRecDepth 100000 in
set_option maxHeartbeats 4000000 in
theorem c_X0_mix (l : Launch) (dC : Nat → ClassId) (dI : Nat → Nat → Nat) (sz : Nat) (a b c9 d : Nat) (ha : a < 256) (hb2 : b < 256) (hc9 : c9 < 256) (hd : d < 256) : kp_Mi l yX0_mix wsC_X0_mix { frames := 1, cells := 0, slots := 0, locals := 21 } (dC, dI) mCl [.int (ae_w a b c9 d)] [] [] sz kp_T (fun (r : Int32) (_ : Unit) => r = ae_w (ae_mx a b c9 d) (ae_mx b c9 d a) (ae_mx c9 d a b) (ae_mx d a b c9)) (fun _ => []) := by
  refine kp_ofi (cc := cX0_mix) (maxL := 2) (ret := some .int) (by decide) rfl (Nat.le_of_ble_eq_true rfl) ?_
  intro p e s m args below meth c ls A hx hb hr hts hown hlocks hml hnm hA hsz hl hP hD hK hX hS
  have hown : s.vm.findClass RX0 = some m.cls := hown
  have htA : ∀ w ∈ wsC_a, w.before args s = true := fun w h => hts w (List.mem_cons_of_mem _ h)
  have hf : 1 ≤ ({ frames := 1, cells := 0, slots := 0, locals := 21 } : Room).frames ∧ 21 ≤ ({ frames := 1, cells := 0, slots := 0, locals := 21 } : Room).locals := ⟨Nat.le_of_ble_eq_true rfl, Nat.le_of_ble_eq_true rfl⟩
  have hc : 0 ≤ ({ frames := 1, cells := 0, slots := 0, locals := 21 } : Room).cells ∧ 0 ≤ ({ frames := 1, cells := 0, slots := 0, locals := 21 } : Room).slots := ⟨Nat.zero_le _, Nat.zero_le _⟩
  have hl : lv_has ls 2 [(0, .int (nI (ae_h4 a b c9 d)))] := hl
  have hq := ae_h4_lt ha hb2 hc9 hd
  have ta := ae_tq_lt a ha
  have xa : ae_tq a ^^^ a < 256 := ae_x_lt ta ha
  have tb := ae_tq_lt b hb2
  have xb : ae_tq b ^^^ b < 256 := ae_x_lt tb hb2
  have tc9 := ae_tq_lt c9 hc9
  have xc9 : ae_tq c9 ^^^ c9 < 256 := ae_x_lt tc9 hc9
  have td := ae_tq_lt d hd
  have xd : ae_tq d ^^^ d < 256 := ae_x_lt td hd
  refine lv_iload_n hx hb dX0_mix_0 rfl (lv_at hl 0 rfl) ?_
  refine kp_purei (v := nI (ae_h4 (ae_tq a) (ae_tq b) (ae_tq c9) (ae_tq d))) (va_runS (As := [.int (nI (ae_h4 a b c9 d))]) (rest := []) ⟨hx, hb, hml, hown, htA⟩ (c_X0_doubleEach l dC dI _ a b c9 d ha hb2 hc9 hd) (va_cwS 1 htA (goodC_S mA_l28 mA_static_doubleEach mA_code_doubleEach mA_initialized) rfl rfl rfl (by decide +kernel) ⟨Nat.le_trans (Nat.le_of_ble_eq_true rfl) hf.1, Nat.le_trans (Nat.le_of_ble_eq_true rfl) hf.2⟩) (kp_preS (wc := []) kp_XT trivial hP hD hK hS hA [] rfl rfl rfl [] rfl) rfl rfl hl.1 rfl (lv_room (Nat.le_of_ble_eq_true rfl)) dX0_mix_1 ⟨hc.1, hc.2⟩) hP hS hA (fun H locs hP hS => ?_)
  refine lv_istore_n (nL := 2) (lv' := [(1, .int (nI (ae_h4 (ae_tq a) (ae_tq b) (ae_tq c9) (ae_tq d)))), (0, .int (nI (ae_h4 a b c9 d)))]) hx hb dX0_mix_4 rfl hl (by decide) rfl (fun ls hl => ?_)
  refine lv_iload_n hx hb dX0_mix_5 rfl (lv_at hl 0 rfl) ?_
  refine lv_iload_n hx hb dX0_mix_6 rfl (lv_at hl 0 rfl) ?_
  refine lv_iload_n hx hb dX0_mix_7 rfl (lv_at hl 1 rfl) ?_
  refine xi_ixor hx hb dX0_mix_8 ?_
  refine tw_i (y := nI (ae_h4 (ae_tq a ^^^ a) (ae_tq b ^^^ b) (ae_tq c9 ^^^ c9) (ae_tq d ^^^ d))) (by rw [ae_x4 tb tc9 td hb2 hc9 hd]) ?_
  refine lv_bipush (v := nI 8) hx hb dX0_mix_9 (by decide) ?_
  have hq2 := ae_h4_lt xa xb xc9 xd
  refine kp_purei (v := nI ((ae_h4 (ae_tq a ^^^ a) (ae_tq b ^^^ b) (ae_tq c9 ^^^ c9) (ae_tq d ^^^ d)) * 2 ^ 8 ||| (ae_h4 (ae_tq a ^^^ a) (ae_tq b ^^^ b) (ae_tq c9 ^^^ c9) (ae_tq d ^^^ d)) / 2 ^ (32 - 8))) (va_runS (As := [.int (nI (ae_h4 (ae_tq a ^^^ a) (ae_tq b ^^^ b) (ae_tq c9 ^^^ c9) (ae_tq d ^^^ d))), .int (nI (8))]) (rest := [.int (nI (ae_h4 (ae_tq a) (ae_tq b) (ae_tq c9) (ae_tq d)))]) ⟨hx, hb, hml, hown, htA⟩ (c_X0_turn l dC dI _ (ae_h4 (ae_tq a ^^^ a) (ae_tq b ^^^ b) (ae_tq c9 ^^^ c9) (ae_tq d ^^^ d)) 8 hq2 (by omega) (by omega)) (va_cwS 2 htA (goodC_S mA_l17 mA_static_turn mA_code_turn mA_initialized) rfl rfl rfl (by decide +kernel) ⟨Nat.le_trans (Nat.le_of_ble_eq_true rfl) hf.1, Nat.le_trans (Nat.le_of_ble_eq_true rfl) hf.2⟩) (kp_preS (wc := []) kp_XT trivial hP hD hK hS hA [] rfl rfl rfl [] rfl) rfl rfl hl.1 rfl (lv_room (Nat.le_of_ble_eq_true rfl)) dX0_mix_11 ⟨hc.1, hc.2⟩) hP hS hA (fun H locs hP hS => ?_)
  refine tw_i (y := nI (ae_h4 (ae_tq b ^^^ b) (ae_tq c9 ^^^ c9) (ae_tq d ^^^ d) (ae_tq a ^^^ a))) (ae_turn8 xa xb xc9 xd) ?_
  refine xi_ixor hx hb dX0_mix_14 ?_
  refine tw_i (y := nI (ae_h4 (ae_tq a ^^^ (ae_tq b ^^^ b)) (ae_tq b ^^^ (ae_tq c9 ^^^ c9)) (ae_tq c9 ^^^ (ae_tq d ^^^ d)) (ae_tq d ^^^ (ae_tq a ^^^ a)))) (by rw [ae_x4 tb tc9 td xc9 xd xa]) ?_
  refine lv_iload_n hx hb dX0_mix_15 rfl (lv_at hl 1 rfl) ?_
  refine lv_bipush (v := nI 16) hx hb dX0_mix_16 (by decide) ?_
  refine kp_purei (v := nI ((ae_h4 a b c9 d) * 2 ^ 16 ||| (ae_h4 a b c9 d) / 2 ^ (32 - 16))) (va_runS (As := [.int (nI (ae_h4 a b c9 d)), .int (nI (16))]) (rest := [.int (nI (ae_h4 (ae_tq a ^^^ (ae_tq b ^^^ b)) (ae_tq b ^^^ (ae_tq c9 ^^^ c9)) (ae_tq c9 ^^^ (ae_tq d ^^^ d)) (ae_tq d ^^^ (ae_tq a ^^^ a))))]) ⟨hx, hb, hml, hown, htA⟩ (c_X0_turn l dC dI _ (ae_h4 a b c9 d) 16 hq (by omega) (by omega)) (va_cwS 2 htA (goodC_S mA_l17 mA_static_turn mA_code_turn mA_initialized) rfl rfl rfl (by decide +kernel) ⟨Nat.le_trans (Nat.le_of_ble_eq_true rfl) hf.1, Nat.le_trans (Nat.le_of_ble_eq_true rfl) hf.2⟩) (kp_preS (wc := []) kp_XT trivial hP hD hK hS hA [] rfl rfl rfl [] rfl) rfl rfl hl.1 rfl (lv_room (Nat.le_of_ble_eq_true rfl)) dX0_mix_18 ⟨hc.1, hc.2⟩) hP hS hA (fun H locs hP hS => ?_)
  refine tw_i (y := nI (ae_h4 (c9) (d) (a) (b))) (ae_turn16 ha hb2 hc9 hd) ?_
  refine xi_ixor hx hb dX0_mix_21 ?_
  refine tw_i (y := nI (ae_h4 (ae_tq a ^^^ (ae_tq b ^^^ b) ^^^ c9) (ae_tq b ^^^ (ae_tq c9 ^^^ c9) ^^^ d) (ae_tq c9 ^^^ (ae_tq d ^^^ d) ^^^ a) (ae_tq d ^^^ (ae_tq a ^^^ a) ^^^ b))) (by rw [ae_x4 (ae_x_lt tb xc9) (ae_x_lt tc9 xd) (ae_x_lt td xa) hd ha hb2]) ?_
  refine lv_iload_n hx hb dX0_mix_22 rfl (lv_at hl 1 rfl) ?_
  refine lv_bipush (v := nI 24) hx hb dX0_mix_23 (by decide) ?_
  refine kp_purei (v := nI ((ae_h4 a b c9 d) * 2 ^ 24 ||| (ae_h4 a b c9 d) / 2 ^ (32 - 24))) (va_runS (As := [.int (nI (ae_h4 a b c9 d)), .int (nI (24))]) (rest := [.int (nI (ae_h4 (ae_tq a ^^^ (ae_tq b ^^^ b) ^^^ c9) (ae_tq b ^^^ (ae_tq c9 ^^^ c9) ^^^ d) (ae_tq c9 ^^^ (ae_tq d ^^^ d) ^^^ a) (ae_tq d ^^^ (ae_tq a ^^^ a) ^^^ b)))]) ⟨hx, hb, hml, hown, htA⟩ (c_X0_turn l dC dI _ (ae_h4 a b c9 d) 24 hq (by omega) (by omega)) (va_cwS 2 htA (goodC_S mA_l17 mA_static_turn mA_code_turn mA_initialized) rfl rfl rfl (by decide +kernel) ⟨Nat.le_trans (Nat.le_of_ble_eq_true rfl) hf.1, Nat.le_trans (Nat.le_of_ble_eq_true rfl) hf.2⟩) (kp_preS (wc := []) kp_XT trivial hP hD hK hS hA [] rfl rfl rfl [] rfl) rfl rfl hl.1 rfl (lv_room (Nat.le_of_ble_eq_true rfl)) dX0_mix_25 ⟨hc.1, hc.2⟩) hP hS hA (fun H locs hP hS => ?_)
  refine tw_i (y := nI (ae_h4 (d) (a) (b) (c9))) (ae_turn24 ha hb2 hc9 hd) ?_
  refine xi_ixor hx hb dX0_mix_28 ?_
  refine tw_i (y := nI (ae_h4 (ae_mx a b c9 d) (ae_mx b c9 d a) (ae_mx c9 d a b) (ae_mx d a b c9))) (by rw [ae_x4 (ae_x_lt (ae_x_lt tb xc9) hd) (ae_x_lt (ae_x_lt tc9 xd) ha) (ae_x_lt (ae_x_lt td xa) hb2) ha hb2 hc9]; rfl) ?_
  exact kp_reti () hx hb hr rfl hlocks rfl hP hD hS dX0_mix_29
set_option maxRecDepth 100000 in
set_option maxHeartbeats 4000000 in
theorem c_X0_unmix (l : Launch) (dC : Nat → ClassId) (dI : Nat → Nat → Nat) (sz : Nat) (a b c9 d : Nat) (ha : a < 256) (hb2 : b < 256) (hc9 : c9 < 256) (hd : d < 256) : kp_Mi l yX0_unmix wsC_X0_unmix { frames := 2, cells := 0, slots := 0, locals := 42 } (dC, dI) mCl [.int (ae_w a b c9 d)] [] [] sz kp_T (fun (r : Int32) (_ : Unit) => r = ae_w (ae_um a b c9 d) (ae_um b c9 d a) (ae_um c9 d a b) (ae_um d a b c9)) (fun _ => []) := by
  refine kp_ofi (cc := cX0_unmix) (maxL := 2) (ret := some .int) (by decide) rfl (Nat.le_of_ble_eq_true rfl) ?_
  intro p e s m args below meth c ls A hx hb hr hts hown hlocks hml hnm hA hsz hl hP hD hK hX hS
  have hown : s.vm.findClass RX0 = some m.cls := hown
  have htA : ∀ w ∈ wsC_a, w.before args s = true := fun w h => hts w (List.mem_cons_of_mem _ h)
  have hf : 2 ≤ ({ frames := 2, cells := 0, slots := 0, locals := 42 } : Room).frames ∧ 42 ≤ ({ frames := 2, cells := 0, slots := 0, locals := 42 } : Room).locals := ⟨Nat.le_of_ble_eq_true rfl, Nat.le_of_ble_eq_true rfl⟩
  have hc : 0 ≤ ({ frames := 2, cells := 0, slots := 0, locals := 42 } : Room).cells ∧ 0 ≤ ({ frames := 2, cells := 0, slots := 0, locals := 42 } : Room).slots := ⟨Nat.zero_le _, Nat.zero_le _⟩
  have hl : lv_has ls 2 [(0, .int (nI (ae_h4 a b c9 d)))] := hl
  have hq := ae_h4_lt ha hb2 hc9 hd
  have x0 : a ^^^ c9 < 256 := ae_x_lt ha hc9
  have u0 := ae_tq_lt _ x0
  have v0 := ae_tq_lt _ u0
  have z0 : a ^^^ ae_tq (ae_tq (a ^^^ c9)) < 256 := ae_x_lt ha v0
  have x1 : b ^^^ d < 256 := ae_x_lt hb2 hd
  have u1 := ae_tq_lt _ x1
  have v1 := ae_tq_lt _ u1
  have z1 : b ^^^ ae_tq (ae_tq (b ^^^ d)) < 256 := ae_x_lt hb2 v1
  have x2 : c9 ^^^ a < 256 := ae_x_lt hc9 ha
  have u2 := ae_tq_lt _ x2
  have v2 := ae_tq_lt _ u2
  have z2 : c9 ^^^ ae_tq (ae_tq (c9 ^^^ a)) < 256 := ae_x_lt hc9 v2
  have x3 : d ^^^ b < 256 := ae_x_lt hd hb2
  have u3 := ae_tq_lt _ x3
  have v3 := ae_tq_lt _ u3
  have z3 : d ^^^ ae_tq (ae_tq (d ^^^ b)) < 256 := ae_x_lt hd v3
  refine lv_iload_n hx hb dX0_unmix_0 rfl (lv_at hl 0 rfl) ?_
  refine lv_iload_n hx hb dX0_unmix_1 rfl (lv_at hl 0 rfl) ?_
  refine lv_bipush (v := nI 16) hx hb dX0_unmix_2 (by decide) ?_
  refine kp_purei (v := nI ((ae_h4 a b c9 d) * 2 ^ 16 ||| (ae_h4 a b c9 d) / 2 ^ (32 - 16))) (va_runS (As := [.int (nI (ae_h4 a b c9 d)), .int (nI (16))]) (rest := [.int (nI (ae_h4 a b c9 d))]) ⟨hx, hb, hml, hown, htA⟩ (c_X0_turn l dC dI _ (ae_h4 a b c9 d) 16 hq (by omega) (by omega)) (va_cwS 2 htA (goodC_S mA_l17 mA_static_turn mA_code_turn mA_initialized) rfl rfl rfl (by decide +kernel) ⟨Nat.le_trans (Nat.le_of_ble_eq_true rfl) hf.1, Nat.le_trans (Nat.le_of_ble_eq_true rfl) hf.2⟩) (kp_preS (wc := []) kp_XT trivial hP hD hK hS hA [] rfl rfl rfl [] rfl) rfl rfl hl.1 rfl (lv_room (Nat.le_of_ble_eq_true rfl)) dX0_unmix_4 ⟨hc.1, hc.2⟩) hP hS hA (fun H locs hP hS => ?_)
  refine tw_i (y := nI (ae_h4 (c9) (d) (a) (b))) (ae_turn16 ha hb2 hc9 hd) ?_
  refine xi_ixor hx hb dX0_unmix_7 ?_
  refine tw_i (y := nI (ae_h4 (a ^^^ c9) (b ^^^ d) (c9 ^^^ a) (d ^^^ b))) (by rw [ae_x4 hb2 hc9 hd hd ha hb2]) ?_
  refine kp_purei (v := nI (ae_h4 (ae_tq (a ^^^ c9)) (ae_tq (b ^^^ d)) (ae_tq (c9 ^^^ a)) (ae_tq (d ^^^ b)))) (va_runS (As := [.int (nI (ae_h4 (a ^^^ c9) (b ^^^ d) (c9 ^^^ a) (d ^^^ b)))]) (rest := []) ⟨hx, hb, hml, hown, htA⟩ (c_X0_doubleEach l dC dI _ _ _ _ _ x0 x1 x2 x3) (va_cwS 1 htA (goodC_S mA_l28 mA_static_doubleEach mA_code_doubleEach mA_initialized) rfl rfl rfl (by decide +kernel) ⟨Nat.le_trans (Nat.le_of_ble_eq_true rfl) hf.1, Nat.le_trans (Nat.le_of_ble_eq_true rfl) hf.2⟩) (kp_preS (wc := []) kp_XT trivial hP hD hK hS hA [] rfl rfl rfl [] rfl) rfl rfl hl.1 rfl (lv_room (Nat.le_of_ble_eq_true rfl)) dX0_unmix_8 ⟨hc.1, hc.2⟩) hP hS hA (fun H locs hP hS => ?_)
  refine kp_purei (v := nI (ae_h4 (ae_tq (ae_tq (a ^^^ c9))) (ae_tq (ae_tq (b ^^^ d))) (ae_tq (ae_tq (c9 ^^^ a))) (ae_tq (ae_tq (d ^^^ b))))) (va_runS (As := [.int (nI (ae_h4 (ae_tq (a ^^^ c9)) (ae_tq (b ^^^ d)) (ae_tq (c9 ^^^ a)) (ae_tq (d ^^^ b))))]) (rest := []) ⟨hx, hb, hml, hown, htA⟩ (c_X0_doubleEach l dC dI _ _ _ _ _ u0 u1 u2 u3) (va_cwS 1 htA (goodC_S mA_l28 mA_static_doubleEach mA_code_doubleEach mA_initialized) rfl rfl rfl (by decide +kernel) ⟨Nat.le_trans (Nat.le_of_ble_eq_true rfl) hf.1, Nat.le_trans (Nat.le_of_ble_eq_true rfl) hf.2⟩) (kp_preS (wc := []) kp_XT trivial hP hD hK hS hA [] rfl rfl rfl [] rfl) rfl rfl hl.1 rfl (lv_room (Nat.le_of_ble_eq_true rfl)) dX0_unmix_11 ⟨hc.1, hc.2⟩) hP hS hA (fun H locs hP hS => ?_)
  refine lv_istore_n (nL := 2) (lv' := [(1, .int (nI (ae_h4 (ae_tq (ae_tq (a ^^^ c9))) (ae_tq (ae_tq (b ^^^ d))) (ae_tq (ae_tq (c9 ^^^ a))) (ae_tq (ae_tq (d ^^^ b)))))), (0, .int (nI (ae_h4 a b c9 d)))]) hx hb dX0_unmix_14 rfl hl (by decide) rfl (fun ls hl => ?_)
  refine lv_iload_n hx hb dX0_unmix_15 rfl (lv_at hl 1 rfl) ?_
  refine lv_iload_n hx hb dX0_unmix_16 rfl (lv_at hl 0 rfl) ?_
  refine xi_ixor hx hb dX0_unmix_17 ?_
  refine tw_i (y := nI (ae_h4 (a ^^^ ae_tq (ae_tq (a ^^^ c9))) (b ^^^ ae_tq (ae_tq (b ^^^ d))) (c9 ^^^ ae_tq (ae_tq (c9 ^^^ a))) (d ^^^ ae_tq (ae_tq (d ^^^ b))))) (by rw [ae_x4 hb2 hc9 hd v1 v2 v3]) ?_
  refine kp_purei (v := nI (ae_h4 (ae_mx (a ^^^ ae_tq (ae_tq (a ^^^ c9))) (b ^^^ ae_tq (ae_tq (b ^^^ d))) (c9 ^^^ ae_tq (ae_tq (c9 ^^^ a))) (d ^^^ ae_tq (ae_tq (d ^^^ b)))) (ae_mx (b ^^^ ae_tq (ae_tq (b ^^^ d))) (c9 ^^^ ae_tq (ae_tq (c9 ^^^ a))) (d ^^^ ae_tq (ae_tq (d ^^^ b))) (a ^^^ ae_tq (ae_tq (a ^^^ c9)))) (ae_mx (c9 ^^^ ae_tq (ae_tq (c9 ^^^ a))) (d ^^^ ae_tq (ae_tq (d ^^^ b))) (a ^^^ ae_tq (ae_tq (a ^^^ c9))) (b ^^^ ae_tq (ae_tq (b ^^^ d)))) (ae_mx (d ^^^ ae_tq (ae_tq (d ^^^ b))) (a ^^^ ae_tq (ae_tq (a ^^^ c9))) (b ^^^ ae_tq (ae_tq (b ^^^ d))) (c9 ^^^ ae_tq (ae_tq (c9 ^^^ a)))))) (va_runS (As := [.int (nI (ae_h4 (a ^^^ ae_tq (ae_tq (a ^^^ c9))) (b ^^^ ae_tq (ae_tq (b ^^^ d))) (c9 ^^^ ae_tq (ae_tq (c9 ^^^ a))) (d ^^^ ae_tq (ae_tq (d ^^^ b)))))]) (rest := []) ⟨hx, hb, hml, hown, htA⟩ (c_X0_mix l dC dI _ _ _ _ _ z0 z1 z2 z3) (va_cwS 1 htA (goodC_S mA_l32 mA_static_mix mA_code_mix mA_initialized) rfl rfl rfl (by decide +kernel) ⟨Nat.le_trans (Nat.le_of_ble_eq_true rfl) hf.1, Nat.le_trans (Nat.le_of_ble_eq_true rfl) hf.2⟩) (kp_preS (wc := []) kp_XT trivial hP hD hK hS hA [] rfl rfl rfl [] rfl) rfl rfl hl.1 rfl (lv_room (Nat.le_of_ble_eq_true rfl)) dX0_unmix_18 ⟨hc.1, hc.2⟩) hP hS hA (fun H locs hP hS => ?_)
  refine tw_i (y := nI (ae_h4 (ae_um a b c9 d) (ae_um b c9 d a) (ae_um c9 d a b) (ae_um d a b c9))) (by rw [ae_um_mx ha hb2 hc9 hd, ae_um_mx hb2 hc9 hd ha, ae_um_mx hc9 hd ha hb2, ae_um_mx hd ha hb2 hc9]) ?_
  exact kp_reti () hx hb hr rfl hlocks rfl hP hD hS dX0_unmix_21
