/-! new arrays of a known class; the reference's constructor -/
section
variable {p : Program} {l : Launch} {e : Env} {R : Room} {s : State} {m : MethodId} {args : Array Value} {below : List Frame} {meth : Method} {c : Code} {H H0 : Heap} {locs : List Loc} {cells slots : Nat} {Q : State → Prop} {cc : ByteArray} {pc : Nat} {ls : Array Slot} {rest : List Value} {D : va_G} {cl : List vw_C} {tys : List (ClassId × FieldType)} {ws : va_W} {A : Nat → Prop}
theorem xa_newi (hexec : p.tables.exec = Jvm.exec) (hb : c.code = cc) (harr : (Cond.arrayClass .int).before args s = true) (hK : va_K D cl tys s) (hP : va_P D cl ws H) (hD : va_D A ws) (hS : va_S A H0 H locs) (hA : ∀ q, H0.size ≤ q → A q) (t0 : Nat) {cA0 : ClassId} (ht : tys[t0]? = some (cA0, .int)) {n : Nat} (hn : n < 100000) (hcells : cells + 1 ≤ R.cells) (hslots : slots + n ≤ R.slots) (hdg : decode cc pc = .ok (.newarray .int, 2))
    (kk : ∀ (q : Nat) (H1 : Heap), va_P D cl (ws ++ [(q, .inl (cA0, n, .inl (fun _ => nI 0)))]) H1 → va_D A (ws ++ [(q, .inl (cA0, n, .inl (fun _ => nI 0)))]) → va_S A H0 H1 locs → W p l e R s m args below meth c H1 locs (cells + 1) (slots + n) Q (F0 m (pc + 2) ls (.ref q :: rest))) : W p l e R s m args below meth c H locs cells slots Q (F0 m pc ls (.int (nI n) :: rest)) := by
  refine va_newa hexec hb (atype := .int) harr rfl hK hP hD hS hA (a0 := (n, .inl (fun _ => nI 0))) (fun cA => rfl) (nI_pos (by omega)) (nI_clamp (by omega)) (show n * 4 ≤ 536870912 by omega) hcells hslots hdg (fun q cA H1 hK1 hP1 hD1 hS1 => ?_)
  have e1 := va_nm_int (hK.2 t0 _ ht).2
  have e2 := va_nm_int (hK1.2 tys.length (cA, .int) (by rw [List.getElem?_append_right (Nat.le_refl _), Nat.sub_self]; rfl)).2
  have e3 : cA0 = cA := Option.some.inj (e1.symm.trans e2)
  subst e3
  exact kk q H1 hP1 hD1 hS1
theorem xa_newl (hexec : p.tables.exec = Jvm.exec) (hb : c.code = cc) (harr : (Cond.arrayClass .long).before args s = true) (hK : va_K D cl tys s) (hP : va_P D cl ws H) (hD : va_D A ws) (hS : va_S A H0 H locs) (hA : ∀ q, H0.size ≤ q → A q) (t0 : Nat) {cA0 : ClassId} (ht : tys[t0]? = some (cA0, .long)) {n : Nat} (hn : n < 100000) (hcells : cells + 1 ≤ R.cells) (hslots : slots + n ≤ R.slots) (hdg : decode cc pc = .ok (.newarray .long, 2))
    (kk : ∀ (q : Nat) (H1 : Heap), va_P D cl (ws ++ [(q, .inl (cA0, n, .inr (.inl (fun _ => lN 0))))]) H1 → va_D A (ws ++ [(q, .inl (cA0, n, .inr (.inl (fun _ => lN 0))))]) → va_S A H0 H1 locs → W p l e R s m args below meth c H1 locs (cells + 1) (slots + n) Q (F0 m (pc + 2) ls (.ref q :: rest))) : W p l e R s m args below meth c H locs cells slots Q (F0 m pc ls (.int (nI n) :: rest)) := by
  refine va_newa hexec hb (atype := .long) harr rfl hK hP hD hS hA (a0 := (n, .inr (.inl (fun _ => lN 0)))) (fun cA => rfl) (nI_pos (by omega)) (nI_clamp (by omega)) (show n * 8 ≤ 536870912 by omega) hcells hslots hdg (fun q cA H1 hK1 hP1 hD1 hS1 => ?_)
  have e1 := va_nm_long (hK.2 t0 _ ht).2
  have e2 := va_nm_long (hK1.2 tys.length (cA, .long) (by rw [List.getElem?_append_right (Nat.le_refl _), Nat.sub_self]; rfl)).2
  have e3 : cA0 = cA := Option.some.inj (e1.symm.trans e2)
  subst e3
  exact kk q H1 hP1 hD1 hS1
end
section
variable {p : Program} {l : Launch} {e : Env} {R : Room} {s : State} {m : MethodId} {args : Array Value} {below : List Frame} {meth : Method} {c : Code} {cells slots : Nat} {Q : State → Prop} {dC : Nat → ClassId} {dI : Nat → Nat → Nat} {A : Nat → Prop}

set_option maxRecDepth 100000 in
set_option maxHeartbeats 4000000 in
theorem lp_init (hx : p.tables.exec = Jvm.exec) (hb : c.code = cM_init) (htA : ∀ w ∈ wsM_a, w.before args s = true) (hown : s.vm.findClass RM = some m.cls) (hml : c.maxLocals = 2) (hA : ∀ q, s.heap.size ≤ q → A q) (hc : cells ≤ R.cells ∧ slots ≤ R.slots) (hf : 2 ≤ R.frames ∧ 47 ≤ R.locals) {cI : ClassId} {ad : Nat → Nat} {th : Int32} {f0 f1 f4 f5 f6 f7 : Nat → Int32} (hK : va_K (dC, dI) mCl [(cI, .int)] s) 
    (kk : ∀ (g2 : Nat → Int32) (g3 : Nat → Int32) (ls : Array Slot) (H : Heap) (locs : List Loc), li_f 256 g2 ae_sb ∧ (∀ j, j < 256 → g3 (ae_sb j) = nI j) → lv_has ls 2 [(1, .int (nI (256))), (0, .ref (ad 8))] → va_P (dC, dI) mCl (wM cI ad (th) (f0) (f1) (g2) (g3) (f4) (f5) (f6) (f7)) H → va_D A (wM cI ad (th) (f0) (f1) (g2) (g3) (f4) (f5) (f6) (f7)) → va_S A s.heap H locs → W p l e R s m args below meth c H locs cells slots Q (F0 m 109 ls [])) :
    ∀ (j k : Nat) (g2 : Nat → Int32) (g3 : Nat → Int32) (ls : Array Slot) (H : Heap) (locs : List Loc), k + j = 256 → li_f k g2 ae_sb → (∀ j, j < k → g3 (ae_sb j) = nI j) → lv_has ls 2 [(1, .int (nI (k))), (0, .ref (ad 8))] → va_P (dC, dI) mCl (wM cI ad (th) (f0) (f1) (g2) (g3) (f4) (f5) (f6) (f7)) H → va_D A (wM cI ad (th) (f0) (f1) (g2) (g3) (f4) (f5) (f6) (f7)) → va_S A s.heap H locs → W p l e R s m args below meth c H locs cells slots Q (F0 m 74 ls []) := by
  intro j
  induction j with
  | zero =>
    intro k g2 g3 ls H locs hj i1 i2 hl hP hD hS
    have e : k = 256 := by omega
    subst e
    refine lv_iload_n hx hb dM_init_74 rfl (lv_at hl 0 rfl) ?_
    refine lv_sipush (v := nI 256) hx hb dM_init_75 (by decide) ?_
    refine xi_icmp_ge (tgt := 109) hx hb dM_init_78 (by decide) (by omega) (by omega) (fun hc0 => ?_) (fun h9 => absurd h9 (by omega))
    exact kk g2 g3 ls H locs ⟨i1, i2⟩ hl hP hD hS
  | succ j ih =>
    intro k g2 g3 ls H locs hj i1 i2 hl hP hD hS
    refine lv_iload_n hx hb dM_init_74 rfl (lv_at hl 0 rfl) ?_
    refine lv_sipush (v := nI 256) hx hb dM_init_75 (by decide) ?_
    refine xi_icmp_ge (tgt := 109) hx hb dM_init_78 (by decide) (by omega) (by omega) (fun h9 => absurd h9 (by omega)) (fun hc0 => ?_)
    refine lv_aload_n hx hb dM_init_81 rfl (lv_at hl 1 rfl) ?_
    refine va_get (D := (dC, dI)) (ci := 2) (v := .ref (ad 2)) (C := RM) (T := TM) (N := 9) hx hb htA inM0 hown hK hP 0 rfl rfl 2 (by decide) (htA _ mM_f16) (fun _ h9 => h9) rfl dM_init_82 ?_
    refine lv_iload_n hx hb dM_init_85 rfl (lv_at hl 0 rfl) ?_
    refine lv_iload_n hx hb dM_init_86 rfl (lv_at hl 0 rfl) ?_
    refine kp_purei (v := nI (ae_sb k)) (va_runS (As := [.int (nI (k))]) (rest := [.int (nI (k)), .ref (ad 2)]) ⟨hx, hb, hml, hown, htA⟩ (c_substitute l dC dI H.size k (by omega)) (va_cwS 1 htA (goodM_S mM_l34 mM_static_substitute mM_code_substitute) rfl rfl rfl (by decide +kernel) ⟨Nat.le_trans (Nat.le_of_ble_eq_true rfl) hf.1, Nat.le_trans (Nat.le_of_ble_eq_true rfl) hf.2⟩) (kp_preS (wc := []) kp_XT trivial hP hD hK hS hA [] rfl rfl rfl [] rfl) rfl rfl hl.1 rfl (lv_room (Nat.le_of_ble_eq_true rfl)) dM_init_87 ⟨hc.1, hc.2⟩) hP hS hA (fun H locs hP hS => ?_)
    have hsk := ae_sb_lt k (by omega)
    refine xa_ist hx hb hK hP hD hS 3 0 rfl rfl (by omega) (by omega) dM_init_90 (fun H locs hP hD hS => ?_)
    have hP : va_P (dC, dI) mCl (wM cI ad (th) (f0) (f1) (upd (g2) (k) (nI (ae_sb k))) (g3) (f4) (f5) (f6) (f7)) H := hP
    have hD : va_D A (wM cI ad (th) (f0) (f1) (upd (g2) (k) (nI (ae_sb k))) (g3) (f4) (f5) (f6) (f7)) := hD
    refine lv_aload_n hx hb dM_init_91 rfl (lv_at hl 1 rfl) ?_
    refine va_get (D := (dC, dI)) (ci := 2) (v := .ref (ad 3)) (C := RM) (T := TM) (N := 9) hx hb htA inM0 hown hK hP 0 rfl rfl 3 (by decide) (htA _ mM_f19) (fun _ h9 => h9) rfl dM_init_92 ?_
    refine lv_aload_n hx hb dM_init_95 rfl (lv_at hl 1 rfl) ?_
    refine va_get (D := (dC, dI)) (ci := 2) (v := .ref (ad 2)) (C := RM) (T := TM) (N := 9) hx hb htA inM0 hown hK hP 0 rfl rfl 2 (by decide) (htA _ mM_f16) (fun _ h9 => h9) rfl dM_init_96 ?_
    refine lv_iload_n hx hb dM_init_99 rfl (lv_at hl 0 rfl) ?_
    refine xa_ild hx hb hK hP 3 0 rfl rfl (by omega) (by omega) (v := nI (ae_sb k)) (pk_us) dM_init_100 ?_
    refine lv_iload_n hx hb dM_init_101 rfl (lv_at hl 0 rfl) ?_
    refine xa_ist hx hb hK hP hD hS 4 0 rfl rfl (by omega) (by omega) dM_init_102 (fun H locs hP hD hS => ?_)
    have hP : va_P (dC, dI) mCl (wM cI ad (th) (f0) (f1) (upd (g2) (k) (nI (ae_sb k))) (upd (g3) (ae_sb k) (nI (k))) (f4) (f5) (f6) (f7)) H := hP
    have hD : va_D A (wM cI ad (th) (f0) (f1) (upd (g2) (k) (nI (ae_sb k))) (upd (g3) (ae_sb k) (nI (k))) (f4) (f5) (f6) (f7)) := hD
    refine lv_iinc (k := 0) (v := nI (k + 1)) (nL := 2) (lv' := [(1, .int (nI (k + 1))), (0, .ref (ad 8))]) hx hb dM_init_103 hl rfl (nI_1 (k)) (by decide) rfl (fun ls hl => ?_)
    refine lv_goto (tgt := 74) hx hb dM_init_106 (by decide) ?_
    refine ih (k + 1) _ _ ls H locs (by omega) (li_fs i1 rfl) (fun j hj => ?_) hl hP hD hS
    rcases Nat.lt_or_ge j k with h | h
    · rw [pk_un (fun z => by have q1 := ae_ibsb j (by omega); rw [z, ae_ibsb k (by omega)] at q1; omega)]; exact i2 j h
    · rw [show j = k by omega]; exact pk_us
end
set_option maxRecDepth 100000 in
set_option maxHeartbeats 4000000 in
theorem c_init (l : Launch) (dC : Nat → ClassId) (dI : Nat → Nat → Nat) (cI : ClassId) (sz h0 : Nat) : kp_Mv l yM_init wsM_init { frames := 2, cells := 8, slots := 896, locals := 47 } (dC, dI) mCl [.ref h0] [(h0, .inr (2, [.null, .null, .null, .null, .null, .null, .null, .null, .int (nI 0)]))] [(cI, .int)] sz kp_T 8 896 (fun u : (Nat → Nat) × (Nat → Int32) × (Nat → Int32) => u.1 8 = h0 ∧ li_ag 256 u.2.1 ae_sb ∧ li_ag 256 u.2.2 ae_ib) (fun u => wM cI u.1 (nI 0) (fun _ => nI 0) (fun _ => nI 0) u.2.1 u.2.2 (fun _ => nI 0) (fun _ => nI 0) (fun _ => nI 0) (fun _ => nI 0)) := by
  refine kp_ofv (cc := cM_init) (maxL := 2) (ret := none) (by decide) rfl (Nat.le_of_ble_eq_true rfl) ?_
  intro p e s m args below meth c ls A hx hb hr hts hown hlocks hml hnm hA hsz hl hP hD hK hX hS
  have hown : s.vm.findClass RM = some m.cls := hown
  have hnm : meth.name = "<init>" := hnm
  have htA : ∀ w ∈ wsM_a, w.before args s = true := fun w h => hts w (List.mem_cons_of_mem _ h)
  have hf : 2 ≤ ({ frames := 2, cells := 8, slots := 896, locals := 47 } : Room).frames ∧ 47 ≤ ({ frames := 2, cells := 8, slots := 896, locals := 47 } : Room).locals := ⟨Nat.le_of_ble_eq_true rfl, Nat.le_of_ble_eq_true rfl⟩
  have hl : lv_has ls 2 [(0, .ref h0)] := hl
  refine lv_aload_n hx hb dM_init_0 rfl (lv_at hl 0 rfl) ?_
  refine W.objInit hx hb hown (htA _ mM_l1) (htA _ mM_instanceMethod_obj) (htA _ mM_code_obj) rfl (by rw [hml]; exact hl.1) rfl dM_init_1 (Nat.le_of_ble_eq_true rfl) (Nat.le_of_ble_eq_true rfl) ?_
  refine W.eq (g2 := F0 m 4 ls []) rfl ?_
  refine lv_aload_n hx hb dM_init_4 rfl (lv_at hl 0 rfl) ?_
  refine lv_bipush (v := nI 32) hx hb dM_init_5 (by decide) ?_
  refine xa_newi hx hb (htA _ mM_arrayClass) hK hP hD hS hA 0 rfl (n := 32) (by omega) (Nat.le_of_ble_eq_true rfl) (Nat.le_of_ble_eq_true rfl) dM_init_7 (fun q0 H hP hD hS => ?_)
  have hP : va_P (dC, dI) mCl [(h0, .inr (2, [.null, .null, .null, .null, .null, .null, .null, .null, .int (nI 0)])), (q0, .inl (cI, 32, .inl (fun _ => nI 0)))] H := hP
  have hD : va_D A [(h0, .inr (2, [.null, .null, .null, .null, .null, .null, .null, .null, .int (nI 0)])), (q0, .inl (cI, 32, .inl (fun _ => nI 0)))] := hD
  refine va_putF (D := (dC, dI)) (ci := 2) (v := .ref q0) (ty := .array .int) (C := RM) (T := TM) (N := 9) hx hb htA inM0 tyM tyM_ok nmM hown hK hP hD hS 0 rfl rfl 0 (by decide) (htA _ mM_f7) (fun _ h9 => h9) rfl hnm rfl (by decide +kernel) rfl rfl (Nat.le_of_ble_eq_true rfl) dM_init_9 (fun H locs hP hD hS => ?_)
  have hP : va_P (dC, dI) mCl [(h0, .inr (2, [.ref q0, .null, .null, .null, .null, .null, .null, .null, .int (nI 0)])), (q0, .inl (cI, 32, .inl (fun _ => nI 0)))] H := hP
  have hD : va_D A [(h0, .inr (2, [.ref q0, .null, .null, .null, .null, .null, .null, .null, .int (nI 0)])), (q0, .inl (cI, 32, .inl (fun _ => nI 0)))] := hD
  refine lv_aload_n hx hb dM_init_12 rfl (lv_at hl 0 rfl) ?_
  refine lv_sipush (v := nI 128) hx hb dM_init_13 (by decide) ?_
  refine xa_newi hx hb (htA _ mM_arrayClass) hK hP hD hS hA 0 rfl (n := 128) (by omega) (Nat.le_of_ble_eq_true rfl) (Nat.le_of_ble_eq_true rfl) dM_init_16 (fun q1 H hP hD hS => ?_)
  have hP : va_P (dC, dI) mCl [(h0, .inr (2, [.ref q0, .null, .null, .null, .null, .null, .null, .null, .int (nI 0)])), (q0, .inl (cI, 32, .inl (fun _ => nI 0))), (q1, .inl (cI, 128, .inl (fun _ => nI 0)))] H := hP
  have hD : va_D A [(h0, .inr (2, [.ref q0, .null, .null, .null, .null, .null, .null, .null, .int (nI 0)])), (q0, .inl (cI, 32, .inl (fun _ => nI 0))), (q1, .inl (cI, 128, .inl (fun _ => nI 0)))] := hD
  refine va_putF (D := (dC, dI)) (ci := 2) (v := .ref q1) (ty := .array .int) (C := RM) (T := TM) (N := 9) hx hb htA inM0 tyM tyM_ok nmM hown hK hP hD hS 0 rfl rfl 1 (by decide) (htA _ mM_f13) (fun _ h9 => h9) rfl hnm rfl (by decide +kernel) rfl rfl (Nat.le_of_ble_eq_true rfl) dM_init_18 (fun H locs hP hD hS => ?_)
  have hP : va_P (dC, dI) mCl [(h0, .inr (2, [.ref q0, .ref q1, .null, .null, .null, .null, .null, .null, .int (nI 0)])), (q0, .inl (cI, 32, .inl (fun _ => nI 0))), (q1, .inl (cI, 128, .inl (fun _ => nI 0)))] H := hP
  have hD : va_D A [(h0, .inr (2, [.ref q0, .ref q1, .null, .null, .null, .null, .null, .null, .int (nI 0)])), (q0, .inl (cI, 32, .inl (fun _ => nI 0))), (q1, .inl (cI, 128, .inl (fun _ => nI 0)))] := hD
  refine lv_aload_n hx hb dM_init_21 rfl (lv_at hl 0 rfl) ?_
  refine lv_sipush (v := nI 256) hx hb dM_init_22 (by decide) ?_
  refine xa_newi hx hb (htA _ mM_arrayClass) hK hP hD hS hA 0 rfl (n := 256) (by omega) (Nat.le_of_ble_eq_true rfl) (Nat.le_of_ble_eq_true rfl) dM_init_25 (fun q2 H hP hD hS => ?_)
  have hP : va_P (dC, dI) mCl [(h0, .inr (2, [.ref q0, .ref q1, .null, .null, .null, .null, .null, .null, .int (nI 0)])), (q0, .inl (cI, 32, .inl (fun _ => nI 0))), (q1, .inl (cI, 128, .inl (fun _ => nI 0))), (q2, .inl (cI, 256, .inl (fun _ => nI 0)))] H := hP
  have hD : va_D A [(h0, .inr (2, [.ref q0, .ref q1, .null, .null, .null, .null, .null, .null, .int (nI 0)])), (q0, .inl (cI, 32, .inl (fun _ => nI 0))), (q1, .inl (cI, 128, .inl (fun _ => nI 0))), (q2, .inl (cI, 256, .inl (fun _ => nI 0)))] := hD
  refine va_putF (D := (dC, dI)) (ci := 2) (v := .ref q2) (ty := .array .int) (C := RM) (T := TM) (N := 9) hx hb htA inM0 tyM tyM_ok nmM hown hK hP hD hS 0 rfl rfl 2 (by decide) (htA _ mM_f16) (fun _ h9 => h9) rfl hnm rfl (by decide +kernel) rfl rfl (Nat.le_of_ble_eq_true rfl) dM_init_27 (fun H locs hP hD hS => ?_)
  have hP : va_P (dC, dI) mCl [(h0, .inr (2, [.ref q0, .ref q1, .ref q2, .null, .null, .null, .null, .null, .int (nI 0)])), (q0, .inl (cI, 32, .inl (fun _ => nI 0))), (q1, .inl (cI, 128, .inl (fun _ => nI 0))), (q2, .inl (cI, 256, .inl (fun _ => nI 0)))] H := hP
  have hD : va_D A [(h0, .inr (2, [.ref q0, .ref q1, .ref q2, .null, .null, .null, .null, .null, .int (nI 0)])), (q0, .inl (cI, 32, .inl (fun _ => nI 0))), (q1, .inl (cI, 128, .inl (fun _ => nI 0))), (q2, .inl (cI, 256, .inl (fun _ => nI 0)))] := hD
  refine lv_aload_n hx hb dM_init_30 rfl (lv_at hl 0 rfl) ?_
  refine lv_sipush (v := nI 256) hx hb dM_init_31 (by decide) ?_
  refine xa_newi hx hb (htA _ mM_arrayClass) hK hP hD hS hA 0 rfl (n := 256) (by omega) (Nat.le_of_ble_eq_true rfl) (Nat.le_of_ble_eq_true rfl) dM_init_34 (fun q3 H hP hD hS => ?_)
  have hP : va_P (dC, dI) mCl [(h0, .inr (2, [.ref q0, .ref q1, .ref q2, .null, .null, .null, .null, .null, .int (nI 0)])), (q0, .inl (cI, 32, .inl (fun _ => nI 0))), (q1, .inl (cI, 128, .inl (fun _ => nI 0))), (q2, .inl (cI, 256, .inl (fun _ => nI 0))), (q3, .inl (cI, 256, .inl (fun _ => nI 0)))] H := hP
  have hD : va_D A [(h0, .inr (2, [.ref q0, .ref q1, .ref q2, .null, .null, .null, .null, .null, .int (nI 0)])), (q0, .inl (cI, 32, .inl (fun _ => nI 0))), (q1, .inl (cI, 128, .inl (fun _ => nI 0))), (q2, .inl (cI, 256, .inl (fun _ => nI 0))), (q3, .inl (cI, 256, .inl (fun _ => nI 0)))] := hD
  refine va_putF (D := (dC, dI)) (ci := 2) (v := .ref q3) (ty := .array .int) (C := RM) (T := TM) (N := 9) hx hb htA inM0 tyM tyM_ok nmM hown hK hP hD hS 0 rfl rfl 3 (by decide) (htA _ mM_f19) (fun _ h9 => h9) rfl hnm rfl (by decide +kernel) rfl rfl (Nat.le_of_ble_eq_true rfl) dM_init_36 (fun H locs hP hD hS => ?_)
  have hP : va_P (dC, dI) mCl [(h0, .inr (2, [.ref q0, .ref q1, .ref q2, .ref q3, .null, .null, .null, .null, .int (nI 0)])), (q0, .inl (cI, 32, .inl (fun _ => nI 0))), (q1, .inl (cI, 128, .inl (fun _ => nI 0))), (q2, .inl (cI, 256, .inl (fun _ => nI 0))), (q3, .inl (cI, 256, .inl (fun _ => nI 0)))] H := hP
  have hD : va_D A [(h0, .inr (2, [.ref q0, .ref q1, .ref q2, .ref q3, .null, .null, .null, .null, .int (nI 0)])), (q0, .inl (cI, 32, .inl (fun _ => nI 0))), (q1, .inl (cI, 128, .inl (fun _ => nI 0))), (q2, .inl (cI, 256, .inl (fun _ => nI 0))), (q3, .inl (cI, 256, .inl (fun _ => nI 0)))] := hD
  refine lv_aload_n hx hb dM_init_39 rfl (lv_at hl 0 rfl) ?_
  refine lv_sipush (v := nI 176) hx hb dM_init_40 (by decide) ?_
  refine xa_newi hx hb (htA _ mM_arrayClass) hK hP hD hS hA 0 rfl (n := 176) (by omega) (Nat.le_of_ble_eq_true rfl) (Nat.le_of_ble_eq_true rfl) dM_init_43 (fun q4 H hP hD hS => ?_)
  have hP : va_P (dC, dI) mCl [(h0, .inr (2, [.ref q0, .ref q1, .ref q2, .ref q3, .null, .null, .null, .null, .int (nI 0)])), (q0, .inl (cI, 32, .inl (fun _ => nI 0))), (q1, .inl (cI, 128, .inl (fun _ => nI 0))), (q2, .inl (cI, 256, .inl (fun _ => nI 0))), (q3, .inl (cI, 256, .inl (fun _ => nI 0))), (q4, .inl (cI, 176, .inl (fun _ => nI 0)))] H := hP
  have hD : va_D A [(h0, .inr (2, [.ref q0, .ref q1, .ref q2, .ref q3, .null, .null, .null, .null, .int (nI 0)])), (q0, .inl (cI, 32, .inl (fun _ => nI 0))), (q1, .inl (cI, 128, .inl (fun _ => nI 0))), (q2, .inl (cI, 256, .inl (fun _ => nI 0))), (q3, .inl (cI, 256, .inl (fun _ => nI 0))), (q4, .inl (cI, 176, .inl (fun _ => nI 0)))] := hD
  refine va_putF (D := (dC, dI)) (ci := 2) (v := .ref q4) (ty := .array .int) (C := RM) (T := TM) (N := 9) hx hb htA inM0 tyM tyM_ok nmM hown hK hP hD hS 0 rfl rfl 4 (by decide) (htA _ mM_f22) (fun _ h9 => h9) rfl hnm rfl (by decide +kernel) rfl rfl (Nat.le_of_ble_eq_true rfl) dM_init_45 (fun H locs hP hD hS => ?_)
  have hP : va_P (dC, dI) mCl [(h0, .inr (2, [.ref q0, .ref q1, .ref q2, .ref q3, .ref q4, .null, .null, .null, .int (nI 0)])), (q0, .inl (cI, 32, .inl (fun _ => nI 0))), (q1, .inl (cI, 128, .inl (fun _ => nI 0))), (q2, .inl (cI, 256, .inl (fun _ => nI 0))), (q3, .inl (cI, 256, .inl (fun _ => nI 0))), (q4, .inl (cI, 176, .inl (fun _ => nI 0)))] H := hP
  have hD : va_D A [(h0, .inr (2, [.ref q0, .ref q1, .ref q2, .ref q3, .ref q4, .null, .null, .null, .int (nI 0)])), (q0, .inl (cI, 32, .inl (fun _ => nI 0))), (q1, .inl (cI, 128, .inl (fun _ => nI 0))), (q2, .inl (cI, 256, .inl (fun _ => nI 0))), (q3, .inl (cI, 256, .inl (fun _ => nI 0))), (q4, .inl (cI, 176, .inl (fun _ => nI 0)))] := hD
  refine lv_aload_n hx hb dM_init_48 rfl (lv_at hl 0 rfl) ?_
  refine lv_bipush (v := nI 16) hx hb dM_init_49 (by decide) ?_
  refine xa_newi hx hb (htA _ mM_arrayClass) hK hP hD hS hA 0 rfl (n := 16) (by omega) (Nat.le_of_ble_eq_true rfl) (Nat.le_of_ble_eq_true rfl) dM_init_51 (fun q5 H hP hD hS => ?_)
  have hP : va_P (dC, dI) mCl [(h0, .inr (2, [.ref q0, .ref q1, .ref q2, .ref q3, .ref q4, .null, .null, .null, .int (nI 0)])), (q0, .inl (cI, 32, .inl (fun _ => nI 0))), (q1, .inl (cI, 128, .inl (fun _ => nI 0))), (q2, .inl (cI, 256, .inl (fun _ => nI 0))), (q3, .inl (cI, 256, .inl (fun _ => nI 0))), (q4, .inl (cI, 176, .inl (fun _ => nI 0))), (q5, .inl (cI, 16, .inl (fun _ => nI 0)))] H := hP
  have hD : va_D A [(h0, .inr (2, [.ref q0, .ref q1, .ref q2, .ref q3, .ref q4, .null, .null, .null, .int (nI 0)])), (q0, .inl (cI, 32, .inl (fun _ => nI 0))), (q1, .inl (cI, 128, .inl (fun _ => nI 0))), (q2, .inl (cI, 256, .inl (fun _ => nI 0))), (q3, .inl (cI, 256, .inl (fun _ => nI 0))), (q4, .inl (cI, 176, .inl (fun _ => nI 0))), (q5, .inl (cI, 16, .inl (fun _ => nI 0)))] := hD
  refine va_putF (D := (dC, dI)) (ci := 2) (v := .ref q5) (ty := .array .int) (C := RM) (T := TM) (N := 9) hx hb htA inM0 tyM tyM_ok nmM hown hK hP hD hS 0 rfl rfl 5 (by decide) (htA _ mM_f25) (fun _ h9 => h9) rfl hnm rfl (by decide +kernel) rfl rfl (Nat.le_of_ble_eq_true rfl) dM_init_53 (fun H locs hP hD hS => ?_)
  have hP : va_P (dC, dI) mCl [(h0, .inr (2, [.ref q0, .ref q1, .ref q2, .ref q3, .ref q4, .ref q5, .null, .null, .int (nI 0)])), (q0, .inl (cI, 32, .inl (fun _ => nI 0))), (q1, .inl (cI, 128, .inl (fun _ => nI 0))), (q2, .inl (cI, 256, .inl (fun _ => nI 0))), (q3, .inl (cI, 256, .inl (fun _ => nI 0))), (q4, .inl (cI, 176, .inl (fun _ => nI 0))), (q5, .inl (cI, 16, .inl (fun _ => nI 0)))] H := hP
  have hD : va_D A [(h0, .inr (2, [.ref q0, .ref q1, .ref q2, .ref q3, .ref q4, .ref q5, .null, .null, .int (nI 0)])), (q0, .inl (cI, 32, .inl (fun _ => nI 0))), (q1, .inl (cI, 128, .inl (fun _ => nI 0))), (q2, .inl (cI, 256, .inl (fun _ => nI 0))), (q3, .inl (cI, 256, .inl (fun _ => nI 0))), (q4, .inl (cI, 176, .inl (fun _ => nI 0))), (q5, .inl (cI, 16, .inl (fun _ => nI 0)))] := hD
  refine lv_aload_n hx hb dM_init_56 rfl (lv_at hl 0 rfl) ?_
  refine lv_bipush (v := nI 16) hx hb dM_init_57 (by decide) ?_
  refine xa_newi hx hb (htA _ mM_arrayClass) hK hP hD hS hA 0 rfl (n := 16) (by omega) (Nat.le_of_ble_eq_true rfl) (Nat.le_of_ble_eq_true rfl) dM_init_59 (fun q6 H hP hD hS => ?_)
  have hP : va_P (dC, dI) mCl [(h0, .inr (2, [.ref q0, .ref q1, .ref q2, .ref q3, .ref q4, .ref q5, .null, .null, .int (nI 0)])), (q0, .inl (cI, 32, .inl (fun _ => nI 0))), (q1, .inl (cI, 128, .inl (fun _ => nI 0))), (q2, .inl (cI, 256, .inl (fun _ => nI 0))), (q3, .inl (cI, 256, .inl (fun _ => nI 0))), (q4, .inl (cI, 176, .inl (fun _ => nI 0))), (q5, .inl (cI, 16, .inl (fun _ => nI 0))), (q6, .inl (cI, 16, .inl (fun _ => nI 0)))] H := hP
  have hD : va_D A [(h0, .inr (2, [.ref q0, .ref q1, .ref q2, .ref q3, .ref q4, .ref q5, .null, .null, .int (nI 0)])), (q0, .inl (cI, 32, .inl (fun _ => nI 0))), (q1, .inl (cI, 128, .inl (fun _ => nI 0))), (q2, .inl (cI, 256, .inl (fun _ => nI 0))), (q3, .inl (cI, 256, .inl (fun _ => nI 0))), (q4, .inl (cI, 176, .inl (fun _ => nI 0))), (q5, .inl (cI, 16, .inl (fun _ => nI 0))), (q6, .inl (cI, 16, .inl (fun _ => nI 0)))] := hD
  refine va_putF (D := (dC, dI)) (ci := 2) (v := .ref q6) (ty := .array .int) (C := RM) (T := TM) (N := 9) hx hb htA inM0 tyM tyM_ok nmM hown hK hP hD hS 0 rfl rfl 6 (by decide) (htA _ mM_f28) (fun _ h9 => h9) rfl hnm rfl (by decide +kernel) rfl rfl (Nat.le_of_ble_eq_true rfl) dM_init_61 (fun H locs hP hD hS => ?_)
  have hP : va_P (dC, dI) mCl [(h0, .inr (2, [.ref q0, .ref q1, .ref q2, .ref q3, .ref q4, .ref q5, .ref q6, .null, .int (nI 0)])), (q0, .inl (cI, 32, .inl (fun _ => nI 0))), (q1, .inl (cI, 128, .inl (fun _ => nI 0))), (q2, .inl (cI, 256, .inl (fun _ => nI 0))), (q3, .inl (cI, 256, .inl (fun _ => nI 0))), (q4, .inl (cI, 176, .inl (fun _ => nI 0))), (q5, .inl (cI, 16, .inl (fun _ => nI 0))), (q6, .inl (cI, 16, .inl (fun _ => nI 0)))] H := hP
  have hD : va_D A [(h0, .inr (2, [.ref q0, .ref q1, .ref q2, .ref q3, .ref q4, .ref q5, .ref q6, .null, .int (nI 0)])), (q0, .inl (cI, 32, .inl (fun _ => nI 0))), (q1, .inl (cI, 128, .inl (fun _ => nI 0))), (q2, .inl (cI, 256, .inl (fun _ => nI 0))), (q3, .inl (cI, 256, .inl (fun _ => nI 0))), (q4, .inl (cI, 176, .inl (fun _ => nI 0))), (q5, .inl (cI, 16, .inl (fun _ => nI 0))), (q6, .inl (cI, 16, .inl (fun _ => nI 0)))] := hD
  refine lv_aload_n hx hb dM_init_64 rfl (lv_at hl 0 rfl) ?_
  refine lv_bipush (v := nI 16) hx hb dM_init_65 (by decide) ?_
  refine xa_newi hx hb (htA _ mM_arrayClass) hK hP hD hS hA 0 rfl (n := 16) (by omega) (Nat.le_of_ble_eq_true rfl) (Nat.le_of_ble_eq_true rfl) dM_init_67 (fun q7 H hP hD hS => ?_)
  have hP : va_P (dC, dI) mCl [(h0, .inr (2, [.ref q0, .ref q1, .ref q2, .ref q3, .ref q4, .ref q5, .ref q6, .null, .int (nI 0)])), (q0, .inl (cI, 32, .inl (fun _ => nI 0))), (q1, .inl (cI, 128, .inl (fun _ => nI 0))), (q2, .inl (cI, 256, .inl (fun _ => nI 0))), (q3, .inl (cI, 256, .inl (fun _ => nI 0))), (q4, .inl (cI, 176, .inl (fun _ => nI 0))), (q5, .inl (cI, 16, .inl (fun _ => nI 0))), (q6, .inl (cI, 16, .inl (fun _ => nI 0))), (q7, .inl (cI, 16, .inl (fun _ => nI 0)))] H := hP
  have hD : va_D A [(h0, .inr (2, [.ref q0, .ref q1, .ref q2, .ref q3, .ref q4, .ref q5, .ref q6, .null, .int (nI 0)])), (q0, .inl (cI, 32, .inl (fun _ => nI 0))), (q1, .inl (cI, 128, .inl (fun _ => nI 0))), (q2, .inl (cI, 256, .inl (fun _ => nI 0))), (q3, .inl (cI, 256, .inl (fun _ => nI 0))), (q4, .inl (cI, 176, .inl (fun _ => nI 0))), (q5, .inl (cI, 16, .inl (fun _ => nI 0))), (q6, .inl (cI, 16, .inl (fun _ => nI 0))), (q7, .inl (cI, 16, .inl (fun _ => nI 0)))] := hD
  refine va_putF (D := (dC, dI)) (ci := 2) (v := .ref q7) (ty := .array .int) (C := RM) (T := TM) (N := 9) hx hb htA inM0 tyM tyM_ok nmM hown hK hP hD hS 0 rfl rfl 7 (by decide) (htA _ mM_f31) (fun _ h9 => h9) rfl hnm rfl (by decide +kernel) rfl rfl (Nat.le_of_ble_eq_true rfl) dM_init_69 (fun H locs hP hD hS => ?_)
  have hP : va_P (dC, dI) mCl [(h0, .inr (2, [.ref q0, .ref q1, .ref q2, .ref q3, .ref q4, .ref q5, .ref q6, .ref q7, .int (nI 0)])), (q0, .inl (cI, 32, .inl (fun _ => nI 0))), (q1, .inl (cI, 128, .inl (fun _ => nI 0))), (q2, .inl (cI, 256, .inl (fun _ => nI 0))), (q3, .inl (cI, 256, .inl (fun _ => nI 0))), (q4, .inl (cI, 176, .inl (fun _ => nI 0))), (q5, .inl (cI, 16, .inl (fun _ => nI 0))), (q6, .inl (cI, 16, .inl (fun _ => nI 0))), (q7, .inl (cI, 16, .inl (fun _ => nI 0)))] H := hP
  have hD : va_D A [(h0, .inr (2, [.ref q0, .ref q1, .ref q2, .ref q3, .ref q4, .ref q5, .ref q6, .ref q7, .int (nI 0)])), (q0, .inl (cI, 32, .inl (fun _ => nI 0))), (q1, .inl (cI, 128, .inl (fun _ => nI 0))), (q2, .inl (cI, 256, .inl (fun _ => nI 0))), (q3, .inl (cI, 256, .inl (fun _ => nI 0))), (q4, .inl (cI, 176, .inl (fun _ => nI 0))), (q5, .inl (cI, 16, .inl (fun _ => nI 0))), (q6, .inl (cI, 16, .inl (fun _ => nI 0))), (q7, .inl (cI, 16, .inl (fun _ => nI 0)))] := hD
  refine lv_iconst (v := nI 0) hx hb dM_init_72 (by decide) ?_
  refine lv_istore_n (nL := 2) (lv' := [(1, .int (nI (0))), (0, .ref h0)]) hx hb dM_init_73 rfl hl (by decide) rfl (fun ls hl => ?_)
  refine lp_init hx hb htA hown hml hA ⟨Nat.le_of_ble_eq_true rfl, Nat.le_of_ble_eq_true rfl⟩ hf (cI := cI) (ad := (fun k => ([q0, q1, q2, q3, q4, q5, q6, q7, h0] : List Nat).getD k 0)) (th := nI 0) (f0 := (fun _ => nI 0)) (f1 := (fun _ => nI 0)) (f4 := (fun _ => nI 0)) (f5 := (fun _ => nI 0)) (f6 := (fun _ => nI 0)) (f7 := (fun _ => nI 0)) hK (fun g2 g3 ls H locs hg hl hP hD hS => ?_) 256 0 (fun _ => nI 0) (fun _ => nI 0) ls H locs (by omega) li_f0 (fun j hj => by omega) hl hP hD hS
  exact kp_retv ((fun k => ([q0, q1, q2, q3, q4, q5, q6, q7, h0] : List Nat).getD k 0), g2, g3) hx hb hr hlocks ⟨rfl, hg.1, fun k hk => by have q1 := hg.2 (ae_ib k) (ae_ib_lt k hk); rwa [ae_sbib k hk] at q1⟩ hP hD hS dM_init_109
