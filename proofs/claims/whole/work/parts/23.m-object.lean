/-! the reference's object: thrown, isIn, add, turn, mix -/
abbrev wM (cI : ClassId) (ad : Nat → Nat) (th : Int32) (f0 f1 f2 f3 f4 f5 f6 f7 : Nat → Int32) : va_W := [(ad 8, .inr (2, [.ref (ad 0), .ref (ad 1), .ref (ad 2), .ref (ad 3), .ref (ad 4), .ref (ad 5), .ref (ad 6), .ref (ad 7), .int th])), (ad 0, .inl (cI, 32, .inl f0)), (ad 1, .inl (cI, 128, .inl f1)), (ad 2, .inl (cI, 256, .inl f2)), (ad 3, .inl (cI, 256, .inl f3)), (ad 4, .inl (cI, 176, .inl f4)), (ad 5, .inl (cI, 16, .inl f5)), (ad 6, .inl (cI, 16, .inl f6)), (ad 7, .inl (cI, 16, .inl f7))]
set_option maxRecDepth 100000 in
set_option maxHeartbeats 4000000 in
theorem c_thrown (l : Launch) (dC : Nat → ClassId) (dI : Nat → Nat → Nat) (cI : ClassId) (ad : Nat → Nat) (th : Int32) (f0 f1 f2 f3 f4 f5 f6 f7 : Nat → Int32) (sz : Nat)  : kp_Mi l yM_thrown wsM_thrown { frames := 0, cells := 0, slots := 0, locals := 0 } (dC, dI) mCl [.ref (ad 8)] (wM cI ad (th) (f0) (f1) (f2) (f3) (f4) (f5) (f6) (f7)) [(cI, .int)] sz kp_T (fun (r : Int32) (_ : Unit) => r = th) (fun _ => (wM cI ad (th) (f0) (f1) (f2) (f3) (f4) (f5) (f6) (f7))) := by
  refine kp_ofi (cc := cM_thrown) (maxL := 1) (ret := some .int) (by decide) rfl (Nat.le_of_ble_eq_true rfl) ?_
  intro p e s m args below meth c ls A hx hb hr hts hown hlocks hml hnm hA hsz hl hP hD hK hX hS
  have hown : s.vm.findClass RM = some m.cls := hown
  have htA : ∀ w ∈ wsM_a, w.before args s = true := fun w h => hts w (List.mem_cons_of_mem _ h)
  have hf : 0 ≤ ({ frames := 0, cells := 0, slots := 0, locals := 0 } : Room).frames ∧ 0 ≤ ({ frames := 0, cells := 0, slots := 0, locals := 0 } : Room).locals := ⟨Nat.le_of_ble_eq_true rfl, Nat.le_of_ble_eq_true rfl⟩
  have hc : 0 ≤ ({ frames := 0, cells := 0, slots := 0, locals := 0 } : Room).cells ∧ 0 ≤ ({ frames := 0, cells := 0, slots := 0, locals := 0 } : Room).slots := ⟨Nat.zero_le _, Nat.zero_le _⟩
  have hl : lv_has ls 1 [(0, .ref (ad 8))] := hl
  refine lv_aload_n hx hb dM_thrown_0 rfl (lv_at hl 0 rfl) ?_
  refine va_get (D := (dC, dI)) (ci := 2) (v := .int (th)) (C := RM) (T := TM) (N := 9) hx hb htA inM0 hown hK hP 0 rfl rfl 8 (by decide) (htA _ mM_f38) (fun _ h9 => h9) rfl dM_thrown_1 ?_
  exact kp_reti () hx hb hr rfl hlocks rfl hP hD hS dM_thrown_4
set_option maxRecDepth 100000 in
set_option maxHeartbeats 4000000 in
theorem c_isIn_t (l : Launch) (dC : Nat → ClassId) (dI : Nat → Nat → Nat) (cI : ClassId) (ad : Nat → Nat) (th : Int32) (f0 f1 f2 f3 f4 f5 f6 f7 : Nat → Int32) (sz : Nat) (E : Nat) (hE : E < 2147483648) (i : Nat) (hi : i < E) : kp_Mi l yM_isIn wsM_isIn { frames := 0, cells := 0, slots := 0, locals := 0 } (dC, dI) mCl [.ref (ad 8), .int (nI i), .int (nI E)] (wM cI ad (th) (f0) (f1) (f2) (f3) (f4) (f5) (f6) (f7)) [(cI, .int)] sz kp_T (fun (r : Int32) (_ : Unit) => r = nI 1) (fun _ => (wM cI ad (nI 0) (f0) (f1) (f2) (f3) (f4) (f5) (f6) (f7))) := by
  refine kp_ofi (cc := cM_isIn) (maxL := 3) (ret := some .boolean) (by decide) rfl (Nat.le_of_ble_eq_true rfl) ?_
  intro p e s m args below meth c ls A hx hb hr hts hown hlocks hml hnm hA hsz hl hP hD hK hX hS
  have hown : s.vm.findClass RM = some m.cls := hown
  have htA : ∀ w ∈ wsM_a, w.before args s = true := fun w h => hts w (List.mem_cons_of_mem _ h)
  have hf : 0 ≤ ({ frames := 0, cells := 0, slots := 0, locals := 0 } : Room).frames ∧ 0 ≤ ({ frames := 0, cells := 0, slots := 0, locals := 0 } : Room).locals := ⟨Nat.le_of_ble_eq_true rfl, Nat.le_of_ble_eq_true rfl⟩
  have hc : 0 ≤ ({ frames := 0, cells := 0, slots := 0, locals := 0 } : Room).cells ∧ 0 ≤ ({ frames := 0, cells := 0, slots := 0, locals := 0 } : Room).slots := ⟨Nat.zero_le _, Nat.zero_le _⟩
  have hl : lv_has ls 3 [(0, .ref (ad 8)), (1, .int (nI (i))), (2, .int (nI (E)))] := hl
  refine lv_aload_n hx hb dM_isIn_0 rfl (lv_at hl 0 rfl) ?_
  refine lv_iload_n hx hb dM_isIn_1 rfl (lv_at hl 1 rfl) ?_
  refine lv_if_lt (tgt := 10) hx hb dM_isIn_2 (by decide) (fun h9 => absurd h9 (nI_pos (by omega))) (fun hc0 => ?_)
  refine lv_iload_n hx hb dM_isIn_5 rfl (lv_at hl 1 rfl) ?_
  refine lv_iload_n hx hb dM_isIn_6 rfl (lv_at hl 2 rfl) ?_
  refine xi_icmp_lt (tgt := 14) hx hb dM_isIn_7 (by decide) (by omega) (by omega) (fun hc1 => ?_) (fun h9 => absurd h9 (by omega))
  refine lv_iconst (v := nI 0) hx hb dM_isIn_14 (by decide) ?_
  refine va_put (D := (dC, dI)) (ci := 2) (v := .int (nI (0))) (ty := .int) (C := RM) (T := TM) (N := 9) hx hb htA inM0 tyM tyM_ok nmM hown hK hP hD hS 0 rfl rfl 8 (by decide) (htA _ mM_f38) (fun _ h9 => h9) rfl (by decide +kernel) rfl rfl (Nat.le_of_ble_eq_true rfl) dM_isIn_15 (fun H locs hP hD hS => ?_)
  have hP : va_P (dC, dI) mCl (wM cI ad (nI (0)) (f0) (f1) (f2) (f3) (f4) (f5) (f6) (f7)) H := hP
  have hD : va_D A (wM cI ad (nI (0)) (f0) (f1) (f2) (f3) (f4) (f5) (f6) (f7)) := hD
  refine lv_aload_n hx hb dM_isIn_18 rfl (lv_at hl 0 rfl) ?_
  refine va_get (D := (dC, dI)) (ci := 2) (v := .int (nI (0))) (C := RM) (T := TM) (N := 9) hx hb htA inM0 hown hK hP 0 rfl rfl 8 (by decide) (htA _ mM_f38) (fun _ h9 => h9) rfl dM_isIn_19 ?_
  refine xi_if_ne (tgt := 29) hx hb dM_isIn_22 (by decide) (by omega) (fun h9 => absurd h9 (fun h => h rfl)) (fun hc9 => ?_)
  refine lv_iconst (v := nI 1) hx hb dM_isIn_25 (by decide) ?_
  refine lv_goto (tgt := 30) hx hb dM_isIn_26 (by decide) ?_
  exact kp_reti () hx hb hr rfl hlocks rfl hP hD hS dM_isIn_30
set_option maxRecDepth 100000 in
set_option maxHeartbeats 4000000 in
theorem c_isIn_f (l : Launch) (dC : Nat → ClassId) (dI : Nat → Nat → Nat) (cI : ClassId) (ad : Nat → Nat) (th : Int32) (f0 f1 f2 f3 f4 f5 f6 f7 : Nat → Int32) (sz : Nat) (E : Nat) (hE : E < 2147483648) (i : Int32) (hi : i < 0 ∨ nI E ≤ i) : kp_Mi l yM_isIn wsM_isIn { frames := 0, cells := 0, slots := 0, locals := 0 } (dC, dI) mCl [.ref (ad 8), .int (i), .int (nI E)] (wM cI ad (th) (f0) (f1) (f2) (f3) (f4) (f5) (f6) (f7)) [(cI, .int)] sz kp_T (fun (r : Int32) (_ : Unit) => r = nI 0) (fun _ => (wM cI ad (nI 1) (f0) (f1) (f2) (f3) (f4) (f5) (f6) (f7))) := by
  refine kp_ofi (cc := cM_isIn) (maxL := 3) (ret := some .boolean) (by decide) rfl (Nat.le_of_ble_eq_true rfl) ?_
  intro p e s m args below meth c ls A hx hb hr hts hown hlocks hml hnm hA hsz hl hP hD hK hX hS
  have hown : s.vm.findClass RM = some m.cls := hown
  have htA : ∀ w ∈ wsM_a, w.before args s = true := fun w h => hts w (List.mem_cons_of_mem _ h)
  have hf : 0 ≤ ({ frames := 0, cells := 0, slots := 0, locals := 0 } : Room).frames ∧ 0 ≤ ({ frames := 0, cells := 0, slots := 0, locals := 0 } : Room).locals := ⟨Nat.le_of_ble_eq_true rfl, Nat.le_of_ble_eq_true rfl⟩
  have hc : 0 ≤ ({ frames := 0, cells := 0, slots := 0, locals := 0 } : Room).cells ∧ 0 ≤ ({ frames := 0, cells := 0, slots := 0, locals := 0 } : Room).slots := ⟨Nat.zero_le _, Nat.zero_le _⟩
  have hl : lv_has ls 3 [(0, .ref (ad 8)), (1, .int (i)), (2, .int (nI (E)))] := hl
  refine lv_aload_n hx hb dM_isIn_0 rfl (lv_at hl 0 rfl) ?_
  refine lv_iload_n hx hb dM_isIn_1 rfl (lv_at hl 1 rfl) ?_
  refine lv_if_lt (tgt := 10) hx hb dM_isIn_2 (by decide) (fun hc0 => ?_) (fun hc0 => ?_)
  · refine lv_iconst (v := nI 1) hx hb dM_isIn_10 (by decide) ?_
    refine lv_goto (tgt := 15) hx hb dM_isIn_11 (by decide) ?_
    refine va_put (D := (dC, dI)) (ci := 2) (v := .int (nI (1))) (ty := .int) (C := RM) (T := TM) (N := 9) hx hb htA inM0 tyM tyM_ok nmM hown hK hP hD hS 0 rfl rfl 8 (by decide) (htA _ mM_f38) (fun _ h9 => h9) rfl (by decide +kernel) rfl rfl (Nat.le_of_ble_eq_true rfl) dM_isIn_15 (fun H locs hP hD hS => ?_)
    have hP : va_P (dC, dI) mCl (wM cI ad (nI (1)) (f0) (f1) (f2) (f3) (f4) (f5) (f6) (f7)) H := hP
    have hD : va_D A (wM cI ad (nI (1)) (f0) (f1) (f2) (f3) (f4) (f5) (f6) (f7)) := hD
    refine lv_aload_n hx hb dM_isIn_18 rfl (lv_at hl 0 rfl) ?_
    refine va_get (D := (dC, dI)) (ci := 2) (v := .int (nI (1))) (C := RM) (T := TM) (N := 9) hx hb htA inM0 hown hK hP 0 rfl rfl 8 (by decide) (htA _ mM_f38) (fun _ h9 => h9) rfl dM_isIn_19 ?_
    refine xi_if_ne (tgt := 29) hx hb dM_isIn_22 (by decide) (by omega) (fun hc9 => ?_) (fun h9 => absurd h9 (by decide))
    refine lv_iconst (v := nI 0) hx hb dM_isIn_29 (by decide) ?_
    exact kp_reti () hx hb hr rfl hlocks rfl hP hD hS dM_isIn_30
  · refine lv_iload_n hx hb dM_isIn_5 rfl (lv_at hl 1 rfl) ?_
    refine lv_iload_n hx hb dM_isIn_6 rfl (lv_at hl 2 rfl) ?_
    refine lv_icmp_lt (tgt := 14) hx hb dM_isIn_7 (by decide) (fun h9 => absurd h9 (by rcases hi with h | h; exact fun _ => hc0 h; exact Int32.not_lt.mpr h)) (fun hc1 => ?_)
    refine lv_iconst (v := nI 1) hx hb dM_isIn_10 (by decide) ?_
    refine lv_goto (tgt := 15) hx hb dM_isIn_11 (by decide) ?_
    refine va_put (D := (dC, dI)) (ci := 2) (v := .int (nI (1))) (ty := .int) (C := RM) (T := TM) (N := 9) hx hb htA inM0 tyM tyM_ok nmM hown hK hP hD hS 0 rfl rfl 8 (by decide) (htA _ mM_f38) (fun _ h9 => h9) rfl (by decide +kernel) rfl rfl (Nat.le_of_ble_eq_true rfl) dM_isIn_15 (fun H locs hP hD hS => ?_)
    have hP : va_P (dC, dI) mCl (wM cI ad (nI (1)) (f0) (f1) (f2) (f3) (f4) (f5) (f6) (f7)) H := hP
    have hD : va_D A (wM cI ad (nI (1)) (f0) (f1) (f2) (f3) (f4) (f5) (f6) (f7)) := hD
    refine lv_aload_n hx hb dM_isIn_18 rfl (lv_at hl 0 rfl) ?_
    refine va_get (D := (dC, dI)) (ci := 2) (v := .int (nI (1))) (C := RM) (T := TM) (N := 9) hx hb htA inM0 hown hK hP 0 rfl rfl 8 (by decide) (htA _ mM_f38) (fun _ h9 => h9) rfl dM_isIn_19 ?_
    refine xi_if_ne (tgt := 29) hx hb dM_isIn_22 (by decide) (by omega) (fun hc9 => ?_) (fun h9 => absurd h9 (by decide))
    refine lv_iconst (v := nI 0) hx hb dM_isIn_29 (by decide) ?_
    exact kp_reti () hx hb hr rfl hlocks rfl hP hD hS dM_isIn_30
section
variable {p : Program} {l : Launch} {e : Env} {R : Room} {s : State} {m : MethodId} {args : Array Value} {below : List Frame} {meth : Method} {c : Code} {cells slots : Nat} {Q : State → Prop} {dC : Nat → ClassId} {dI : Nat → Nat → Nat} {A : Nat → Prop}

set_option maxRecDepth 100000 in
set_option maxHeartbeats 4000000 in
theorem lp_add (hx : p.tables.exec = Jvm.exec) (hb : c.code = cM_add) (htA : ∀ w ∈ wsM_a, w.before args s = true) (hown : s.vm.findClass RM = some m.cls) (hml : c.maxLocals = 3) (hA : ∀ q, s.heap.size ≤ q → A q) (hc : cells ≤ R.cells ∧ slots ≤ R.slots) (hf : 0 ≤ R.frames ∧ 0 ≤ R.locals) {cI : ClassId} {ad : Nat → Nat} {th : Int32} {f0 f1 f2 f3 f4 f6 f7 : Nat → Int32} (hK : va_K (dC, dI) mCl [(cI, .int)] s) {S K : Nat → Nat} {r : Nat} (hr10 : r ≤ 10) (hk4 : li_ag 176 f4 K)
    (kk : ∀ (g : Nat → Int32) (ls : Array Slot) (H : Heap) (locs : List Loc), li_ag 16 g (fun k => S k ^^^ K (16 * r + k)) → lv_has ls 3 [(2, .int (nI (16))), (0, .ref (ad 8)), (1, .int (nI (r)))] → va_P (dC, dI) mCl (wM cI ad (th) (f0) (f1) (f2) (f3) (f4) (g) (f6) (f7)) H → va_D A (wM cI ad (th) (f0) (f1) (f2) (f3) (f4) (g) (f6) (f7)) → va_S A s.heap H locs → W p l e R s m args below meth c H locs cells slots Q (F0 m 38 ls [])) :
    ∀ (j k : Nat) (g : Nat → Int32) (ls : Array Slot) (H : Heap) (locs : List Loc), k + j = 16 → li_in 16 k g S (fun k => S k ^^^ K (16 * r + k)) → lv_has ls 3 [(2, .int (nI (k))), (0, .ref (ad 8)), (1, .int (nI (r)))] → va_P (dC, dI) mCl (wM cI ad (th) (f0) (f1) (f2) (f3) (f4) (g) (f6) (f7)) H → va_D A (wM cI ad (th) (f0) (f1) (f2) (f3) (f4) (g) (f6) (f7)) → va_S A s.heap H locs → W p l e R s m args below meth c H locs cells slots Q (F0 m 2 ls []) := by
  intro j
  induction j with
  | zero =>
    intro k g ls H locs hj i1 hl hP hD hS
    have e : k = 16 := by omega
    subst e
    refine lv_iload_n hx hb dM_add_2 rfl (lv_at hl 0 rfl) ?_
    refine lv_bipush (v := nI 16) hx hb dM_add_3 (by decide) ?_
    refine xi_icmp_ge (tgt := 38) hx hb dM_add_5 (by decide) (by omega) (by omega) (fun hc0 => ?_) (fun h9 => absurd h9 (by omega))
    exact kk g ls H locs (li_e i1) hl hP hD hS
  | succ j ih =>
    intro k g ls H locs hj i1 hl hP hD hS
    refine lv_iload_n hx hb dM_add_2 rfl (lv_at hl 0 rfl) ?_
    refine lv_bipush (v := nI 16) hx hb dM_add_3 (by decide) ?_
    refine xi_icmp_ge (tgt := 38) hx hb dM_add_5 (by decide) (by omega) (by omega) (fun h9 => absurd h9 (by omega)) (fun hc0 => ?_)
    refine lv_aload_n hx hb dM_add_8 rfl (lv_at hl 1 rfl) ?_
    refine va_get (D := (dC, dI)) (ci := 2) (v := .ref (ad 5)) (C := RM) (T := TM) (N := 9) hx hb htA inM0 hown hK hP 0 rfl rfl 5 (by decide) (htA _ mM_f25) (fun _ h9 => h9) rfl dM_add_9 ?_
    refine lv_iload_n hx hb dM_add_12 rfl (lv_at hl 0 rfl) ?_
    refine lv_aload_n hx hb dM_add_13 rfl (lv_at hl 1 rfl) ?_
    refine va_get (D := (dC, dI)) (ci := 2) (v := .ref (ad 5)) (C := RM) (T := TM) (N := 9) hx hb htA inM0 hown hK hP 0 rfl rfl 5 (by decide) (htA _ mM_f25) (fun _ h9 => h9) rfl dM_add_14 ?_
    refine lv_iload_n hx hb dM_add_17 rfl (lv_at hl 0 rfl) ?_
    refine xa_ild hx hb hK hP 6 0 rfl rfl (by omega) (by omega) (v := nI (S k)) (i1.2 k (Nat.le_refl k) (by omega)) dM_add_18 ?_
    refine lv_aload_n hx hb dM_add_19 rfl (lv_at hl 1 rfl) ?_
    refine va_get (D := (dC, dI)) (ci := 2) (v := .ref (ad 4)) (C := RM) (T := TM) (N := 9) hx hb htA inM0 hown hK hP 0 rfl rfl 4 (by decide) (htA _ mM_f22) (fun _ h9 => h9) rfl dM_add_20 ?_
    refine lv_bipush (v := nI 16) hx hb dM_add_23 (by decide) ?_
    refine lv_iload_n hx hb dM_add_25 rfl (lv_at hl 2 rfl) ?_
    refine xi_imul hx hb dM_add_26 ?_
    refine lv_iload_n hx hb dM_add_27 rfl (lv_at hl 0 rfl) ?_
    refine xi_iadd hx hb dM_add_28 ?_
    refine xa_ild hx hb hK hP 5 0 rfl rfl (by omega) (by omega) (v := nI (K (16 * r + k))) (hk4 _ (by omega)) dM_add_29 ?_
    refine xi_ixor hx hb dM_add_30 ?_
    refine xa_ist hx hb hK hP hD hS 6 0 rfl rfl (by omega) (by omega) dM_add_31 (fun H locs hP hD hS => ?_)
    have hP : va_P (dC, dI) mCl (wM cI ad (th) (f0) (f1) (f2) (f3) (f4) (upd (g) (k) (nI ((S k) ^^^ (K (16 * r + k))))) (f6) (f7)) H := hP
    have hD : va_D A (wM cI ad (th) (f0) (f1) (f2) (f3) (f4) (upd (g) (k) (nI ((S k) ^^^ (K (16 * r + k))))) (f6) (f7)) := hD
    refine lv_iinc (k := 0) (v := nI (k + 1)) (nL := 3) (lv' := [(2, .int (nI (k + 1))), (0, .ref (ad 8)), (1, .int (nI (r)))]) hx hb dM_add_32 hl rfl (nI_1 (k)) (by decide) rfl (fun ls hl => ?_)
    refine lv_goto (tgt := 2) hx hb dM_add_35 (by decide) ?_
    exact ih (k + 1) _ ls H locs (by omega) (li_s i1 rfl) hl hP hD hS
set_option maxRecDepth 100000 in
set_option maxHeartbeats 4000000 in
theorem lp_turn1 (hx : p.tables.exec = Jvm.exec) (hb : c.code = cM_turn) (htA : ∀ w ∈ wsM_a, w.before args s = true) (hown : s.vm.findClass RM = some m.cls) (hml : c.maxLocals = 3) (hA : ∀ q, s.heap.size ≤ q → A q) (hc : cells ≤ R.cells ∧ slots ≤ R.slots) (hf : 0 ≤ R.frames ∧ 0 ≤ R.locals) {cI : ClassId} {ad : Nat → Nat} {th : Int32} {f0 f1 f2 f3 f4 f5 f7 : Nat → Int32} (hK : va_K (dC, dI) mCl [(cI, .int)] s) {S : Nat → Nat} (hk5 : li_ag 16 f5 S) {by_ : Int32}
    (kk : ∀ (g : Nat → Int32) (ls : Array Slot) (H : Heap) (locs : List Loc), li_f 16 g S → lv_has ls 3 [(2, .int (nI (16))), (0, .ref (ad 8)), (1, .int (by_))] → va_P (dC, dI) mCl (wM cI ad (th) (f0) (f1) (f2) (f3) (f4) (f5) (g) (f7)) H → va_D A (wM cI ad (th) (f0) (f1) (f2) (f3) (f4) (f5) (g) (f7)) → va_S A s.heap H locs → W p l e R s m args below meth c H locs cells slots Q (F0 m 26 ls [])) :
    ∀ (j k : Nat) (g : Nat → Int32) (ls : Array Slot) (H : Heap) (locs : List Loc), k + j = 16 → li_f k g S → lv_has ls 3 [(2, .int (nI (k))), (0, .ref (ad 8)), (1, .int (by_))] → va_P (dC, dI) mCl (wM cI ad (th) (f0) (f1) (f2) (f3) (f4) (f5) (g) (f7)) H → va_D A (wM cI ad (th) (f0) (f1) (f2) (f3) (f4) (f5) (g) (f7)) → va_S A s.heap H locs → W p l e R s m args below meth c H locs cells slots Q (F0 m 2 ls []) := by
  intro j
  induction j with
  | zero =>
    intro k g ls H locs hj i1 hl hP hD hS
    have e : k = 16 := by omega
    subst e
    refine lv_iload_n hx hb dM_turn_2 rfl (lv_at hl 0 rfl) ?_
    refine lv_bipush (v := nI 16) hx hb dM_turn_3 (by decide) ?_
    refine xi_icmp_ge (tgt := 26) hx hb dM_turn_5 (by decide) (by omega) (by omega) (fun hc0 => ?_) (fun h9 => absurd h9 (by omega))
    exact kk g ls H locs i1 hl hP hD hS
  | succ j ih =>
    intro k g ls H locs hj i1 hl hP hD hS
    refine lv_iload_n hx hb dM_turn_2 rfl (lv_at hl 0 rfl) ?_
    refine lv_bipush (v := nI 16) hx hb dM_turn_3 (by decide) ?_
    refine xi_icmp_ge (tgt := 26) hx hb dM_turn_5 (by decide) (by omega) (by omega) (fun h9 => absurd h9 (by omega)) (fun hc0 => ?_)
    refine lv_aload_n hx hb dM_turn_8 rfl (lv_at hl 1 rfl) ?_
    refine va_get (D := (dC, dI)) (ci := 2) (v := .ref (ad 6)) (C := RM) (T := TM) (N := 9) hx hb htA inM0 hown hK hP 0 rfl rfl 6 (by decide) (htA _ mM_f28) (fun _ h9 => h9) rfl dM_turn_9 ?_
    refine lv_iload_n hx hb dM_turn_12 rfl (lv_at hl 0 rfl) ?_
    refine lv_aload_n hx hb dM_turn_13 rfl (lv_at hl 1 rfl) ?_
    refine va_get (D := (dC, dI)) (ci := 2) (v := .ref (ad 5)) (C := RM) (T := TM) (N := 9) hx hb htA inM0 hown hK hP 0 rfl rfl 5 (by decide) (htA _ mM_f25) (fun _ h9 => h9) rfl dM_turn_14 ?_
    refine lv_iload_n hx hb dM_turn_17 rfl (lv_at hl 0 rfl) ?_
    refine xa_ild hx hb hK hP 6 0 rfl rfl (by omega) (by omega) (v := nI (S k)) (hk5 k (by omega)) dM_turn_18 ?_
    refine xa_ist hx hb hK hP hD hS 7 0 rfl rfl (by omega) (by omega) dM_turn_19 (fun H locs hP hD hS => ?_)
    have hP : va_P (dC, dI) mCl (wM cI ad (th) (f0) (f1) (f2) (f3) (f4) (f5) (upd (g) (k) (nI (S k))) (f7)) H := hP
    have hD : va_D A (wM cI ad (th) (f0) (f1) (f2) (f3) (f4) (f5) (upd (g) (k) (nI (S k))) (f7)) := hD
    refine lv_iinc (k := 0) (v := nI (k + 1)) (nL := 3) (lv' := [(2, .int (nI (k + 1))), (0, .ref (ad 8)), (1, .int (by_))]) hx hb dM_turn_20 hl rfl (nI_1 (k)) (by decide) rfl (fun ls hl => ?_)
    refine lv_goto (tgt := 2) hx hb dM_turn_23 (by decide) ?_
    exact ih (k + 1) _ ls H locs (by omega) (li_fs i1 rfl) hl hP hD hS
set_option maxRecDepth 100000 in
set_option maxHeartbeats 4000000 in
theorem lp_turn2 (hx : p.tables.exec = Jvm.exec) (hb : c.code = cM_turn) (htA : ∀ w ∈ wsM_a, w.before args s = true) (hown : s.vm.findClass RM = some m.cls) (hml : c.maxLocals = 3) (hA : ∀ q, s.heap.size ≤ q → A q) (hc : cells ≤ R.cells ∧ slots ≤ R.slots) (hf : 0 ≤ R.frames ∧ 0 ≤ R.locals) {cI : ClassId} {ad : Nat → Nat} {th : Int32} {f0 f1 f2 f3 f4 f6 f7 : Nat → Int32} (hK : va_K (dC, dI) mCl [(cI, .int)] s) {S px : Nat → Nat} (hk6 : li_ag 16 f6 S) {by_ : Int32} (hp : ∀ k, k < 16 → px k < 16 ∧ ((nI (4)) * ((((nI ((k) / (4))) + ((by_) * (nI ((k) % (4))))) + (nI (16))) - (((nI ((k) / (4))) + ((by_) * (nI ((k) % (4))))) + (nI (16))) / (nI (4)) * (nI (4)))) + (nI ((k) % (4))) = nI (px k))
    (kk : ∀ (g : Nat → Int32) (ls : Array Slot) (H : Heap) (locs : List Loc), li_f 16 g (fun k => S (px k)) → lv_has ls 3 [(2, .int (nI (16))), (0, .ref (ad 8)), (1, .int (by_))] → va_P (dC, dI) mCl (wM cI ad (th) (f0) (f1) (f2) (f3) (f4) (g) (f6) (f7)) H → va_D A (wM cI ad (th) (f0) (f1) (f2) (f3) (f4) (g) (f6) (f7)) → va_S A s.heap H locs → W p l e R s m args below meth c H locs cells slots Q (F0 m 71 ls [])) :
    ∀ (j k : Nat) (g : Nat → Int32) (ls : Array Slot) (H : Heap) (locs : List Loc), k + j = 16 → li_f k g (fun k => S (px k)) → lv_has ls 3 [(2, .int (nI (k))), (0, .ref (ad 8)), (1, .int (by_))] → va_P (dC, dI) mCl (wM cI ad (th) (f0) (f1) (f2) (f3) (f4) (g) (f6) (f7)) H → va_D A (wM cI ad (th) (f0) (f1) (f2) (f3) (f4) (g) (f6) (f7)) → va_S A s.heap H locs → W p l e R s m args below meth c H locs cells slots Q (F0 m 28 ls []) := by
  intro j
  induction j with
  | zero =>
    intro k g ls H locs hj i1 hl hP hD hS
    have e : k = 16 := by omega
    subst e
    refine lv_iload_n hx hb dM_turn_28 rfl (lv_at hl 0 rfl) ?_
    refine lv_bipush (v := nI 16) hx hb dM_turn_29 (by decide) ?_
    refine xi_icmp_ge (tgt := 71) hx hb dM_turn_31 (by decide) (by omega) (by omega) (fun hc0 => ?_) (fun h9 => absurd h9 (by omega))
    exact kk g ls H locs i1 hl hP hD hS
  | succ j ih =>
    intro k g ls H locs hj i1 hl hP hD hS
    refine lv_iload_n hx hb dM_turn_28 rfl (lv_at hl 0 rfl) ?_
    refine lv_bipush (v := nI 16) hx hb dM_turn_29 (by decide) ?_
    refine xi_icmp_ge (tgt := 71) hx hb dM_turn_31 (by decide) (by omega) (by omega) (fun h9 => absurd h9 (by omega)) (fun hc0 => ?_)
    refine lv_aload_n hx hb dM_turn_34 rfl (lv_at hl 1 rfl) ?_
    refine va_get (D := (dC, dI)) (ci := 2) (v := .ref (ad 5)) (C := RM) (T := TM) (N := 9) hx hb htA inM0 hown hK hP 0 rfl rfl 5 (by decide) (htA _ mM_f25) (fun _ h9 => h9) rfl dM_turn_35 ?_
    refine lv_iload_n hx hb dM_turn_38 rfl (lv_at hl 0 rfl) ?_
    refine lv_aload_n hx hb dM_turn_39 rfl (lv_at hl 1 rfl) ?_
    refine va_get (D := (dC, dI)) (ci := 2) (v := .ref (ad 6)) (C := RM) (T := TM) (N := 9) hx hb htA inM0 hown hK hP 0 rfl rfl 6 (by decide) (htA _ mM_f28) (fun _ h9 => h9) rfl dM_turn_40 ?_
    refine lv_iconst (v := nI 4) hx hb dM_turn_43 (by decide) ?_
    refine lv_iload_n hx hb dM_turn_44 rfl (lv_at hl 0 rfl) ?_
    refine lv_iconst (v := nI 4) hx hb dM_turn_45 (by decide) ?_
    refine xi_idiv hx hb dM_turn_46 (by omega) (by omega) (by omega) ?_
    refine lv_iload_n hx hb dM_turn_47 rfl (lv_at hl 2 rfl) ?_
    refine lv_iload_n hx hb dM_turn_48 rfl (lv_at hl 0 rfl) ?_
    refine lv_iconst (v := nI 4) hx hb dM_turn_49 (by decide) ?_
    refine xi_irem hx hb dM_turn_50 (by omega) (by omega) (by omega) ?_
    refine lv_imul hx hb dM_turn_51 ?_
    refine lv_iadd hx hb dM_turn_52 ?_
    refine lv_bipush (v := nI 16) hx hb dM_turn_53 (by decide) ?_
    refine lv_iadd hx hb dM_turn_55 ?_
    refine lv_iconst (v := nI 4) hx hb dM_turn_56 (by decide) ?_
    refine lv_irem hx hb dM_turn_57 (by decide) ?_
    refine lv_imul hx hb dM_turn_58 ?_
    refine lv_iload_n hx hb dM_turn_59 rfl (lv_at hl 0 rfl) ?_
    refine lv_iconst (v := nI 4) hx hb dM_turn_60 (by decide) ?_
    refine xi_irem hx hb dM_turn_61 (by omega) (by omega) (by omega) ?_
    refine lv_iadd hx hb dM_turn_62 ?_
    refine tw_i (y := nI (px k)) ((hp k (by omega)).2) ?_
    have hpk := (hp k (by omega)).1
    refine xa_ild hx hb hK hP 7 0 rfl rfl (by omega) (by omega) (v := nI (S (px k))) (hk6 _ hpk) dM_turn_63 ?_
    refine xa_ist hx hb hK hP hD hS 6 0 rfl rfl (by omega) (by omega) dM_turn_64 (fun H locs hP hD hS => ?_)
    have hP : va_P (dC, dI) mCl (wM cI ad (th) (f0) (f1) (f2) (f3) (f4) (upd (g) (k) (nI (S (px k)))) (f6) (f7)) H := hP
    have hD : va_D A (wM cI ad (th) (f0) (f1) (f2) (f3) (f4) (upd (g) (k) (nI (S (px k)))) (f6) (f7)) := hD
    refine lv_iinc (k := 0) (v := nI (k + 1)) (nL := 3) (lv' := [(2, .int (nI (k + 1))), (0, .ref (ad 8)), (1, .int (by_))]) hx hb dM_turn_65 hl rfl (nI_1 (k)) (by decide) rfl (fun ls hl => ?_)
    refine lv_goto (tgt := 28) hx hb dM_turn_68 (by decide) ?_
    exact ih (k + 1) _ ls H locs (by omega) (li_fs i1 rfl) hl hP hD hS
set_option maxRecDepth 100000 in
set_option maxHeartbeats 4000000 in
theorem lp_mix1 (hx : p.tables.exec = Jvm.exec) (hb : c.code = cM_mix) (htA : ∀ w ∈ wsM_a, w.before args s = true) (hown : s.vm.findClass RM = some m.cls) (hml : c.maxLocals = 8) (hA : ∀ q, s.heap.size ≤ q → A q) (hc : cells ≤ R.cells ∧ slots ≤ R.slots) (hf : 1 ≤ R.frames ∧ 24 ≤ R.locals) {cI : ClassId} {ad : Nat → Nat} {th : Int32} {f0 f1 f2 f3 f4 f5 f7 : Nat → Int32} (hK : va_K (dC, dI) mCl [(cI, .int)] s) {S : Nat → Nat} (hk5 : li_ag 16 f5 S) {p1 p2 p3 p4 : Nat}
    (kk : ∀ (g : Nat → Int32) (ls : Array Slot) (H : Heap) (locs : List Loc), li_f 16 g S → lv_has ls 8 [(5, .int (nI (16))), (0, .ref (ad 8)), (1, .int (nI (p1))), (2, .int (nI (p2))), (3, .int (nI (p3))), (4, .int (nI (p4)))] → va_P (dC, dI) mCl (wM cI ad (th) (f0) (f1) (f2) (f3) (f4) (f5) (g) (f7)) H → va_D A (wM cI ad (th) (f0) (f1) (f2) (f3) (f4) (f5) (g) (f7)) → va_S A s.heap H locs → W p l e R s m args below meth c H locs cells slots Q (F0 m 30 ls [])) :
    ∀ (j k : Nat) (g : Nat → Int32) (ls : Array Slot) (H : Heap) (locs : List Loc), k + j = 16 → li_f k g S → lv_has ls 8 [(5, .int (nI (k))), (0, .ref (ad 8)), (1, .int (nI (p1))), (2, .int (nI (p2))), (3, .int (nI (p3))), (4, .int (nI (p4)))] → va_P (dC, dI) mCl (wM cI ad (th) (f0) (f1) (f2) (f3) (f4) (f5) (g) (f7)) H → va_D A (wM cI ad (th) (f0) (f1) (f2) (f3) (f4) (f5) (g) (f7)) → va_S A s.heap H locs → W p l e R s m args below meth c H locs cells slots Q (F0 m 3 ls []) := by
  intro j
  induction j with
  | zero =>
    intro k g ls H locs hj i1 hl hP hD hS
    have e : k = 16 := by omega
    subst e
    refine lv_iload hx hb dM_mix_3 (lv_at hl 0 rfl) ?_
    refine lv_bipush (v := nI 16) hx hb dM_mix_5 (by decide) ?_
    refine xi_icmp_ge (tgt := 30) hx hb dM_mix_7 (by decide) (by omega) (by omega) (fun hc0 => ?_) (fun h9 => absurd h9 (by omega))
    exact kk g ls H locs i1 hl hP hD hS
  | succ j ih =>
    intro k g ls H locs hj i1 hl hP hD hS
    refine lv_iload hx hb dM_mix_3 (lv_at hl 0 rfl) ?_
    refine lv_bipush (v := nI 16) hx hb dM_mix_5 (by decide) ?_
    refine xi_icmp_ge (tgt := 30) hx hb dM_mix_7 (by decide) (by omega) (by omega) (fun h9 => absurd h9 (by omega)) (fun hc0 => ?_)
    refine lv_aload_n hx hb dM_mix_10 rfl (lv_at hl 1 rfl) ?_
    refine va_get (D := (dC, dI)) (ci := 2) (v := .ref (ad 6)) (C := RM) (T := TM) (N := 9) hx hb htA inM0 hown hK hP 0 rfl rfl 6 (by decide) (htA _ mM_f28) (fun _ h9 => h9) rfl dM_mix_11 ?_
    refine lv_iload hx hb dM_mix_14 (lv_at hl 0 rfl) ?_
    refine lv_aload_n hx hb dM_mix_16 rfl (lv_at hl 1 rfl) ?_
    refine va_get (D := (dC, dI)) (ci := 2) (v := .ref (ad 5)) (C := RM) (T := TM) (N := 9) hx hb htA inM0 hown hK hP 0 rfl rfl 5 (by decide) (htA _ mM_f25) (fun _ h9 => h9) rfl dM_mix_17 ?_
    refine lv_iload hx hb dM_mix_20 (lv_at hl 0 rfl) ?_
    refine xa_ild hx hb hK hP 6 0 rfl rfl (by omega) (by omega) (v := nI (S k)) (hk5 k (by omega)) dM_mix_22 ?_
    refine xa_ist hx hb hK hP hD hS 7 0 rfl rfl (by omega) (by omega) dM_mix_23 (fun H locs hP hD hS => ?_)
    have hP : va_P (dC, dI) mCl (wM cI ad (th) (f0) (f1) (f2) (f3) (f4) (f5) (upd (g) (k) (nI (S k))) (f7)) H := hP
    have hD : va_D A (wM cI ad (th) (f0) (f1) (f2) (f3) (f4) (f5) (upd (g) (k) (nI (S k))) (f7)) := hD
    refine lv_iinc (k := 0) (v := nI (k + 1)) (nL := 8) (lv' := [(5, .int (nI (k + 1))), (0, .ref (ad 8)), (1, .int (nI (p1))), (2, .int (nI (p2))), (3, .int (nI (p3))), (4, .int (nI (p4)))]) hx hb dM_mix_24 hl rfl (nI_1 (k)) (by decide) rfl (fun ls hl => ?_)
    refine lv_goto (tgt := 3) hx hb dM_mix_27 (by decide) ?_
    exact ih (k + 1) _ ls H locs (by omega) (li_fs i1 rfl) hl hP hD hS
set_option maxRecDepth 100000 in
set_option maxHeartbeats 4000000 in
theorem lp_mix2 (hx : p.tables.exec = Jvm.exec) (hb : c.code = cM_mix) (htA : ∀ w ∈ wsM_a, w.before args s = true) (hown : s.vm.findClass RM = some m.cls) (hml : c.maxLocals = 8) (hA : ∀ q, s.heap.size ≤ q → A q) (hc : cells ≤ R.cells ∧ slots ≤ R.slots) (hf : 1 ≤ R.frames ∧ 24 ≤ R.locals) {cI : ClassId} {ad : Nat → Nat} {th : Int32} {f0 f1 f2 f3 f4 f6 f7 : Nat → Int32} (hK : va_K (dC, dI) mCl [(cI, .int)] s) {S : Nat → Nat} (hB : ae_B S) (hk6 : li_ag 16 f6 S) {p1 p2 p3 p4 : Nat} (h1 : p1 < 256) (h2 : p2 < 256) (h3 : p3 < 256) (h4 : p4 < 256)
    (kk : ∀ (g : Nat → Int32) (ls : Array Slot) (H : Heap) (locs : List Loc), li_f 16 g (ae_mg p1 p2 p3 p4 S) → lv_has ls 8 [(5, .int (nI (16))), (0, .ref (ad 8)), (1, .int (nI (p1))), (2, .int (nI (p2))), (3, .int (nI (p3))), (4, .int (nI (p4)))] → va_P (dC, dI) mCl (wM cI ad (th) (f0) (f1) (f2) (f3) (f4) (g) (f6) (f7)) H → va_D A (wM cI ad (th) (f0) (f1) (f2) (f3) (f4) (g) (f6) (f7)) → va_S A s.heap H locs → W p l e R s m args below meth c H locs cells slots Q (F0 m 136 ls [])) :
    ∀ (j k : Nat) (g : Nat → Int32) (ls : Array Slot) (H : Heap) (locs : List Loc), k + j = 16 → li_f k g (ae_mg p1 p2 p3 p4 S) → lv_has ls 8 [(5, .int (nI (k))), (0, .ref (ad 8)), (1, .int (nI (p1))), (2, .int (nI (p2))), (3, .int (nI (p3))), (4, .int (nI (p4)))] → va_P (dC, dI) mCl (wM cI ad (th) (f0) (f1) (f2) (f3) (f4) (g) (f6) (f7)) H → va_D A (wM cI ad (th) (f0) (f1) (f2) (f3) (f4) (g) (f6) (f7)) → va_S A s.heap H locs → W p l e R s m args below meth c H locs cells slots Q (F0 m 33 ls []) := by
  intro j
  induction j with
  | zero =>
    intro k g ls H locs hj i1 hl hP hD hS
    have e : k = 16 := by omega
    subst e
    refine lv_iload hx hb dM_mix_33 (lv_at hl 0 rfl) ?_
    refine lv_bipush (v := nI 16) hx hb dM_mix_35 (by decide) ?_
    refine xi_icmp_ge (tgt := 136) hx hb dM_mix_37 (by decide) (by omega) (by omega) (fun hc0 => ?_) (fun h9 => absurd h9 (by omega))
    exact kk g ls H locs i1 hl hP hD hS
  | succ j ih =>
    intro k g ls H locs hj i1 hl hP hD hS
    refine lv_iload hx hb dM_mix_33 (lv_at hl 0 rfl) ?_
    refine lv_bipush (v := nI 16) hx hb dM_mix_35 (by decide) ?_
    refine xi_icmp_ge (tgt := 136) hx hb dM_mix_37 (by decide) (by omega) (by omega) (fun h9 => absurd h9 (by omega)) (fun hc0 => ?_)
    refine lv_iload hx hb dM_mix_40 (lv_at hl 0 rfl) ?_
    refine lv_iconst (v := nI 4) hx hb dM_mix_42 (by decide) ?_
    refine xi_idiv hx hb dM_mix_43 (by omega) (by omega) (by omega) ?_
    refine lv_iconst (v := nI 4) hx hb dM_mix_44 (by decide) ?_
    refine xi_imul hx hb dM_mix_45 ?_
    refine lv_istore (nL := 8) (lv' := [(6, .int (nI (((k) / (4)) * (4)))), (5, .int (nI (k))), (0, .ref (ad 8)), (1, .int (nI (p1))), (2, .int (nI (p2))), (3, .int (nI (p3))), (4, .int (nI (p4)))]) hx hb dM_mix_46 hl (by decide) rfl (fun ls hl => ?_)
    refine lv_iload hx hb dM_mix_48 (lv_at hl 1 rfl) ?_
    refine lv_iconst (v := nI 4) hx hb dM_mix_50 (by decide) ?_
    refine xi_irem hx hb dM_mix_51 (by omega) (by omega) (by omega) ?_
    refine lv_istore (nL := 8) (lv' := [(7, .int (nI ((k) % (4)))), (6, .int (nI (((k) / (4)) * (4)))), (5, .int (nI (k))), (0, .ref (ad 8)), (1, .int (nI (p1))), (2, .int (nI (p2))), (3, .int (nI (p3))), (4, .int (nI (p4)))]) hx hb dM_mix_52 hl (by decide) rfl (fun ls hl => ?_)
    refine lv_aload_n hx hb dM_mix_54 rfl (lv_at hl 3 rfl) ?_
    refine va_get (D := (dC, dI)) (ci := 2) (v := .ref (ad 5)) (C := RM) (T := TM) (N := 9) hx hb htA inM0 hown hK hP 0 rfl rfl 5 (by decide) (htA _ mM_f25) (fun _ h9 => h9) rfl dM_mix_55 ?_
    refine lv_iload hx hb dM_mix_58 (lv_at hl 2 rfl) ?_
    refine lv_aload_n hx hb dM_mix_60 rfl (lv_at hl 3 rfl) ?_
    refine va_get (D := (dC, dI)) (ci := 2) (v := .ref (ad 6)) (C := RM) (T := TM) (N := 9) hx hb htA inM0 hown hK hP 0 rfl rfl 6 (by decide) (htA _ mM_f28) (fun _ h9 => h9) rfl dM_mix_61 ?_
    refine lv_iload hx hb dM_mix_64 (lv_at hl 2 rfl) ?_
    refine xa_ild hx hb hK hP 7 0 rfl rfl (by omega) (by omega) (v := nI (S (k))) (hk6 _ (by omega)) dM_mix_66 ?_
    refine lv_iload_n hx hb dM_mix_67 rfl (lv_at hl 4 rfl) ?_
    refine kp_purei (v := nI (ae_tm (S (k)) p1)) (va_runS (As := [.int (nI (S (k))), .int (nI (p1))]) (rest := [.int (nI (k)), .ref (ad 5)]) ⟨hx, hb, hml, hown, htA⟩ (c_times l dC dI H.size (S (k)) p1 (hB _) h1) (va_cwS 2 htA (goodM_S mM_l42 mM_static_times mM_code_times) rfl rfl rfl (by decide +kernel) ⟨Nat.le_trans (Nat.le_of_ble_eq_true rfl) hf.1, Nat.le_trans (Nat.le_of_ble_eq_true rfl) hf.2⟩) (kp_preS (wc := []) kp_XT trivial hP hD hK hS hA [] rfl rfl rfl [] rfl) rfl rfl hl.1 rfl (lv_room (Nat.le_of_ble_eq_true rfl)) dM_mix_68 ⟨hc.1, hc.2⟩) hP hS hA (fun H locs hP hS => ?_)
    refine lv_aload_n hx hb dM_mix_71 rfl (lv_at hl 3 rfl) ?_
    refine va_get (D := (dC, dI)) (ci := 2) (v := .ref (ad 6)) (C := RM) (T := TM) (N := 9) hx hb htA inM0 hown hK hP 0 rfl rfl 6 (by decide) (htA _ mM_f28) (fun _ h9 => h9) rfl dM_mix_72 ?_
    refine lv_iload hx hb dM_mix_75 (lv_at hl 1 rfl) ?_
    refine lv_iload hx hb dM_mix_77 (lv_at hl 0 rfl) ?_
    refine lv_iconst (v := nI 1) hx hb dM_mix_79 (by decide) ?_
    refine xi_iadd hx hb dM_mix_80 ?_
    refine lv_iconst (v := nI 4) hx hb dM_mix_81 (by decide) ?_
    refine xi_irem hx hb dM_mix_82 (by omega) (by omega) (by omega) ?_
    refine xi_iadd hx hb dM_mix_83 ?_
    refine xa_ild hx hb hK hP 7 0 rfl rfl (by omega) (by omega) (v := nI (S (k / 4 * 4 + (k % 4 + 1) % 4))) (hk6 _ (by omega)) dM_mix_84 ?_
    refine lv_iload_n hx hb dM_mix_85 rfl (lv_at hl 5 rfl) ?_
    refine kp_purei (v := nI (ae_tm (S (k / 4 * 4 + (k % 4 + 1) % 4)) p2)) (va_runS (As := [.int (nI (S (k / 4 * 4 + (k % 4 + 1) % 4))), .int (nI (p2))]) (rest := [.int (nI (ae_tm (S (k)) p1)), .int (nI (k)), .ref (ad 5)]) ⟨hx, hb, hml, hown, htA⟩ (c_times l dC dI H.size (S (k / 4 * 4 + (k % 4 + 1) % 4)) p2 (hB _) h2) (va_cwS 2 htA (goodM_S mM_l42 mM_static_times mM_code_times) rfl rfl rfl (by decide +kernel) ⟨Nat.le_trans (Nat.le_of_ble_eq_true rfl) hf.1, Nat.le_trans (Nat.le_of_ble_eq_true rfl) hf.2⟩) (kp_preS (wc := []) kp_XT trivial hP hD hK hS hA [] rfl rfl rfl [] rfl) rfl rfl hl.1 rfl (lv_room (Nat.le_of_ble_eq_true rfl)) dM_mix_86 ⟨hc.1, hc.2⟩) hP hS hA (fun H locs hP hS => ?_)
    refine xi_ixor hx hb dM_mix_89 ?_
    refine lv_aload_n hx hb dM_mix_90 rfl (lv_at hl 3 rfl) ?_
    refine va_get (D := (dC, dI)) (ci := 2) (v := .ref (ad 6)) (C := RM) (T := TM) (N := 9) hx hb htA inM0 hown hK hP 0 rfl rfl 6 (by decide) (htA _ mM_f28) (fun _ h9 => h9) rfl dM_mix_91 ?_
    refine lv_iload hx hb dM_mix_94 (lv_at hl 1 rfl) ?_
    refine lv_iload hx hb dM_mix_96 (lv_at hl 0 rfl) ?_
    refine lv_iconst (v := nI 2) hx hb dM_mix_98 (by decide) ?_
    refine xi_iadd hx hb dM_mix_99 ?_
    refine lv_iconst (v := nI 4) hx hb dM_mix_100 (by decide) ?_
    refine xi_irem hx hb dM_mix_101 (by omega) (by omega) (by omega) ?_
    refine xi_iadd hx hb dM_mix_102 ?_
    refine xa_ild hx hb hK hP 7 0 rfl rfl (by omega) (by omega) (v := nI (S (k / 4 * 4 + (k % 4 + 2) % 4))) (hk6 _ (by omega)) dM_mix_103 ?_
    refine lv_iload_n hx hb dM_mix_104 rfl (lv_at hl 6 rfl) ?_
    refine kp_purei (v := nI (ae_tm (S (k / 4 * 4 + (k % 4 + 2) % 4)) p3)) (va_runS (As := [.int (nI (S (k / 4 * 4 + (k % 4 + 2) % 4))), .int (nI (p3))]) (rest := [.int (nI ((ae_tm (S (k)) p1) ^^^ (ae_tm (S (k / 4 * 4 + (k % 4 + 1) % 4)) p2))), .int (nI (k)), .ref (ad 5)]) ⟨hx, hb, hml, hown, htA⟩ (c_times l dC dI H.size (S (k / 4 * 4 + (k % 4 + 2) % 4)) p3 (hB _) h3) (va_cwS 2 htA (goodM_S mM_l42 mM_static_times mM_code_times) rfl rfl rfl (by decide +kernel) ⟨Nat.le_trans (Nat.le_of_ble_eq_true rfl) hf.1, Nat.le_trans (Nat.le_of_ble_eq_true rfl) hf.2⟩) (kp_preS (wc := []) kp_XT trivial hP hD hK hS hA [] rfl rfl rfl [] rfl) rfl rfl hl.1 rfl (lv_room (Nat.le_of_ble_eq_true rfl)) dM_mix_105 ⟨hc.1, hc.2⟩) hP hS hA (fun H locs hP hS => ?_)
    refine xi_ixor hx hb dM_mix_108 ?_
    refine lv_aload_n hx hb dM_mix_109 rfl (lv_at hl 3 rfl) ?_
    refine va_get (D := (dC, dI)) (ci := 2) (v := .ref (ad 6)) (C := RM) (T := TM) (N := 9) hx hb htA inM0 hown hK hP 0 rfl rfl 6 (by decide) (htA _ mM_f28) (fun _ h9 => h9) rfl dM_mix_110 ?_
    refine lv_iload hx hb dM_mix_113 (lv_at hl 1 rfl) ?_
    refine lv_iload hx hb dM_mix_115 (lv_at hl 0 rfl) ?_
    refine lv_iconst (v := nI 3) hx hb dM_mix_117 (by decide) ?_
    refine xi_iadd hx hb dM_mix_118 ?_
    refine lv_iconst (v := nI 4) hx hb dM_mix_119 (by decide) ?_
    refine xi_irem hx hb dM_mix_120 (by omega) (by omega) (by omega) ?_
    refine xi_iadd hx hb dM_mix_121 ?_
    refine xa_ild hx hb hK hP 7 0 rfl rfl (by omega) (by omega) (v := nI (S (k / 4 * 4 + (k % 4 + 3) % 4))) (hk6 _ (by omega)) dM_mix_122 ?_
    refine lv_iload hx hb dM_mix_123 (lv_at hl 7 rfl) ?_
    refine kp_purei (v := nI (ae_tm (S (k / 4 * 4 + (k % 4 + 3) % 4)) p4)) (va_runS (As := [.int (nI (S (k / 4 * 4 + (k % 4 + 3) % 4))), .int (nI (p4))]) (rest := [.int (nI (((ae_tm (S (k)) p1) ^^^ (ae_tm (S (k / 4 * 4 + (k % 4 + 1) % 4)) p2)) ^^^ (ae_tm (S (k / 4 * 4 + (k % 4 + 2) % 4)) p3))), .int (nI (k)), .ref (ad 5)]) ⟨hx, hb, hml, hown, htA⟩ (c_times l dC dI H.size (S (k / 4 * 4 + (k % 4 + 3) % 4)) p4 (hB _) h4) (va_cwS 2 htA (goodM_S mM_l42 mM_static_times mM_code_times) rfl rfl rfl (by decide +kernel) ⟨Nat.le_trans (Nat.le_of_ble_eq_true rfl) hf.1, Nat.le_trans (Nat.le_of_ble_eq_true rfl) hf.2⟩) (kp_preS (wc := []) kp_XT trivial hP hD hK hS hA [] rfl rfl rfl [] rfl) rfl rfl hl.1 rfl (lv_room (Nat.le_of_ble_eq_true rfl)) dM_mix_125 ⟨hc.1, hc.2⟩) hP hS hA (fun H locs hP hS => ?_)
    refine xi_ixor hx hb dM_mix_128 ?_
    refine xa_ist hx hb hK hP hD hS 6 0 rfl rfl (by omega) (by omega) dM_mix_129 (fun H locs hP hD hS => ?_)
    have hP : va_P (dC, dI) mCl (wM cI ad (th) (f0) (f1) (f2) (f3) (f4) (upd (g) (k) (nI ((((ae_tm (S (k)) p1) ^^^ (ae_tm (S (k / 4 * 4 + (k % 4 + 1) % 4)) p2)) ^^^ (ae_tm (S (k / 4 * 4 + (k % 4 + 2) % 4)) p3)) ^^^ (ae_tm (S (k / 4 * 4 + (k % 4 + 3) % 4)) p4)))) (f6) (f7)) H := hP
    have hD : va_D A (wM cI ad (th) (f0) (f1) (f2) (f3) (f4) (upd (g) (k) (nI ((((ae_tm (S (k)) p1) ^^^ (ae_tm (S (k / 4 * 4 + (k % 4 + 1) % 4)) p2)) ^^^ (ae_tm (S (k / 4 * 4 + (k % 4 + 2) % 4)) p3)) ^^^ (ae_tm (S (k / 4 * 4 + (k % 4 + 3) % 4)) p4)))) (f6) (f7)) := hD
    refine lv_iinc (k := 2) (v := nI (k + 1)) (nL := 8) (lv' := [(5, .int (nI (k + 1))), (7, .int (nI ((k) % (4)))), (6, .int (nI (((k) / (4)) * (4)))), (0, .ref (ad 8)), (1, .int (nI (p1))), (2, .int (nI (p2))), (3, .int (nI (p3))), (4, .int (nI (p4)))]) hx hb dM_mix_130 hl rfl (nI_1 (k)) (by decide) rfl (fun ls hl => ?_)
    refine lv_goto (tgt := 33) hx hb dM_mix_133 (by decide) ?_
    exact ih (k + 1) _ ls H locs (by omega) (li_fs i1 rfl) (lv_sub hl [0, 3, 4, 5, 6, 7] rfl) hP hD hS
end
set_option maxRecDepth 100000 in
set_option maxHeartbeats 4000000 in
theorem c_add (l : Launch) (dC : Nat → ClassId) (dI : Nat → Nat → Nat) (cI : ClassId) (ad : Nat → Nat) (th : Int32) (f0 f1 f2 f3 f4 f5 f6 f7 : Nat → Int32) (sz : Nat) (S K : Nat → Nat) (r : Nat) (hr10 : r ≤ 10) (hk5 : li_ag 16 f5 S) (hk4 : li_ag 176 f4 K) : kp_Mv l yM_add wsM_add { frames := 0, cells := 0, slots := 0, locals := 0 } (dC, dI) mCl [.ref (ad 8), .int (nI r)] (wM cI ad (th) (f0) (f1) (f2) (f3) (f4) (f5) (f6) (f7)) [(cI, .int)] sz kp_T 0 0 (fun u : Nat → Int32 => li_ag 16 u (fun k => S k ^^^ K (16 * r + k))) (fun u => (wM cI ad (th) (f0) (f1) (f2) (f3) (f4) (u) (f6) (f7))) := by
  refine kp_ofv (cc := cM_add) (maxL := 3) (ret := none) (by decide) rfl (Nat.le_of_ble_eq_true rfl) ?_
  intro p e s m args below meth c ls A hx hb hr hts hown hlocks hml hnm hA hsz hl hP hD hK hX hS
  have hown : s.vm.findClass RM = some m.cls := hown
  have htA : ∀ w ∈ wsM_a, w.before args s = true := fun w h => hts w (List.mem_cons_of_mem _ h)
  have hf : 0 ≤ ({ frames := 0, cells := 0, slots := 0, locals := 0 } : Room).frames ∧ 0 ≤ ({ frames := 0, cells := 0, slots := 0, locals := 0 } : Room).locals := ⟨Nat.le_of_ble_eq_true rfl, Nat.le_of_ble_eq_true rfl⟩
  have hc : 0 ≤ ({ frames := 0, cells := 0, slots := 0, locals := 0 } : Room).cells ∧ 0 ≤ ({ frames := 0, cells := 0, slots := 0, locals := 0 } : Room).slots := ⟨Nat.zero_le _, Nat.zero_le _⟩
  have hl : lv_has ls 3 [(0, .ref (ad 8)), (1, .int (nI (r)))] := hl
  refine lv_iconst (v := nI 0) hx hb dM_add_0 (by decide) ?_
  refine lv_istore_n (nL := 3) (lv' := [(2, .int (nI (0))), (0, .ref (ad 8)), (1, .int (nI (r)))]) hx hb dM_add_1 rfl hl (by decide) rfl (fun ls hl => ?_)
  refine lp_add hx hb htA hown hml hA hc hf hK (S := S) (K := K) hr10 hk4 (fun g ls H locs hg hl hP hD hS => ?_) 16 0 f5 ls s.heap [] (by omega) (li_0 hk5) hl hP hD hS
  exact kp_retv g hx hb hr hlocks hg hP hD hS dM_add_38
set_option maxRecDepth 100000 in
set_option maxHeartbeats 4000000 in
theorem c_turn (l : Launch) (dC : Nat → ClassId) (dI : Nat → Nat → Nat) (cI : ClassId) (ad : Nat → Nat) (th : Int32) (f0 f1 f2 f3 f4 f5 f6 f7 : Nat → Int32) (sz : Nat) (S px : Nat → Nat) (by_ : Int32) (hp : ∀ k, k < 16 → px k < 16 ∧ ((nI (4)) * ((((nI ((k) / (4))) + ((by_) * (nI ((k) % (4))))) + (nI (16))) - (((nI ((k) / (4))) + ((by_) * (nI ((k) % (4))))) + (nI (16))) / (nI (4)) * (nI (4)))) + (nI ((k) % (4))) = nI (px k)) (hk5 : li_ag 16 f5 S) : kp_Mv l yM_turn wsM_turn { frames := 0, cells := 0, slots := 0, locals := 0 } (dC, dI) mCl [.ref (ad 8), .int by_] (wM cI ad (th) (f0) (f1) (f2) (f3) (f4) (f5) (f6) (f7)) [(cI, .int)] sz kp_T 0 0 (fun u : (Nat → Int32) × (Nat → Int32) => li_ag 16 u.1 (fun k => S (px k))) (fun u => (wM cI ad (th) (f0) (f1) (f2) (f3) (f4) (u.1) (u.2) (f7))) := by
  refine kp_ofv (cc := cM_turn) (maxL := 3) (ret := none) (by decide) rfl (Nat.le_of_ble_eq_true rfl) ?_
  intro p e s m args below meth c ls A hx hb hr hts hown hlocks hml hnm hA hsz hl hP hD hK hX hS
  have hown : s.vm.findClass RM = some m.cls := hown
  have htA : ∀ w ∈ wsM_a, w.before args s = true := fun w h => hts w (List.mem_cons_of_mem _ h)
  have hf : 0 ≤ ({ frames := 0, cells := 0, slots := 0, locals := 0 } : Room).frames ∧ 0 ≤ ({ frames := 0, cells := 0, slots := 0, locals := 0 } : Room).locals := ⟨Nat.le_of_ble_eq_true rfl, Nat.le_of_ble_eq_true rfl⟩
  have hc : 0 ≤ ({ frames := 0, cells := 0, slots := 0, locals := 0 } : Room).cells ∧ 0 ≤ ({ frames := 0, cells := 0, slots := 0, locals := 0 } : Room).slots := ⟨Nat.zero_le _, Nat.zero_le _⟩
  have hl : lv_has ls 3 [(0, .ref (ad 8)), (1, .int (by_))] := hl
  refine lv_iconst (v := nI 0) hx hb dM_turn_0 (by decide) ?_
  refine lv_istore_n (nL := 3) (lv' := [(2, .int (nI (0))), (0, .ref (ad 8)), (1, .int (by_))]) hx hb dM_turn_1 rfl hl (by decide) rfl (fun ls hl => ?_)
  refine lp_turn1 hx hb htA hown hml hA hc hf hK (S := S) hk5 (fun g ls H locs hg hl hP hD hS => ?_) 16 0 f6 ls s.heap [] (by omega) li_f0 hl hP hD hS
  refine lv_iconst (v := nI 0) hx hb dM_turn_26 (by decide) ?_
  refine lv_istore_n (nL := 3) (lv' := [(2, .int (nI (0))), (0, .ref (ad 8)), (1, .int (by_))]) hx hb dM_turn_27 rfl hl (by decide) rfl (fun ls hl => ?_)
  refine lp_turn2 hx hb htA hown hml hA hc hf hK (S := S) (px := px) hg hp (fun g2 ls H locs hg2 hl hP hD hS => ?_) 16 0 f5 ls H locs (by omega) li_f0 hl hP hD hS
  exact kp_retv (g2, g) hx hb hr hlocks hg2 hP hD hS dM_turn_71
set_option maxRecDepth 100000 in
set_option maxHeartbeats 4000000 in
theorem c_mix (l : Launch) (dC : Nat → ClassId) (dI : Nat → Nat → Nat) (cI : ClassId) (ad : Nat → Nat) (th : Int32) (f0 f1 f2 f3 f4 f5 f6 f7 : Nat → Int32) (sz : Nat) (S : Nat → Nat) (hB : ae_B S) (p1 p2 p3 p4 : Nat) (h1 : p1 < 256) (h2 : p2 < 256) (h3 : p3 < 256) (h4 : p4 < 256) (hk5 : li_ag 16 f5 S) : kp_Mv l yM_mix wsM_mix { frames := 1, cells := 0, slots := 0, locals := 24 } (dC, dI) mCl [.ref (ad 8), .int (nI p1), .int (nI p2), .int (nI p3), .int (nI p4)] (wM cI ad (th) (f0) (f1) (f2) (f3) (f4) (f5) (f6) (f7)) [(cI, .int)] sz kp_T 0 0 (fun u : (Nat → Int32) × (Nat → Int32) => li_ag 16 u.1 (ae_mg p1 p2 p3 p4 S)) (fun u => (wM cI ad (th) (f0) (f1) (f2) (f3) (f4) (u.1) (u.2) (f7))) := by
  refine kp_ofv (cc := cM_mix) (maxL := 8) (ret := none) (by decide) rfl (Nat.le_of_ble_eq_true rfl) ?_
  intro p e s m args below meth c ls A hx hb hr hts hown hlocks hml hnm hA hsz hl hP hD hK hX hS
  have hown : s.vm.findClass RM = some m.cls := hown
  have htA : ∀ w ∈ wsM_a, w.before args s = true := fun w h => hts w (List.mem_cons_of_mem _ h)
  have hf : 1 ≤ ({ frames := 1, cells := 0, slots := 0, locals := 24 } : Room).frames ∧ 24 ≤ ({ frames := 1, cells := 0, slots := 0, locals := 24 } : Room).locals := ⟨Nat.le_of_ble_eq_true rfl, Nat.le_of_ble_eq_true rfl⟩
  have hc : 0 ≤ ({ frames := 1, cells := 0, slots := 0, locals := 24 } : Room).cells ∧ 0 ≤ ({ frames := 1, cells := 0, slots := 0, locals := 24 } : Room).slots := ⟨Nat.zero_le _, Nat.zero_le _⟩
  have hl : lv_has ls 8 [(0, .ref (ad 8)), (1, .int (nI (p1))), (2, .int (nI (p2))), (3, .int (nI (p3))), (4, .int (nI (p4)))] := hl
  refine lv_iconst (v := nI 0) hx hb dM_mix_0 (by decide) ?_
  refine lv_istore (nL := 8) (lv' := [(5, .int (nI (0))), (0, .ref (ad 8)), (1, .int (nI (p1))), (2, .int (nI (p2))), (3, .int (nI (p3))), (4, .int (nI (p4)))]) hx hb dM_mix_1 hl (by decide) rfl (fun ls hl => ?_)
  refine lp_mix1 hx hb htA hown hml hA hc hf hK (S := S) hk5 (fun g ls H locs hg hl hP hD hS => ?_) 16 0 f6 ls s.heap [] (by omega) li_f0 hl hP hD hS
  refine lv_iconst (v := nI 0) hx hb dM_mix_30 (by decide) ?_
  refine lv_istore (nL := 8) (lv' := [(5, .int (nI (0))), (0, .ref (ad 8)), (1, .int (nI (p1))), (2, .int (nI (p2))), (3, .int (nI (p3))), (4, .int (nI (p4)))]) hx hb dM_mix_31 hl (by decide) rfl (fun ls hl => ?_)
  refine lp_mix2 hx hb htA hown hml hA hc hf hK (S := S) hB hg h1 h2 h3 h4 (fun g2 ls H locs hg2 hl hP hD hS => ?_) 16 0 f5 ls H locs (by omega) li_f0 hl hP hD hS
  exact kp_retv (g2, g) hx hb hr hlocks hg2 hP hD hS dM_mix_136
