/-! the reference: makeTweak, sector -/
theorem ae_enc_lt {K S : Nat → Nat} (hK : ae_B K) (hS : ae_B S) : ae_B (ae_enc K S) := ae_en_lt hK hS 10
theorem ae_dec_lt {K S : Nat → Nat} (hK : ae_B K) (hS : ae_B S) : ae_B (ae_dec K S) := ae_dX_lt hK (ae_rh_lt hK hS 10) 0
theorem ae_kxB {K : Nat → Nat} (hK : ae_B K) (i : Nat) : ae_B (ae_kx (ae_at K i)) := fun k => ae_kx_lt (ae_at_lt hK _) k
theorem ae_sj_lt {F : (Nat → Nat) → Nat → Nat} {T S : Nat → Nat} (hF : ∀ Z, ae_B Z → ae_B (F Z)) (hT : ae_B T) (hS : ae_B S) : ∀ j, ae_B (ae_sj F T S j)
  | 0 => hS
  | j + 1 => ae_pt_lt (ae_sj_lt hF hT hS j) (ae_xf_lt (hF _ (ae_xf_lt (ae_at_lt (ae_sj_lt hF hT hS j) _) (ae_tw_lt hT j))) (ae_tw_lt hT j)) _ _
/-- a byte of the doubled tweak, with the carry that comes in -/
def ae_dc (T : Nat → Nat) (k : Nat) : Nat := if k = 0 then 0 else T (k - 1) / 128
def ae_dd (T : Nat → Nat) (k : Nat) : Nat := 2 * (T k % 128) + ae_dc T k
theorem ae_dc_lt {T : Nat → Nat} (h : ae_B T) (k : Nat) : ae_dc T k < 2 := by
  unfold ae_dc
  split
  · omega
  · have := h (k - 1); omega
section
variable {p : Program} {l : Launch} {e : Env} {R : Room} {s : State} {m : MethodId} {args : Array Value} {below : List Frame} {meth : Method} {c : Code} {cells slots : Nat} {Q : State → Prop} {dC : Nat → ClassId} {dI : Nat → Nat → Nat} {A : Nat → Prop}

set_option maxRecDepth 100000 in
set_option maxHeartbeats 4000000 in
theorem lp_mk1 (hx : p.tables.exec = Jvm.exec) (hb : c.code = cM_makeTweak) (htA : ∀ w ∈ wsM_a, w.before args s = true) (hown : s.vm.findClass RM = some m.cls) (hml : c.maxLocals = 7) (hA : ∀ q, s.heap.size ≤ q → A q) (hc : cells ≤ R.cells ∧ slots ≤ R.slots) (hf : 3 ≤ R.frames ∧ 74 ≤ R.locals) {cI : ClassId} {ad : Nat → Nat} {th : Int32} {f0 f1 f2 f3 f4 f6 f7 : Nat → Int32} (hK : va_K (dC, dI) mCl [(cI, .int)] s) {sn jj : Nat} (hsn : sn < 2147483648)
    (kk : ∀ (g : Nat → Int32) (ls : Array Slot) (H : Heap) (locs : List Loc), li_f 16 g (ae_sn sn) → lv_has ls 7 [(3, .int (nI (16))), (0, .ref (ad 8)), (1, .int (nI (sn))), (2, .int (nI (jj)))] → va_P (dC, dI) mCl (wM cI ad (th) (f0) (f1) (f2) (f3) (f4) (g) (f6) (f7)) H → va_D A (wM cI ad (th) (f0) (f1) (f2) (f3) (f4) (g) (f6) (f7)) → va_S A s.heap H locs → W p l e R s m args below meth c H locs cells slots Q (F0 m 39 ls [])) :
    ∀ (j k : Nat) (g : Nat → Int32) (ls : Array Slot) (H : Heap) (locs : List Loc), k + j = 16 → li_f k g (ae_sn sn) → lv_has ls 7 [(3, .int (nI (k))), (0, .ref (ad 8)), (1, .int (nI (sn))), (2, .int (nI (jj)))] → va_P (dC, dI) mCl (wM cI ad (th) (f0) (f1) (f2) (f3) (f4) (g) (f6) (f7)) H → va_D A (wM cI ad (th) (f0) (f1) (f2) (f3) (f4) (g) (f6) (f7)) → va_S A s.heap H locs → W p l e R s m args below meth c H locs cells slots Q (F0 m 2 ls []) := by
  intro j
  induction j with
  | zero =>
    intro k g ls H locs hj i1 hl hP hD hS
    have e : k = 16 := by omega
    subst e
    refine lv_iload_n hx hb dM_makeTweak_2 rfl (lv_at hl 0 rfl) ?_
    refine lv_bipush (v := nI 16) hx hb dM_makeTweak_3 (by decide) ?_
    refine xi_icmp_ge (tgt := 39) hx hb dM_makeTweak_5 (by decide) (by omega) (by omega) (fun hc0 => ?_) (fun h9 => absurd h9 (by omega))
    exact kk g ls H locs i1 hl hP hD hS
  | succ j ih =>
    intro k g ls H locs hj i1 hl hP hD hS
    refine lv_iload_n hx hb dM_makeTweak_2 rfl (lv_at hl 0 rfl) ?_
    refine lv_bipush (v := nI 16) hx hb dM_makeTweak_3 (by decide) ?_
    refine xi_icmp_ge (tgt := 39) hx hb dM_makeTweak_5 (by decide) (by omega) (by omega) (fun h9 => absurd h9 (by omega)) (fun hc0 => ?_)
    refine lv_aload_n hx hb dM_makeTweak_8 rfl (lv_at hl 1 rfl) ?_
    refine va_get (D := (dC, dI)) (ci := 2) (v := .ref (ad 5)) (C := RM) (T := TM) (N := 9) hx hb htA inM0 hown hK hP 0 rfl rfl 5 (by decide) (htA _ mM_f25) (fun _ h9 => h9) rfl dM_makeTweak_9 ?_
    refine lv_iload_n hx hb dM_makeTweak_12 rfl (lv_at hl 0 rfl) ?_
    refine lv_iload_n hx hb dM_makeTweak_13 rfl (lv_at hl 0 rfl) ?_
    refine lv_iconst (v := nI 4) hx hb dM_makeTweak_14 (by decide) ?_
    refine xi_icmp_ge (tgt := 31) hx hb dM_makeTweak_15 (by decide) (by omega) (by omega) (fun hc1 => ?_) (fun hc1 => ?_)
    · refine lv_iconst (v := nI 0) hx hb dM_makeTweak_31 (by decide) ?_
      refine xa_ist hx hb hK hP hD hS 6 0 rfl rfl (by omega) (by omega) dM_makeTweak_32 (fun H locs hP hD hS => ?_)
      have hP : va_P (dC, dI) mCl (wM cI ad (th) (f0) (f1) (f2) (f3) (f4) (upd (g) (k) (nI (0))) (f6) (f7)) H := hP
      have hD : va_D A (wM cI ad (th) (f0) (f1) (f2) (f3) (f4) (upd (g) (k) (nI (0))) (f6) (f7)) := hD
      refine lv_iinc (k := 0) (v := nI (k + 1)) (nL := 7) (lv' := [(3, .int (nI (k + 1))), (0, .ref (ad 8)), (1, .int (nI (sn))), (2, .int (nI (jj)))]) hx hb dM_makeTweak_33 hl rfl (nI_1 (k)) (by decide) rfl (fun ls hl => ?_)
      refine lv_goto (tgt := 2) hx hb dM_makeTweak_36 (by decide) ?_
      exact ih (k + 1) _ ls H locs (by omega) (li_fs i1 (by unfold ae_sn; rw [if_neg (by omega)])) hl hP hD hS
    · refine lv_iload_n hx hb dM_makeTweak_18 rfl (lv_at hl 2 rfl) ?_
      refine lv_bipush (v := nI 8) hx hb dM_makeTweak_19 (by decide) ?_
      refine lv_iload_n hx hb dM_makeTweak_21 rfl (lv_at hl 0 rfl) ?_
      refine xi_imul hx hb dM_makeTweak_22 ?_
      refine xi_iushr hx hb dM_makeTweak_23 (by omega) (by omega) ?_
      refine lv_sipush (v := nI 255) hx hb dM_makeTweak_24 (by decide) ?_
      refine xi_mask hx hb 8 dM_makeTweak_27 (by decide) ?_
      refine lv_goto (tgt := 32) hx hb dM_makeTweak_28 (by decide) ?_
      refine xa_ist hx hb hK hP hD hS 6 0 rfl rfl (by omega) (by omega) dM_makeTweak_32 (fun H locs hP hD hS => ?_)
      have hP : va_P (dC, dI) mCl (wM cI ad (th) (f0) (f1) (f2) (f3) (f4) (upd (g) (k) (nI (((sn) / 2 ^ ((8) * (k))) % 2 ^ 8))) (f6) (f7)) H := hP
      have hD : va_D A (wM cI ad (th) (f0) (f1) (f2) (f3) (f4) (upd (g) (k) (nI (((sn) / 2 ^ ((8) * (k))) % 2 ^ 8))) (f6) (f7)) := hD
      refine lv_iinc (k := 0) (v := nI (k + 1)) (nL := 7) (lv' := [(3, .int (nI (k + 1))), (0, .ref (ad 8)), (1, .int (nI (sn))), (2, .int (nI (jj)))]) hx hb dM_makeTweak_33 hl rfl (nI_1 (k)) (by decide) rfl (fun ls hl => ?_)
      refine lv_goto (tgt := 2) hx hb dM_makeTweak_36 (by decide) ?_
      exact ih (k + 1) _ ls H locs (by omega) (li_fs i1 (by unfold ae_sn; rw [if_pos hc1])) hl hP hD hS
set_option maxRecDepth 100000 in
set_option maxHeartbeats 4000000 in
theorem lp_mk2 (hx : p.tables.exec = Jvm.exec) (hb : c.code = cM_makeTweak) (htA : ∀ w ∈ wsM_a, w.before args s = true) (hown : s.vm.findClass RM = some m.cls) (hml : c.maxLocals = 7) (hA : ∀ q, s.heap.size ≤ q → A q) (hc : cells ≤ R.cells ∧ slots ≤ R.slots) (hf : 3 ≤ R.frames ∧ 74 ≤ R.locals) {cI : ClassId} {ad : Nat → Nat} {th : Int32} {f0 f1 f2 f3 f4 f5 f6 : Nat → Int32} (hK : va_K (dC, dI) mCl [(cI, .int)] s) {T : Nat → Nat} {sn jj : Nat} (hk5 : li_ag 16 f5 T)
    (kk : ∀ (g : Nat → Int32) (ls : Array Slot) (H : Heap) (locs : List Loc), li_f 16 g T → lv_has ls 7 [(3, .int (nI (16))), (0, .ref (ad 8)), (1, .int (nI (sn))), (2, .int (nI (jj)))] → va_P (dC, dI) mCl (wM cI ad (th) (f0) (f1) (f2) (f3) (f4) (f5) (f6) (g)) H → va_D A (wM cI ad (th) (f0) (f1) (f2) (f3) (f4) (f5) (f6) (g)) → va_S A s.heap H locs → W p l e R s m args below meth c H locs cells slots Q (F0 m 70 ls [])) :
    ∀ (j k : Nat) (g : Nat → Int32) (ls : Array Slot) (H : Heap) (locs : List Loc), k + j = 16 → li_f k g T → lv_has ls 7 [(3, .int (nI (k))), (0, .ref (ad 8)), (1, .int (nI (sn))), (2, .int (nI (jj)))] → va_P (dC, dI) mCl (wM cI ad (th) (f0) (f1) (f2) (f3) (f4) (f5) (f6) (g)) H → va_D A (wM cI ad (th) (f0) (f1) (f2) (f3) (f4) (f5) (f6) (g)) → va_S A s.heap H locs → W p l e R s m args below meth c H locs cells slots Q (F0 m 46 ls []) := by
  intro j
  induction j with
  | zero =>
    intro k g ls H locs hj i1 hl hP hD hS
    have e : k = 16 := by omega
    subst e
    refine lv_iload_n hx hb dM_makeTweak_46 rfl (lv_at hl 0 rfl) ?_
    refine lv_bipush (v := nI 16) hx hb dM_makeTweak_47 (by decide) ?_
    refine xi_icmp_ge (tgt := 70) hx hb dM_makeTweak_49 (by decide) (by omega) (by omega) (fun hc0 => ?_) (fun h9 => absurd h9 (by omega))
    exact kk g ls H locs i1 hl hP hD hS
  | succ j ih =>
    intro k g ls H locs hj i1 hl hP hD hS
    refine lv_iload_n hx hb dM_makeTweak_46 rfl (lv_at hl 0 rfl) ?_
    refine lv_bipush (v := nI 16) hx hb dM_makeTweak_47 (by decide) ?_
    refine xi_icmp_ge (tgt := 70) hx hb dM_makeTweak_49 (by decide) (by omega) (by omega) (fun h9 => absurd h9 (by omega)) (fun hc0 => ?_)
    refine lv_aload_n hx hb dM_makeTweak_52 rfl (lv_at hl 1 rfl) ?_
    refine va_get (D := (dC, dI)) (ci := 2) (v := .ref (ad 7)) (C := RM) (T := TM) (N := 9) hx hb htA inM0 hown hK hP 0 rfl rfl 7 (by decide) (htA _ mM_f31) (fun _ h9 => h9) rfl dM_makeTweak_53 ?_
    refine lv_iload_n hx hb dM_makeTweak_56 rfl (lv_at hl 0 rfl) ?_
    refine lv_aload_n hx hb dM_makeTweak_57 rfl (lv_at hl 1 rfl) ?_
    refine va_get (D := (dC, dI)) (ci := 2) (v := .ref (ad 5)) (C := RM) (T := TM) (N := 9) hx hb htA inM0 hown hK hP 0 rfl rfl 5 (by decide) (htA _ mM_f25) (fun _ h9 => h9) rfl dM_makeTweak_58 ?_
    refine lv_iload_n hx hb dM_makeTweak_61 rfl (lv_at hl 0 rfl) ?_
    refine xa_ild hx hb hK hP 6 0 rfl rfl (by omega) (by omega) (v := nI (T k)) (hk5 k (by omega)) dM_makeTweak_62 ?_
    refine xa_ist hx hb hK hP hD hS 8 0 rfl rfl (by omega) (by omega) dM_makeTweak_63 (fun H locs hP hD hS => ?_)
    have hP : va_P (dC, dI) mCl (wM cI ad (th) (f0) (f1) (f2) (f3) (f4) (f5) (f6) (upd (g) (k) (nI (T k)))) H := hP
    have hD : va_D A (wM cI ad (th) (f0) (f1) (f2) (f3) (f4) (f5) (f6) (upd (g) (k) (nI (T k)))) := hD
    refine lv_iinc (k := 0) (v := nI (k + 1)) (nL := 7) (lv' := [(3, .int (nI (k + 1))), (0, .ref (ad 8)), (1, .int (nI (sn))), (2, .int (nI (jj)))]) hx hb dM_makeTweak_64 hl rfl (nI_1 (k)) (by decide) rfl (fun ls hl => ?_)
    refine lv_goto (tgt := 46) hx hb dM_makeTweak_67 (by decide) ?_
    exact ih (k + 1) _ ls H locs (by omega) (li_fs i1 rfl) hl hP hD hS
set_option maxRecDepth 100000 in
set_option maxHeartbeats 4000000 in
theorem lp_mk4 (hx : p.tables.exec = Jvm.exec) (hb : c.code = cM_makeTweak) (htA : ∀ w ∈ wsM_a, w.before args s = true) (hown : s.vm.findClass RM = some m.cls) (hml : c.maxLocals = 7) (hA : ∀ q, s.heap.size ≤ q → A q) (hc : cells ≤ R.cells ∧ slots ≤ R.slots) (hf : 3 ≤ R.frames ∧ 74 ≤ R.locals) {cI : ClassId} {ad : Nat → Nat} {th : Int32} {f0 f1 f2 f3 f4 f5 f6 : Nat → Int32} (hK : va_K (dC, dI) mCl [(cI, .int)] s) {T : Nat → Nat} {n sn jj : Nat} (hB : ae_B T)
    (kk : ∀ (g : Nat → Int32) (cs : Nat) (ls : Array Slot) (H : Heap) (locs : List Loc), li_ag 16 g (ae_dd T) ∧ cs = ae_dc T 16 → lv_has ls 7 [(5, .int (nI (16))), (4, .int (nI (cs))), (3, .int (nI (n))), (0, .ref (ad 8)), (1, .int (nI (sn))), (2, .int (nI (jj)))] → va_P (dC, dI) mCl (wM cI ad (th) (f0) (f1) (f2) (f3) (f4) (f5) (f6) (g)) H → va_D A (wM cI ad (th) (f0) (f1) (f2) (f3) (f4) (f5) (f6) (g)) → va_S A s.heap H locs → W p l e R s m args below meth c H locs cells slots Q (F0 m 130 ls [])) :
    ∀ (j k : Nat) (g : Nat → Int32) (cs : Nat) (ls : Array Slot) (H : Heap) (locs : List Loc), k + j = 16 → li_in 16 k g T (ae_dd T) → cs = ae_dc T k → lv_has ls 7 [(5, .int (nI (k))), (4, .int (nI (cs))), (3, .int (nI (n))), (0, .ref (ad 8)), (1, .int (nI (sn))), (2, .int (nI (jj)))] → va_P (dC, dI) mCl (wM cI ad (th) (f0) (f1) (f2) (f3) (f4) (f5) (f6) (g)) H → va_D A (wM cI ad (th) (f0) (f1) (f2) (f3) (f4) (f5) (f6) (g)) → va_S A s.heap H locs → W p l e R s m args below meth c H locs cells slots Q (F0 m 83 ls []) := by
  intro j
  induction j with
  | zero =>
    intro k g cs ls H locs hj i1 ics hl hP hD hS
    have e : k = 16 := by omega
    subst e
    refine lv_iload hx hb dM_makeTweak_83 (lv_at hl 0 rfl) ?_
    refine lv_bipush (v := nI 16) hx hb dM_makeTweak_85 (by decide) ?_
    refine xi_icmp_ge (tgt := 130) hx hb dM_makeTweak_87 (by decide) (by omega) (by omega) (fun hc0 => ?_) (fun h9 => absurd h9 (by omega))
    exact kk g cs ls H locs ⟨li_e i1, ics⟩ hl hP hD hS
  | succ j ih =>
    intro k g cs ls H locs hj i1 ics hl hP hD hS
    have hcs : cs < 2 := by rw [ics]; exact ae_dc_lt hB k
    have hTk := hB k
    refine lv_iload hx hb dM_makeTweak_83 (lv_at hl 0 rfl) ?_
    refine lv_bipush (v := nI 16) hx hb dM_makeTweak_85 (by decide) ?_
    refine xi_icmp_ge (tgt := 130) hx hb dM_makeTweak_87 (by decide) (by omega) (by omega) (fun h9 => absurd h9 (by omega)) (fun hc0 => ?_)
    refine lv_aload_n hx hb dM_makeTweak_90 rfl (lv_at hl 3 rfl) ?_
    refine va_get (D := (dC, dI)) (ci := 2) (v := .ref (ad 7)) (C := RM) (T := TM) (N := 9) hx hb htA inM0 hown hK hP 0 rfl rfl 7 (by decide) (htA _ mM_f31) (fun _ h9 => h9) rfl dM_makeTweak_91 ?_
    refine lv_iload hx hb dM_makeTweak_94 (lv_at hl 0 rfl) ?_
    refine xa_ild hx hb hK hP 8 0 rfl rfl (by omega) (by omega) (v := nI (T k)) (i1.2 k (Nat.le_refl k) (by omega)) dM_makeTweak_96 ?_
    refine lv_iconst (v := nI 1) hx hb dM_makeTweak_97 (by decide) ?_
    refine xi_ishl hx hb dM_makeTweak_98 (by omega) ?_
    refine lv_iload hx hb dM_makeTweak_99 (lv_at hl 1 rfl) ?_
    refine xi_ior hx hb dM_makeTweak_101 ?_
    refine tw_i (y := nI (2 ^ 1 * T k + cs)) (by rw [ae_orp 1 hcs]) ?_
    refine lv_istore (nL := 7) (lv' := [(6, .int (nI (2 ^ 1 * T k + cs))), (5, .int (nI (k))), (4, .int (nI (cs))), (3, .int (nI (n))), (0, .ref (ad 8)), (1, .int (nI (sn))), (2, .int (nI (jj)))]) hx hb dM_makeTweak_102 hl (by decide) rfl (fun ls hl => ?_)
    refine lv_aload_n hx hb dM_makeTweak_104 rfl (lv_at hl 4 rfl) ?_
    refine va_get (D := (dC, dI)) (ci := 2) (v := .ref (ad 7)) (C := RM) (T := TM) (N := 9) hx hb htA inM0 hown hK hP 0 rfl rfl 7 (by decide) (htA _ mM_f31) (fun _ h9 => h9) rfl dM_makeTweak_105 ?_
    refine lv_iload hx hb dM_makeTweak_108 (lv_at hl 1 rfl) ?_
    refine lv_iload hx hb dM_makeTweak_110 (lv_at hl 0 rfl) ?_
    refine lv_sipush (v := nI 255) hx hb dM_makeTweak_112 (by decide) ?_
    refine xi_mask hx hb 8 dM_makeTweak_115 (by decide) ?_
    refine xa_ist hx hb hK hP hD hS 8 0 rfl rfl (by omega) (by omega) dM_makeTweak_116 (fun H locs hP hD hS => ?_)
    have hP : va_P (dC, dI) mCl (wM cI ad (th) (f0) (f1) (f2) (f3) (f4) (f5) (f6) (upd (g) (k) (nI ((2 ^ 1 * T k + cs) % 2 ^ 8)))) H := hP
    have hD : va_D A (wM cI ad (th) (f0) (f1) (f2) (f3) (f4) (f5) (f6) (upd (g) (k) (nI ((2 ^ 1 * T k + cs) % 2 ^ 8)))) := hD
    refine lv_iload hx hb dM_makeTweak_117 (lv_at hl 0 rfl) ?_
    refine lv_bipush (v := nI 8) hx hb dM_makeTweak_119 (by decide) ?_
    refine xi_ishr hx hb dM_makeTweak_121 (by omega) (by omega) ?_
    refine lv_istore (nL := 7) (lv' := [(4, .int (nI ((2 ^ 1 * T k + cs) / 2 ^ (8)))), (6, .int (nI (2 ^ 1 * T k + cs))), (5, .int (nI (k))), (3, .int (nI (n))), (0, .ref (ad 8)), (1, .int (nI (sn))), (2, .int (nI (jj)))]) hx hb dM_makeTweak_122 hl (by decide) rfl (fun ls hl => ?_)
    refine lv_iinc (k := 2) (v := nI (k + 1)) (nL := 7) (lv' := [(5, .int (nI (k + 1))), (4, .int (nI ((2 ^ 1 * T k + cs) / 2 ^ (8)))), (6, .int (nI (2 ^ 1 * T k + cs))), (3, .int (nI (n))), (0, .ref (ad 8)), (1, .int (nI (sn))), (2, .int (nI (jj)))]) hx hb dM_makeTweak_124 hl rfl (nI_1 (k)) (by decide) rfl (fun ls hl => ?_)
    refine lv_goto (tgt := 83) hx hb dM_makeTweak_127 (by decide) ?_
    refine ih (k + 1) _ ((2 ^ 1 * T k + cs) / 2 ^ (8)) ls H locs (by omega) (li_s i1 (congrArg nI ?_)) ?_ (lv_sub hl [0, 1, 3, 4, 5, 6] rfl) hP hD hS
    · unfold ae_dd; rw [← ics]; omega
    · unfold ae_dc; rw [if_neg (by omega), show k + 1 - 1 = k by omega]; omega
set_option maxRecDepth 100000 in
set_option maxHeartbeats 4000000 in
theorem lp_mk3 (hx : p.tables.exec = Jvm.exec) (hb : c.code = cM_makeTweak) (htA : ∀ w ∈ wsM_a, w.before args s = true) (hown : s.vm.findClass RM = some m.cls) (hml : c.maxLocals = 7) (hA : ∀ q, s.heap.size ≤ q → A q) (hc : cells ≤ R.cells ∧ slots ≤ R.slots) (hf : 3 ≤ R.frames ∧ 74 ≤ R.locals) {cI : ClassId} {ad : Nat → Nat} {th : Int32} {f0 f1 f2 f3 f4 f5 f6 : Nat → Int32} (hK : va_K (dC, dI) mCl [(cI, .int)] s) {T : Nat → Nat} {sn jj : Nat} (hB : ae_B T) (hjj : jj < 8)
    (kk : ∀ (g : Nat → Int32) (ls : Array Slot) (H : Heap) (locs : List Loc), li_ag 16 g (ae_tw T jj) → lv_has ls 7 [(3, .int (nI (jj))), (0, .ref (ad 8)), (1, .int (nI (sn))), (2, .int (nI (jj)))] → va_P (dC, dI) mCl (wM cI ad (th) (f0) (f1) (f2) (f3) (f4) (f5) (f6) (g)) H → va_D A (wM cI ad (th) (f0) (f1) (f2) (f3) (f4) (f5) (f6) (g)) → va_S A s.heap H locs → W p l e R s m args below meth c H locs cells slots Q (F0 m 158 ls [])) :
    ∀ (j k : Nat) (g : Nat → Int32) (ls : Array Slot) (H : Heap) (locs : List Loc), k + j = jj → li_ag 16 g (ae_tw T k) → lv_has ls 7 [(3, .int (nI (k))), (0, .ref (ad 8)), (1, .int (nI (sn))), (2, .int (nI (jj)))] → va_P (dC, dI) mCl (wM cI ad (th) (f0) (f1) (f2) (f3) (f4) (f5) (f6) (g)) H → va_D A (wM cI ad (th) (f0) (f1) (f2) (f3) (f4) (f5) (f6) (g)) → va_S A s.heap H locs → W p l e R s m args below meth c H locs cells slots Q (F0 m 72 ls []) := by
  intro j
  induction j with
  | zero =>
    intro k g ls H locs hj i1 hl hP hD hS
    have e : jj = k := by omega
    subst e
    refine lv_iload_n hx hb dM_makeTweak_72 rfl (lv_at hl 0 rfl) ?_
    refine lv_iload_n hx hb dM_makeTweak_73 rfl (lv_at hl 3 rfl) ?_
    refine xi_icmp_ge (tgt := 158) hx hb dM_makeTweak_74 (by decide) (by omega) (by omega) (fun hc0 => ?_) (fun h9 => absurd h9 (by omega))
    exact kk g ls H locs i1 hl hP hD hS
  | succ j ih =>
    intro k g ls H locs hj i1 hl hP hD hS
    have hBT : ae_B (ae_tw T k) := ae_tw_lt hB k
    refine lv_iload_n hx hb dM_makeTweak_72 rfl (lv_at hl 0 rfl) ?_
    refine lv_iload_n hx hb dM_makeTweak_73 rfl (lv_at hl 3 rfl) ?_
    refine xi_icmp_ge (tgt := 158) hx hb dM_makeTweak_74 (by decide) (by omega) (by omega) (fun h9 => absurd h9 (by omega)) (fun hc0 => ?_)
    refine lv_iconst (v := nI 0) hx hb dM_makeTweak_77 (by decide) ?_
    refine lv_istore (nL := 7) (lv' := [(4, .int (nI (0))), (3, .int (nI (k))), (0, .ref (ad 8)), (1, .int (nI (sn))), (2, .int (nI (jj)))]) hx hb dM_makeTweak_78 hl (by decide) rfl (fun ls hl => ?_)
    refine lv_iconst (v := nI 0) hx hb dM_makeTweak_80 (by decide) ?_
    refine lv_istore (nL := 7) (lv' := [(5, .int (nI (0))), (4, .int (nI (0))), (3, .int (nI (k))), (0, .ref (ad 8)), (1, .int (nI (sn))), (2, .int (nI (jj)))]) hx hb dM_makeTweak_81 hl (by decide) rfl (fun ls hl => ?_)
    refine lp_mk4 hx hb htA hown hml hA hc hf hK (T := ae_tw T k) hBT (fun g2 cs ls H locs hg hl hP hD hS => ?_) 16 0 g 0 ls H locs (by omega) (li_0 i1) rfl (lv_sub hl [0, 1, 2, 3, 4, 5] rfl) hP hD hS
    obtain ⟨hg, hcs⟩ := hg
    have hcs : cs = ae_tw T k 15 / 128 := hcs
    have h15 := hBT 15
    refine lv_iload hx hb dM_makeTweak_130 (lv_at hl 1 rfl) ?_
    refine lv_iconst (v := nI 1) hx hb dM_makeTweak_132 (by decide) ?_
    refine xi_icmp_ne (tgt := 152) hx hb dM_makeTweak_133 (by decide) (by omega) (by omega) (fun hc1 => ?_) (fun hc1 => ?_)
    · refine lv_iinc (k := 2) (v := nI (k + 1)) (nL := 7) (lv' := [(3, .int (nI (k + 1))), (5, .int (nI (16))), (4, .int (nI (cs))), (0, .ref (ad 8)), (1, .int (nI (sn))), (2, .int (nI (jj)))]) hx hb dM_makeTweak_152 hl rfl (nI_1 (k)) (by decide) rfl (fun ls hl => ?_)
      refine lv_goto (tgt := 72) hx hb dM_makeTweak_155 (by decide) ?_
      refine ih (k + 1) _ ls H locs (by omega) (fun i hi => ?_) (lv_sub hl [0, 3, 4, 5] rfl) hP hD hS
      show _ = nI (ae_db (ae_tw T k) i)
      rw [hg i hi]
      unfold ae_dd ae_dc ae_db
      by_cases c : i = 0
      · subst c; rw [if_pos rfl, if_pos rfl, if_neg (by omega), Nat.xor_zero, Nat.add_zero]
      · rw [if_neg c, if_neg c]
    · refine lv_aload_n hx hb dM_makeTweak_136 rfl (lv_at hl 3 rfl) ?_
      refine va_get (D := (dC, dI)) (ci := 2) (v := .ref (ad 7)) (C := RM) (T := TM) (N := 9) hx hb htA inM0 hown hK hP 0 rfl rfl 7 (by decide) (htA _ mM_f31) (fun _ h9 => h9) rfl dM_makeTweak_137 ?_
      refine lv_iconst (v := nI 0) hx hb dM_makeTweak_140 (by decide) ?_
      refine lv_aload_n hx hb dM_makeTweak_141 rfl (lv_at hl 3 rfl) ?_
      refine va_get (D := (dC, dI)) (ci := 2) (v := .ref (ad 7)) (C := RM) (T := TM) (N := 9) hx hb htA inM0 hown hK hP 0 rfl rfl 7 (by decide) (htA _ mM_f31) (fun _ h9 => h9) rfl dM_makeTweak_142 ?_
      refine lv_iconst (v := nI 0) hx hb dM_makeTweak_145 (by decide) ?_
      refine xa_ild hx hb hK hP 8 0 rfl rfl (by omega) (by omega) (v := nI (ae_dd (ae_tw T k) 0)) (hg 0 (by omega)) dM_makeTweak_146 ?_
      refine lv_sipush (v := nI 135) hx hb dM_makeTweak_147 (by decide) ?_
      refine xi_ixor hx hb dM_makeTweak_150 ?_
      refine xa_ist hx hb hK hP hD hS 8 0 rfl rfl (by omega) (by omega) dM_makeTweak_151 (fun H locs hP hD hS => ?_)
      have hP : va_P (dC, dI) mCl (wM cI ad (th) (f0) (f1) (f2) (f3) (f4) (f5) (f6) (upd (g2) (0) (nI ((ae_dd (ae_tw T k) 0) ^^^ (135))))) H := hP
      have hD : va_D A (wM cI ad (th) (f0) (f1) (f2) (f3) (f4) (f5) (f6) (upd (g2) (0) (nI ((ae_dd (ae_tw T k) 0) ^^^ (135))))) := hD
      refine lv_iinc (k := 2) (v := nI (k + 1)) (nL := 7) (lv' := [(3, .int (nI (k + 1))), (5, .int (nI (16))), (4, .int (nI (cs))), (0, .ref (ad 8)), (1, .int (nI (sn))), (2, .int (nI (jj)))]) hx hb dM_makeTweak_152 hl rfl (nI_1 (k)) (by decide) rfl (fun ls hl => ?_)
      refine lv_goto (tgt := 72) hx hb dM_makeTweak_155 (by decide) ?_
      refine ih (k + 1) _ ls H locs (by omega) (fun i hi => ?_) (lv_sub hl [0, 3, 4, 5] rfl) hP hD hS
      show _ = nI (ae_db (ae_tw T k) i)
      by_cases c : i = 0
      · subst c; rw [pk_us]; unfold ae_dd ae_dc ae_db; rw [if_pos rfl, if_pos rfl, if_pos (by omega), Nat.add_zero]
      · rw [pk_un c, hg i hi]; unfold ae_dd ae_dc ae_db; rw [if_neg c, if_neg c]
set_option maxRecDepth 100000 in
set_option maxHeartbeats 4000000 in
theorem lp_sec1 (hx : p.tables.exec = Jvm.exec) (hb : c.code = cM_sector) (htA : ∀ w ∈ wsM_a, w.before args s = true) (hown : s.vm.findClass RM = some m.cls) (hml : c.maxLocals = 5) (hA : ∀ q, s.heap.size ≤ q → A q) (hc : cells ≤ R.cells ∧ slots ≤ R.slots) (hf : 4 ≤ R.frames ∧ 100 ≤ R.locals) {cI : ClassId} {ad : Nat → Nat} {th : Int32} {f0 f1 f2 f3 f4 f6 f7 : Nat → Int32} (hK : va_K (dC, dI) mCl [(cI, .int)] s) {SEC T : Nat → Nat} {jb sn : Nat} {sl : Int32} (hjb : jb < 8) (hk1 : li_ag 128 f1 SEC) (hk7 : li_ag 16 f7 T)
    (kk : ∀ (g : Nat → Int32) (ls : Array Slot) (H : Heap) (locs : List Loc), li_f 16 g (ae_xf (ae_at SEC (16 * jb)) T) → lv_has ls 5 [(4, .int (nI (16))), (3, .int (nI (jb))), (0, .ref (ad 8)), (1, .int (nI (sn))), (2, .int (sl))] → va_P (dC, dI) mCl (wM cI ad (th) (f0) (f1) (f2) (f3) (f4) (g) (f6) (f7)) H → va_D A (wM cI ad (th) (f0) (f1) (f2) (f3) (f4) (g) (f6) (f7)) → va_S A s.heap H locs → W p l e R s m args below meth c H locs cells slots Q (F0 m 79 ls [])) :
    ∀ (j k : Nat) (g : Nat → Int32) (ls : Array Slot) (H : Heap) (locs : List Loc), k + j = 16 → li_f k g (ae_xf (ae_at SEC (16 * jb)) T) → lv_has ls 5 [(4, .int (nI (k))), (3, .int (nI (jb))), (0, .ref (ad 8)), (1, .int (nI (sn))), (2, .int (sl))] → va_P (dC, dI) mCl (wM cI ad (th) (f0) (f1) (f2) (f3) (f4) (g) (f6) (f7)) H → va_D A (wM cI ad (th) (f0) (f1) (f2) (f3) (f4) (g) (f6) (f7)) → va_S A s.heap H locs → W p l e R s m args below meth c H locs cells slots Q (F0 m 39 ls []) := by
  intro j
  induction j with
  | zero =>
    intro k g ls H locs hj i1 hl hP hD hS
    have e : k = 16 := by omega
    subst e
    refine lv_iload hx hb dM_sector_39 (lv_at hl 0 rfl) ?_
    refine lv_bipush (v := nI 16) hx hb dM_sector_41 (by decide) ?_
    refine xi_icmp_ge (tgt := 79) hx hb dM_sector_43 (by decide) (by omega) (by omega) (fun hc0 => ?_) (fun h9 => absurd h9 (by omega))
    exact kk g ls H locs i1 hl hP hD hS
  | succ j ih =>
    intro k g ls H locs hj i1 hl hP hD hS
    refine lv_iload hx hb dM_sector_39 (lv_at hl 0 rfl) ?_
    refine lv_bipush (v := nI 16) hx hb dM_sector_41 (by decide) ?_
    refine xi_icmp_ge (tgt := 79) hx hb dM_sector_43 (by decide) (by omega) (by omega) (fun h9 => absurd h9 (by omega)) (fun hc0 => ?_)
    refine lv_aload_n hx hb dM_sector_46 rfl (lv_at hl 2 rfl) ?_
    refine va_get (D := (dC, dI)) (ci := 2) (v := .ref (ad 5)) (C := RM) (T := TM) (N := 9) hx hb htA inM0 hown hK hP 0 rfl rfl 5 (by decide) (htA _ mM_f25) (fun _ h9 => h9) rfl dM_sector_47 ?_
    refine lv_iload hx hb dM_sector_50 (lv_at hl 0 rfl) ?_
    refine lv_aload_n hx hb dM_sector_52 rfl (lv_at hl 2 rfl) ?_
    refine va_get (D := (dC, dI)) (ci := 2) (v := .ref (ad 1)) (C := RM) (T := TM) (N := 9) hx hb htA inM0 hown hK hP 0 rfl rfl 1 (by decide) (htA _ mM_f13) (fun _ h9 => h9) rfl dM_sector_53 ?_
    refine lv_bipush (v := nI 16) hx hb dM_sector_56 (by decide) ?_
    refine lv_iload_n hx hb dM_sector_58 rfl (lv_at hl 1 rfl) ?_
    refine xi_imul hx hb dM_sector_59 ?_
    refine lv_iload hx hb dM_sector_60 (lv_at hl 0 rfl) ?_
    refine xi_iadd hx hb dM_sector_62 ?_
    refine xa_ild hx hb hK hP 2 0 rfl rfl (by omega) (by omega) (v := nI (SEC (16 * jb + k))) (hk1 _ (by omega)) dM_sector_63 ?_
    refine lv_aload_n hx hb dM_sector_64 rfl (lv_at hl 2 rfl) ?_
    refine va_get (D := (dC, dI)) (ci := 2) (v := .ref (ad 7)) (C := RM) (T := TM) (N := 9) hx hb htA inM0 hown hK hP 0 rfl rfl 7 (by decide) (htA _ mM_f31) (fun _ h9 => h9) rfl dM_sector_65 ?_
    refine lv_iload hx hb dM_sector_68 (lv_at hl 0 rfl) ?_
    refine xa_ild hx hb hK hP 8 0 rfl rfl (by omega) (by omega) (v := nI (T k)) (hk7 _ (by omega)) dM_sector_70 ?_
    refine xi_ixor hx hb dM_sector_71 ?_
    refine xa_ist hx hb hK hP hD hS 6 0 rfl rfl (by omega) (by omega) dM_sector_72 (fun H locs hP hD hS => ?_)
    have hP : va_P (dC, dI) mCl (wM cI ad (th) (f0) (f1) (f2) (f3) (f4) (upd (g) (k) (nI ((SEC (16 * jb + k)) ^^^ (T k)))) (f6) (f7)) H := hP
    have hD : va_D A (wM cI ad (th) (f0) (f1) (f2) (f3) (f4) (upd (g) (k) (nI ((SEC (16 * jb + k)) ^^^ (T k)))) (f6) (f7)) := hD
    refine lv_iinc (k := 0) (v := nI (k + 1)) (nL := 5) (lv' := [(4, .int (nI (k + 1))), (3, .int (nI (jb))), (0, .ref (ad 8)), (1, .int (nI (sn))), (2, .int (sl))]) hx hb dM_sector_73 hl rfl (nI_1 (k)) (by decide) rfl (fun ls hl => ?_)
    refine lv_goto (tgt := 39) hx hb dM_sector_76 (by decide) ?_
    exact ih (k + 1) _ ls H locs (by omega) (li_fs i1 rfl) hl hP hD hS
set_option maxRecDepth 100000 in
set_option maxHeartbeats 4000000 in
theorem lp_sec2 (hx : p.tables.exec = Jvm.exec) (hb : c.code = cM_sector) (htA : ∀ w ∈ wsM_a, w.before args s = true) (hown : s.vm.findClass RM = some m.cls) (hml : c.maxLocals = 5) (hA : ∀ q, s.heap.size ≤ q → A q) (hc : cells ≤ R.cells ∧ slots ≤ R.slots) (hf : 4 ≤ R.frames ∧ 100 ≤ R.locals) {cI : ClassId} {ad : Nat → Nat} {th : Int32} {f0 f1 f2 f3 f4 f5 f6 f7 : Nat → Int32} (hK : va_K (dC, dI) mCl [(cI, .int)] s) {Z T : Nat → Nat} {jb sn : Nat} {sl : Int32} (hjb : jb < 8) (hk5 : li_ag 16 f5 Z) (hk7 : li_ag 16 f7 T)
    (kk : ∀ (g : Nat → Int32) (ls : Array Slot) (H : Heap) (locs : List Loc), (∀ j, j < 16 → g (16 * jb + j) = nI (ae_xf Z T j)) ∧ (∀ j, j < 16 * jb ∨ 16 * jb + 16 ≤ j → g j = f1 j) → lv_has ls 5 [(4, .int (nI (16))), (3, .int (nI (jb))), (0, .ref (ad 8)), (1, .int (nI (sn))), (2, .int (sl))] → va_P (dC, dI) mCl (wM cI ad (th) (f0) (g) (f2) (f3) (f4) (f5) (f6) (f7)) H → va_D A (wM cI ad (th) (f0) (g) (f2) (f3) (f4) (f5) (f6) (f7)) → va_S A s.heap H locs → W p l e R s m args below meth c H locs cells slots Q (F0 m 139 ls [])) :
    ∀ (j k : Nat) (g : Nat → Int32) (ls : Array Slot) (H : Heap) (locs : List Loc), k + j = 16 → (∀ j, j < k → g (16 * jb + j) = nI (ae_xf Z T j)) → (∀ j, j < 16 * jb ∨ 16 * jb + 16 ≤ j → g j = f1 j) → lv_has ls 5 [(4, .int (nI (k))), (3, .int (nI (jb))), (0, .ref (ad 8)), (1, .int (nI (sn))), (2, .int (sl))] → va_P (dC, dI) mCl (wM cI ad (th) (f0) (g) (f2) (f3) (f4) (f5) (f6) (f7)) H → va_D A (wM cI ad (th) (f0) (g) (f2) (f3) (f4) (f5) (f6) (f7)) → va_S A s.heap H locs → W p l e R s m args below meth c H locs cells slots Q (F0 m 99 ls []) := by
  intro j
  induction j with
  | zero =>
    intro k g ls H locs hj i1 i2 hl hP hD hS
    have e : k = 16 := by omega
    subst e
    refine lv_iload hx hb dM_sector_99 (lv_at hl 0 rfl) ?_
    refine lv_bipush (v := nI 16) hx hb dM_sector_101 (by decide) ?_
    refine xi_icmp_ge (tgt := 139) hx hb dM_sector_103 (by decide) (by omega) (by omega) (fun hc0 => ?_) (fun h9 => absurd h9 (by omega))
    exact kk g ls H locs ⟨i1, i2⟩ hl hP hD hS
  | succ j ih =>
    intro k g ls H locs hj i1 i2 hl hP hD hS
    refine lv_iload hx hb dM_sector_99 (lv_at hl 0 rfl) ?_
    refine lv_bipush (v := nI 16) hx hb dM_sector_101 (by decide) ?_
    refine xi_icmp_ge (tgt := 139) hx hb dM_sector_103 (by decide) (by omega) (by omega) (fun h9 => absurd h9 (by omega)) (fun hc0 => ?_)
    refine lv_aload_n hx hb dM_sector_106 rfl (lv_at hl 2 rfl) ?_
    refine va_get (D := (dC, dI)) (ci := 2) (v := .ref (ad 1)) (C := RM) (T := TM) (N := 9) hx hb htA inM0 hown hK hP 0 rfl rfl 1 (by decide) (htA _ mM_f13) (fun _ h9 => h9) rfl dM_sector_107 ?_
    refine lv_bipush (v := nI 16) hx hb dM_sector_110 (by decide) ?_
    refine lv_iload_n hx hb dM_sector_112 rfl (lv_at hl 1 rfl) ?_
    refine xi_imul hx hb dM_sector_113 ?_
    refine lv_iload hx hb dM_sector_114 (lv_at hl 0 rfl) ?_
    refine xi_iadd hx hb dM_sector_116 ?_
    refine lv_aload_n hx hb dM_sector_117 rfl (lv_at hl 2 rfl) ?_
    refine va_get (D := (dC, dI)) (ci := 2) (v := .ref (ad 5)) (C := RM) (T := TM) (N := 9) hx hb htA inM0 hown hK hP 0 rfl rfl 5 (by decide) (htA _ mM_f25) (fun _ h9 => h9) rfl dM_sector_118 ?_
    refine lv_iload hx hb dM_sector_121 (lv_at hl 0 rfl) ?_
    refine xa_ild hx hb hK hP 6 0 rfl rfl (by omega) (by omega) (v := nI (Z k)) (hk5 _ (by omega)) dM_sector_123 ?_
    refine lv_aload_n hx hb dM_sector_124 rfl (lv_at hl 2 rfl) ?_
    refine va_get (D := (dC, dI)) (ci := 2) (v := .ref (ad 7)) (C := RM) (T := TM) (N := 9) hx hb htA inM0 hown hK hP 0 rfl rfl 7 (by decide) (htA _ mM_f31) (fun _ h9 => h9) rfl dM_sector_125 ?_
    refine lv_iload hx hb dM_sector_128 (lv_at hl 0 rfl) ?_
    refine xa_ild hx hb hK hP 8 0 rfl rfl (by omega) (by omega) (v := nI (T k)) (hk7 _ (by omega)) dM_sector_130 ?_
    refine xi_ixor hx hb dM_sector_131 ?_
    refine xa_ist hx hb hK hP hD hS 2 0 rfl rfl (by omega) (by omega) dM_sector_132 (fun H locs hP hD hS => ?_)
    have hP : va_P (dC, dI) mCl (wM cI ad (th) (f0) (upd (g) (((16) * (jb)) + (k)) (nI ((Z k) ^^^ (T k)))) (f2) (f3) (f4) (f5) (f6) (f7)) H := hP
    have hD : va_D A (wM cI ad (th) (f0) (upd (g) (((16) * (jb)) + (k)) (nI ((Z k) ^^^ (T k)))) (f2) (f3) (f4) (f5) (f6) (f7)) := hD
    refine lv_iinc (k := 0) (v := nI (k + 1)) (nL := 5) (lv' := [(4, .int (nI (k + 1))), (3, .int (nI (jb))), (0, .ref (ad 8)), (1, .int (nI (sn))), (2, .int (sl))]) hx hb dM_sector_133 hl rfl (nI_1 (k)) (by decide) rfl (fun ls hl => ?_)
    refine lv_goto (tgt := 99) hx hb dM_sector_136 (by decide) ?_
    refine ih (k + 1) _ ls H locs (by omega) (fun j hj => ?_) (fun j hj => ?_) hl hP hD hS
    · rcases Nat.lt_or_ge j k with h | h
      · rw [pk_un (by omega)]; exact i1 j h
      · rw [show j = k by omega]; exact pk_us
    · rw [pk_un (by omega)]; exact i2 j hj
end
set_option maxRecDepth 100000 in
set_option maxHeartbeats 4000000 in
theorem c_makeTweak (l : Launch) (dC : Nat → ClassId) (dI : Nat → Nat → Nat) (cI : ClassId) (ad : Nat → Nat) (th : Int32) (f0 f1 f2 f3 f4 f5 f6 f7 : Nat → Int32) (sz : Nat) (KEY : Nat → Nat) (hBK : ae_B KEY) (hk0 : li_ag 32 f0 KEY) (hbx : li_ag 256 f2 ae_sb) (hbk : li_ag 256 f3 ae_ib) (sn jj : Nat) (hsn : sn < 2147483648) (hjj : jj < 8) : kp_Mv l yM_makeTweak wsM_makeTweak { frames := 3, cells := 0, slots := 0, locals := 74 } (dC, dI) mCl [.ref (ad 8), .int (nI sn), .int (nI jj)] (wM cI ad (th) (f0) (f1) (f2) (f3) (f4) (f5) (f6) (f7)) [(cI, .int)] sz kp_T 0 0 (fun u : (Nat → Int32) × (Nat → Int32) × (Nat → Int32) × (Nat → Int32) => li_ag 16 u.2.2.2 (ae_tw (ae_enc (ae_kx (ae_at KEY (16 * 1))) (ae_sn sn)) jj)) (fun u => (wM cI ad (th) (f0) (f1) (f2) (f3) (u.1) (u.2.1) (u.2.2.1) (u.2.2.2))) := by
  refine kp_ofv (cc := cM_makeTweak) (maxL := 7) (ret := none) (by decide) rfl (Nat.le_of_ble_eq_true rfl) ?_
  intro p e s m args below meth c ls A hx hb hr hts hown hlocks hml hnm hA hsz hl hP hD hK hX hS
  have hown : s.vm.findClass RM = some m.cls := hown
  have htA : ∀ w ∈ wsM_a, w.before args s = true := fun w h => hts w (List.mem_cons_of_mem _ h)
  have hf : 3 ≤ ({ frames := 3, cells := 0, slots := 0, locals := 74 } : Room).frames ∧ 74 ≤ ({ frames := 3, cells := 0, slots := 0, locals := 74 } : Room).locals := ⟨Nat.le_of_ble_eq_true rfl, Nat.le_of_ble_eq_true rfl⟩
  have hc : 0 ≤ ({ frames := 3, cells := 0, slots := 0, locals := 74 } : Room).cells ∧ 0 ≤ ({ frames := 3, cells := 0, slots := 0, locals := 74 } : Room).slots := ⟨Nat.zero_le _, Nat.zero_le _⟩
  have hl : lv_has ls 7 [(0, .ref (ad 8)), (1, .int (nI (sn))), (2, .int (nI (jj)))] := hl
  refine lv_iconst (v := nI 0) hx hb dM_makeTweak_0 (by decide) ?_
  refine lv_istore_n (nL := 7) (lv' := [(3, .int (nI (0))), (0, .ref (ad 8)), (1, .int (nI (sn))), (2, .int (nI (jj)))]) hx hb dM_makeTweak_1 rfl hl (by decide) rfl (fun ls hl => ?_)
  refine lp_mk1 hx hb htA hown hml hA hc hf hK hsn (fun g ls H locs hg hl hP hD hS => ?_) 16 0 f5 ls s.heap [] (by omega) li_f0 hl hP hD hS
  refine lv_aload_n hx hb dM_makeTweak_39 rfl (lv_at hl 1 rfl) ?_
  refine lv_iconst (v := nI 1) hx hb dM_makeTweak_40 (by decide) ?_
  refine kp_callv (wr := []) (nw := fun u => (wM cI ad (th) (f0) (f1) (f2) (f3) (u.1) (u.2.1) (u.2.2) (f7))) (va_runV (As := [.int (nI (1))]) (rest := []) ⟨hx, hb, hml, hown, htA⟩ (c_encipher l dC dI cI ad (th) (f0) (f1) (f2) (f3) (f4) (g) (f6) (f7) H.size KEY (ae_sn sn) 1 (by omega) hBK (ae_sn_lt sn) hk0 hbx hbk hg) (cwV 1 htA (goodM_V mM_l75 mM_instanceMethod_encipher mM_selects_encipher mM_code_encipher) rfl rfl rfl (by decide +kernel) ⟨Nat.le_trans (Nat.le_of_ble_eq_true rfl) hf.1, Nat.le_trans (Nat.le_of_ble_eq_true rfl) hf.2⟩) (kp_preV (wc := (wM cI ad (th) (f0) (f1) (f2) (f3) (f4) (g) (f6) (f7))) kp_XT trivial hP hD hK hS hA [0, 1, 2, 3, 4, 5, 6, 7, 8] rfl rfl rfl [0] rfl (q0 := 0) rfl rfl) rfl rfl hl.1 rfl (lv_room (Nat.le_of_ble_eq_true rfl)) dM_makeTweak_41 ⟨hc.1, hc.2⟩) hP hD hS hA [0, 1, 2, 3, 4, 5, 6, 7, 8] [] rfl rfl rfl (by decide) [0, 1, 2, 3, 4, 5, 6, 7, 8] rfl (fun _ => rfl) (fun _ => rfl) (fun u H locs hu hP hD hS => ?_)
  obtain ⟨t4, t5, t6⟩ := u
  refine lv_iconst (v := nI 0) hx hb dM_makeTweak_44 (by decide) ?_
  refine lv_istore_n (nL := 7) (lv' := [(3, .int (nI (0))), (0, .ref (ad 8)), (1, .int (nI (sn))), (2, .int (nI (jj)))]) hx hb dM_makeTweak_45 rfl hl (by decide) rfl (fun ls hl => ?_)
  refine lp_mk2 hx hb htA hown hml hA hc hf hK (T := ae_enc (ae_kx (ae_at KEY (16 * 1))) (ae_sn sn)) hu (fun g7 ls H locs hg7 hl hP hD hS => ?_) 16 0 f7 ls H locs (by omega) li_f0 hl hP hD hS
  refine lv_iconst (v := nI 0) hx hb dM_makeTweak_70 (by decide) ?_
  refine lv_istore_n (nL := 7) (lv' := [(3, .int (nI (0))), (0, .ref (ad 8)), (1, .int (nI (sn))), (2, .int (nI (jj)))]) hx hb dM_makeTweak_71 rfl hl (by decide) rfl (fun ls hl => ?_)
  refine lp_mk3 hx hb htA hown hml hA hc hf hK (T := ae_enc (ae_kx (ae_at KEY (16 * 1))) (ae_sn sn)) (ae_enc_lt (ae_kxB hBK _) (ae_sn_lt sn)) hjj (fun g8 ls H locs hg8 hl hP hD hS => ?_) jj 0 g7 ls H locs (by omega) hg7 hl hP hD hS
  exact kp_retv (t4, t5, t6, g8) hx hb hr hlocks hg8 hP hD hS dM_makeTweak_158
section
variable {p : Program} {l : Launch} {e : Env} {R : Room} {s : State} {m : MethodId} {args : Array Value} {below : List Frame} {meth : Method} {c : Code} {cells slots : Nat} {Q : State → Prop} {dC : Nat → ClassId} {dI : Nat → Nat → Nat} {A : Nat → Prop}

set_option maxRecDepth 100000 in
set_option maxHeartbeats 4000000 in
theorem lp_sec (hx : p.tables.exec = Jvm.exec) (hb : c.code = cM_sector) (htA : ∀ w ∈ wsM_a, w.before args s = true) (hown : s.vm.findClass RM = some m.cls) (hml : c.maxLocals = 5) (hA : ∀ q, s.heap.size ≤ q → A q) (hc : cells ≤ R.cells ∧ slots ≤ R.slots) (hf : 4 ≤ R.frames ∧ 100 ≤ R.locals) {cI : ClassId} {ad : Nat → Nat} {th : Int32} {f0 f2 f3 : Nat → Int32} (hK : va_K (dC, dI) mCl [(cI, .int)] s) {KEY SEC : Nat → Nat} (hBK : ae_B KEY) (hBS : ae_B SEC) (hk0 : li_ag 32 f0 KEY) (hbx : li_ag 256 f2 ae_sb) (hbk : li_ag 256 f3 ae_ib) {sn : Nat} {sl : Int32} (hsn : sn < 2147483648)
    (kk : ∀ (g1 : Nat → Int32) (g4 : Nat → Int32) (g5 : Nat → Int32) (g6 : Nat → Int32) (g7 : Nat → Int32) (ls : Array Slot) (H : Heap) (locs : List Loc), li_ag 128 g1 (ae_sj (if sl = 0 then ae_dec (ae_kx (ae_at KEY (16 * 0))) else ae_enc (ae_kx (ae_at KEY (16 * 0)))) (ae_enc (ae_kx (ae_at KEY (16 * 1))) (ae_sn sn)) SEC 8) → lv_has ls 5 [(3, .int (nI (8))), (0, .ref (ad 8)), (1, .int (nI (sn))), (2, .int (sl))] → va_P (dC, dI) mCl (wM cI ad (th) (f0) (g1) (f2) (f3) (g4) (g5) (g6) (g7)) H → va_D A (wM cI ad (th) (f0) (g1) (f2) (f3) (g4) (g5) (g6) (g7)) → va_S A s.heap H locs → W p l e R s m args below meth c H locs cells slots Q (F0 m 145 ls [])) :
    ∀ (j k : Nat) (g1 : Nat → Int32) (g4 : Nat → Int32) (g5 : Nat → Int32) (g6 : Nat → Int32) (g7 : Nat → Int32) (ls : Array Slot) (H : Heap) (locs : List Loc), k + j = 8 → li_ag 128 g1 (ae_sj (if sl = 0 then ae_dec (ae_kx (ae_at KEY (16 * 0))) else ae_enc (ae_kx (ae_at KEY (16 * 0)))) (ae_enc (ae_kx (ae_at KEY (16 * 1))) (ae_sn sn)) SEC k) → lv_has ls 5 [(3, .int (nI (k))), (0, .ref (ad 8)), (1, .int (nI (sn))), (2, .int (sl))] → va_P (dC, dI) mCl (wM cI ad (th) (f0) (g1) (f2) (f3) (g4) (g5) (g6) (g7)) H → va_D A (wM cI ad (th) (f0) (g1) (f2) (f3) (g4) (g5) (g6) (g7)) → va_S A s.heap H locs → W p l e R s m args below meth c H locs cells slots Q (F0 m 24 ls []) := by
  intro j
  induction j with
  | zero =>
    intro k g1 g4 g5 g6 g7 ls H locs hj i1 hl hP hD hS
    have e : k = 8 := by omega
    subst e
    refine lv_iload_n hx hb dM_sector_24 rfl (lv_at hl 0 rfl) ?_
    refine lv_bipush (v := nI 8) hx hb dM_sector_25 (by decide) ?_
    refine xi_icmp_ge (tgt := 145) hx hb dM_sector_27 (by decide) (by omega) (by omega) (fun hc0 => ?_) (fun h9 => absurd h9 (by omega))
    exact kk g1 g4 g5 g6 g7 ls H locs i1 hl hP hD hS
  | succ j ih =>
    intro k g1 g4 g5 g6 g7 ls H locs hj i1 hl hP hD hS
    have hF : ∀ Z, ae_B Z → ae_B ((if sl = 0 then ae_dec (ae_kx (ae_at KEY (16 * 0))) else ae_enc (ae_kx (ae_at KEY (16 * 0)))) Z) := fun Z hZ => by split; exact ae_dec_lt (ae_kxB hBK _) hZ; exact ae_enc_lt (ae_kxB hBK _) hZ
    have hT : ae_B (ae_enc (ae_kx (ae_at KEY (16 * 1))) (ae_sn sn)) := ae_enc_lt (ae_kxB hBK _) (ae_sn_lt sn)
    have hBj : ae_B (ae_sj (if sl = 0 then ae_dec (ae_kx (ae_at KEY (16 * 0))) else ae_enc (ae_kx (ae_at KEY (16 * 0)))) (ae_enc (ae_kx (ae_at KEY (16 * 1))) (ae_sn sn)) SEC k) := ae_sj_lt hF hT hBS k
    refine lv_iload_n hx hb dM_sector_24 rfl (lv_at hl 0 rfl) ?_
    refine lv_bipush (v := nI 8) hx hb dM_sector_25 (by decide) ?_
    refine xi_icmp_ge (tgt := 145) hx hb dM_sector_27 (by decide) (by omega) (by omega) (fun h9 => absurd h9 (by omega)) (fun hc0 => ?_)
    refine lv_aload_n hx hb dM_sector_30 rfl (lv_at hl 1 rfl) ?_
    refine lv_iload_n hx hb dM_sector_31 rfl (lv_at hl 2 rfl) ?_
    refine lv_iload_n hx hb dM_sector_32 rfl (lv_at hl 0 rfl) ?_
    refine kp_callv (wr := []) (nw := fun u => (wM cI ad (th) (f0) (g1) (f2) (f3) (u.1) (u.2.1) (u.2.2.1) (u.2.2.2))) (va_runV (As := [.int (nI (sn)), .int (nI (k))]) (rest := []) ⟨hx, hb, hml, hown, htA⟩ (c_makeTweak l dC dI cI ad (th) (f0) (g1) (f2) (f3) (g4) (g5) (g6) (g7) H.size KEY hBK hk0 hbx hbk sn k hsn (by omega)) (cwV 2 htA (goodM_V mM_l78 mM_instanceMethod_makeTweak mM_selects_makeTweak mM_code_makeTweak) rfl rfl rfl (by decide +kernel) ⟨Nat.le_trans (Nat.le_of_ble_eq_true rfl) hf.1, Nat.le_trans (Nat.le_of_ble_eq_true rfl) hf.2⟩) (kp_preV (wc := (wM cI ad (th) (f0) (g1) (f2) (f3) (g4) (g5) (g6) (g7))) kp_XT trivial hP hD hK hS hA [0, 1, 2, 3, 4, 5, 6, 7, 8] rfl rfl rfl [0] rfl (q0 := 0) rfl rfl) rfl rfl hl.1 rfl (lv_room (Nat.le_of_ble_eq_true rfl)) dM_sector_33 ⟨hc.1, hc.2⟩) hP hD hS hA [0, 1, 2, 3, 4, 5, 6, 7, 8] [] rfl rfl rfl (by decide) [0, 1, 2, 3, 4, 5, 6, 7, 8] rfl (fun _ => rfl) (fun _ => rfl) (fun u H locs hu hP hD hS => ?_)
    obtain ⟨a4, a5, a6, a7⟩ := u
    refine lv_iconst (v := nI 0) hx hb dM_sector_36 (by decide) ?_
    refine lv_istore (nL := 5) (lv' := [(4, .int (nI (0))), (3, .int (nI (k))), (0, .ref (ad 8)), (1, .int (nI (sn))), (2, .int (sl))]) hx hb dM_sector_37 hl (by decide) rfl (fun ls hl => ?_)
    refine lp_sec1 hx hb htA hown hml hA hc hf hK (SEC := ae_sj (if sl = 0 then ae_dec (ae_kx (ae_at KEY (16 * 0))) else ae_enc (ae_kx (ae_at KEY (16 * 0)))) (ae_enc (ae_kx (ae_at KEY (16 * 1))) (ae_sn sn)) SEC k) (T := ae_tw (ae_enc (ae_kx (ae_at KEY (16 * 1))) (ae_sn sn)) k) (by omega) i1 hu (fun g ls H locs hg hl hP hD hS => ?_) 16 0 a5 ls H locs (by omega) li_f0 (lv_sub hl [0, 1, 2, 3, 4] rfl) hP hD hS
    have hBX : ae_B (ae_xf (ae_at (ae_sj (if sl = 0 then ae_dec (ae_kx (ae_at KEY (16 * 0))) else ae_enc (ae_kx (ae_at KEY (16 * 0)))) (ae_enc (ae_kx (ae_at KEY (16 * 1))) (ae_sn sn)) SEC k) (16 * k)) (ae_tw (ae_enc (ae_kx (ae_at KEY (16 * 1))) (ae_sn sn)) k)) := ae_xf_lt (ae_at_lt hBj _) (ae_tw_lt hT k)
    refine lv_iload_n hx hb dM_sector_79 rfl (lv_at hl 4 rfl) ?_
    refine lv_if_eq (tgt := 91) hx hb dM_sector_80 (by decide) (fun hc1 => ?_) (fun hc1 => ?_)
    · refine lv_aload_n hx hb dM_sector_91 rfl (lv_at hl 2 rfl) ?_
      refine lv_iconst (v := nI 0) hx hb dM_sector_92 (by decide) ?_
      refine kp_callv (wr := []) (nw := fun u => (wM cI ad (th) (f0) (g1) (f2) (f3) (u.1) (u.2.1) (u.2.2) (a7))) (va_runV (As := [.int (nI (0))]) (rest := []) ⟨hx, hb, hml, hown, htA⟩ (c_decipher l dC dI cI ad (th) (f0) (g1) (f2) (f3) (a4) (g) (a6) (a7) H.size KEY _ 0 (by omega) hBK hBX hk0 hbx hbk hg) (cwV 1 htA (goodM_V mM_l72 mM_instanceMethod_decipher mM_selects_decipher mM_code_decipher) rfl rfl rfl (by decide +kernel) ⟨Nat.le_trans (Nat.le_of_ble_eq_true rfl) hf.1, Nat.le_trans (Nat.le_of_ble_eq_true rfl) hf.2⟩) (kp_preV (wc := (wM cI ad (th) (f0) (g1) (f2) (f3) (a4) (g) (a6) (a7))) kp_XT trivial hP hD hK hS hA [0, 1, 2, 3, 4, 5, 6, 7, 8] rfl rfl rfl [0] rfl (q0 := 0) rfl rfl) rfl rfl hl.1 rfl (lv_room (Nat.le_of_ble_eq_true rfl)) dM_sector_93 ⟨hc.1, hc.2⟩) hP hD hS hA [0, 1, 2, 3, 4, 5, 6, 7, 8] [] rfl rfl rfl (by decide) [0, 1, 2, 3, 4, 5, 6, 7, 8] rfl (fun _ => rfl) (fun _ => rfl) (fun u H locs hv hP hD hS => ?_)
      obtain ⟨b4, b5, b6⟩ := u
      have hv : li_ag 16 b5 ((if sl = 0 then ae_dec (ae_kx (ae_at KEY (16 * 0))) else ae_enc (ae_kx (ae_at KEY (16 * 0)))) (ae_xf (ae_at (ae_sj (if sl = 0 then ae_dec (ae_kx (ae_at KEY (16 * 0))) else ae_enc (ae_kx (ae_at KEY (16 * 0)))) (ae_enc (ae_kx (ae_at KEY (16 * 1))) (ae_sn sn)) SEC k) (16 * k)) (ae_tw (ae_enc (ae_kx (ae_at KEY (16 * 1))) (ae_sn sn)) k))) := by
        have e : (if sl = 0 then ae_dec (ae_kx (ae_at KEY (16 * 0))) else ae_enc (ae_kx (ae_at KEY (16 * 0)))) = ae_dec (ae_kx (ae_at KEY (16 * 0))) := if_pos hc1
        rw [e] at hv ⊢; exact hv
      refine lv_iconst (v := nI 0) hx hb dM_sector_96 (by decide) ?_
      refine lv_istore (nL := 5) (lv' := [(4, .int (nI (0))), (3, .int (nI (k))), (0, .ref (ad 8)), (1, .int (nI (sn))), (2, .int (sl))]) hx hb dM_sector_97 hl (by decide) rfl (fun ls hl => ?_)
      refine lp_sec2 hx hb htA hown hml hA hc hf hK (T := ae_tw (ae_enc (ae_kx (ae_at KEY (16 * 1))) (ae_sn sn)) k) (by omega) hv hu (fun g9 ls H locs hg9 hl hP hD hS => ?_) 16 0 g1 ls H locs (by omega) (fun j hj => by omega) (fun j hj => rfl) (lv_sub hl [0, 1, 2, 3, 4] rfl) hP hD hS
      refine lv_iinc (k := 1) (v := nI (k + 1)) (nL := 5) (lv' := [(3, .int (nI (k + 1))), (4, .int (nI (16))), (0, .ref (ad 8)), (1, .int (nI (sn))), (2, .int (sl))]) hx hb dM_sector_139 hl rfl (nI_1 (k)) (by decide) rfl (fun ls hl => ?_)
      refine lv_goto (tgt := 24) hx hb dM_sector_142 (by decide) ?_
      exact ih (k + 1) g9 b4 b5 b6 a7 ls H locs (by omega) (li_pt i1 hg9.1 hg9.2) (lv_sub hl [0, 2, 3, 4] rfl) hP hD hS
    · refine lv_aload_n hx hb dM_sector_83 rfl (lv_at hl 2 rfl) ?_
      refine lv_iconst (v := nI 0) hx hb dM_sector_84 (by decide) ?_
      refine kp_callv (wr := []) (nw := fun u => (wM cI ad (th) (f0) (g1) (f2) (f3) (u.1) (u.2.1) (u.2.2) (a7))) (va_runV (As := [.int (nI (0))]) (rest := []) ⟨hx, hb, hml, hown, htA⟩ (c_encipher l dC dI cI ad (th) (f0) (g1) (f2) (f3) (a4) (g) (a6) (a7) H.size KEY _ 0 (by omega) hBK hBX hk0 hbx hbk hg) (cwV 1 htA (goodM_V mM_l75 mM_instanceMethod_encipher mM_selects_encipher mM_code_encipher) rfl rfl rfl (by decide +kernel) ⟨Nat.le_trans (Nat.le_of_ble_eq_true rfl) hf.1, Nat.le_trans (Nat.le_of_ble_eq_true rfl) hf.2⟩) (kp_preV (wc := (wM cI ad (th) (f0) (g1) (f2) (f3) (a4) (g) (a6) (a7))) kp_XT trivial hP hD hK hS hA [0, 1, 2, 3, 4, 5, 6, 7, 8] rfl rfl rfl [0] rfl (q0 := 0) rfl rfl) rfl rfl hl.1 rfl (lv_room (Nat.le_of_ble_eq_true rfl)) dM_sector_85 ⟨hc.1, hc.2⟩) hP hD hS hA [0, 1, 2, 3, 4, 5, 6, 7, 8] [] rfl rfl rfl (by decide) [0, 1, 2, 3, 4, 5, 6, 7, 8] rfl (fun _ => rfl) (fun _ => rfl) (fun u H locs hv hP hD hS => ?_)
      obtain ⟨b4, b5, b6⟩ := u
      have hv : li_ag 16 b5 ((if sl = 0 then ae_dec (ae_kx (ae_at KEY (16 * 0))) else ae_enc (ae_kx (ae_at KEY (16 * 0)))) (ae_xf (ae_at (ae_sj (if sl = 0 then ae_dec (ae_kx (ae_at KEY (16 * 0))) else ae_enc (ae_kx (ae_at KEY (16 * 0)))) (ae_enc (ae_kx (ae_at KEY (16 * 1))) (ae_sn sn)) SEC k) (16 * k)) (ae_tw (ae_enc (ae_kx (ae_at KEY (16 * 1))) (ae_sn sn)) k))) := by
        have e : (if sl = 0 then ae_dec (ae_kx (ae_at KEY (16 * 0))) else ae_enc (ae_kx (ae_at KEY (16 * 0)))) = ae_enc (ae_kx (ae_at KEY (16 * 0))) := if_neg hc1
        rw [e] at hv ⊢; exact hv
      refine lv_goto (tgt := 96) hx hb dM_sector_88 (by decide) ?_
      refine lv_iconst (v := nI 0) hx hb dM_sector_96 (by decide) ?_
      refine lv_istore (nL := 5) (lv' := [(4, .int (nI (0))), (3, .int (nI (k))), (0, .ref (ad 8)), (1, .int (nI (sn))), (2, .int (sl))]) hx hb dM_sector_97 hl (by decide) rfl (fun ls hl => ?_)
      refine lp_sec2 hx hb htA hown hml hA hc hf hK (T := ae_tw (ae_enc (ae_kx (ae_at KEY (16 * 1))) (ae_sn sn)) k) (by omega) hv hu (fun g9 ls H locs hg9 hl hP hD hS => ?_) 16 0 g1 ls H locs (by omega) (fun j hj => by omega) (fun j hj => rfl) (lv_sub hl [0, 1, 2, 3, 4] rfl) hP hD hS
      refine lv_iinc (k := 1) (v := nI (k + 1)) (nL := 5) (lv' := [(3, .int (nI (k + 1))), (4, .int (nI (16))), (0, .ref (ad 8)), (1, .int (nI (sn))), (2, .int (sl))]) hx hb dM_sector_139 hl rfl (nI_1 (k)) (by decide) rfl (fun ls hl => ?_)
      refine lv_goto (tgt := 24) hx hb dM_sector_142 (by decide) ?_
      exact ih (k + 1) g9 b4 b5 b6 a7 ls H locs (by omega) (li_pt i1 hg9.1 hg9.2) (lv_sub hl [0, 2, 3, 4] rfl) hP hD hS
end
set_option maxRecDepth 100000 in
set_option maxHeartbeats 4000000 in
theorem c_sector_t (l : Launch) (dC : Nat → ClassId) (dI : Nat → Nat → Nat) (cI : ClassId) (ad : Nat → Nat) (th : Int32) (f0 f1 f2 f3 f4 f5 f6 f7 : Nat → Int32) (sz : Nat) (KEY SEC : Nat → Nat) (hBK : ae_B KEY) (hBS : ae_B SEC) (hk0 : li_ag 32 f0 KEY) (hk1 : li_ag 128 f1 SEC) (hbx : li_ag 256 f2 ae_sb) (hbk : li_ag 256 f3 ae_ib) (sl : Int32) (sn : Nat) (hsn : sn < 2147483648) : kp_Ml l yM_sector wsM_sector { frames := 4, cells := 0, slots := 0, locals := 100 } (dC, dI) mCl [.ref (ad 8), .int (nI sn), .int sl] (wM cI ad (th) (f0) (f1) (f2) (f3) (f4) (f5) (f6) (f7)) [(cI, .int)] sz kp_T (fun (r : Int64) (u : (Nat → Int32) × (Nat → Int32) × (Nat → Int32) × (Nat → Int32) × (Nat → Int32)) => r = ae_l (ae_sj (if sl = 0 then ae_dec (ae_kx (ae_at KEY (16 * 0))) else ae_enc (ae_kx (ae_at KEY (16 * 0)))) (ae_enc (ae_kx (ae_at KEY (16 * 1))) (ae_sn sn)) SEC 8) 0 ∧ li_ag 128 u.1 (ae_sj (if sl = 0 then ae_dec (ae_kx (ae_at KEY (16 * 0))) else ae_enc (ae_kx (ae_at KEY (16 * 0)))) (ae_enc (ae_kx (ae_at KEY (16 * 1))) (ae_sn sn)) SEC 8)) (fun u => (wM cI ad (nI 0) (f0) (u.1) (f2) (f3) (u.2.1) (u.2.2.1) (u.2.2.2.1) (u.2.2.2.2))) := by
  refine kp_ofl (cc := cM_sector) (maxL := 5) (ret := some .long) (by decide) rfl (Nat.le_of_ble_eq_true rfl) ?_
  intro p e s m args below meth c ls A hx hb hr hts hown hlocks hml hnm hA hsz hl hP hD hK hX hS
  have hown : s.vm.findClass RM = some m.cls := hown
  have htA : ∀ w ∈ wsM_a, w.before args s = true := fun w h => hts w (List.mem_cons_of_mem _ h)
  have hf : 4 ≤ ({ frames := 4, cells := 0, slots := 0, locals := 100 } : Room).frames ∧ 100 ≤ ({ frames := 4, cells := 0, slots := 0, locals := 100 } : Room).locals := ⟨Nat.le_of_ble_eq_true rfl, Nat.le_of_ble_eq_true rfl⟩
  have hc : 0 ≤ ({ frames := 4, cells := 0, slots := 0, locals := 100 } : Room).cells ∧ 0 ≤ ({ frames := 4, cells := 0, slots := 0, locals := 100 } : Room).slots := ⟨Nat.zero_le _, Nat.zero_le _⟩
  have hl : lv_has ls 5 [(0, .ref (ad 8)), (1, .int (nI (sn))), (2, .int (sl))] := hl
  refine lv_aload_n hx hb dM_sector_0 rfl (lv_at hl 0 rfl) ?_
  refine lv_iload_n hx hb dM_sector_1 rfl (lv_at hl 1 rfl) ?_
  refine lv_if_ge (tgt := 9) hx hb dM_sector_2 (by decide) (fun hc0 => ?_) (fun h9 => absurd h9 (fun z => z (nI_pos' hsn)))
  refine lv_iconst (v := nI 0) hx hb dM_sector_9 (by decide) ?_
  refine va_put (D := (dC, dI)) (ci := 2) (v := .int (nI (0))) (ty := .int) (C := RM) (T := TM) (N := 9) hx hb htA inM0 tyM tyM_ok nmM hown hK hP hD hS 0 rfl rfl 8 (by decide) (htA _ mM_f38) (fun _ h9 => h9) rfl (by decide +kernel) rfl rfl (Nat.le_of_ble_eq_true rfl) dM_sector_10 (fun H locs hP hD hS => ?_)
  have hP : va_P (dC, dI) mCl (wM cI ad (nI (0)) (f0) (f1) (f2) (f3) (f4) (f5) (f6) (f7)) H := hP
  have hD : va_D A (wM cI ad (nI (0)) (f0) (f1) (f2) (f3) (f4) (f5) (f6) (f7)) := hD
  refine lv_aload_n hx hb dM_sector_13 rfl (lv_at hl 0 rfl) ?_
  refine va_get (D := (dC, dI)) (ci := 2) (v := .int (nI (0))) (C := RM) (T := TM) (N := 9) hx hb htA inM0 hown hK hP 0 rfl rfl 8 (by decide) (htA _ mM_f38) (fun _ h9 => h9) rfl dM_sector_14 ?_
  refine xi_if_eq (tgt := 22) hx hb dM_sector_17 (by decide) (by omega) (fun hc1 => ?_) (fun h9 => absurd h9 (fun z => z rfl))
  refine lv_iconst (v := nI 0) hx hb dM_sector_22 (by decide) ?_
  refine lv_istore_n (nL := 5) (lv' := [(3, .int (nI (0))), (0, .ref (ad 8)), (1, .int (nI (sn))), (2, .int (sl))]) hx hb dM_sector_23 rfl hl (by decide) rfl (fun ls hl => ?_)
  refine lp_sec hx hb htA hown hml hA hc hf hK hBK hBS hk0 hbx hbk hsn (fun g1 g4 g5 g6 g7 ls H locs hg hl hP hD hS => ?_) 8 0 f1 f4 f5 f6 f7 ls H locs (by omega) hk1 (lv_sub hl [0, 1, 2, 3] rfl) hP hD hS
  have hB8 : ae_B (ae_sj (if sl = 0 then ae_dec (ae_kx (ae_at KEY (16 * 0))) else ae_enc (ae_kx (ae_at KEY (16 * 0)))) (ae_enc (ae_kx (ae_at KEY (16 * 1))) (ae_sn sn)) SEC 8) := ae_sj_lt (fun Z hZ => by split; exact ae_dec_lt (ae_kxB hBK _) hZ; exact ae_enc_lt (ae_kxB hBK _) hZ) (ae_enc_lt (ae_kxB hBK _) (ae_sn_lt sn)) hBS 8
  refine lv_aload_n hx hb dM_sector_145 rfl (lv_at hl 1 rfl) ?_
  refine va_get (D := (dC, dI)) (ci := 2) (v := .ref (ad 1)) (C := RM) (T := TM) (N := 9) hx hb htA inM0 hown hK hP 0 rfl rfl 1 (by decide) (htA _ mM_f13) (fun _ h9 => h9) rfl dM_sector_146 ?_
  refine lv_iconst (v := nI 0) hx hb dM_sector_149 (by decide) ?_
  refine kp_calll (wr := [((ad 8), .inr (2, [.ref (ad 0), .ref (ad 1), .ref (ad 2), .ref (ad 3), .ref (ad 4), .ref (ad 5), .ref (ad 6), .ref (ad 7), .int (nI 0)])), ((ad 0), .inl (cI, 32, .inl (f0))), ((ad 2), .inl (cI, 256, .inl (f2))), ((ad 3), .inl (cI, 256, .inl (f3))), ((ad 4), .inl (cI, 176, .inl (g4))), ((ad 5), .inl (cI, 16, .inl (g5))), ((ad 6), .inl (cI, 16, .inl (g6))), ((ad 7), .inl (cI, 16, .inl (g7)))]) (nw := fun _u => (wM cI ad (nI 0) (f0) (g1) (f2) (f3) (g4) (g5) (g6) (g7))) (va_runS (As := [.ref (ad 1), .int (nI (0))]) (rest := []) ⟨hx, hb, hml, hown, htA⟩ (c_read l dC dI cI H.size (ad 1) 128 0 g1 (ae_at (ae_sj (if sl = 0 then ae_dec (ae_kx (ae_at KEY (16 * 0))) else ae_enc (ae_kx (ae_at KEY (16 * 0)))) (ae_enc (ae_kx (ae_at KEY (16 * 1))) (ae_sn sn)) SEC 8) 0) (by omega) (by omega) (ae_at_lt hB8 _) (fun k hk => hg _ (by omega))) (va_cwS 2 htA (goodM_S mM_l54 mM_static_read mM_code_read) rfl rfl rfl (by decide +kernel) ⟨Nat.le_trans (Nat.le_of_ble_eq_true rfl) hf.1, Nat.le_trans (Nat.le_of_ble_eq_true rfl) hf.2⟩) (kp_preS (wc := [((ad 1), .inl (cI, 128, .inl (g1)))]) kp_XT trivial hP hD hK hS hA [2] rfl rfl rfl [0] rfl) rfl rfl hl.1 rfl (lv_room (Nat.le_of_ble_eq_true rfl)) dM_sector_150 ⟨hc.1, hc.2⟩) hP hD hS hA [2] [0, 1, 3, 4, 5, 6, 7, 8] rfl rfl rfl (by decide) [0, 1, 8, 2, 3, 4, 5, 6, 7] rfl (fun _ => rfl) (fun _ => rfl) (fun r _u H locs hr2 hP hD hS => ?_)
  subst hr2
  exact kp_retl (g1, g4, g5, g6, g7) hx hb hr hlocks ⟨ae_l_at _ 0, hg⟩ hP hD hS dM_sector_153
set_option maxRecDepth 100000 in
set_option maxHeartbeats 4000000 in
theorem c_sector_f (l : Launch) (dC : Nat → ClassId) (dI : Nat → Nat → Nat) (cI : ClassId) (ad : Nat → Nat) (th : Int32) (f0 f1 f2 f3 f4 f5 f6 f7 : Nat → Int32) (sz : Nat) (KEY SEC : Nat → Nat) (hBK : ae_B KEY) (hBS : ae_B SEC) (hk0 : li_ag 32 f0 KEY) (hk1 : li_ag 128 f1 SEC) (hbx : li_ag 256 f2 ae_sb) (hbk : li_ag 256 f3 ae_ib) (sl : Int32) (sn : Int32) (hsn : sn < 0) : kp_Ml l yM_sector wsM_sector { frames := 4, cells := 0, slots := 0, locals := 100 } (dC, dI) mCl [.ref (ad 8), .int sn, .int sl] (wM cI ad (th) (f0) (f1) (f2) (f3) (f4) (f5) (f6) (f7)) [(cI, .int)] sz kp_T (fun (r : Int64) (_ : Unit) => True) (fun _ => (wM cI ad (nI 1) (f0) (f1) (f2) (f3) (f4) (f5) (f6) (f7))) := by
  refine kp_ofl (cc := cM_sector) (maxL := 5) (ret := some .long) (by decide) rfl (Nat.le_of_ble_eq_true rfl) ?_
  intro p e s m args below meth c ls A hx hb hr hts hown hlocks hml hnm hA hsz hl hP hD hK hX hS
  have hown : s.vm.findClass RM = some m.cls := hown
  have htA : ∀ w ∈ wsM_a, w.before args s = true := fun w h => hts w (List.mem_cons_of_mem _ h)
  have hf : 4 ≤ ({ frames := 4, cells := 0, slots := 0, locals := 100 } : Room).frames ∧ 100 ≤ ({ frames := 4, cells := 0, slots := 0, locals := 100 } : Room).locals := ⟨Nat.le_of_ble_eq_true rfl, Nat.le_of_ble_eq_true rfl⟩
  have hc : 0 ≤ ({ frames := 4, cells := 0, slots := 0, locals := 100 } : Room).cells ∧ 0 ≤ ({ frames := 4, cells := 0, slots := 0, locals := 100 } : Room).slots := ⟨Nat.zero_le _, Nat.zero_le _⟩
  have hl : lv_has ls 5 [(0, .ref (ad 8)), (1, .int (sn)), (2, .int (sl))] := hl
  refine lv_aload_n hx hb dM_sector_0 rfl (lv_at hl 0 rfl) ?_
  refine lv_iload_n hx hb dM_sector_1 rfl (lv_at hl 1 rfl) ?_
  refine lv_if_ge (tgt := 9) hx hb dM_sector_2 (by decide) (fun h9 => absurd h9 (Int32.not_le.mpr hsn)) (fun hc0 => ?_)
  refine lv_iconst (v := nI 1) hx hb dM_sector_5 (by decide) ?_
  refine lv_goto (tgt := 10) hx hb dM_sector_6 (by decide) ?_
  refine va_put (D := (dC, dI)) (ci := 2) (v := .int (nI (1))) (ty := .int) (C := RM) (T := TM) (N := 9) hx hb htA inM0 tyM tyM_ok nmM hown hK hP hD hS 0 rfl rfl 8 (by decide) (htA _ mM_f38) (fun _ h9 => h9) rfl (by decide +kernel) rfl rfl (Nat.le_of_ble_eq_true rfl) dM_sector_10 (fun H locs hP hD hS => ?_)
  have hP : va_P (dC, dI) mCl (wM cI ad (nI (1)) (f0) (f1) (f2) (f3) (f4) (f5) (f6) (f7)) H := hP
  have hD : va_D A (wM cI ad (nI (1)) (f0) (f1) (f2) (f3) (f4) (f5) (f6) (f7)) := hD
  refine lv_aload_n hx hb dM_sector_13 rfl (lv_at hl 0 rfl) ?_
  refine va_get (D := (dC, dI)) (ci := 2) (v := .int (nI (1))) (C := RM) (T := TM) (N := 9) hx hb htA inM0 hown hK hP 0 rfl rfl 8 (by decide) (htA _ mM_f38) (fun _ h9 => h9) rfl dM_sector_14 ?_
  refine xi_if_eq (tgt := 22) hx hb dM_sector_17 (by decide) (by omega) (fun h9 => absurd h9 (by decide)) (fun hc1 => ?_)
  refine lv_lconst (v := lN 0) hx hb dM_sector_20 rfl ?_
  exact kp_retl () hx hb hr hlocks trivial hP hD hS dM_sector_21
