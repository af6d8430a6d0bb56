/-! the reference: expand, encipher, decipher -/
theorem ae_kx_0 {K : Nat → Nat} {k : Nat} (h : k < 16) : ae_kx K k = K k := by rw [ae_kx, dif_pos h]
theorem ae_kx_a {K : Nat → Nat} {k : Nat} (h : 16 ≤ k) (h0 : k % 16 = 0) : ae_kx K k = ae_kx K (k - 16) ^^^ ae_sb (ae_kx K (k - k % 4 - 4 + (k + 1) % 4)) ^^^ ae_rc (k / 16 - 1) := by
  rw [ae_kx, dif_neg (by omega), if_pos (by omega), if_pos h0]
theorem ae_kx_b {K : Nat → Nat} {k : Nat} (h : 16 ≤ k) (h0 : k % 16 < 4) (h1 : k % 16 ≠ 0) : ae_kx K k = ae_kx K (k - 16) ^^^ ae_sb (ae_kx K (k - k % 4 - 4 + (k + 1) % 4)) ^^^ 0 := by
  rw [ae_kx, dif_neg (by omega), if_pos h0, if_neg h1]
theorem ae_kx_c {K : Nat → Nat} {k : Nat} (h : 16 ≤ k) (h0 : 4 ≤ k % 16) : ae_kx K k = ae_kx K (k - 16) ^^^ ae_kx K (k - 4) ^^^ 0 := by
  rw [ae_kx, dif_neg (by omega), if_neg (by omega), if_neg (by omega)]
theorem ae_en_s {K S : Nat → Nat} {r : Nat} (h : 1 ≤ r) : ae_en K S r = ae_eR K r (ae_en K S (r - 1)) := by
  cases r with
  | zero => omega
  | succ r => rfl
section
variable {p : Program} {l : Launch} {e : Env} {R : Room} {s : State} {m : MethodId} {args : Array Value} {below : List Frame} {meth : Method} {c : Code} {cells slots : Nat} {Q : State → Prop} {dC : Nat → ClassId} {dI : Nat → Nat → Nat} {A : Nat → Prop}

set_option maxRecDepth 100000 in
set_option maxHeartbeats 4000000 in
theorem lp_expand (hx : p.tables.exec = Jvm.exec) (hb : c.code = cM_expand) (htA : ∀ w ∈ wsM_a, w.before args s = true) (hown : s.vm.findClass RM = some m.cls) (hml : c.maxLocals = 6) (hA : ∀ q, s.heap.size ≤ q → A q) (hc : cells ≤ R.cells ∧ slots ≤ R.slots) (hf : 1 ≤ R.frames ∧ 24 ≤ R.locals) {cI : ClassId} {ad : Nat → Nat} {th : Int32} {f0 f1 f2 f3 f5 f6 f7 : Nat → Int32} (hK : va_K (dC, dI) mCl [(cI, .int)] s) {KEY : Nat → Nat} {h : Nat} (hh : h < 2) (hB : ae_B KEY) (hk0 : li_ag 32 f0 KEY) (hbx : li_ag 256 f2 ae_sb)
    (kk : ∀ (g : Nat → Int32) (cs : Nat) (ls : Array Slot) (H : Heap) (locs : List Loc), li_f 176 g (ae_kx (ae_at KEY (16 * h))) → lv_has ls 6 [(3, .int (nI (176))), (2, .int (nI (cs))), (0, .ref (ad 8)), (1, .int (nI (h)))] → va_P (dC, dI) mCl (wM cI ad (th) (f0) (f1) (f2) (f3) (g) (f5) (f6) (f7)) H → va_D A (wM cI ad (th) (f0) (f1) (f2) (f3) (g) (f5) (f6) (f7)) → va_S A s.heap H locs → W p l e R s m args below meth c H locs cells slots Q (F0 m 143 ls [])) :
    ∀ (j k : Nat) (g : Nat → Int32) (cs : Nat) (ls : Array Slot) (H : Heap) (locs : List Loc), k + j = 176 → li_f k g (ae_kx (ae_at KEY (16 * h))) → cs = ae_rc ((k - 1) / 16) → lv_has ls 6 [(3, .int (nI (k))), (2, .int (nI (cs))), (0, .ref (ad 8)), (1, .int (nI (h)))] → va_P (dC, dI) mCl (wM cI ad (th) (f0) (f1) (f2) (f3) (g) (f5) (f6) (f7)) H → va_D A (wM cI ad (th) (f0) (f1) (f2) (f3) (g) (f5) (f6) (f7)) → va_S A s.heap H locs → W p l e R s m args below meth c H locs cells slots Q (F0 m 4 ls []) := by
  intro j
  induction j with
  | zero =>
    intro k g cs ls H locs hj i1 ics hl hP hD hS
    have e : k = 176 := by omega
    subst e
    refine lv_iload_n hx hb dM_expand_4 rfl (lv_at hl 0 rfl) ?_
    refine lv_sipush (v := nI 176) hx hb dM_expand_5 (by decide) ?_
    refine xi_icmp_ge (tgt := 143) hx hb dM_expand_8 (by decide) (by omega) (by omega) (fun hc0 => ?_) (fun h9 => absurd h9 (by omega))
    exact kk g cs ls H locs i1 hl hP hD hS
  | succ j ih =>
    intro k g cs ls H locs hj i1 ics hl hP hD hS
    have hKB : ae_B (ae_at KEY (16 * h)) := ae_at_lt hB _
    refine lv_iload_n hx hb dM_expand_4 rfl (lv_at hl 0 rfl) ?_
    refine lv_sipush (v := nI 176) hx hb dM_expand_5 (by decide) ?_
    refine xi_icmp_ge (tgt := 143) hx hb dM_expand_8 (by decide) (by omega) (by omega) (fun h9 => absurd h9 (by omega)) (fun hc0 => ?_)
    refine lv_iload_n hx hb dM_expand_11 rfl (lv_at hl 0 rfl) ?_
    refine lv_bipush (v := nI 16) hx hb dM_expand_12 (by decide) ?_
    refine xi_icmp_ge (tgt := 37) hx hb dM_expand_14 (by decide) (by omega) (by omega) (fun hc1 => ?_) (fun hc1 => ?_)
    · refine lv_iload_n hx hb dM_expand_37 rfl (lv_at hl 0 rfl) ?_
      refine lv_bipush (v := nI 16) hx hb dM_expand_38 (by decide) ?_
      refine xi_irem hx hb dM_expand_40 (by omega) (by omega) (by omega) ?_
      refine lv_iconst (v := nI 4) hx hb dM_expand_41 (by decide) ?_
      refine xi_icmp_ge (tgt := 49) hx hb dM_expand_42 (by decide) (by omega) (by omega) (fun hc2 => ?_) (fun hc2 => ?_)
      · refine lv_iconst (v := nI 0) hx hb dM_expand_49 (by decide) ?_
        refine lv_istore (nL := 6) (lv' := [(4, .int (nI (0))), (3, .int (nI (k))), (2, .int (nI (cs))), (0, .ref (ad 8)), (1, .int (nI (h)))]) hx hb dM_expand_50 hl (by decide) rfl (fun ls hl => ?_)
        refine lv_iload hx hb dM_expand_52 (lv_at hl 0 rfl) ?_
        refine xi_if_eq (tgt := 83) hx hb dM_expand_54 (by decide) (by omega) (fun hc3 => ?_) (fun h9 => absurd h9 (fun z => z rfl))
        refine lv_aload_n hx hb dM_expand_83 rfl (lv_at hl 3 rfl) ?_
        refine va_get (D := (dC, dI)) (ci := 2) (v := .ref (ad 4)) (C := RM) (T := TM) (N := 9) hx hb htA inM0 hown hK hP 0 rfl rfl 4 (by decide) (htA _ mM_f22) (fun _ h9 => h9) rfl dM_expand_84 ?_
        refine lv_iload_n hx hb dM_expand_87 rfl (lv_at hl 1 rfl) ?_
        refine lv_iconst (v := nI 4) hx hb dM_expand_88 (by decide) ?_
        refine xi_isub hx hb dM_expand_89 (by omega) ?_
        refine xa_ild hx hb hK hP 5 0 rfl rfl (by omega) (by omega) (v := nI (ae_kx (ae_at KEY (16 * h)) (k - 4))) (i1 _ (by omega)) dM_expand_90 ?_
        refine lv_istore (nL := 6) (lv' := [(5, .int (nI (ae_kx (ae_at KEY (16 * h)) (k - 4)))), (4, .int (nI (0))), (3, .int (nI (k))), (2, .int (nI (cs))), (0, .ref (ad 8)), (1, .int (nI (h)))]) hx hb dM_expand_91 hl (by decide) rfl (fun ls hl => ?_)
        refine lv_aload_n hx hb dM_expand_93 rfl (lv_at hl 4 rfl) ?_
        refine va_get (D := (dC, dI)) (ci := 2) (v := .ref (ad 4)) (C := RM) (T := TM) (N := 9) hx hb htA inM0 hown hK hP 0 rfl rfl 4 (by decide) (htA _ mM_f22) (fun _ h9 => h9) rfl dM_expand_94 ?_
        refine lv_iload_n hx hb dM_expand_97 rfl (lv_at hl 2 rfl) ?_
        refine lv_aload_n hx hb dM_expand_98 rfl (lv_at hl 4 rfl) ?_
        refine va_get (D := (dC, dI)) (ci := 2) (v := .ref (ad 4)) (C := RM) (T := TM) (N := 9) hx hb htA inM0 hown hK hP 0 rfl rfl 4 (by decide) (htA _ mM_f22) (fun _ h9 => h9) rfl dM_expand_99 ?_
        refine lv_iload_n hx hb dM_expand_102 rfl (lv_at hl 2 rfl) ?_
        refine lv_bipush (v := nI 16) hx hb dM_expand_103 (by decide) ?_
        refine xi_isub hx hb dM_expand_105 (by omega) ?_
        refine xa_ild hx hb hK hP 5 0 rfl rfl (by omega) (by omega) (v := nI (ae_kx (ae_at KEY (16 * h)) (k - 16))) (i1 _ (by omega)) dM_expand_106 ?_
        refine lv_iload hx hb dM_expand_107 (lv_at hl 0 rfl) ?_
        refine xi_ixor hx hb dM_expand_109 ?_
        refine lv_iload_n hx hb dM_expand_110 rfl (lv_at hl 2 rfl) ?_
        refine lv_bipush (v := nI 16) hx hb dM_expand_111 (by decide) ?_
        refine xi_irem hx hb dM_expand_113 (by omega) (by omega) (by omega) ?_
        refine xi_if_ne (tgt := 121) hx hb dM_expand_114 (by decide) (by omega) (fun hc4 => ?_) (fun h9 => absurd h9 (by omega))
        refine lv_iconst (v := nI 0) hx hb dM_expand_121 (by decide) ?_
        refine xi_ixor hx hb dM_expand_122 ?_
        refine xa_ist hx hb hK hP hD hS 5 0 rfl rfl (by omega) (by omega) dM_expand_123 (fun H locs hP hD hS => ?_)
        have hP : va_P (dC, dI) mCl (wM cI ad (th) (f0) (f1) (f2) (f3) (upd (g) (k) (nI (((ae_kx (ae_at KEY (16 * h)) (k - 16)) ^^^ (ae_kx (ae_at KEY (16 * h)) (k - 4))) ^^^ (0)))) (f5) (f6) (f7)) H := hP
        have hD : va_D A (wM cI ad (th) (f0) (f1) (f2) (f3) (upd (g) (k) (nI (((ae_kx (ae_at KEY (16 * h)) (k - 16)) ^^^ (ae_kx (ae_at KEY (16 * h)) (k - 4))) ^^^ (0)))) (f5) (f6) (f7)) := hD
        refine lv_iload_n hx hb dM_expand_124 rfl (lv_at hl 2 rfl) ?_
        refine lv_bipush (v := nI 16) hx hb dM_expand_125 (by decide) ?_
        refine xi_irem hx hb dM_expand_127 (by omega) (by omega) (by omega) ?_
        refine xi_if_ne (tgt := 137) hx hb dM_expand_128 (by decide) (by omega) (fun hc5 => ?_) (fun h9 => absurd h9 (by omega))
        refine lv_iinc (k := 2) (v := nI (k + 1)) (nL := 6) (lv' := [(3, .int (nI (k + 1))), (5, .int (nI (ae_kx (ae_at KEY (16 * h)) (k - 4)))), (4, .int (nI (0))), (2, .int (nI (cs))), (0, .ref (ad 8)), (1, .int (nI (h)))]) hx hb dM_expand_137 hl rfl (nI_1 (k)) (by decide) rfl (fun ls hl => ?_)
        refine lv_goto (tgt := 4) hx hb dM_expand_140 (by decide) ?_
        exact ih (k + 1) _ (cs) ls H locs (by omega) (li_fs i1 (by rw [ae_kx_c hc1 hc2])) (by rw [ics]; congr 1; omega) (lv_sub hl [0, 3, 4, 5] rfl) hP hD hS
      · refine lv_iconst (v := nI 1) hx hb dM_expand_45 (by decide) ?_
        refine lv_goto (tgt := 50) hx hb dM_expand_46 (by decide) ?_
        refine lv_istore (nL := 6) (lv' := [(4, .int (nI (1))), (3, .int (nI (k))), (2, .int (nI (cs))), (0, .ref (ad 8)), (1, .int (nI (h)))]) hx hb dM_expand_50 hl (by decide) rfl (fun ls hl => ?_)
        refine lv_iload hx hb dM_expand_52 (lv_at hl 0 rfl) ?_
        refine xi_if_eq (tgt := 83) hx hb dM_expand_54 (by decide) (by omega) (fun h9 => absurd h9 (by omega)) (fun hc3 => ?_)
        refine lv_aload_n hx hb dM_expand_57 rfl (lv_at hl 3 rfl) ?_
        refine va_get (D := (dC, dI)) (ci := 2) (v := .ref (ad 2)) (C := RM) (T := TM) (N := 9) hx hb htA inM0 hown hK hP 0 rfl rfl 2 (by decide) (htA _ mM_f16) (fun _ h9 => h9) rfl dM_expand_58 ?_
        refine lv_aload_n hx hb dM_expand_61 rfl (lv_at hl 3 rfl) ?_
        refine va_get (D := (dC, dI)) (ci := 2) (v := .ref (ad 4)) (C := RM) (T := TM) (N := 9) hx hb htA inM0 hown hK hP 0 rfl rfl 4 (by decide) (htA _ mM_f22) (fun _ h9 => h9) rfl dM_expand_62 ?_
        refine lv_iload_n hx hb dM_expand_65 rfl (lv_at hl 1 rfl) ?_
        refine lv_iload_n hx hb dM_expand_66 rfl (lv_at hl 1 rfl) ?_
        refine lv_iconst (v := nI 4) hx hb dM_expand_67 (by decide) ?_
        refine xi_irem hx hb dM_expand_68 (by omega) (by omega) (by omega) ?_
        refine xi_isub hx hb dM_expand_69 (by omega) ?_
        refine lv_iconst (v := nI 4) hx hb dM_expand_70 (by decide) ?_
        refine xi_isub hx hb dM_expand_71 (by omega) ?_
        refine lv_iload_n hx hb dM_expand_72 rfl (lv_at hl 1 rfl) ?_
        refine lv_iconst (v := nI 1) hx hb dM_expand_73 (by decide) ?_
        refine xi_iadd hx hb dM_expand_74 ?_
        refine lv_iconst (v := nI 4) hx hb dM_expand_75 (by decide) ?_
        refine xi_irem hx hb dM_expand_76 (by omega) (by omega) (by omega) ?_
        refine xi_iadd hx hb dM_expand_77 ?_
        refine xa_ild hx hb hK hP 5 0 rfl rfl (by omega) (by omega) (v := nI (ae_kx (ae_at KEY (16 * h)) (k - k % 4 - 4 + (k + 1) % 4))) (i1 _ (by omega)) dM_expand_78 ?_
        refine xa_ild hx hb hK hP 3 0 rfl rfl (by omega) (ae_kx_lt hKB _) (v := nI (ae_sb (ae_kx (ae_at KEY (16 * h)) (k - k % 4 - 4 + (k + 1) % 4)))) (hbx _ (ae_kx_lt hKB _)) dM_expand_79 ?_
        refine lv_goto (tgt := 91) hx hb dM_expand_80 (by decide) ?_
        refine lv_istore (nL := 6) (lv' := [(5, .int (nI (ae_sb (ae_kx (ae_at KEY (16 * h)) (k - k % 4 - 4 + (k + 1) % 4))))), (4, .int (nI (1))), (3, .int (nI (k))), (2, .int (nI (cs))), (0, .ref (ad 8)), (1, .int (nI (h)))]) hx hb dM_expand_91 hl (by decide) rfl (fun ls hl => ?_)
        refine lv_aload_n hx hb dM_expand_93 rfl (lv_at hl 4 rfl) ?_
        refine va_get (D := (dC, dI)) (ci := 2) (v := .ref (ad 4)) (C := RM) (T := TM) (N := 9) hx hb htA inM0 hown hK hP 0 rfl rfl 4 (by decide) (htA _ mM_f22) (fun _ h9 => h9) rfl dM_expand_94 ?_
        refine lv_iload_n hx hb dM_expand_97 rfl (lv_at hl 2 rfl) ?_
        refine lv_aload_n hx hb dM_expand_98 rfl (lv_at hl 4 rfl) ?_
        refine va_get (D := (dC, dI)) (ci := 2) (v := .ref (ad 4)) (C := RM) (T := TM) (N := 9) hx hb htA inM0 hown hK hP 0 rfl rfl 4 (by decide) (htA _ mM_f22) (fun _ h9 => h9) rfl dM_expand_99 ?_
        refine lv_iload_n hx hb dM_expand_102 rfl (lv_at hl 2 rfl) ?_
        refine lv_bipush (v := nI 16) hx hb dM_expand_103 (by decide) ?_
        refine xi_isub hx hb dM_expand_105 (by omega) ?_
        refine xa_ild hx hb hK hP 5 0 rfl rfl (by omega) (by omega) (v := nI (ae_kx (ae_at KEY (16 * h)) (k - 16))) (i1 _ (by omega)) dM_expand_106 ?_
        refine lv_iload hx hb dM_expand_107 (lv_at hl 0 rfl) ?_
        refine xi_ixor hx hb dM_expand_109 ?_
        refine lv_iload_n hx hb dM_expand_110 rfl (lv_at hl 2 rfl) ?_
        refine lv_bipush (v := nI 16) hx hb dM_expand_111 (by decide) ?_
        refine xi_irem hx hb dM_expand_113 (by omega) (by omega) (by omega) ?_
        refine xi_if_ne (tgt := 121) hx hb dM_expand_114 (by decide) (by omega) (fun hc4 => ?_) (fun hc4 => ?_)
        · refine lv_iconst (v := nI 0) hx hb dM_expand_121 (by decide) ?_
          refine xi_ixor hx hb dM_expand_122 ?_
          refine xa_ist hx hb hK hP hD hS 5 0 rfl rfl (by omega) (by omega) dM_expand_123 (fun H locs hP hD hS => ?_)
          have hP : va_P (dC, dI) mCl (wM cI ad (th) (f0) (f1) (f2) (f3) (upd (g) (k) (nI (((ae_kx (ae_at KEY (16 * h)) (k - 16)) ^^^ (ae_sb (ae_kx (ae_at KEY (16 * h)) (k - k % 4 - 4 + (k + 1) % 4)))) ^^^ (0)))) (f5) (f6) (f7)) H := hP
          have hD : va_D A (wM cI ad (th) (f0) (f1) (f2) (f3) (upd (g) (k) (nI (((ae_kx (ae_at KEY (16 * h)) (k - 16)) ^^^ (ae_sb (ae_kx (ae_at KEY (16 * h)) (k - k % 4 - 4 + (k + 1) % 4)))) ^^^ (0)))) (f5) (f6) (f7)) := hD
          refine lv_iload_n hx hb dM_expand_124 rfl (lv_at hl 2 rfl) ?_
          refine lv_bipush (v := nI 16) hx hb dM_expand_125 (by decide) ?_
          refine xi_irem hx hb dM_expand_127 (by omega) (by omega) (by omega) ?_
          refine xi_if_ne (tgt := 137) hx hb dM_expand_128 (by decide) (by omega) (fun hc5 => ?_) (fun h9 => absurd h9 (hc4))
          refine lv_iinc (k := 2) (v := nI (k + 1)) (nL := 6) (lv' := [(3, .int (nI (k + 1))), (5, .int (nI (ae_sb (ae_kx (ae_at KEY (16 * h)) (k - k % 4 - 4 + (k + 1) % 4))))), (4, .int (nI (1))), (2, .int (nI (cs))), (0, .ref (ad 8)), (1, .int (nI (h)))]) hx hb dM_expand_137 hl rfl (nI_1 (k)) (by decide) rfl (fun ls hl => ?_)
          refine lv_goto (tgt := 4) hx hb dM_expand_140 (by decide) ?_
          exact ih (k + 1) _ (cs) ls H locs (by omega) (li_fs i1 (by rw [ae_kx_b hc1 hc2 hc4])) (by rw [ics]; congr 1; omega) (lv_sub hl [0, 3, 4, 5] rfl) hP hD hS
        · refine lv_iload_n hx hb dM_expand_117 rfl (lv_at hl 3 rfl) ?_
          refine lv_goto (tgt := 122) hx hb dM_expand_118 (by decide) ?_
          refine xi_ixor hx hb dM_expand_122 ?_
          refine xa_ist hx hb hK hP hD hS 5 0 rfl rfl (by omega) (by omega) dM_expand_123 (fun H locs hP hD hS => ?_)
          have hP : va_P (dC, dI) mCl (wM cI ad (th) (f0) (f1) (f2) (f3) (upd (g) (k) (nI (((ae_kx (ae_at KEY (16 * h)) (k - 16)) ^^^ (ae_sb (ae_kx (ae_at KEY (16 * h)) (k - k % 4 - 4 + (k + 1) % 4)))) ^^^ (cs)))) (f5) (f6) (f7)) H := hP
          have hD : va_D A (wM cI ad (th) (f0) (f1) (f2) (f3) (upd (g) (k) (nI (((ae_kx (ae_at KEY (16 * h)) (k - 16)) ^^^ (ae_sb (ae_kx (ae_at KEY (16 * h)) (k - k % 4 - 4 + (k + 1) % 4)))) ^^^ (cs)))) (f5) (f6) (f7)) := hD
          refine lv_iload_n hx hb dM_expand_124 rfl (lv_at hl 2 rfl) ?_
          refine lv_bipush (v := nI 16) hx hb dM_expand_125 (by decide) ?_
          refine xi_irem hx hb dM_expand_127 (by omega) (by omega) (by omega) ?_
          refine xi_if_ne (tgt := 137) hx hb dM_expand_128 (by decide) (by omega) (fun h9 => absurd h9 (fun z => z hc4)) (fun hc5 => ?_)
          refine lv_iload_n hx hb dM_expand_131 rfl (lv_at hl 3 rfl) ?_
          refine lv_iconst (v := nI 2) hx hb dM_expand_132 (by decide) ?_
          refine kp_purei (v := nI (ae_tm cs 2)) (va_runS (As := [.int (nI (cs)), .int (nI (2))]) (rest := []) ⟨hx, hb, hml, hown, htA⟩ (c_times l dC dI H.size cs 2 (by rw [ics]; exact ae_rc_lt _) (by omega)) (va_cwS 2 htA (goodM_S mM_l42 mM_static_times mM_code_times) rfl rfl rfl (by decide +kernel) ⟨Nat.le_trans (Nat.le_of_ble_eq_true rfl) hf.1, Nat.le_trans (Nat.le_of_ble_eq_true rfl) hf.2⟩) (kp_preS (wc := []) kp_XT trivial hP hD hK hS hA [] rfl rfl rfl [] rfl) rfl rfl hl.1 rfl (lv_room (Nat.le_of_ble_eq_true rfl)) dM_expand_133 ⟨hc.1, hc.2⟩) hP hS hA (fun H locs hP hS => ?_)
          refine lv_istore_n (nL := 6) (lv' := [(2, .int (nI (ae_tm cs 2))), (5, .int (nI (ae_sb (ae_kx (ae_at KEY (16 * h)) (k - k % 4 - 4 + (k + 1) % 4))))), (4, .int (nI (1))), (3, .int (nI (k))), (0, .ref (ad 8)), (1, .int (nI (h)))]) hx hb dM_expand_136 rfl hl (by decide) rfl (fun ls hl => ?_)
          refine lv_iinc (k := 3) (v := nI (k + 1)) (nL := 6) (lv' := [(3, .int (nI (k + 1))), (2, .int (nI (ae_tm cs 2))), (5, .int (nI (ae_sb (ae_kx (ae_at KEY (16 * h)) (k - k % 4 - 4 + (k + 1) % 4))))), (4, .int (nI (1))), (0, .ref (ad 8)), (1, .int (nI (h)))]) hx hb dM_expand_137 hl rfl (nI_1 (k)) (by decide) rfl (fun ls hl => ?_)
          refine lv_goto (tgt := 4) hx hb dM_expand_140 (by decide) ?_
          exact ih (k + 1) _ (ae_tm cs 2) ls H locs (by omega) (li_fs i1 (by rw [ae_kx_a hc1 hc4, ics, show (k - 1) / 16 = k / 16 - 1 by omega])) (by rw [ics, show (k + 1 - 1) / 16 = (k - 1) / 16 + 1 by omega]; rfl) (lv_sub hl [0, 1, 4, 5] rfl) hP hD hS
    · refine lv_aload_n hx hb dM_expand_17 rfl (lv_at hl 2 rfl) ?_
      refine va_get (D := (dC, dI)) (ci := 2) (v := .ref (ad 4)) (C := RM) (T := TM) (N := 9) hx hb htA inM0 hown hK hP 0 rfl rfl 4 (by decide) (htA _ mM_f22) (fun _ h9 => h9) rfl dM_expand_18 ?_
      refine lv_iload_n hx hb dM_expand_21 rfl (lv_at hl 0 rfl) ?_
      refine lv_aload_n hx hb dM_expand_22 rfl (lv_at hl 2 rfl) ?_
      refine va_get (D := (dC, dI)) (ci := 2) (v := .ref (ad 0)) (C := RM) (T := TM) (N := 9) hx hb htA inM0 hown hK hP 0 rfl rfl 0 (by decide) (htA _ mM_f7) (fun _ h9 => h9) rfl dM_expand_23 ?_
      refine lv_bipush (v := nI 16) hx hb dM_expand_26 (by decide) ?_
      refine lv_iload_n hx hb dM_expand_28 rfl (lv_at hl 3 rfl) ?_
      refine xi_imul hx hb dM_expand_29 ?_
      refine lv_iload_n hx hb dM_expand_30 rfl (lv_at hl 0 rfl) ?_
      refine xi_iadd hx hb dM_expand_31 ?_
      refine xa_ild hx hb hK hP 1 0 rfl rfl (by omega) (by omega) (v := nI (KEY (16 * h + k))) (hk0 _ (by omega)) dM_expand_32 ?_
      refine xa_ist hx hb hK hP hD hS 5 0 rfl rfl (by omega) (by omega) dM_expand_33 (fun H locs hP hD hS => ?_)
      have hP : va_P (dC, dI) mCl (wM cI ad (th) (f0) (f1) (f2) (f3) (upd (g) (k) (nI (KEY (16 * h + k)))) (f5) (f6) (f7)) H := hP
      have hD : va_D A (wM cI ad (th) (f0) (f1) (f2) (f3) (upd (g) (k) (nI (KEY (16 * h + k)))) (f5) (f6) (f7)) := hD
      refine lv_goto (tgt := 137) hx hb dM_expand_34 (by decide) ?_
      refine lv_iinc (k := 0) (v := nI (k + 1)) (nL := 6) (lv' := [(3, .int (nI (k + 1))), (2, .int (nI (cs))), (0, .ref (ad 8)), (1, .int (nI (h)))]) hx hb dM_expand_137 hl rfl (nI_1 (k)) (by decide) rfl (fun ls hl => ?_)
      refine lv_goto (tgt := 4) hx hb dM_expand_140 (by decide) ?_
      exact ih (k + 1) _ (cs) ls H locs (by omega) (li_fs i1 (by rw [ae_kx_0 hc1]; rfl)) (by rw [ics]; congr 1; omega) (lv_sub hl [0, 1, 2, 3] rfl) hP hD hS
set_option maxRecDepth 100000 in
set_option maxHeartbeats 4000000 in
theorem lp_encS (hx : p.tables.exec = Jvm.exec) (hb : c.code = cM_encipher) (htA : ∀ w ∈ wsM_a, w.before args s = true) (hown : s.vm.findClass RM = some m.cls) (hml : c.maxLocals = 4) (hA : ∀ q, s.heap.size ≤ q → A q) (hc : cells ≤ R.cells ∧ slots ≤ R.slots) (hf : 2 ≤ R.frames ∧ 51 ≤ R.locals) {cI : ClassId} {ad : Nat → Nat} {th : Int32} {f0 f1 f2 f3 f4 f6 f7 : Nat → Int32} (hK : va_K (dC, dI) mCl [(cI, .int)] s) {T : Nat → Nat} {h r : Nat} (hB : ae_B T) (hbx : li_ag 256 f2 ae_sb)
    (kk : ∀ (g : Nat → Int32) (ls : Array Slot) (H : Heap) (locs : List Loc), li_ag 16 g (fun k => ae_sb (T k)) → lv_has ls 4 [(3, .int (nI (16))), (2, .int (nI (r))), (0, .ref (ad 8)), (1, .int (nI (h)))] → va_P (dC, dI) mCl (wM cI ad (th) (f0) (f1) (f2) (f3) (f4) (g) (f6) (f7)) H → va_D A (wM cI ad (th) (f0) (f1) (f2) (f3) (f4) (g) (f6) (f7)) → va_S A s.heap H locs → W p l e R s m args below meth c H locs cells slots Q (F0 m 49 ls [])) :
    ∀ (j k : Nat) (g : Nat → Int32) (ls : Array Slot) (H : Heap) (locs : List Loc), k + j = 16 → li_in 16 k g T (fun k => ae_sb (T k)) → lv_has ls 4 [(3, .int (nI (k))), (2, .int (nI (r))), (0, .ref (ad 8)), (1, .int (nI (h)))] → va_P (dC, dI) mCl (wM cI ad (th) (f0) (f1) (f2) (f3) (f4) (g) (f6) (f7)) H → va_D A (wM cI ad (th) (f0) (f1) (f2) (f3) (f4) (g) (f6) (f7)) → va_S A s.heap H locs → W p l e R s m args below meth c H locs cells slots Q (F0 m 20 ls []) := by
  intro j
  induction j with
  | zero =>
    intro k g ls H locs hj i1 hl hP hD hS
    have e : k = 16 := by omega
    subst e
    refine lv_iload_n hx hb dM_encipher_20 rfl (lv_at hl 0 rfl) ?_
    refine lv_bipush (v := nI 16) hx hb dM_encipher_21 (by decide) ?_
    refine xi_icmp_ge (tgt := 49) hx hb dM_encipher_23 (by decide) (by omega) (by omega) (fun hc0 => ?_) (fun h9 => absurd h9 (by omega))
    exact kk g ls H locs (li_e i1) hl hP hD hS
  | succ j ih =>
    intro k g ls H locs hj i1 hl hP hD hS
    refine lv_iload_n hx hb dM_encipher_20 rfl (lv_at hl 0 rfl) ?_
    refine lv_bipush (v := nI 16) hx hb dM_encipher_21 (by decide) ?_
    refine xi_icmp_ge (tgt := 49) hx hb dM_encipher_23 (by decide) (by omega) (by omega) (fun h9 => absurd h9 (by omega)) (fun hc0 => ?_)
    refine lv_aload_n hx hb dM_encipher_26 rfl (lv_at hl 2 rfl) ?_
    refine va_get (D := (dC, dI)) (ci := 2) (v := .ref (ad 5)) (C := RM) (T := TM) (N := 9) hx hb htA inM0 hown hK hP 0 rfl rfl 5 (by decide) (htA _ mM_f25) (fun _ h9 => h9) rfl dM_encipher_27 ?_
    refine lv_iload_n hx hb dM_encipher_30 rfl (lv_at hl 0 rfl) ?_
    refine lv_aload_n hx hb dM_encipher_31 rfl (lv_at hl 2 rfl) ?_
    refine va_get (D := (dC, dI)) (ci := 2) (v := .ref (ad 2)) (C := RM) (T := TM) (N := 9) hx hb htA inM0 hown hK hP 0 rfl rfl 2 (by decide) (htA _ mM_f16) (fun _ h9 => h9) rfl dM_encipher_32 ?_
    refine lv_aload_n hx hb dM_encipher_35 rfl (lv_at hl 2 rfl) ?_
    refine va_get (D := (dC, dI)) (ci := 2) (v := .ref (ad 5)) (C := RM) (T := TM) (N := 9) hx hb htA inM0 hown hK hP 0 rfl rfl 5 (by decide) (htA _ mM_f25) (fun _ h9 => h9) rfl dM_encipher_36 ?_
    refine lv_iload_n hx hb dM_encipher_39 rfl (lv_at hl 0 rfl) ?_
    refine xa_ild hx hb hK hP 6 0 rfl rfl (by omega) (by omega) (v := nI (T k)) (i1.2 k (Nat.le_refl k) (by omega)) dM_encipher_40 ?_
    refine xa_ild hx hb hK hP 3 0 rfl rfl (by omega) (hB k) (v := nI (ae_sb (T k))) (hbx _ (hB k)) dM_encipher_41 ?_
    refine xa_ist hx hb hK hP hD hS 6 0 rfl rfl (by omega) (by omega) dM_encipher_42 (fun H locs hP hD hS => ?_)
    have hP : va_P (dC, dI) mCl (wM cI ad (th) (f0) (f1) (f2) (f3) (f4) (upd (g) (k) (nI (ae_sb (T k)))) (f6) (f7)) H := hP
    have hD : va_D A (wM cI ad (th) (f0) (f1) (f2) (f3) (f4) (upd (g) (k) (nI (ae_sb (T k)))) (f6) (f7)) := hD
    refine lv_iinc (k := 0) (v := nI (k + 1)) (nL := 4) (lv' := [(3, .int (nI (k + 1))), (2, .int (nI (r))), (0, .ref (ad 8)), (1, .int (nI (h)))]) hx hb dM_encipher_43 hl rfl (nI_1 (k)) (by decide) rfl (fun ls hl => ?_)
    refine lv_goto (tgt := 20) hx hb dM_encipher_46 (by decide) ?_
    exact ih (k + 1) _ ls H locs (by omega) (li_s i1 rfl) hl hP hD hS
set_option maxRecDepth 100000 in
set_option maxHeartbeats 4000000 in
theorem lp_decS (hx : p.tables.exec = Jvm.exec) (hb : c.code = cM_decipher) (htA : ∀ w ∈ wsM_a, w.before args s = true) (hown : s.vm.findClass RM = some m.cls) (hml : c.maxLocals = 4) (hA : ∀ q, s.heap.size ≤ q → A q) (hc : cells ≤ R.cells ∧ slots ≤ R.slots) (hf : 2 ≤ R.frames ∧ 51 ≤ R.locals) {cI : ClassId} {ad : Nat → Nat} {th : Int32} {f0 f1 f2 f3 f4 f6 f7 : Nat → Int32} (hK : va_K (dC, dI) mCl [(cI, .int)] s) {T : Nat → Nat} {h r : Nat} (hB : ae_B T) (hbx : li_ag 256 f3 ae_ib)
    (kk : ∀ (g : Nat → Int32) (ls : Array Slot) (H : Heap) (locs : List Loc), li_ag 16 g (fun k => ae_ib (T k)) → lv_has ls 4 [(3, .int (nI (16))), (2, .int (nI (r))), (0, .ref (ad 8)), (1, .int (nI (h)))] → va_P (dC, dI) mCl (wM cI ad (th) (f0) (f1) (f2) (f3) (f4) (g) (f6) (f7)) H → va_D A (wM cI ad (th) (f0) (f1) (f2) (f3) (f4) (g) (f6) (f7)) → va_S A s.heap H locs → W p l e R s m args below meth c H locs cells slots Q (F0 m 72 ls [])) :
    ∀ (j k : Nat) (g : Nat → Int32) (ls : Array Slot) (H : Heap) (locs : List Loc), k + j = 16 → li_in 16 k g T (fun k => ae_ib (T k)) → lv_has ls 4 [(3, .int (nI (k))), (2, .int (nI (r))), (0, .ref (ad 8)), (1, .int (nI (h)))] → va_P (dC, dI) mCl (wM cI ad (th) (f0) (f1) (f2) (f3) (f4) (g) (f6) (f7)) H → va_D A (wM cI ad (th) (f0) (f1) (f2) (f3) (f4) (g) (f6) (f7)) → va_S A s.heap H locs → W p l e R s m args below meth c H locs cells slots Q (F0 m 43 ls []) := by
  intro j
  induction j with
  | zero =>
    intro k g ls H locs hj i1 hl hP hD hS
    have e : k = 16 := by omega
    subst e
    refine lv_iload_n hx hb dM_decipher_43 rfl (lv_at hl 0 rfl) ?_
    refine lv_bipush (v := nI 16) hx hb dM_decipher_44 (by decide) ?_
    refine xi_icmp_ge (tgt := 72) hx hb dM_decipher_46 (by decide) (by omega) (by omega) (fun hc0 => ?_) (fun h9 => absurd h9 (by omega))
    exact kk g ls H locs (li_e i1) hl hP hD hS
  | succ j ih =>
    intro k g ls H locs hj i1 hl hP hD hS
    refine lv_iload_n hx hb dM_decipher_43 rfl (lv_at hl 0 rfl) ?_
    refine lv_bipush (v := nI 16) hx hb dM_decipher_44 (by decide) ?_
    refine xi_icmp_ge (tgt := 72) hx hb dM_decipher_46 (by decide) (by omega) (by omega) (fun h9 => absurd h9 (by omega)) (fun hc0 => ?_)
    refine lv_aload_n hx hb dM_decipher_49 rfl (lv_at hl 2 rfl) ?_
    refine va_get (D := (dC, dI)) (ci := 2) (v := .ref (ad 5)) (C := RM) (T := TM) (N := 9) hx hb htA inM0 hown hK hP 0 rfl rfl 5 (by decide) (htA _ mM_f25) (fun _ h9 => h9) rfl dM_decipher_50 ?_
    refine lv_iload_n hx hb dM_decipher_53 rfl (lv_at hl 0 rfl) ?_
    refine lv_aload_n hx hb dM_decipher_54 rfl (lv_at hl 2 rfl) ?_
    refine va_get (D := (dC, dI)) (ci := 2) (v := .ref (ad 3)) (C := RM) (T := TM) (N := 9) hx hb htA inM0 hown hK hP 0 rfl rfl 3 (by decide) (htA _ mM_f19) (fun _ h9 => h9) rfl dM_decipher_55 ?_
    refine lv_aload_n hx hb dM_decipher_58 rfl (lv_at hl 2 rfl) ?_
    refine va_get (D := (dC, dI)) (ci := 2) (v := .ref (ad 5)) (C := RM) (T := TM) (N := 9) hx hb htA inM0 hown hK hP 0 rfl rfl 5 (by decide) (htA _ mM_f25) (fun _ h9 => h9) rfl dM_decipher_59 ?_
    refine lv_iload_n hx hb dM_decipher_62 rfl (lv_at hl 0 rfl) ?_
    refine xa_ild hx hb hK hP 6 0 rfl rfl (by omega) (by omega) (v := nI (T k)) (i1.2 k (Nat.le_refl k) (by omega)) dM_decipher_63 ?_
    refine xa_ild hx hb hK hP 4 0 rfl rfl (by omega) (hB k) (v := nI (ae_ib (T k))) (hbx _ (hB k)) dM_decipher_64 ?_
    refine xa_ist hx hb hK hP hD hS 6 0 rfl rfl (by omega) (by omega) dM_decipher_65 (fun H locs hP hD hS => ?_)
    have hP : va_P (dC, dI) mCl (wM cI ad (th) (f0) (f1) (f2) (f3) (f4) (upd (g) (k) (nI (ae_ib (T k)))) (f6) (f7)) H := hP
    have hD : va_D A (wM cI ad (th) (f0) (f1) (f2) (f3) (f4) (upd (g) (k) (nI (ae_ib (T k)))) (f6) (f7)) := hD
    refine lv_iinc (k := 0) (v := nI (k + 1)) (nL := 4) (lv' := [(3, .int (nI (k + 1))), (2, .int (nI (r))), (0, .ref (ad 8)), (1, .int (nI (h)))]) hx hb dM_decipher_66 hl rfl (nI_1 (k)) (by decide) rfl (fun ls hl => ?_)
    refine lv_goto (tgt := 43) hx hb dM_decipher_69 (by decide) ?_
    exact ih (k + 1) _ ls H locs (by omega) (li_s i1 rfl) hl hP hD hS
theorem ae_hp1 : ∀ k, k < 16 → ae_ix1 k < 16 ∧ ((nI (4)) * ((((nI ((k) / (4))) + ((nI 1) * (nI ((k) % (4))))) + (nI (16))) - (((nI ((k) / (4))) + ((nI 1) * (nI ((k) % (4))))) + (nI (16))) / (nI (4)) * (nI (4)))) + (nI ((k) % (4))) = nI (ae_ix1 k) := by decide +kernel
theorem ae_hp2 : ∀ k, k < 16 → ae_ix2 k < 16 ∧ ((nI (4)) * ((((nI ((k) / (4))) + (((-1)) * (nI ((k) % (4))))) + (nI (16))) - (((nI ((k) / (4))) + (((-1)) * (nI ((k) % (4))))) + (nI (16))) / (nI (4)) * (nI (4)))) + (nI ((k) % (4))) = nI (ae_ix2 k) := by decide +kernel
set_option maxRecDepth 100000 in
set_option maxHeartbeats 4000000 in
theorem lp_enc (hx : p.tables.exec = Jvm.exec) (hb : c.code = cM_encipher) (htA : ∀ w ∈ wsM_a, w.before args s = true) (hown : s.vm.findClass RM = some m.cls) (hml : c.maxLocals = 4) (hA : ∀ q, s.heap.size ≤ q → A q) (hc : cells ≤ R.cells ∧ slots ≤ R.slots) (hf : 2 ≤ R.frames ∧ 51 ≤ R.locals) {cI : ClassId} {ad : Nat → Nat} {th : Int32} {f0 f1 f2 f3 f4 f7 : Nat → Int32} (hK : va_K (dC, dI) mCl [(cI, .int)] s) {S X : Nat → Nat} {h : Nat} (hBX : ae_B X) (hBS : ae_B S) (hbx : li_ag 256 f2 ae_sb) (hk4 : li_ag 176 f4 X)
    (kk : ∀ (g5 : Nat → Int32) (g6 : Nat → Int32) (ls : Array Slot) (H : Heap) (locs : List Loc), li_ag 16 g5 (ae_en X S 10) → lv_has ls 4 [(2, .int (nI (11))), (0, .ref (ad 8)), (1, .int (nI (h)))] → va_P (dC, dI) mCl (wM cI ad (th) (f0) (f1) (f2) (f3) (f4) (g5) (g6) (f7)) H → va_D A (wM cI ad (th) (f0) (f1) (f2) (f3) (f4) (g5) (g6) (f7)) → va_S A s.heap H locs → W p l e R s m args below meth c H locs cells slots Q (F0 m 79 ls [])) :
    ∀ (j k : Nat) (g5 : Nat → Int32) (g6 : Nat → Int32) (ls : Array Slot) (H : Heap) (locs : List Loc), k + j = 11 → li_ag 16 g5 (ae_en X S (k - 1)) → 1 ≤ k → lv_has ls 4 [(2, .int (nI (k))), (0, .ref (ad 8)), (1, .int (nI (h)))] → va_P (dC, dI) mCl (wM cI ad (th) (f0) (f1) (f2) (f3) (f4) (g5) (g6) (f7)) H → va_D A (wM cI ad (th) (f0) (f1) (f2) (f3) (f4) (g5) (g6) (f7)) → va_S A s.heap H locs → W p l e R s m args below meth c H locs cells slots Q (F0 m 12 ls []) := by
  intro j
  induction j with
  | zero =>
    intro k g5 g6 ls H locs hj i1 i2 hl hP hD hS
    have e : k = 11 := by omega
    subst e
    refine lv_iload_n hx hb dM_encipher_12 rfl (lv_at hl 0 rfl) ?_
    refine lv_bipush (v := nI 10) hx hb dM_encipher_13 (by decide) ?_
    refine xi_icmp_gt (tgt := 79) hx hb dM_encipher_15 (by decide) (by omega) (by omega) (fun hc0 => ?_) (fun h9 => absurd h9 (by omega))
    exact kk g5 g6 ls H locs i1 hl hP hD hS
  | succ j ih =>
    intro k g5 g6 ls H locs hj i1 i2 hl hP hD hS
    refine lv_iload_n hx hb dM_encipher_12 rfl (lv_at hl 0 rfl) ?_
    refine lv_bipush (v := nI 10) hx hb dM_encipher_13 (by decide) ?_
    refine xi_icmp_gt (tgt := 79) hx hb dM_encipher_15 (by decide) (by omega) (by omega) (fun h9 => absurd h9 (by omega)) (fun hc0 => ?_)
    have hBT : ae_B (ae_en X S (k - 1)) := ae_en_lt hBX hBS _
    refine lv_iconst (v := nI 0) hx hb dM_encipher_18 (by decide) ?_
    refine lv_istore_n (nL := 4) (lv' := [(3, .int (nI (0))), (2, .int (nI (k))), (0, .ref (ad 8)), (1, .int (nI (h)))]) hx hb dM_encipher_19 rfl hl (by decide) rfl (fun ls hl => ?_)
    refine lp_encS hx hb htA hown hml hA hc hf hK (T := ae_en X S (k - 1)) hBT hbx (fun g ls H locs hg hl hP hD hS => ?_) 16 0 g5 ls H locs (by omega) (li_0 i1) (lv_sub hl [0, 1, 2, 3] rfl) hP hD hS
    refine lv_aload_n hx hb dM_encipher_49 rfl (lv_at hl 2 rfl) ?_
    refine lv_iconst (v := nI 1) hx hb dM_encipher_50 (by decide) ?_
    refine kp_callv (wr := []) (nw := fun u => (wM cI ad (th) (f0) (f1) (f2) (f3) (f4) (u.1) (u.2) (f7))) (va_runV (As := [.int (nI (1))]) (rest := []) ⟨hx, hb, hml, hown, htA⟩ (c_turn l dC dI cI ad (th) (f0) (f1) (f2) (f3) (f4) (g) (g6) (f7) H.size (fun k2 => ae_sb (ae_en X S (k - 1) k2)) ae_ix1 (nI 1) ae_hp1 hg) (cwV 1 htA (goodM_V mM_l65 mM_instanceMethod_turn mM_selects_turn mM_code_turn) rfl rfl rfl (by decide +kernel) ⟨Nat.le_trans (Nat.le_of_ble_eq_true rfl) hf.1, Nat.le_trans (Nat.le_of_ble_eq_true rfl) hf.2⟩) (kp_preV (wc := (wM cI ad (th) (f0) (f1) (f2) (f3) (f4) (g) (g6) (f7))) kp_XT trivial hP hD hK hS hA [0, 1, 2, 3, 4, 5, 6, 7, 8] rfl rfl rfl [0] rfl (q0 := 0) rfl rfl) rfl rfl hl.1 rfl (lv_room (Nat.le_of_ble_eq_true rfl)) dM_encipher_51 ⟨hc.1, hc.2⟩) hP hD hS hA [0, 1, 2, 3, 4, 5, 6, 7, 8] [] rfl rfl rfl (by decide) [0, 1, 2, 3, 4, 5, 6, 7, 8] rfl (fun _ => rfl) (fun _ => rfl) (fun u H locs hu hP hD hS => ?_)
    obtain ⟨t5, t6⟩ := u
    have hu : li_ag 16 t5 (ae_eS (ae_en X S (k - 1))) := hu
    refine lv_iload_n hx hb dM_encipher_54 rfl (lv_at hl 1 rfl) ?_
    refine lv_bipush (v := nI 10) hx hb dM_encipher_55 (by decide) ?_
    refine xi_icmp_ge (tgt := 68) hx hb dM_encipher_57 (by decide) (by omega) (by omega) (fun hc1 => ?_) (fun hc1 => ?_)
    · refine lv_aload_n hx hb dM_encipher_68 rfl (lv_at hl 2 rfl) ?_
      refine lv_iload_n hx hb dM_encipher_69 rfl (lv_at hl 1 rfl) ?_
      refine kp_callv (wr := []) (nw := fun u7 => (wM cI ad (th) (f0) (f1) (f2) (f3) (f4) (u7) (t6) (f7))) (va_runV (As := [.int (nI (k))]) (rest := []) ⟨hx, hb, hml, hown, htA⟩ (c_add l dC dI cI ad (th) (f0) (f1) (f2) (f3) (f4) (t5) (t6) (f7) H.size (ae_eS (ae_en X S (k - 1))) X k (by omega) hu hk4) (cwV 1 htA (goodM_V mM_l62 mM_instanceMethod_add mM_selects_add mM_code_add) rfl rfl rfl (by decide +kernel) ⟨Nat.le_trans (Nat.le_of_ble_eq_true rfl) hf.1, Nat.le_trans (Nat.le_of_ble_eq_true rfl) hf.2⟩) (kp_preV (wc := (wM cI ad (th) (f0) (f1) (f2) (f3) (f4) (t5) (t6) (f7))) kp_XT trivial hP hD hK hS hA [0, 1, 2, 3, 4, 5, 6, 7, 8] rfl rfl rfl [0] rfl (q0 := 0) rfl rfl) rfl rfl hl.1 rfl (lv_room (Nat.le_of_ble_eq_true rfl)) dM_encipher_70 ⟨hc.1, hc.2⟩) hP hD hS hA [0, 1, 2, 3, 4, 5, 6, 7, 8] [] rfl rfl rfl (by decide) [0, 1, 2, 3, 4, 5, 6, 7, 8] rfl (fun _ => rfl) (fun _ => rfl) (fun u7 H locs h7 hP hD hS => ?_)
      refine lv_iinc (k := 1) (v := nI (k + 1)) (nL := 4) (lv' := [(2, .int (nI (k + 1))), (3, .int (nI (16))), (0, .ref (ad 8)), (1, .int (nI (h)))]) hx hb dM_encipher_73 hl rfl (nI_1 (k)) (by decide) rfl (fun ls hl => ?_)
      refine lv_goto (tgt := 12) hx hb dM_encipher_76 (by decide) ?_
      refine ih (k + 1) u7 t6 ls H locs (by omega) (li_c h7 (fun i hi => ?_)) (by omega) (lv_sub hl [0, 2, 3] rfl) hP hD hS
      rw [show k + 1 - 1 = k by omega, ae_en_s i2]; unfold ae_eR; rw [if_neg (by omega)]
    · refine lv_aload_n hx hb dM_encipher_60 rfl (lv_at hl 2 rfl) ?_
      refine lv_iconst (v := nI 2) hx hb dM_encipher_61 (by decide) ?_
      refine lv_iconst (v := nI 3) hx hb dM_encipher_62 (by decide) ?_
      refine lv_iconst (v := nI 1) hx hb dM_encipher_63 (by decide) ?_
      refine lv_iconst (v := nI 1) hx hb dM_encipher_64 (by decide) ?_
      refine kp_callv (wr := []) (nw := fun u => (wM cI ad (th) (f0) (f1) (f2) (f3) (f4) (u.1) (u.2) (f7))) (va_runV (As := [.int (nI (2)), .int (nI (3)), .int (nI (1)), .int (nI (1))]) (rest := []) ⟨hx, hb, hml, hown, htA⟩ (c_mix l dC dI cI ad (th) (f0) (f1) (f2) (f3) (f4) (t5) (t6) (f7) H.size (ae_eS (ae_en X S (k - 1))) (ae_eS_lt hBT) 2 3 1 1 (by omega) (by omega) (by omega) (by omega) hu) (cwV 4 htA (goodM_V mM_l68 mM_instanceMethod_mix mM_selects_mix mM_code_mix) rfl rfl rfl (by decide +kernel) ⟨Nat.le_trans (Nat.le_of_ble_eq_true rfl) hf.1, Nat.le_trans (Nat.le_of_ble_eq_true rfl) hf.2⟩) (kp_preV (wc := (wM cI ad (th) (f0) (f1) (f2) (f3) (f4) (t5) (t6) (f7))) kp_XT trivial hP hD hK hS hA [0, 1, 2, 3, 4, 5, 6, 7, 8] rfl rfl rfl [0] rfl (q0 := 0) rfl rfl) rfl rfl hl.1 rfl (lv_room (Nat.le_of_ble_eq_true rfl)) dM_encipher_65 ⟨hc.1, hc.2⟩) hP hD hS hA [0, 1, 2, 3, 4, 5, 6, 7, 8] [] rfl rfl rfl (by decide) [0, 1, 2, 3, 4, 5, 6, 7, 8] rfl (fun _ => rfl) (fun _ => rfl) (fun u H locs h6 hP hD hS => ?_)
      obtain ⟨s5, s6⟩ := u
      refine lv_aload_n hx hb dM_encipher_68 rfl (lv_at hl 2 rfl) ?_
      refine lv_iload_n hx hb dM_encipher_69 rfl (lv_at hl 1 rfl) ?_
      refine kp_callv (wr := []) (nw := fun u7 => (wM cI ad (th) (f0) (f1) (f2) (f3) (f4) (u7) (s6) (f7))) (va_runV (As := [.int (nI (k))]) (rest := []) ⟨hx, hb, hml, hown, htA⟩ (c_add l dC dI cI ad (th) (f0) (f1) (f2) (f3) (f4) (s5) (s6) (f7) H.size (ae_mg 2 3 1 1 (ae_eS (ae_en X S (k - 1)))) X k (by omega) h6 hk4) (cwV 1 htA (goodM_V mM_l62 mM_instanceMethod_add mM_selects_add mM_code_add) rfl rfl rfl (by decide +kernel) ⟨Nat.le_trans (Nat.le_of_ble_eq_true rfl) hf.1, Nat.le_trans (Nat.le_of_ble_eq_true rfl) hf.2⟩) (kp_preV (wc := (wM cI ad (th) (f0) (f1) (f2) (f3) (f4) (s5) (s6) (f7))) kp_XT trivial hP hD hK hS hA [0, 1, 2, 3, 4, 5, 6, 7, 8] rfl rfl rfl [0] rfl (q0 := 0) rfl rfl) rfl rfl hl.1 rfl (lv_room (Nat.le_of_ble_eq_true rfl)) dM_encipher_70 ⟨hc.1, hc.2⟩) hP hD hS hA [0, 1, 2, 3, 4, 5, 6, 7, 8] [] rfl rfl rfl (by decide) [0, 1, 2, 3, 4, 5, 6, 7, 8] rfl (fun _ => rfl) (fun _ => rfl) (fun u7 H locs h7 hP hD hS => ?_)
      refine lv_iinc (k := 1) (v := nI (k + 1)) (nL := 4) (lv' := [(2, .int (nI (k + 1))), (3, .int (nI (16))), (0, .ref (ad 8)), (1, .int (nI (h)))]) hx hb dM_encipher_73 hl rfl (nI_1 (k)) (by decide) rfl (fun ls hl => ?_)
      refine lv_goto (tgt := 12) hx hb dM_encipher_76 (by decide) ?_
      refine ih (k + 1) u7 s6 ls H locs (by omega) (li_c h7 (fun i hi => ?_)) (by omega) (lv_sub hl [0, 2, 3] rfl) hP hD hS
      rw [show k + 1 - 1 = k by omega, ae_en_s i2]; unfold ae_eR; rw [if_pos hc1]
set_option maxRecDepth 100000 in
set_option maxHeartbeats 4000000 in
theorem lp_dec (hx : p.tables.exec = Jvm.exec) (hb : c.code = cM_decipher) (htA : ∀ w ∈ wsM_a, w.before args s = true) (hown : s.vm.findClass RM = some m.cls) (hml : c.maxLocals = 4) (hA : ∀ q, s.heap.size ≤ q → A q) (hc : cells ≤ R.cells ∧ slots ≤ R.slots) (hf : 2 ≤ R.frames ∧ 51 ≤ R.locals) {cI : ClassId} {ad : Nat → Nat} {th : Int32} {f0 f1 f2 f3 f4 f7 : Nat → Int32} (hK : va_K (dC, dI) mCl [(cI, .int)] s) {S X : Nat → Nat} {h : Nat} (hBX : ae_B X) (hBS : ae_B S) (hbk : li_ag 256 f3 ae_ib) (hk4 : li_ag 176 f4 X)
    (kk : ∀ (g5 : Nat → Int32) (g6 : Nat → Int32) (ls : Array Slot) (H : Heap) (locs : List Loc), li_ag 16 g5 (ae_rh X S 10) → lv_has ls 4 [(2, .int (nI (10 - 10))), (0, .ref (ad 8)), (1, .int (nI (h)))] → va_P (dC, dI) mCl (wM cI ad (th) (f0) (f1) (f2) (f3) (f4) (g5) (g6) (f7)) H → va_D A (wM cI ad (th) (f0) (f1) (f2) (f3) (f4) (g5) (g6) (f7)) → va_S A s.heap H locs → W p l e R s m args below meth c H locs cells slots Q (F0 m 78 ls [])) :
    ∀ (j k : Nat) (g5 : Nat → Int32) (g6 : Nat → Int32) (ls : Array Slot) (H : Heap) (locs : List Loc), k + j = 10 → li_ag 16 g5 (ae_rh X S k) → lv_has ls 4 [(2, .int (nI (10 - k))), (0, .ref (ad 8)), (1, .int (nI (h)))] → va_P (dC, dI) mCl (wM cI ad (th) (f0) (f1) (f2) (f3) (f4) (g5) (g6) (f7)) H → va_D A (wM cI ad (th) (f0) (f1) (f2) (f3) (f4) (g5) (g6) (f7)) → va_S A s.heap H locs → W p l e R s m args below meth c H locs cells slots Q (F0 m 8 ls []) := by
  intro j
  induction j with
  | zero =>
    intro k g5 g6 ls H locs hj i1 hl hP hD hS
    have e : k = 10 := by omega
    subst e
    refine lv_iload_n hx hb dM_decipher_8 rfl (lv_at hl 0 rfl) ?_
    refine lv_iconst (v := nI 1) hx hb dM_decipher_9 (by decide) ?_
    refine xi_icmp_lt (tgt := 78) hx hb dM_decipher_10 (by decide) (by omega) (by omega) (fun hc0 => ?_) (fun h9 => absurd h9 (by omega))
    exact kk g5 g6 ls H locs i1 hl hP hD hS
  | succ j ih =>
    intro k g5 g6 ls H locs hj i1 hl hP hD hS
    refine lv_iload_n hx hb dM_decipher_8 rfl (lv_at hl 0 rfl) ?_
    refine lv_iconst (v := nI 1) hx hb dM_decipher_9 (by decide) ?_
    refine xi_icmp_lt (tgt := 78) hx hb dM_decipher_10 (by decide) (by omega) (by omega) (fun h9 => absurd h9 (by omega)) (fun hc0 => ?_)
    have hBT : ae_B (ae_rh X S k) := ae_rh_lt hBX hBS _
    refine lv_aload_n hx hb dM_decipher_13 rfl (lv_at hl 1 rfl) ?_
    refine lv_iload_n hx hb dM_decipher_14 rfl (lv_at hl 0 rfl) ?_
    refine kp_callv (wr := []) (nw := fun u5 => (wM cI ad (th) (f0) (f1) (f2) (f3) (f4) (u5) (g6) (f7))) (va_runV (As := [.int (nI (10 - k))]) (rest := []) ⟨hx, hb, hml, hown, htA⟩ (c_add l dC dI cI ad (th) (f0) (f1) (f2) (f3) (f4) (g5) (g6) (f7) H.size (ae_rh X S k) X (10 - k) (by omega) i1 hk4) (cwV 1 htA (goodM_V mM_l62 mM_instanceMethod_add mM_selects_add mM_code_add) rfl rfl rfl (by decide +kernel) ⟨Nat.le_trans (Nat.le_of_ble_eq_true rfl) hf.1, Nat.le_trans (Nat.le_of_ble_eq_true rfl) hf.2⟩) (kp_preV (wc := (wM cI ad (th) (f0) (f1) (f2) (f3) (f4) (g5) (g6) (f7))) kp_XT trivial hP hD hK hS hA [0, 1, 2, 3, 4, 5, 6, 7, 8] rfl rfl rfl [0] rfl (q0 := 0) rfl rfl) rfl rfl hl.1 rfl (lv_room (Nat.le_of_ble_eq_true rfl)) dM_decipher_15 ⟨hc.1, hc.2⟩) hP hD hS hA [0, 1, 2, 3, 4, 5, 6, 7, 8] [] rfl rfl rfl (by decide) [0, 1, 2, 3, 4, 5, 6, 7, 8] rfl (fun _ => rfl) (fun _ => rfl) (fun u5 H locs h5 hP hD hS => ?_)
    refine lv_iload_n hx hb dM_decipher_18 rfl (lv_at hl 0 rfl) ?_
    refine lv_bipush (v := nI 10) hx hb dM_decipher_19 (by decide) ?_
    refine xi_icmp_ge (tgt := 36) hx hb dM_decipher_21 (by decide) (by omega) (by omega) (fun hc1 => ?_) (fun hc1 => ?_)
    · have h5 : li_ag 16 u5 (ae_dX X (10 - k) (ae_rh X S k)) := li_c h5 (fun i hi => by unfold ae_dX; rw [if_pos (by omega)])
      refine lv_aload_n hx hb dM_decipher_36 rfl (lv_at hl 1 rfl) ?_
      refine lv_iconst (v := (-1)) hx hb dM_decipher_37 (by decide) ?_
      refine kp_callv (wr := []) (nw := fun u => (wM cI ad (th) (f0) (f1) (f2) (f3) (f4) (u.1) (u.2) (f7))) (va_runV (As := [.int ((-1))]) (rest := []) ⟨hx, hb, hml, hown, htA⟩ (c_turn l dC dI cI ad (th) (f0) (f1) (f2) (f3) (f4) (u5) (g6) (f7) H.size (ae_dX X (10 - k) (ae_rh X S k)) ae_ix2 (-1) ae_hp2 h5) (cwV 1 htA (goodM_V mM_l65 mM_instanceMethod_turn mM_selects_turn mM_code_turn) rfl rfl rfl (by decide +kernel) ⟨Nat.le_trans (Nat.le_of_ble_eq_true rfl) hf.1, Nat.le_trans (Nat.le_of_ble_eq_true rfl) hf.2⟩) (kp_preV (wc := (wM cI ad (th) (f0) (f1) (f2) (f3) (f4) (u5) (g6) (f7))) kp_XT trivial hP hD hK hS hA [0, 1, 2, 3, 4, 5, 6, 7, 8] rfl rfl rfl [0] rfl (q0 := 0) rfl rfl) rfl rfl hl.1 rfl (lv_room (Nat.le_of_ble_eq_true rfl)) dM_decipher_38 ⟨hc.1, hc.2⟩) hP hD hS hA [0, 1, 2, 3, 4, 5, 6, 7, 8] [] rfl rfl rfl (by decide) [0, 1, 2, 3, 4, 5, 6, 7, 8] rfl (fun _ => rfl) (fun _ => rfl) (fun u H locs hu hP hD hS => ?_)
      obtain ⟨t5, t6⟩ := u
      refine lv_iconst (v := nI 0) hx hb dM_decipher_41 (by decide) ?_
      refine lv_istore_n (nL := 4) (lv' := [(3, .int (nI (0))), (2, .int (nI (10 - k))), (0, .ref (ad 8)), (1, .int (nI (h)))]) hx hb dM_decipher_42 rfl hl (by decide) rfl (fun ls hl => ?_)
      refine lp_decS hx hb htA hown hml hA hc hf hK (T := fun i => ae_dX X (10 - k) (ae_rh X S k) (ae_ix2 i)) (fun i => ae_dX_lt hBX hBT _ _) hbk (fun g ls H locs hg hl hP hD hS => ?_) 16 0 t5 ls H locs (by omega) (li_0 hu) (lv_sub hl [0, 1, 2, 3] rfl) hP hD hS
      refine lv_iinc (k := 1) (v := nI (10 - (k + 1))) (nL := 4) (lv' := [(2, .int (nI (10 - (k + 1)))), (3, .int (nI (16))), (0, .ref (ad 8)), (1, .int (nI (h)))]) hx hb dM_decipher_72 hl rfl (by rw [show 10 - k = (10 - (k + 1)) + 1 by omega]; exact pk_m1 _) (by decide) rfl (fun ls hl => ?_)
      refine lv_goto (tgt := 8) hx hb dM_decipher_75 (by decide) ?_
      exact ih (k + 1) g t6 ls H locs (by omega) hg (lv_sub hl [0, 2, 3] rfl) hP hD hS
    · refine lv_aload_n hx hb dM_decipher_24 rfl (lv_at hl 1 rfl) ?_
      refine lv_bipush (v := nI 14) hx hb dM_decipher_25 (by decide) ?_
      refine lv_bipush (v := nI 11) hx hb dM_decipher_27 (by decide) ?_
      refine lv_bipush (v := nI 13) hx hb dM_decipher_29 (by decide) ?_
      refine lv_bipush (v := nI 9) hx hb dM_decipher_31 (by decide) ?_
      refine kp_callv (wr := []) (nw := fun u => (wM cI ad (th) (f0) (f1) (f2) (f3) (f4) (u.1) (u.2) (f7))) (va_runV (As := [.int (nI (14)), .int (nI (11)), .int (nI (13)), .int (nI (9))]) (rest := []) ⟨hx, hb, hml, hown, htA⟩ (c_mix l dC dI cI ad (th) (f0) (f1) (f2) (f3) (f4) (u5) (g6) (f7) H.size (fun i => ae_rh X S k i ^^^ X (16 * (10 - k) + i)) (fun i => ae_x_lt (hBT i) (hBX _)) 14 11 13 9 (by omega) (by omega) (by omega) (by omega) h5) (cwV 4 htA (goodM_V mM_l68 mM_instanceMethod_mix mM_selects_mix mM_code_mix) rfl rfl rfl (by decide +kernel) ⟨Nat.le_trans (Nat.le_of_ble_eq_true rfl) hf.1, Nat.le_trans (Nat.le_of_ble_eq_true rfl) hf.2⟩) (kp_preV (wc := (wM cI ad (th) (f0) (f1) (f2) (f3) (f4) (u5) (g6) (f7))) kp_XT trivial hP hD hK hS hA [0, 1, 2, 3, 4, 5, 6, 7, 8] rfl rfl rfl [0] rfl (q0 := 0) rfl rfl) rfl rfl hl.1 rfl (lv_room (Nat.le_of_ble_eq_true rfl)) dM_decipher_33 ⟨hc.1, hc.2⟩) hP hD hS hA [0, 1, 2, 3, 4, 5, 6, 7, 8] [] rfl rfl rfl (by decide) [0, 1, 2, 3, 4, 5, 6, 7, 8] rfl (fun _ => rfl) (fun _ => rfl) (fun u H locs h6 hP hD hS => ?_)
      obtain ⟨s5, s6⟩ := u
      have h6 : li_ag 16 s5 (ae_dX X (10 - k) (ae_rh X S k)) := li_c h6 (fun i hi => by unfold ae_dX; rw [if_neg (by omega)])
      refine lv_aload_n hx hb dM_decipher_36 rfl (lv_at hl 1 rfl) ?_
      refine lv_iconst (v := (-1)) hx hb dM_decipher_37 (by decide) ?_
      refine kp_callv (wr := []) (nw := fun u => (wM cI ad (th) (f0) (f1) (f2) (f3) (f4) (u.1) (u.2) (f7))) (va_runV (As := [.int ((-1))]) (rest := []) ⟨hx, hb, hml, hown, htA⟩ (c_turn l dC dI cI ad (th) (f0) (f1) (f2) (f3) (f4) (s5) (s6) (f7) H.size (ae_dX X (10 - k) (ae_rh X S k)) ae_ix2 (-1) ae_hp2 h6) (cwV 1 htA (goodM_V mM_l65 mM_instanceMethod_turn mM_selects_turn mM_code_turn) rfl rfl rfl (by decide +kernel) ⟨Nat.le_trans (Nat.le_of_ble_eq_true rfl) hf.1, Nat.le_trans (Nat.le_of_ble_eq_true rfl) hf.2⟩) (kp_preV (wc := (wM cI ad (th) (f0) (f1) (f2) (f3) (f4) (s5) (s6) (f7))) kp_XT trivial hP hD hK hS hA [0, 1, 2, 3, 4, 5, 6, 7, 8] rfl rfl rfl [0] rfl (q0 := 0) rfl rfl) rfl rfl hl.1 rfl (lv_room (Nat.le_of_ble_eq_true rfl)) dM_decipher_38 ⟨hc.1, hc.2⟩) hP hD hS hA [0, 1, 2, 3, 4, 5, 6, 7, 8] [] rfl rfl rfl (by decide) [0, 1, 2, 3, 4, 5, 6, 7, 8] rfl (fun _ => rfl) (fun _ => rfl) (fun u H locs hu hP hD hS => ?_)
      obtain ⟨t5, t6⟩ := u
      refine lv_iconst (v := nI 0) hx hb dM_decipher_41 (by decide) ?_
      refine lv_istore_n (nL := 4) (lv' := [(3, .int (nI (0))), (2, .int (nI (10 - k))), (0, .ref (ad 8)), (1, .int (nI (h)))]) hx hb dM_decipher_42 rfl hl (by decide) rfl (fun ls hl => ?_)
      refine lp_decS hx hb htA hown hml hA hc hf hK (T := fun i => ae_dX X (10 - k) (ae_rh X S k) (ae_ix2 i)) (fun i => ae_dX_lt hBX hBT _ _) hbk (fun g ls H locs hg hl hP hD hS => ?_) 16 0 t5 ls H locs (by omega) (li_0 hu) (lv_sub hl [0, 1, 2, 3] rfl) hP hD hS
      refine lv_iinc (k := 1) (v := nI (10 - (k + 1))) (nL := 4) (lv' := [(2, .int (nI (10 - (k + 1)))), (3, .int (nI (16))), (0, .ref (ad 8)), (1, .int (nI (h)))]) hx hb dM_decipher_72 hl rfl (by rw [show 10 - k = (10 - (k + 1)) + 1 by omega]; exact pk_m1 _) (by decide) rfl (fun ls hl => ?_)
      refine lv_goto (tgt := 8) hx hb dM_decipher_75 (by decide) ?_
      exact ih (k + 1) g t6 ls H locs (by omega) hg (lv_sub hl [0, 2, 3] rfl) hP hD hS
end
set_option maxRecDepth 100000 in
set_option maxHeartbeats 4000000 in
theorem c_expand (l : Launch) (dC : Nat → ClassId) (dI : Nat → Nat → Nat) (cI : ClassId) (ad : Nat → Nat) (th : Int32) (f0 f1 f2 f3 f4 f5 f6 f7 : Nat → Int32) (sz : Nat) (KEY : Nat → Nat) (h : Nat) (hh : h < 2) (hB : ae_B KEY) (hk0 : li_ag 32 f0 KEY) (hbx : li_ag 256 f2 ae_sb) : kp_Mv l yM_expand wsM_expand { frames := 1, cells := 0, slots := 0, locals := 24 } (dC, dI) mCl [.ref (ad 8), .int (nI h)] (wM cI ad (th) (f0) (f1) (f2) (f3) (f4) (f5) (f6) (f7)) [(cI, .int)] sz kp_T 0 0 (fun u : Nat → Int32 => li_ag 176 u (ae_kx (ae_at KEY (16 * h)))) (fun u => (wM cI ad (th) (f0) (f1) (f2) (f3) (u) (f5) (f6) (f7))) := by
  refine kp_ofv (cc := cM_expand) (maxL := 6) (ret := none) (by decide) rfl (Nat.le_of_ble_eq_true rfl) ?_
  intro p e s m args below meth c ls A hx hb hr hts hown hlocks hml hnm hA hsz hl hP hD hK hX hS
  have hown : s.vm.findClass RM = some m.cls := hown
  have htA : ∀ w ∈ wsM_a, w.before args s = true := fun w h => hts w (List.mem_cons_of_mem _ h)
  have hf : 1 ≤ ({ frames := 1, cells := 0, slots := 0, locals := 24 } : Room).frames ∧ 24 ≤ ({ frames := 1, cells := 0, slots := 0, locals := 24 } : Room).locals := ⟨Nat.le_of_ble_eq_true rfl, Nat.le_of_ble_eq_true rfl⟩
  have hc : 0 ≤ ({ frames := 1, cells := 0, slots := 0, locals := 24 } : Room).cells ∧ 0 ≤ ({ frames := 1, cells := 0, slots := 0, locals := 24 } : Room).slots := ⟨Nat.zero_le _, Nat.zero_le _⟩
  have hl : lv_has ls 6 [(0, .ref (ad 8)), (1, .int (nI (h)))] := hl
  refine lv_iconst (v := nI 1) hx hb dM_expand_0 (by decide) ?_
  refine lv_istore_n (nL := 6) (lv' := [(2, .int (nI (1))), (0, .ref (ad 8)), (1, .int (nI (h)))]) hx hb dM_expand_1 rfl hl (by decide) rfl (fun ls hl => ?_)
  refine lv_iconst (v := nI 0) hx hb dM_expand_2 (by decide) ?_
  refine lv_istore_n (nL := 6) (lv' := [(3, .int (nI (0))), (2, .int (nI (1))), (0, .ref (ad 8)), (1, .int (nI (h)))]) hx hb dM_expand_3 rfl hl (by decide) rfl (fun ls hl => ?_)
  refine lp_expand hx hb htA hown hml hA hc hf hK hh hB hk0 hbx (fun g cs ls H locs hg hl hP hD hS => ?_) 176 0 f4 1 ls s.heap [] (by omega) li_f0 rfl hl hP hD hS
  exact kp_retv g hx hb hr hlocks hg hP hD hS dM_expand_143
set_option maxRecDepth 100000 in
set_option maxHeartbeats 4000000 in
theorem c_encipher (l : Launch) (dC : Nat → ClassId) (dI : Nat → Nat → Nat) (cI : ClassId) (ad : Nat → Nat) (th : Int32) (f0 f1 f2 f3 f4 f5 f6 f7 : Nat → Int32) (sz : Nat) (KEY S : Nat → Nat) (h : Nat) (hh : h < 2) (hB : ae_B KEY) (hBS : ae_B S) (hk0 : li_ag 32 f0 KEY) (hbx : li_ag 256 f2 ae_sb) (hbk : li_ag 256 f3 ae_ib) (hk5 : li_ag 16 f5 S) : kp_Mv l yM_encipher wsM_encipher { frames := 2, cells := 0, slots := 0, locals := 51 } (dC, dI) mCl [.ref (ad 8), .int (nI h)] (wM cI ad (th) (f0) (f1) (f2) (f3) (f4) (f5) (f6) (f7)) [(cI, .int)] sz kp_T 0 0 (fun u : (Nat → Int32) × (Nat → Int32) × (Nat → Int32) => li_ag 16 u.2.1 (ae_enc (ae_kx (ae_at KEY (16 * h))) S)) (fun u => (wM cI ad (th) (f0) (f1) (f2) (f3) (u.1) (u.2.1) (u.2.2) (f7))) := by
  refine kp_ofv (cc := cM_encipher) (maxL := 4) (ret := none) (by decide) rfl (Nat.le_of_ble_eq_true rfl) ?_
  intro p e s m args below meth c ls A hx hb hr hts hown hlocks hml hnm hA hsz hl hP hD hK hX hS
  have hown : s.vm.findClass RM = some m.cls := hown
  have htA : ∀ w ∈ wsM_a, w.before args s = true := fun w h => hts w (List.mem_cons_of_mem _ h)
  have hf : 2 ≤ ({ frames := 2, cells := 0, slots := 0, locals := 51 } : Room).frames ∧ 51 ≤ ({ frames := 2, cells := 0, slots := 0, locals := 51 } : Room).locals := ⟨Nat.le_of_ble_eq_true rfl, Nat.le_of_ble_eq_true rfl⟩
  have hc : 0 ≤ ({ frames := 2, cells := 0, slots := 0, locals := 51 } : Room).cells ∧ 0 ≤ ({ frames := 2, cells := 0, slots := 0, locals := 51 } : Room).slots := ⟨Nat.zero_le _, Nat.zero_le _⟩
  have hl : lv_has ls 4 [(0, .ref (ad 8)), (1, .int (nI (h)))] := hl
  have hKB : ae_B (ae_at KEY (16 * h)) := ae_at_lt hB _
  have hBX : ae_B (ae_kx (ae_at KEY (16 * h))) := fun k => ae_kx_lt hKB k
  refine lv_aload_n hx hb dM_encipher_0 rfl (lv_at hl 0 rfl) ?_
  refine lv_iload_n hx hb dM_encipher_1 rfl (lv_at hl 1 rfl) ?_
  refine kp_callv (wr := []) (nw := fun x4 => (wM cI ad (th) (f0) (f1) (f2) (f3) (x4) (f5) (f6) (f7))) (va_runV (As := [.int (nI (h))]) (rest := []) ⟨hx, hb, hml, hown, htA⟩ (c_expand l dC dI cI ad (th) (f0) (f1) (f2) (f3) (f4) (f5) (f6) (f7) s.heap.size KEY h hh hB hk0 hbx) (cwV 1 htA (goodM_V mM_l58 mM_instanceMethod_expand mM_selects_expand mM_code_expand) rfl rfl rfl (by decide +kernel) ⟨Nat.le_trans (Nat.le_of_ble_eq_true rfl) hf.1, Nat.le_trans (Nat.le_of_ble_eq_true rfl) hf.2⟩) (kp_preV (wc := (wM cI ad (th) (f0) (f1) (f2) (f3) (f4) (f5) (f6) (f7))) kp_XT trivial hP hD hK hS hA [0, 1, 2, 3, 4, 5, 6, 7, 8] rfl rfl rfl [0] rfl (q0 := 0) rfl rfl) rfl rfl hl.1 rfl (lv_room (Nat.le_of_ble_eq_true rfl)) dM_encipher_2 ⟨hc.1, hc.2⟩) hP hD hS hA [0, 1, 2, 3, 4, 5, 6, 7, 8] [] rfl rfl rfl (by decide) [0, 1, 2, 3, 4, 5, 6, 7, 8] rfl (fun _ => rfl) (fun _ => rfl) (fun x4 H locs h4 hP hD hS => ?_)
  refine lv_aload_n hx hb dM_encipher_5 rfl (lv_at hl 0 rfl) ?_
  refine lv_iconst (v := nI 0) hx hb dM_encipher_6 (by decide) ?_
  refine kp_callv (wr := []) (nw := fun x5 => (wM cI ad (th) (f0) (f1) (f2) (f3) (x4) (x5) (f6) (f7))) (va_runV (As := [.int (nI (0))]) (rest := []) ⟨hx, hb, hml, hown, htA⟩ (c_add l dC dI cI ad (th) (f0) (f1) (f2) (f3) (x4) (f5) (f6) (f7) H.size S (ae_kx (ae_at KEY (16 * h))) 0 (by omega) hk5 h4) (cwV 1 htA (goodM_V mM_l62 mM_instanceMethod_add mM_selects_add mM_code_add) rfl rfl rfl (by decide +kernel) ⟨Nat.le_trans (Nat.le_of_ble_eq_true rfl) hf.1, Nat.le_trans (Nat.le_of_ble_eq_true rfl) hf.2⟩) (kp_preV (wc := (wM cI ad (th) (f0) (f1) (f2) (f3) (x4) (f5) (f6) (f7))) kp_XT trivial hP hD hK hS hA [0, 1, 2, 3, 4, 5, 6, 7, 8] rfl rfl rfl [0] rfl (q0 := 0) rfl rfl) rfl rfl hl.1 rfl (lv_room (Nat.le_of_ble_eq_true rfl)) dM_encipher_7 ⟨hc.1, hc.2⟩) hP hD hS hA [0, 1, 2, 3, 4, 5, 6, 7, 8] [] rfl rfl rfl (by decide) [0, 1, 2, 3, 4, 5, 6, 7, 8] rfl (fun _ => rfl) (fun _ => rfl) (fun x5 H locs h5 hP hD hS => ?_)
  have h5 : li_ag 16 x5 (ae_en (ae_kx (ae_at KEY (16 * h))) S (1 - 1)) := li_c h5 (fun i hi => by rw [Nat.mul_zero, Nat.zero_add]; rfl)
  refine lv_iconst (v := nI 1) hx hb dM_encipher_10 (by decide) ?_
  refine lv_istore_n (nL := 4) (lv' := [(2, .int (nI (1))), (0, .ref (ad 8)), (1, .int (nI (h)))]) hx hb dM_encipher_11 rfl hl (by decide) rfl (fun ls hl => ?_)
  refine lp_enc hx hb htA hown hml hA hc hf hK hBX hBS hbx h4 (fun g5 g6 ls H locs hg hl hP hD hS => ?_) 10 1 x5 f6 ls H locs (by omega) h5 (by omega) hl hP hD hS
  exact kp_retv (x4, g5, g6) hx hb hr hlocks hg hP hD hS dM_encipher_79
set_option maxRecDepth 100000 in
set_option maxHeartbeats 4000000 in
theorem c_decipher (l : Launch) (dC : Nat → ClassId) (dI : Nat → Nat → Nat) (cI : ClassId) (ad : Nat → Nat) (th : Int32) (f0 f1 f2 f3 f4 f5 f6 f7 : Nat → Int32) (sz : Nat) (KEY S : Nat → Nat) (h : Nat) (hh : h < 2) (hB : ae_B KEY) (hBS : ae_B S) (hk0 : li_ag 32 f0 KEY) (hbx : li_ag 256 f2 ae_sb) (hbk : li_ag 256 f3 ae_ib) (hk5 : li_ag 16 f5 S) : kp_Mv l yM_decipher wsM_decipher { frames := 2, cells := 0, slots := 0, locals := 51 } (dC, dI) mCl [.ref (ad 8), .int (nI h)] (wM cI ad (th) (f0) (f1) (f2) (f3) (f4) (f5) (f6) (f7)) [(cI, .int)] sz kp_T 0 0 (fun u : (Nat → Int32) × (Nat → Int32) × (Nat → Int32) => li_ag 16 u.2.1 (ae_dec (ae_kx (ae_at KEY (16 * h))) S)) (fun u => (wM cI ad (th) (f0) (f1) (f2) (f3) (u.1) (u.2.1) (u.2.2) (f7))) := by
  refine kp_ofv (cc := cM_decipher) (maxL := 4) (ret := none) (by decide) rfl (Nat.le_of_ble_eq_true rfl) ?_
  intro p e s m args below meth c ls A hx hb hr hts hown hlocks hml hnm hA hsz hl hP hD hK hX hS
  have hown : s.vm.findClass RM = some m.cls := hown
  have htA : ∀ w ∈ wsM_a, w.before args s = true := fun w h => hts w (List.mem_cons_of_mem _ h)
  have hf : 2 ≤ ({ frames := 2, cells := 0, slots := 0, locals := 51 } : Room).frames ∧ 51 ≤ ({ frames := 2, cells := 0, slots := 0, locals := 51 } : Room).locals := ⟨Nat.le_of_ble_eq_true rfl, Nat.le_of_ble_eq_true rfl⟩
  have hc : 0 ≤ ({ frames := 2, cells := 0, slots := 0, locals := 51 } : Room).cells ∧ 0 ≤ ({ frames := 2, cells := 0, slots := 0, locals := 51 } : Room).slots := ⟨Nat.zero_le _, Nat.zero_le _⟩
  have hl : lv_has ls 4 [(0, .ref (ad 8)), (1, .int (nI (h)))] := hl
  have hKB : ae_B (ae_at KEY (16 * h)) := ae_at_lt hB _
  have hBX : ae_B (ae_kx (ae_at KEY (16 * h))) := fun k => ae_kx_lt hKB k
  refine lv_aload_n hx hb dM_decipher_0 rfl (lv_at hl 0 rfl) ?_
  refine lv_iload_n hx hb dM_decipher_1 rfl (lv_at hl 1 rfl) ?_
  refine kp_callv (wr := []) (nw := fun x4 => (wM cI ad (th) (f0) (f1) (f2) (f3) (x4) (f5) (f6) (f7))) (va_runV (As := [.int (nI (h))]) (rest := []) ⟨hx, hb, hml, hown, htA⟩ (c_expand l dC dI cI ad (th) (f0) (f1) (f2) (f3) (f4) (f5) (f6) (f7) s.heap.size KEY h hh hB hk0 hbx) (cwV 1 htA (goodM_V mM_l58 mM_instanceMethod_expand mM_selects_expand mM_code_expand) rfl rfl rfl (by decide +kernel) ⟨Nat.le_trans (Nat.le_of_ble_eq_true rfl) hf.1, Nat.le_trans (Nat.le_of_ble_eq_true rfl) hf.2⟩) (kp_preV (wc := (wM cI ad (th) (f0) (f1) (f2) (f3) (f4) (f5) (f6) (f7))) kp_XT trivial hP hD hK hS hA [0, 1, 2, 3, 4, 5, 6, 7, 8] rfl rfl rfl [0] rfl (q0 := 0) rfl rfl) rfl rfl hl.1 rfl (lv_room (Nat.le_of_ble_eq_true rfl)) dM_decipher_2 ⟨hc.1, hc.2⟩) hP hD hS hA [0, 1, 2, 3, 4, 5, 6, 7, 8] [] rfl rfl rfl (by decide) [0, 1, 2, 3, 4, 5, 6, 7, 8] rfl (fun _ => rfl) (fun _ => rfl) (fun x4 H locs h4 hP hD hS => ?_)
  refine lv_bipush (v := nI 10) hx hb dM_decipher_5 (by decide) ?_
  refine lv_istore_n (nL := 4) (lv' := [(2, .int (nI (10))), (0, .ref (ad 8)), (1, .int (nI (h)))]) hx hb dM_decipher_7 rfl hl (by decide) rfl (fun ls hl => ?_)
  refine lp_dec hx hb htA hown hml hA hc hf hK hBX hBS hbk h4 (fun g5 g6 ls H locs hg hl hP hD hS => ?_) 10 0 f5 f6 ls H locs (by omega) hk5 hl hP hD hS
  refine lv_aload_n hx hb dM_decipher_78 rfl (lv_at hl 1 rfl) ?_
  refine lv_iconst (v := nI 0) hx hb dM_decipher_79 (by decide) ?_
  refine kp_callv (wr := []) (nw := fun x5 => (wM cI ad (th) (f0) (f1) (f2) (f3) (x4) (x5) (g6) (f7))) (va_runV (As := [.int (nI (0))]) (rest := []) ⟨hx, hb, hml, hown, htA⟩ (c_add l dC dI cI ad (th) (f0) (f1) (f2) (f3) (x4) (g5) (g6) (f7) H.size (ae_rh (ae_kx (ae_at KEY (16 * h))) S 10) (ae_kx (ae_at KEY (16 * h))) 0 (by omega) hg h4) (cwV 1 htA (goodM_V mM_l62 mM_instanceMethod_add mM_selects_add mM_code_add) rfl rfl rfl (by decide +kernel) ⟨Nat.le_trans (Nat.le_of_ble_eq_true rfl) hf.1, Nat.le_trans (Nat.le_of_ble_eq_true rfl) hf.2⟩) (kp_preV (wc := (wM cI ad (th) (f0) (f1) (f2) (f3) (x4) (g5) (g6) (f7))) kp_XT trivial hP hD hK hS hA [0, 1, 2, 3, 4, 5, 6, 7, 8] rfl rfl rfl [0] rfl (q0 := 0) rfl rfl) rfl rfl hl.1 rfl (lv_room (Nat.le_of_ble_eq_true rfl)) dM_decipher_80 ⟨hc.1, hc.2⟩) hP hD hS hA [0, 1, 2, 3, 4, 5, 6, 7, 8] [] rfl rfl rfl (by decide) [0, 1, 2, 3, 4, 5, 6, 7, 8] rfl (fun _ => rfl) (fun _ => rfl) (fun x5 H locs h5 hP hD hS => ?_)
  exact kp_retv (x4, x5, g6) hx hb hr hlocks (li_c h5 (fun i hi => by unfold ae_dec ae_dX; rw [if_pos (Or.inl rfl)])) hP hD hS dM_decipher_83
