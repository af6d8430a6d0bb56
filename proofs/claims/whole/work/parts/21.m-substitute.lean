/-! substitute: the search of an inverse, the sum of turned bytes -/
section
variable {p : Program} {l : Launch} {e : Env} {R : Room} {s : State} {m : MethodId} {args : Array Value} {below : List Frame} {meth : Method} {c : Code} {cells slots : Nat} {Q : State → Prop} {dC : Nat → ClassId} {dI : Nat → Nat → Nat} {A : Nat → Prop}

set_option maxRecDepth 100000 in
set_option maxHeartbeats 4000000 in
theorem lp_sub1 (hx : p.tables.exec = Jvm.exec) (hb : c.code = cM_substitute) (htA : ∀ w ∈ wsM_a, w.before args s = true) (hown : s.vm.findClass RM = some m.cls) (hml : c.maxLocals = 4) (hA : ∀ q, s.heap.size ≤ q → A q) (hc : cells ≤ R.cells ∧ slots ≤ R.slots) (hf : 1 ≤ R.frames ∧ 24 ≤ R.locals) (hK : va_K (dC, dI) mCl [] s) {v : Nat} (hv : v < 256)
    (kk : ∀ (k : Nat) (ls : Array Slot) (H : Heap) (locs : List Loc), lv_has ls 4 [(2, .int (nI k)), (1, .int (nI (ae_iv v))), (0, .int (nI v))] → va_P (dC, dI) mCl [] H → va_D A [] → va_S A s.heap H locs → W p l e R s m args below meth c H locs cells slots Q (F0 m 32 ls [])) :
    ∀ (j k : Nat) (ls : Array Slot) (H : Heap) (locs : List Loc), k + j = 256 → 0 < k → (∀ i, 0 < i → i < k → ae_tm v i ≠ 1) → lv_has ls 4 [(2, .int (nI (k))), (1, .int (nI (0))), (0, .int (nI (v)))] → va_P (dC, dI) mCl [] H → va_D A [] → va_S A s.heap H locs → W p l e R s m args below meth c H locs cells slots Q (F0 m 4 ls []) := by
  intro j
  induction j with
  | zero =>
    intro k ls H locs hj h0 hno hl hP hD hS
    have e : k = 256 := by omega
    subst e
    have hz : ae_iv v = 0 := by
      rcases Nat.eq_zero_or_pos (ae_iv v) with h | h
      · exact h
      · exact absurd ((ae_inv hv h (ae_iv_lt v hv)).mpr rfl) (hno _ h (ae_iv_lt v hv))
    refine lv_iload_n hx hb dM_substitute_4 rfl (lv_at hl 0 rfl) ?_
    refine lv_sipush (v := nI 256) hx hb dM_substitute_5 (by decide) ?_
    refine xi_icmp_ge (tgt := 32) hx hb dM_substitute_8 (by decide) (by omega) (by omega) (fun hc0 => ?_) (fun h9 => absurd h9 (by omega))
    exact kk 256 ls H locs (by rw [hz]; exact hl) hP hD hS
  | succ j ih =>
    intro k ls H locs hj h0 hno hl hP hD hS
    refine lv_iload_n hx hb dM_substitute_4 rfl (lv_at hl 0 rfl) ?_
    refine lv_sipush (v := nI 256) hx hb dM_substitute_5 (by decide) ?_
    refine xi_icmp_ge (tgt := 32) hx hb dM_substitute_8 (by decide) (by omega) (by omega) (fun h9 => absurd h9 (by omega)) (fun hc0 => ?_)
    refine lv_iload_n hx hb dM_substitute_11 rfl (lv_at hl 1 rfl) ?_
    refine xi_if_ne (tgt := 32) hx hb dM_substitute_12 (by decide) (by omega) (fun h9 => absurd h9 (fun h => h rfl)) (fun hc1 => ?_)
    refine lv_iload_n hx hb dM_substitute_15 rfl (lv_at hl 2 rfl) ?_
    refine lv_iload_n hx hb dM_substitute_16 rfl (lv_at hl 0 rfl) ?_
    refine kp_purei (v := nI (ae_tm v k)) (va_runS (As := [.int (nI (v)), .int (nI (k))]) (rest := []) ⟨hx, hb, hml, hown, htA⟩ (c_times l dC dI H.size v k hv (by omega)) (va_cwS 2 htA (goodM_S mM_l42 mM_static_times mM_code_times) rfl rfl rfl (by decide +kernel) ⟨Nat.le_trans (Nat.le_of_ble_eq_true rfl) hf.1, Nat.le_trans (Nat.le_of_ble_eq_true rfl) hf.2⟩) (kp_preS (wc := []) kp_XT trivial hP hD hK hS hA [] rfl rfl rfl [] rfl) rfl rfl hl.1 rfl (lv_room (Nat.le_of_ble_eq_true rfl)) dM_substitute_17 ⟨hc.1, hc.2⟩) hP hS hA (fun H locs hP hS => ?_)
    have htm := ae_tm_lt k hv
    refine lv_iconst (v := nI 1) hx hb dM_substitute_20 (by decide) ?_
    refine xi_icmp_ne (tgt := 26) hx hb dM_substitute_21 (by decide) (by omega) (by omega) (fun hc2 => ?_) (fun hc2 => ?_)
    · refine lv_iinc (k := 0) (v := nI (k + 1)) (nL := 4) (lv' := [(2, .int (nI (k + 1))), (1, .int (nI (0))), (0, .int (nI (v)))]) hx hb dM_substitute_26 hl rfl (nI_1 (k)) (by decide) rfl (fun ls hl => ?_)
      refine lv_goto (tgt := 4) hx hb dM_substitute_29 (by decide) ?_
      exact ih (k + 1) ls H locs (by omega) (by omega) (fun i h1 h2 => by rcases Nat.lt_or_ge i k with h3 | h3; exact hno i h1 h3; rw [show i = k by omega]; exact hc2) hl hP hD hS
    · have hi : k = ae_iv v := (ae_inv hv h0 (by omega)).mp hc2
      refine lv_iload_n hx hb dM_substitute_24 rfl (lv_at hl 0 rfl) ?_
      refine lv_istore_n (nL := 4) (lv' := [(1, .int (nI (k))), (2, .int (nI (k))), (0, .int (nI (v)))]) hx hb dM_substitute_25 rfl hl (by decide) rfl (fun ls hl => ?_)
      refine lv_iinc (k := 1) (v := nI (k + 1)) (nL := 4) (lv' := [(2, .int (nI (k + 1))), (1, .int (nI (k))), (0, .int (nI (v)))]) hx hb dM_substitute_26 hl rfl (nI_1 (k)) (by decide) rfl (fun ls hl => ?_)
      refine lv_goto (tgt := 4) hx hb dM_substitute_29 (by decide) ?_
      refine lv_iload_n hx hb dM_substitute_4 rfl (lv_at hl 0 rfl) ?_
      refine lv_sipush (v := nI 256) hx hb dM_substitute_5 (by decide) ?_
      refine xi_icmp_ge (tgt := 32) hx hb dM_substitute_8 (by decide) (by omega) (by omega) (fun hc3 => ?_) (fun hc3 => ?_)
      · exact kk (k + 1) ls H locs (by rw [← hi]; exact (lv_sub hl [0, 1, 2] rfl)) hP hD hS
      · refine lv_iload_n hx hb dM_substitute_11 rfl (lv_at hl 1 rfl) ?_
        refine xi_if_ne (tgt := 32) hx hb dM_substitute_12 (by decide) (by omega) (fun hc4 => ?_) (fun h9 => absurd h9 (by omega))
        exact kk (k + 1) ls H locs (by rw [← hi]; exact (lv_sub hl [0, 1, 2] rfl)) hP hD hS
set_option maxRecDepth 100000 in
set_option maxHeartbeats 4000000 in
theorem lp_sub2 (hx : p.tables.exec = Jvm.exec) (hb : c.code = cM_substitute) {H : Heap} {locs : List Loc} {v w : Nat} (hw : w < 256)
    (kk : ∀ (ls : Array Slot), lv_has ls 4 [(3, .int (nI 5)), (2, .int (nI (ae_al w 5))), (1, .int (nI w)), (0, .int (nI v))] → W p l e R s m args below meth c H locs cells slots Q (F0 m 65 ls [])) :
    ∀ (j k sm : Nat) (ls : Array Slot), k + j = 5 → sm = ae_al w k → lv_has ls 4 [(3, .int (nI (k))), (2, .int (nI (sm))), (1, .int (nI (w))), (0, .int (nI (v)))] → W p l e R s m args below meth c H locs cells slots Q (F0 m 37 ls []) := by
  intro j
  induction j with
  | zero =>
    intro k sm ls hj hsm hl
    have e : k = 5 := by omega
    subst e
    subst hsm
    refine lv_iload_n hx hb dM_substitute_37 rfl (lv_at hl 0 rfl) ?_
    refine lv_iconst (v := nI 5) hx hb dM_substitute_38 (by decide) ?_
    refine xi_icmp_ge (tgt := 65) hx hb dM_substitute_39 (by decide) (by omega) (by omega) (fun hc0 => ?_) (fun h9 => absurd h9 (by omega))
    exact kk ls hl
  | succ j ih =>
    intro k sm ls hj hsm hl
    refine lv_iload_n hx hb dM_substitute_37 rfl (lv_at hl 0 rfl) ?_
    refine lv_iconst (v := nI 5) hx hb dM_substitute_38 (by decide) ?_
    refine xi_icmp_ge (tgt := 65) hx hb dM_substitute_39 (by decide) (by omega) (by omega) (fun h9 => absurd h9 (by omega)) (fun hc0 => ?_)
    refine lv_iload_n hx hb dM_substitute_42 rfl (lv_at hl 1 rfl) ?_
    refine lv_iload_n hx hb dM_substitute_43 rfl (lv_at hl 2 rfl) ?_
    refine lv_iload_n hx hb dM_substitute_44 rfl (lv_at hl 0 rfl) ?_
    refine xi_ishl hx hb dM_substitute_45 (by omega) ?_
    refine lv_iload_n hx hb dM_substitute_46 rfl (lv_at hl 2 rfl) ?_
    refine lv_bipush (v := nI 8) hx hb dM_substitute_47 (by decide) ?_
    refine lv_iload_n hx hb dM_substitute_49 rfl (lv_at hl 0 rfl) ?_
    refine xi_isub hx hb dM_substitute_50 (by omega) ?_
    refine xi_ishr hx hb dM_substitute_51 (by omega) (by omega) ?_
    refine xi_ior hx hb dM_substitute_52 ?_
    refine lv_sipush (v := nI 255) hx hb dM_substitute_53 (by decide) ?_
    refine xi_mask hx hb 8 dM_substitute_56 (by decide) ?_
    refine xi_ixor hx hb dM_substitute_57 ?_
    refine lv_istore_n (nL := 4) (lv' := [(2, .int (nI ((sm) ^^^ ((((w) * 2 ^ (k)) ||| ((w) / 2 ^ ((8) - (k)))) % 2 ^ 8)))), (3, .int (nI (k))), (1, .int (nI (w))), (0, .int (nI (v)))]) hx hb dM_substitute_58 rfl hl (by decide) rfl (fun ls hl => ?_)
    refine lv_iinc (k := 1) (v := nI (k + 1)) (nL := 4) (lv' := [(3, .int (nI (k + 1))), (2, .int (nI ((sm) ^^^ ((((w) * 2 ^ (k)) ||| ((w) / 2 ^ ((8) - (k)))) % 2 ^ 8)))), (1, .int (nI (w))), (0, .int (nI (v)))]) hx hb dM_substitute_59 hl rfl (nI_1 (k)) (by decide) rfl (fun ls hl => ?_)
    refine lv_goto (tgt := 37) hx hb dM_substitute_62 (by decide) ?_
    exact ih (k + 1) ((sm) ^^^ ((((w) * 2 ^ (k)) ||| ((w) / 2 ^ ((8) - (k)))) % 2 ^ 8)) ls (by omega) (by rw [hsm]; rfl) hl
end
set_option maxRecDepth 100000 in
set_option maxHeartbeats 4000000 in
theorem c_substitute (l : Launch) (dC : Nat → ClassId) (dI : Nat → Nat → Nat) (sz v : Nat) (hv : v < 256) : kp_Mi l yM_substitute wsM_substitute { frames := 1, cells := 0, slots := 0, locals := 24 } (dC, dI) mCl [.int (nI v)] [] [] sz kp_T (fun (r : Int32) (_ : Unit) => r = nI (ae_sb v)) (fun _ => []) := by
  refine kp_ofi (cc := cM_substitute) (maxL := 4) (ret := some .int) (by decide) rfl (Nat.le_of_ble_eq_true rfl) ?_
  intro p e s m args below meth c ls A hx hb hr hts hown hlocks hml hnm hA hsz hl hP hD hK hX hS
  have hown : s.vm.findClass RM = some m.cls := hown
  have htA : ∀ w ∈ wsM_a, w.before args s = true := fun w h => hts w (List.mem_cons_of_mem _ h)
  have hf : 1 ≤ ({ frames := 1, cells := 0, slots := 0, locals := 24 } : Room).frames ∧ 24 ≤ ({ frames := 1, cells := 0, slots := 0, locals := 24 } : Room).locals := ⟨Nat.le_of_ble_eq_true rfl, Nat.le_of_ble_eq_true rfl⟩
  have hc : 0 ≤ ({ frames := 1, cells := 0, slots := 0, locals := 24 } : Room).cells ∧ 0 ≤ ({ frames := 1, cells := 0, slots := 0, locals := 24 } : Room).slots := ⟨Nat.zero_le _, Nat.zero_le _⟩
  have hl : lv_has ls 4 [(0, .int (nI (v)))] := hl
  refine lv_iconst (v := nI 0) hx hb dM_substitute_0 (by decide) ?_
  refine lv_istore_n (nL := 4) (lv' := [(1, .int (nI (0))), (0, .int (nI (v)))]) hx hb dM_substitute_1 rfl hl (by decide) rfl (fun ls hl => ?_)
  refine lv_iconst (v := nI 1) hx hb dM_substitute_2 (by decide) ?_
  refine lv_istore_n (nL := 4) (lv' := [(2, .int (nI (1))), (1, .int (nI (0))), (0, .int (nI (v)))]) hx hb dM_substitute_3 rfl hl (by decide) rfl (fun ls hl => ?_)
  refine lp_sub1 hx hb htA hown hml hA hc hf hK hv (fun k ls H locs hl hP hD hS => ?_) 255 1 ls s.heap [] (by omega) (by omega) (fun i h1 h2 => by omega) hl hP hD hS
  refine lv_bipush (v := nI 99) hx hb dM_substitute_32 (by decide) ?_
  refine lv_istore_n (nL := 4) (lv' := [(2, .int (nI (99))), (1, .int (nI (ae_iv v))), (0, .int (nI (v)))]) hx hb dM_substitute_34 rfl hl (by decide) rfl (fun ls hl => ?_)
  refine lv_iconst (v := nI 0) hx hb dM_substitute_35 (by decide) ?_
  refine lv_istore_n (nL := 4) (lv' := [(3, .int (nI (0))), (2, .int (nI (99))), (1, .int (nI (ae_iv v))), (0, .int (nI (v)))]) hx hb dM_substitute_36 rfl hl (by decide) rfl (fun ls hl => ?_)
  refine lp_sub2 hx hb (ae_iv_lt v hv) (fun ls hl => ?_) 5 0 99 ls (by omega) rfl hl
  refine lv_iload_n hx hb dM_substitute_65 rfl (lv_at hl 1 rfl) ?_
  rw [ae_af v hv]
  exact kp_reti () hx hb hr rfl hlocks rfl hP hD hS dM_substitute_66
