/-! lay and read: eight bytes of a long -/
def ae_pf (S : Nat → Nat) : Nat → Nat
  | 0 => 0
  | k + 1 => 256 * ae_pf S k + S k
theorem ae_pf8 (S : Nat → Nat) : ae_pf S 8 = ae_hf S 0 := by
  unfold ae_hf ae_h4
  show 256 * (256 * (256 * (256 * (256 * (256 * (256 * (256 * 0 + S 0) + S 1) + S 2) + S 3) + S 4) + S 5) + S 6) + S 7 = 4294967296 * (256 * (256 * (256 * S 0 + S 1) + S 2) + S 3) + (256 * (256 * (256 * S 4 + S 5) + S 6) + S 7)
  omega
section
variable {p : Program} {l : Launch} {e : Env} {R : Room} {s : State} {m : MethodId} {args : Array Value} {below : List Frame} {meth : Method} {c : Code} {cells slots : Nat} {Q : State → Prop} {dC : Nat → ClassId} {dI : Nat → Nat → Nat} {A : Nat → Prop}

set_option maxRecDepth 100000 in
set_option maxHeartbeats 4000000 in
theorem lp_lay (hx : p.tables.exec = Jvm.exec) (hb : c.code = cM_lay) {cI : ClassId} (hK : va_K (dC, dI) mCl [(cI, .int)] s) {q NN at_ n : Nat} {f : Nat → Int32} (hN : at_ + 8 ≤ NN) (hN2 : NN < 2147483648) (hn : n < 18446744073709551616)
    (kk : ∀ (g : Nat → Int32) (ls : Array Slot) (H : Heap) (locs : List Loc), (∀ i, i < 8 → g (at_ + i) = nI (ae_by n i)) ∧ (∀ i, i < at_ ∨ at_ + 8 ≤ i → g i = f i) → va_P (dC, dI) mCl [(q, .inl (cI, NN, .inl (g)))] H → va_D A [(q, .inl (cI, NN, .inl (g)))] → va_S A s.heap H locs → W p l e R s m args below meth c H locs cells slots Q (F0 m 37 ls [])) :
    ∀ (j k : Nat) (g : Nat → Int32) (ls : Array Slot) (H : Heap) (locs : List Loc), k + j = 8 → (∀ i, i < k → g (at_ + i) = nI (ae_by n i)) → (∀ i, i < at_ ∨ at_ + 8 ≤ i → g i = f i) → lv_has ls 5 [(4, .int (nI (k))), (0, .ref q), (1, .int (nI (at_))), (2, .long (lN n))] → va_P (dC, dI) mCl [(q, .inl (cI, NN, .inl (g)))] H → va_D A [(q, .inl (cI, NN, .inl (g)))] → va_S A s.heap H locs → W p l e R s m args below meth c H locs cells slots Q (F0 m 3 ls []) := by
  intro j
  induction j with
  | zero =>
    intro k g ls H locs hj i1 i2 hl hP hD hS
    have e : k = 8 := by omega
    subst e
    refine lv_iload hx hb dM_lay_3 (lv_at hl 0 rfl) ?_
    refine lv_bipush (v := nI 8) hx hb dM_lay_5 (by decide) ?_
    refine xi_icmp_ge (tgt := 37) hx hb dM_lay_7 (by decide) (by omega) (by omega) (fun hc0 => ?_) (fun h9 => absurd h9 (by omega))
    exact kk g ls H locs ⟨i1, i2⟩ hP hD hS
  | succ j ih =>
    intro k g ls H locs hj i1 i2 hl hP hD hS
    refine lv_iload hx hb dM_lay_3 (lv_at hl 0 rfl) ?_
    refine lv_bipush (v := nI 8) hx hb dM_lay_5 (by decide) ?_
    refine xi_icmp_ge (tgt := 37) hx hb dM_lay_7 (by decide) (by omega) (by omega) (fun h9 => absurd h9 (by omega)) (fun hc0 => ?_)
    refine lv_aload_n hx hb dM_lay_10 rfl (lv_at hl 1 rfl) ?_
    refine lv_iload_n hx hb dM_lay_11 rfl (lv_at hl 2 rfl) ?_
    refine lv_iload hx hb dM_lay_12 (lv_at hl 0 rfl) ?_
    refine xi_iadd hx hb dM_lay_14 ?_
    refine lv_lload_n hx hb dM_lay_15 rfl (lv_at hl 3 rfl) ?_
    refine lv_bipush (v := nI 56) hx hb dM_lay_16 (by decide) ?_
    refine lv_bipush (v := nI 8) hx hb dM_lay_18 (by decide) ?_
    refine lv_iload hx hb dM_lay_20 (lv_at hl 0 rfl) ?_
    refine xi_imul hx hb dM_lay_22 ?_
    refine xi_isub hx hb dM_lay_23 (by omega) ?_
    refine lv_lshr hx hb dM_lay_24 rfl ?_
    refine lv_l2i hx hb dM_lay_25 rfl ?_
    refine lv_sipush (v := nI 255) hx hb dM_lay_26 (by decide) ?_
    refine lv_iand hx hb dM_lay_29 ?_
    refine tw_i (y := nI (ae_by n k)) (ln_lay hn (by omega)) ?_
    refine xa_ist hx hb hK hP hD hS 0 0 rfl rfl (by omega) (by omega) dM_lay_30 (fun H locs hP hD hS => ?_)
    have hP : va_P (dC, dI) mCl [(q, .inl (cI, NN, .inl (upd (g) ((at_) + (k)) (nI (ae_by n k)))))] H := hP
    have hD : va_D A [(q, .inl (cI, NN, .inl (upd (g) ((at_) + (k)) (nI (ae_by n k)))))] := hD
    refine lv_iinc (k := 0) (v := nI (k + 1)) (nL := 5) (lv' := [(4, .int (nI (k + 1))), (0, .ref q), (1, .int (nI (at_))), (2, .long (lN n))]) hx hb dM_lay_31 hl rfl (nI_1 (k)) (by decide) rfl (fun ls hl => ?_)
    refine lv_goto (tgt := 3) hx hb dM_lay_34 (by decide) ?_
    exact ih (k + 1) (upd (g) ((at_) + (k)) (nI (ae_by n k))) ls H locs (by omega) (fun i hi => by
      rcases Nat.lt_or_ge i k with h | h
      · rw [pk_un (by omega)]; exact i1 i h
      · rw [show i = k by omega]; exact pk_us) (fun i hi => by rw [pk_un (by omega)]; exact i2 i hi) hl hP hD hS
set_option maxRecDepth 100000 in
set_option maxHeartbeats 4000000 in
theorem lp_read (hx : p.tables.exec = Jvm.exec) (hb : c.code = cM_read) {cI : ClassId} (hK : va_K (dC, dI) mCl [(cI, .int)] s) {q NN at_ : Nat} {f : Nat → Int32} {S : Nat → Nat} {H : Heap} {locs : List Loc} (hP : va_P (dC, dI) mCl [(q, .inl (cI, NN, .inl (f)))] H) (hN : at_ + 8 ≤ NN) (hN2 : NN < 2147483648) (hB : ae_B S) (hf2 : ∀ i, i < 8 → f (at_ + i) = nI (S i))
    (kk : ∀ (ls : Array Slot), lv_has ls 5 [(4, .int (nI 8)), (2, .long (ae_l S 0)), (0, .ref q), (1, .int (nI at_))] → W p l e R s m args below meth c H locs cells slots Q (F0 m 31 ls [])) :
    ∀ (j k : Nat) (ls : Array Slot), k + j = 8 → lv_has ls 5 [(4, .int (nI (k))), (2, .long (lN (ae_pf S k))), (0, .ref q), (1, .int (nI (at_)))] → W p l e R s m args below meth c H locs cells slots Q (F0 m 5 ls []) := by
  intro j
  induction j with
  | zero =>
    intro k ls hj hl
    have e : k = 8 := by omega
    subst e
    rw [ae_pf8] at hl
    refine lv_iload hx hb dM_read_5 (lv_at hl 0 rfl) ?_
    refine lv_bipush (v := nI 8) hx hb dM_read_7 (by decide) ?_
    refine xi_icmp_ge (tgt := 31) hx hb dM_read_9 (by decide) (by omega) (by omega) (fun hc0 => ?_) (fun h9 => absurd h9 (by omega))
    exact kk ls hl
  | succ j ih =>
    intro k ls hj hl
    have hb8 := hB k
    refine lv_iload hx hb dM_read_5 (lv_at hl 0 rfl) ?_
    refine lv_bipush (v := nI 8) hx hb dM_read_7 (by decide) ?_
    refine xi_icmp_ge (tgt := 31) hx hb dM_read_9 (by decide) (by omega) (by omega) (fun h9 => absurd h9 (by omega)) (fun hc0 => ?_)
    refine lv_lload_n hx hb dM_read_12 rfl (lv_at hl 1 rfl) ?_
    refine lv_bipush (v := nI 8) hx hb dM_read_13 (by decide) ?_
    refine lv_lshl hx hb dM_read_15 rfl ?_
    refine tw_l (y := lN (ae_pf S k * 2 ^ 8)) (ln_shl _ (by omega)) ?_
    refine lv_aload_n hx hb dM_read_16 rfl (lv_at hl 2 rfl) ?_
    refine lv_iload_n hx hb dM_read_17 rfl (lv_at hl 3 rfl) ?_
    refine lv_iload hx hb dM_read_18 (lv_at hl 0 rfl) ?_
    refine xi_iadd hx hb dM_read_20 ?_
    refine xa_ild hx hb hK hP 0 0 rfl rfl (by omega) (by omega) (v := nI (S k)) (hf2 k (by omega)) dM_read_21 ?_
    refine lv_i2l (v := lN (S k)) hx hb dM_read_22 (nI_l (by omega)) ?_
    refine lv_lor hx hb dM_read_23 ?_
    refine tw_l (y := lN (ae_pf S (k + 1))) (by rw [ln_or, ae_orp 8 hb8]; rfl) ?_
    refine lv_lstore_n (nL := 5) (lv' := [(2, .long (lN (ae_pf S (k + 1)))), (4, .int (nI (k))), (0, .ref q), (1, .int (nI (at_)))]) hx hb dM_read_24 rfl hl (by decide) rfl (fun ls hl => ?_)
    refine lv_iinc (k := 1) (v := nI (k + 1)) (nL := 5) (lv' := [(4, .int (nI (k + 1))), (2, .long (lN (ae_pf S (k + 1)))), (0, .ref q), (1, .int (nI (at_)))]) hx hb dM_read_25 hl rfl (nI_1 (k)) (by decide) rfl (fun ls hl => ?_)
    refine lv_goto (tgt := 5) hx hb dM_read_28 (by decide) ?_
    exact ih (k + 1) ls (by omega) hl
end
set_option maxRecDepth 100000 in
set_option maxHeartbeats 4000000 in
theorem c_lay (l : Launch) (dC : Nat → ClassId) (dI : Nat → Nat → Nat) (cI : ClassId) (sz q NN at_ n : Nat) (f : Nat → Int32) (hN : at_ + 8 ≤ NN) (hN2 : NN < 2147483648) (hn : n < 18446744073709551616) : kp_Mv l yM_lay wsM_lay { frames := 0, cells := 0, slots := 0, locals := 0 } (dC, dI) mCl [.ref q, .int (nI at_), .long (lN n)] [(q, .inl (cI, NN, .inl (f)))] [(cI, .int)] sz kp_T 0 0 (fun g : Nat → Int32 => (∀ i, i < 8 → g (at_ + i) = nI (ae_by n i)) ∧ (∀ i, i < at_ ∨ at_ + 8 ≤ i → g i = f i)) (fun g => [(q, .inl (cI, NN, .inl (g)))]) := by
  refine kp_ofv (cc := cM_lay) (maxL := 5) (ret := none) (by decide) rfl (Nat.le_of_ble_eq_true rfl) ?_
  intro p e s m args below meth c ls A hx hb hr hts hown hlocks hml hnm hA hsz hl hP hD hK hX hS
  have hown : s.vm.findClass RM = some m.cls := hown
  have htA : ∀ w ∈ wsM_a, w.before args s = true := fun w h => hts w (List.mem_cons_of_mem _ h)
  have hf : 0 ≤ ({ frames := 0, cells := 0, slots := 0, locals := 0 } : Room).frames ∧ 0 ≤ ({ frames := 0, cells := 0, slots := 0, locals := 0 } : Room).locals := ⟨Nat.le_of_ble_eq_true rfl, Nat.le_of_ble_eq_true rfl⟩
  have hc : 0 ≤ ({ frames := 0, cells := 0, slots := 0, locals := 0 } : Room).cells ∧ 0 ≤ ({ frames := 0, cells := 0, slots := 0, locals := 0 } : Room).slots := ⟨Nat.zero_le _, Nat.zero_le _⟩
  have hl : lv_has ls 5 [(0, .ref q), (1, .int (nI (at_))), (2, .long (lN n))] := hl
  refine lv_iconst (v := nI 0) hx hb dM_lay_0 (by decide) ?_
  refine lv_istore (nL := 5) (lv' := [(4, .int (nI (0))), (0, .ref q), (1, .int (nI (at_))), (2, .long (lN n))]) hx hb dM_lay_1 hl (by decide) rfl (fun ls hl => ?_)
  refine lp_lay hx hb hK hN hN2 hn (f := f) (fun g ls H locs hg hP hD hS => ?_) 8 0 f ls s.heap [] (by omega) (fun i h => by omega) (fun i h => rfl) hl hP hD hS
  exact kp_retv g hx hb hr hlocks hg hP hD hS dM_lay_37
set_option maxRecDepth 100000 in
set_option maxHeartbeats 4000000 in
theorem c_read (l : Launch) (dC : Nat → ClassId) (dI : Nat → Nat → Nat) (cI : ClassId) (sz q NN at_ : Nat) (f : Nat → Int32) (S : Nat → Nat) (hN : at_ + 8 ≤ NN) (hN2 : NN < 2147483648) (hB : ae_B S) (hf2 : ∀ i, i < 8 → f (at_ + i) = nI (S i)) : kp_Ml l yM_read wsM_read { frames := 0, cells := 0, slots := 0, locals := 0 } (dC, dI) mCl [.ref q, .int (nI at_)] [(q, .inl (cI, NN, .inl (f)))] [(cI, .int)] sz kp_T (fun (r : Int64) (_ : Unit) => r = ae_l S 0) (fun _ => [(q, .inl (cI, NN, .inl (f)))]) := by
  refine kp_ofl (cc := cM_read) (maxL := 5) (ret := some .long) (by decide) rfl (Nat.le_of_ble_eq_true rfl) ?_
  intro p e s m args below meth c ls A hx hb hr hts hown hlocks hml hnm hA hsz hl hP hD hK hX hS
  have hown : s.vm.findClass RM = some m.cls := hown
  have htA : ∀ w ∈ wsM_a, w.before args s = true := fun w h => hts w (List.mem_cons_of_mem _ h)
  have hf : 0 ≤ ({ frames := 0, cells := 0, slots := 0, locals := 0 } : Room).frames ∧ 0 ≤ ({ frames := 0, cells := 0, slots := 0, locals := 0 } : Room).locals := ⟨Nat.le_of_ble_eq_true rfl, Nat.le_of_ble_eq_true rfl⟩
  have hc : 0 ≤ ({ frames := 0, cells := 0, slots := 0, locals := 0 } : Room).cells ∧ 0 ≤ ({ frames := 0, cells := 0, slots := 0, locals := 0 } : Room).slots := ⟨Nat.zero_le _, Nat.zero_le _⟩
  have hl : lv_has ls 5 [(0, .ref q), (1, .int (nI (at_)))] := hl
  refine lv_lconst (v := lN 0) hx hb dM_read_0 rfl ?_
  refine lv_lstore_n (nL := 5) (lv' := [(2, .long (lN 0)), (0, .ref q), (1, .int (nI (at_)))]) hx hb dM_read_1 rfl hl (by decide) rfl (fun ls hl => ?_)
  refine lv_iconst (v := nI 0) hx hb dM_read_2 (by decide) ?_
  refine lv_istore (nL := 5) (lv' := [(4, .int (nI (0))), (2, .long (lN 0)), (0, .ref q), (1, .int (nI (at_)))]) hx hb dM_read_3 hl (by decide) rfl (fun ls hl => ?_)
  refine lp_read hx hb hK hP hN hN2 hB hf2 (fun ls hl => ?_) 8 0 ls (by omega) hl
  refine lv_lload_n hx hb dM_read_31 rfl (lv_at hl 1 rfl) ?_
  exact kp_retl () hx hb hr hlocks rfl hP hD hS dM_read_32
