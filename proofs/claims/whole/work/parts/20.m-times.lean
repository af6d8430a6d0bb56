/-! the reference's leaves: times, substitute, lay, read -/
theorem goodM_mem {w : Cond} (h : w ∈ wsM_a) : w ∈ wsM_a ∧ ((w.onTables && w.keeps) = true ∨ ∃ ty, w = .arrayClass ty) := ⟨h, good_of_word (List.all_eq_true.mp wsM_good w h)⟩
theorem goodM_c {c : Cond} (h : c ∈ wsM_a) : GoodIn wsM_a (c :: wsM_a) := fun w hw => by
  rcases List.mem_cons.mp hw with e | e
  · rw [e]; exact goodM_mem h
  · exact goodM_mem e
theorem goodM_S {idx : Nat} {y : MethodName} {c : Cond} (h1 : Cond.methodLink RM idx y ∈ wsM_a) (h2 : Cond.static y ∈ wsM_a) (h4 : c ∈ wsM_a) (h3 : Cond.initialized y.cls ∈ wsM_a := by exact mM_initialized) : GoodIn wsM_a (va_wsS RM idx y (c :: wsM_a)) :=
  goodIn_app (fun w hw => by
    simp only [List.mem_cons, List.not_mem_nil, or_false] at hw
    rcases hw with e | e | e <;> rw [e]
    · exact goodM_mem h1
    · exact goodM_mem h2
    · exact goodM_mem h3) (goodM_c h4)
theorem goodM_V {idx : Nat} {y : MethodName} {c : Cond} (h1 : Cond.methodLink RM idx y ∈ wsM_a) (h2 : Cond.instanceMethod y ∈ wsM_a) (h3 : Cond.selects RM y y ∈ wsM_a) (h4 : c ∈ wsM_a) : GoodIn wsM_a (wsV RM idx RM y (c :: wsM_a)) :=
  goodIn_app (fun w hw => by
    simp only [List.mem_cons, List.not_mem_nil, or_false] at hw
    rcases hw with e | e | e | e <;> rw [e]
    · exact goodM_mem h1
    · exact goodM_mem h2
    · exact goodM_mem h3
    · exact goodM_mem mM_initialized) (goodM_c h4)
section
variable {p : Program} {l : Launch} {e : Env} {R : Room} {s : State} {m : MethodId} {args : Array Value} {below : List Frame} {meth : Method} {c : Code} {cells slots : Nat} {Q : State → Prop} {dC : Nat → ClassId} {dI : Nat → Nat → Nat} {A : Nat → Prop}

set_option maxRecDepth 100000 in
set_option maxHeartbeats 4000000 in
theorem lp_times (hx : p.tables.exec = Jvm.exec) (hb : c.code = cM_times) {H : Heap} {locs : List Loc} {a b : Nat} (ha : a < 256) (hb2 : b < 256)
    (kk : ∀ (x : Nat) (ls : Array Slot), lv_has ls 5 [(4, .int (nI 8)), (3, .int (nI x)), (2, .int (nI (ae_tm a b))), (0, .int (nI a)), (1, .int (nI b))] → W p l e R s m args below meth c H locs cells slots Q (F0 m 52 ls [])) :
    ∀ (j k sm x : Nat) (ls : Array Slot), k + j = 8 → sm = (ae_tl a b k).1 → x = (ae_tl a b k).2 → lv_has ls 5 [(4, .int (nI (k))), (3, .int (nI (x))), (2, .int (nI (sm))), (0, .int (nI (a))), (1, .int (nI (b)))] → W p l e R s m args below meth c H locs cells slots Q (F0 m 7 ls []) := by
  intro j
  induction j with
  | zero =>
    intro k sm x ls hj hsm hxx hl
    have e : k = 8 := by omega
    subst e
    subst hsm
    refine lv_iload hx hb dM_times_7 (lv_at hl 0 rfl) ?_
    refine lv_bipush (v := nI 8) hx hb dM_times_9 (by decide) ?_
    refine xi_icmp_ge (tgt := 52) hx hb dM_times_11 (by decide) (by omega) (by omega) (fun hc0 => ?_) (fun h9 => absurd h9 (by omega))
    exact kk x ls hl
  | succ j ih =>
    intro k sm x ls hj hsm hxx hl
    have hx2 : x < 256 := by rw [hxx]; exact (ae_tl_lt ha k).2
    refine lv_iload hx hb dM_times_7 (lv_at hl 0 rfl) ?_
    refine lv_bipush (v := nI 8) hx hb dM_times_9 (by decide) ?_
    refine xi_icmp_ge (tgt := 52) hx hb dM_times_11 (by decide) (by omega) (by omega) (fun h9 => absurd h9 (by omega)) (fun hc0 => ?_)
    refine lv_iload_n hx hb dM_times_14 rfl (lv_at hl 4 rfl) ?_
    refine lv_iload hx hb dM_times_15 (lv_at hl 0 rfl) ?_
    refine xi_ishr hx hb dM_times_17 (by omega) (by omega) ?_
    refine lv_iconst (v := nI 1) hx hb dM_times_18 (by decide) ?_
    refine xi_mask hx hb 1 dM_times_19 (by decide) ?_
    refine lv_iconst (v := nI 1) hx hb dM_times_20 (by decide) ?_
    refine xi_icmp_ne (tgt := 28) hx hb dM_times_21 (by decide) (by omega) (by omega) (fun hc1 => ?_) (fun hc1 => ?_)
    · refine lv_iload_n hx hb dM_times_28 rfl (lv_at hl 1 rfl) ?_
      refine lv_iconst (v := nI 1) hx hb dM_times_29 (by decide) ?_
      refine xi_ishl hx hb dM_times_30 (by omega) ?_
      refine lv_iload_n hx hb dM_times_31 rfl (lv_at hl 1 rfl) ?_
      refine lv_bipush (v := nI 127) hx hb dM_times_32 (by decide) ?_
      refine xi_icmp_le (tgt := 43) hx hb dM_times_34 (by decide) (by omega) (by omega) (fun hc2 => ?_) (fun hc2 => ?_)
      · refine lv_iconst (v := nI 0) hx hb dM_times_43 (by decide) ?_
        refine xi_ixor hx hb dM_times_44 ?_
        refine lv_istore_n (nL := 5) (lv' := [(3, .int (nI (((x) * 2 ^ (1)) ^^^ (0)))), (4, .int (nI (k))), (2, .int (nI (sm))), (0, .int (nI (a))), (1, .int (nI (b)))]) hx hb dM_times_45 rfl hl (by decide) rfl (fun ls hl => ?_)
        refine lv_iinc (k := 1) (v := nI (k + 1)) (nL := 5) (lv' := [(4, .int (nI (k + 1))), (3, .int (nI (((x) * 2 ^ (1)) ^^^ (0)))), (2, .int (nI (sm))), (0, .int (nI (a))), (1, .int (nI (b)))]) hx hb dM_times_46 hl rfl (nI_1 (k)) (by decide) rfl (fun ls hl => ?_)
        refine lv_goto (tgt := 7) hx hb dM_times_49 (by decide) ?_
        refine ih (k + 1) (sm) (((x) * 2 ^ (1)) ^^^ (0)) ls (by omega) ?_ ?_ hl
        · show _ = if b / 2 ^ k % 2 = 1 then _ else _; rw [if_neg hc1]; exact hsm
        · show _ = ae_tq (ae_tl a b k).2; rw [← hxx]; unfold ae_tq; rw [if_neg (by omega), Nat.xor_zero]
      · refine lv_sipush (v := nI 283) hx hb dM_times_37 (by decide) ?_
        refine lv_goto (tgt := 44) hx hb dM_times_40 (by decide) ?_
        refine xi_ixor hx hb dM_times_44 ?_
        refine lv_istore_n (nL := 5) (lv' := [(3, .int (nI (((x) * 2 ^ (1)) ^^^ (283)))), (4, .int (nI (k))), (2, .int (nI (sm))), (0, .int (nI (a))), (1, .int (nI (b)))]) hx hb dM_times_45 rfl hl (by decide) rfl (fun ls hl => ?_)
        refine lv_iinc (k := 1) (v := nI (k + 1)) (nL := 5) (lv' := [(4, .int (nI (k + 1))), (3, .int (nI (((x) * 2 ^ (1)) ^^^ (283)))), (2, .int (nI (sm))), (0, .int (nI (a))), (1, .int (nI (b)))]) hx hb dM_times_46 hl rfl (nI_1 (k)) (by decide) rfl (fun ls hl => ?_)
        refine lv_goto (tgt := 7) hx hb dM_times_49 (by decide) ?_
        refine ih (k + 1) (sm) (((x) * 2 ^ (1)) ^^^ (283)) ls (by omega) ?_ ?_ hl
        · show _ = if b / 2 ^ k % 2 = 1 then _ else _; rw [if_neg hc1]; exact hsm
        · show _ = ae_tq (ae_tl a b k).2; rw [← hxx]; unfold ae_tq; rw [if_pos (by omega)]
    · refine lv_iload_n hx hb dM_times_24 rfl (lv_at hl 2 rfl) ?_
      refine lv_iload_n hx hb dM_times_25 rfl (lv_at hl 1 rfl) ?_
      refine xi_ixor hx hb dM_times_26 ?_
      refine lv_istore_n (nL := 5) (lv' := [(2, .int (nI ((sm) ^^^ (x)))), (4, .int (nI (k))), (3, .int (nI (x))), (0, .int (nI (a))), (1, .int (nI (b)))]) hx hb dM_times_27 rfl hl (by decide) rfl (fun ls hl => ?_)
      refine lv_iload_n hx hb dM_times_28 rfl (lv_at hl 2 rfl) ?_
      refine lv_iconst (v := nI 1) hx hb dM_times_29 (by decide) ?_
      refine xi_ishl hx hb dM_times_30 (by omega) ?_
      refine lv_iload_n hx hb dM_times_31 rfl (lv_at hl 2 rfl) ?_
      refine lv_bipush (v := nI 127) hx hb dM_times_32 (by decide) ?_
      refine xi_icmp_le (tgt := 43) hx hb dM_times_34 (by decide) (by omega) (by omega) (fun hc2 => ?_) (fun hc2 => ?_)
      · refine lv_iconst (v := nI 0) hx hb dM_times_43 (by decide) ?_
        refine xi_ixor hx hb dM_times_44 ?_
        refine lv_istore_n (nL := 5) (lv' := [(3, .int (nI (((x) * 2 ^ (1)) ^^^ (0)))), (2, .int (nI ((sm) ^^^ (x)))), (4, .int (nI (k))), (0, .int (nI (a))), (1, .int (nI (b)))]) hx hb dM_times_45 rfl hl (by decide) rfl (fun ls hl => ?_)
        refine lv_iinc (k := 2) (v := nI (k + 1)) (nL := 5) (lv' := [(4, .int (nI (k + 1))), (3, .int (nI (((x) * 2 ^ (1)) ^^^ (0)))), (2, .int (nI ((sm) ^^^ (x)))), (0, .int (nI (a))), (1, .int (nI (b)))]) hx hb dM_times_46 hl rfl (nI_1 (k)) (by decide) rfl (fun ls hl => ?_)
        refine lv_goto (tgt := 7) hx hb dM_times_49 (by decide) ?_
        refine ih (k + 1) ((sm) ^^^ (x)) (((x) * 2 ^ (1)) ^^^ (0)) ls (by omega) ?_ ?_ hl
        · show _ = if b / 2 ^ k % 2 = 1 then _ else _; rw [if_pos hc1, ← hsm, ← hxx]
        · show _ = ae_tq (ae_tl a b k).2; rw [← hxx]; unfold ae_tq; rw [if_neg (by omega), Nat.xor_zero]
      · refine lv_sipush (v := nI 283) hx hb dM_times_37 (by decide) ?_
        refine lv_goto (tgt := 44) hx hb dM_times_40 (by decide) ?_
        refine xi_ixor hx hb dM_times_44 ?_
        refine lv_istore_n (nL := 5) (lv' := [(3, .int (nI (((x) * 2 ^ (1)) ^^^ (283)))), (2, .int (nI ((sm) ^^^ (x)))), (4, .int (nI (k))), (0, .int (nI (a))), (1, .int (nI (b)))]) hx hb dM_times_45 rfl hl (by decide) rfl (fun ls hl => ?_)
        refine lv_iinc (k := 2) (v := nI (k + 1)) (nL := 5) (lv' := [(4, .int (nI (k + 1))), (3, .int (nI (((x) * 2 ^ (1)) ^^^ (283)))), (2, .int (nI ((sm) ^^^ (x)))), (0, .int (nI (a))), (1, .int (nI (b)))]) hx hb dM_times_46 hl rfl (nI_1 (k)) (by decide) rfl (fun ls hl => ?_)
        refine lv_goto (tgt := 7) hx hb dM_times_49 (by decide) ?_
        refine ih (k + 1) ((sm) ^^^ (x)) (((x) * 2 ^ (1)) ^^^ (283)) ls (by omega) ?_ ?_ hl
        · show _ = if b / 2 ^ k % 2 = 1 then _ else _; rw [if_pos hc1, ← hsm, ← hxx]
        · show _ = ae_tq (ae_tl a b k).2; rw [← hxx]; unfold ae_tq; rw [if_pos (by omega)]
end

set_option maxRecDepth 100000 in
set_option maxHeartbeats 4000000 in
theorem c_times (l : Launch) (dC : Nat → ClassId) (dI : Nat → Nat → Nat) (sz a b : Nat) (ha : a < 256) (hb2 : b < 256) : kp_Mi l yM_times wsM_times { frames := 0, cells := 0, slots := 0, locals := 0 } (dC, dI) mCl [.int (nI a), .int (nI b)] [] [] sz kp_T (fun (r : Int32) (_ : Unit) => r = nI (ae_tm a b)) (fun _ => []) := by
  refine kp_ofi (cc := cM_times) (maxL := 5) (ret := some .int) (by decide) rfl (Nat.le_of_ble_eq_true rfl) ?_
  intro p e s m args below meth c ls A hx hb hr hts hown hlocks hml hnm hA hsz hl hP hD hK hX hS
  have hown : s.vm.findClass RM = some m.cls := hown
  have htA : ∀ w ∈ wsM_a, w.before args s = true := fun w h => hts w (List.mem_cons_of_mem _ h)
  have hf : 0 ≤ ({ frames := 0, cells := 0, slots := 0, locals := 0 } : Room).frames ∧ 0 ≤ ({ frames := 0, cells := 0, slots := 0, locals := 0 } : Room).locals := ⟨Nat.le_of_ble_eq_true rfl, Nat.le_of_ble_eq_true rfl⟩
  have hc : 0 ≤ ({ frames := 0, cells := 0, slots := 0, locals := 0 } : Room).cells ∧ 0 ≤ ({ frames := 0, cells := 0, slots := 0, locals := 0 } : Room).slots := ⟨Nat.zero_le _, Nat.zero_le _⟩
  have hl : lv_has ls 5 [(0, .int (nI (a))), (1, .int (nI (b)))] := hl
  refine lv_iconst (v := nI 0) hx hb dM_times_0 (by decide) ?_
  refine lv_istore_n (nL := 5) (lv' := [(2, .int (nI (0))), (0, .int (nI (a))), (1, .int (nI (b)))]) hx hb dM_times_1 rfl hl (by decide) rfl (fun ls hl => ?_)
  refine lv_iload_n hx hb dM_times_2 rfl (lv_at hl 1 rfl) ?_
  refine lv_istore_n (nL := 5) (lv' := [(3, .int (nI (a))), (2, .int (nI (0))), (0, .int (nI (a))), (1, .int (nI (b)))]) hx hb dM_times_3 rfl hl (by decide) rfl (fun ls hl => ?_)
  refine lv_iconst (v := nI 0) hx hb dM_times_4 (by decide) ?_
  refine lv_istore (nL := 5) (lv' := [(4, .int (nI (0))), (3, .int (nI (a))), (2, .int (nI (0))), (0, .int (nI (a))), (1, .int (nI (b)))]) hx hb dM_times_5 hl (by decide) rfl (fun ls hl => ?_)
  refine lp_times hx hb ha hb2 (fun x ls hl => ?_) 8 0 0 a ls (by omega) rfl rfl hl
  refine lv_iload_n hx hb dM_times_52 rfl (lv_at hl 2 rfl) ?_
  exact kp_reti () hx hb hr rfl hlocks rfl hP hD hS dM_times_53
