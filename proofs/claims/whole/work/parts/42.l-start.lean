/-! the law's start: what the Statement gives, in this proof's words -/
theorem lf_S {args : Array Value} {s : State} (h : (Jvm.Cond.and given_1 narrow_1).before args s = true) : ∀ j, j < 256 → (Cond.eq (.elem (.static "SectorSeal$Aes" "S_BOX" "[I") (.int (Int32.ofNat j))) (.int (nI (ae_sb j)))).before args s = true := fun j hj => by
  refine flat_of_before _ h _ (List.mem_of_mem_drop (List.mem_of_mem_take (i := 256) (l := (flatC (Jvm.Cond.and given_1 narrow_1)).drop 7) ?_))
  rw [nr_S]
  exact List.mem_map.mpr ⟨j, List.mem_range.mpr hj, rfl⟩
theorem lf_I {args : Array Value} {s : State} (h : (Jvm.Cond.and given_1 narrow_1).before args s = true) : ∀ j, j < 256 → (Cond.eq (.elem (.static "SectorSeal$Aes" "INVERSE_S_BOX" "[I") (.int (Int32.ofNat j))) (.int (nI (ae_ib j)))).before args s = true := fun j hj => by
  refine flat_of_before _ h _ (List.mem_of_mem_drop (List.mem_of_mem_take (i := 256) (l := (flatC (Jvm.Cond.and given_1 narrow_1)).drop 268) ?_))
  rw [nr_I]
  exact List.mem_map.mpr ⟨j, List.mem_range.mpr hj, rfl⟩
theorem lf_arr {args : Array Value} {s : State} {ty : FieldType} (h : (Cond.arrayClass ty).before args s = true) : ∃ cA : ClassId, ArrOfT s cA ty ∧ s.vm.findClass ("[" ++ ty.toString) = some cA := by
  obtain ⟨cA, k, comp, h1, h2, h3⟩ := Cond.arrayClass_spec h
  exact ⟨cA, fun n z => ⟨fun _ h => (by cases h), k, h2, comp, h3⟩, h1⟩
set_option maxRecDepth 100000 in
set_option maxHeartbeats 4000000 in
theorem lf_start {p : Program} {s : State} {m : MethodId} {meth : Method} {c : Code} {b L : Nat} {xs : Nat → Int32} (C0 : lw_At p s m meth c b L xs) :
    ∃ (dC : Nat → ClassId) (dI : Nat → Nat → Nat) (cI cL : ClassId) (tS tI sa1 sa2 sa3 : Nat), va_K (dC, dI) mCl [(cI, .int), (cL, .long)] s ∧ ini_X tS tI (fun q => s.heap.size ≤ q) s ∧ tw_X 32 "a long's index is 0 to 15" "java/lang/IndexOutOfBoundsException" sa1 (fun q => s.heap.size ≤ q) s ∧ tw_X 39 "a sector's number is not below 0" "java/lang/IllegalArgumentException" sa2 (fun q => s.heap.size ≤ q) s ∧ tw_X 59 "a block's index is 0 to 7" "java/lang/IndexOutOfBoundsException" sa3 (fun q => s.heap.size ≤ q) s := by
  obtain ⟨hx, hb, hr, hml, hown, hts, hXs, hbl, hlocks, hgv⟩ := C0
  have hs := flat_of_before _ hgv
  have hA : ∀ a : Nat, a < s.heap.size → ¬ (s.heap.size ≤ a) := fun a h => by omega
  obtain ⟨c0, i0, k0⟩ := u_known (C := RX0) (T := TX0) (N := 1) hts tb_X0 (hts _ (tb_C _ mA_instantiable))
  obtain ⟨c1, i1, k1⟩ := u_known (C := RX1) (T := TX1) (N := 4) hts tb_X1 (hts _ (tb_C _ mS_instantiable))
  obtain ⟨c2, i2, k2⟩ := u_known (C := RM) (T := TM) (N := 9) hts tb_M0 (hts _ (tb_M _ mM_instantiable))
  obtain ⟨cI, a1, a2⟩ := lf_arr (hts _ (tb_C _ mC_arrayInt))
  obtain ⟨cL, b1, b2⟩ := lf_arr (hts _ (tb_C _ mC_arrayLong))
  obtain ⟨tS, eS, hTS⟩ := va_Tof (tm := .static "SectorSeal$Aes" "S_BOX" "[I") (ty := .int) (N := 256) (f := fun j => .int (nI (ae_sb j))) (A := fun q => s.heap.size ≤ q) (by decide) (hs _ (List.mem_of_getElem? (i := 5) (by decide +kernel))) (va_eqt (hs (Cond.eq (.length (.static "SectorSeal$Aes" "S_BOX" "[I")) (.int 256)) (List.mem_of_getElem? (i := 6) (by decide +kernel)))) (fun j hj => va_eqt (lf_S hgv j hj)) hA
  obtain ⟨tI, eI, hTI⟩ := va_Tof (tm := .static "SectorSeal$Aes" "INVERSE_S_BOX" "[I") (ty := .int) (N := 256) (f := fun j => .int (nI (ae_ib j))) (A := fun q => s.heap.size ≤ q) (by decide) (hs _ (List.mem_of_getElem? (i := 266) (by decide +kernel))) (va_eqt (hs (Cond.eq (.length (.static "SectorSeal$Aes" "INVERSE_S_BOX" "[I")) (.int 256)) (List.mem_of_getElem? (i := 267) (by decide +kernel)))) (fun j hj => va_eqt (lf_I hgv j hj)) hA
  have zS : va_Z "SectorSeal$Aes" "S_BOX" "[I" (.ref tS) (fun q => s.heap.size ≤ q) s s.heap := va_Zref (hts _ tl_sb) (hts _ (tb_C _ mA_initialized)) eS hA
  have zI : va_Z "SectorSeal$Aes" "INVERSE_S_BOX" "[I" (.ref tI) (fun q => s.heap.size ≤ q) s s.heap := va_Zref (hts _ tl_ib) (hts _ (tb_C _ mA_initialized)) eI hA
  have hU := vx_Zqof (A := fun q => s.heap.size ≤ q) (hts _ tl_us) (hts _ tl_it) (hs (Cond.isRef (.static Bundle.tN "UNASSIGNED_STACK" Bundle.steD)) (List.mem_of_getElem? (i := 263) (by decide +kernel))) hA
  have hN := vx_Zqof (A := fun q => s.heap.size ≤ q) (hts _ tl_ss) (hts _ tl_it) (hs (Cond.isRef (.static Bundle.tN "SUPPRESSED_SENTINEL" Bundle.listD)) (List.mem_of_getElem? (i := 264) (by decide +kernel))) hA
  have st : ∀ k i, (flatC (Jvm.Cond.and given_1 narrow_1))[i]? = some (Cond.exactly (.string "SectorSeal" k) "java/lang/String") → ∃ sa : Nat, (Term.string "SectorSeal" k).eval #[Value.ref b] s none [] s = some (.ref sa) := fun k i h => by
    obtain ⟨a, _, _, _, h1, -⟩ := Cond.exactly_spec (hs _ (List.mem_of_getElem? h))
    exact ⟨a, h1⟩
  obtain ⟨sa1, e1⟩ := st 32 532 (by decide +kernel)
  obtain ⟨sa2, e2⟩ := st 39 561 (by decide +kernel)
  obtain ⟨sa3, e3⟩ := st 59 598 (by decide +kernel)
  have dd1 := va_Nw.of rfl (hts _ tl_d1)
  have dd2 := va_Nw.of rfl (hts _ tl_d2)
  have dd3 := va_Nw.of rfl (hts _ tl_d3)
  refine ⟨fun k => if k = 0 then c0 else if k = 1 then c1 else c2, fun k => if k = 0 then i0 else if k = 1 then i1 else i2, cI, cL, tS, tI, sa1, sa2, sa3, ⟨fun k q hq => ?_, fun k q hq => ?_⟩, ⟨⟨⟨zS, hTS⟩, ⟨zI, hTI⟩⟩, va_Nw.of rfl (hts _ tl_nest)⟩,
    ⟨hU, hN, vk_R.of (hts _ tl_s32) e1, va_Nw.of rfl (hts _ tl_io), dd1, dd2, dd3⟩, ⟨hU, hN, vk_R.of (hts _ tl_s39) e2, va_Nw.of rfl (hts _ tl_ia), dd1, dd2, dd3⟩, ⟨hU, hN, vk_R.of (hts _ tl_s59) e3, va_Nw.of rfl (hts _ tl_io), dd1, dd2, dd3⟩⟩
  · match k, hq with
    | 0, hq => cases hq; exact k0
    | 1, hq => cases hq; exact k1
    | 2, hq => cases hq; exact k2
    | k + 3, hq => simp at hq
  · match k, hq with
    | 0, hq => cases hq; exact ⟨a1, a2⟩
    | 1, hq => cases hq; exact ⟨b1, b2⟩
    | k + 2, hq => simp at hq
/-! words of the law's calls -/
theorem gT_l (idx : Nat) (y : MethodName) (h : Cond.methodLink RL idx y ∈ lw_tbl) : Cond.methodLink RL idx y ∈ lw_tbl ∧ (((Cond.methodLink RL idx y).onTables && (Cond.methodLink RL idx y).keeps) = true ∨ ∃ ty, Cond.methodLink RL idx y = .arrayClass ty) := ⟨h, Or.inl rfl⟩
theorem gT_C {w : Cond} (h : w ∈ wsC_a) : w ∈ lw_tbl ∧ ((w.onTables && w.keeps) = true ∨ ∃ ty, w = .arrayClass ty) := ⟨tb_C w h, (goodC_mem h).2⟩
theorem gT_M {w : Cond} (h : w ∈ wsM_a) : w ∈ lw_tbl ∧ ((w.onTables && w.keeps) = true ∨ ∃ ty, w = .arrayClass ty) := ⟨tb_M w h, (goodM_mem h).2⟩
theorem gT_W {w : Cond} (h : w ∈ wsW_a) : w ∈ lw_tbl ∧ ((w.onTables && w.keeps) = true ∨ ∃ ty, w = .arrayClass ty) := ⟨tb_W w h, (goodW_mem h).2⟩
theorem goodT_C {c : Cond} (h : c ∈ wsC_a) : GoodIn lw_tbl (c :: wsC_a) := fun w hw => (List.mem_cons.mp hw).elim (fun e => by rw [e]; exact gT_C h) gT_C
theorem goodT_M {c : Cond} (h : c ∈ wsM_a) : GoodIn lw_tbl (c :: wsM_a) := fun w hw => (List.mem_cons.mp hw).elim (fun e => by rw [e]; exact gT_M h) gT_M
theorem goodT_VC {idx : Nat} {y : MethodName} {c : Cond} (h1 : Cond.methodLink RL idx y ∈ lw_tbl) (h2 : Cond.instanceMethod y ∈ wsC_a) (h3 : Cond.selects RX1 y y ∈ wsC_a) (h4 : c ∈ wsC_a) : GoodIn lw_tbl (wsV RL idx RX1 y (c :: wsC_a)) :=
  goodIn_app (fun w hw => by
    simp only [List.mem_cons, List.not_mem_nil, or_false] at hw
    rcases hw with e | e | e | e <;> rw [e]
    · exact gT_l idx y h1
    · exact gT_C h2
    · exact gT_C h3
    · exact gT_C mS_initialized) (goodT_C h4)
theorem goodT_VM {idx : Nat} {y : MethodName} {c : Cond} (h1 : Cond.methodLink RL idx y ∈ lw_tbl) (h2 : Cond.instanceMethod y ∈ wsM_a) (h3 : Cond.selects RM y y ∈ wsM_a) (h4 : c ∈ wsM_a) : GoodIn lw_tbl (wsV RL idx RM y (c :: wsM_a)) :=
  goodIn_app (fun w hw => by
    simp only [List.mem_cons, List.not_mem_nil, or_false] at hw
    rcases hw with e | e | e | e <;> rw [e]
    · exact gT_l idx y h1
    · exact gT_M h2
    · exact gT_M h3
    · exact gT_M mM_initialized) (goodT_M h4)
theorem goodT_H {idx : Nat} {y : MethodName} {bytes : ByteArray} {maxL : Nat} {ret : Option FieldType} {hh : List (Nat × Nat × Nat × Nat)} (h1 : Cond.methodLink RL idx y ∈ lw_tbl) (h2 : Cond.static y ∈ lw_tbl) (h3 : Cond.initialized y.cls ∈ lw_tbl) (h4 : Cond.codeWith y bytes maxL ret hh ∈ lw_tbl) (g4 : goodWord (Cond.codeWith y bytes maxL ret hh) = true) : GoodIn lw_tbl (va_wsS RL idx y (Cond.codeWith y bytes maxL ret hh :: wsW_a)) :=
  goodIn_app (fun w hw => by
    simp only [List.mem_cons, List.not_mem_nil, or_false] at hw
    rcases hw with e | e | e <;> rw [e]
    · exact gT_l idx y h1
    · exact ⟨h2, Or.inl rfl⟩
    · exact ⟨h3, Or.inl rfl⟩) (fun w hw => (List.mem_cons.mp hw).elim (fun e => by rw [e]; exact ⟨h4, good_of_word g4⟩) gT_W)
section
variable {p : Program} {l : Launch} {e : Env} {R : Room} {s : State} {m : MethodId} {args : Array Value} {below : List Frame} {meth : Method} {c : Code} {H H0 : Heap} {locs : List Loc} {cells slots : Nat} {Q : State → Prop} {cc : ByteArray} {pc : Nat} {ls : Array Slot} {rest : List Value} {A : Nat → Prop}
theorem xa_sld (hexec : p.tables.exec = Jvm.exec) (hb : c.code = cc) {b L : Nat} {xs : Nat → Int32} (hX : va_X b L xs s H0) (hbl : b < H0.size) (hbA : ¬ A b) (hS : va_S A H0 H locs) {k : Nat} (hL : L < 2147483648) (hk : k < L) (hdg : decode cc pc = .ok (.iaload, 1)) (kk : W p l e R s m args below meth c H locs cells slots Q (F0 m (pc + 1) ls (.int (xs k) :: rest))) : W p l e R s m args below meth c H locs cells slots Q (F0 m pc ls (.int (nI k) :: .ref b :: rest)) := by
  refine va_sld hexec hb hX hbl hbA hS (vp_in_nI hk hL) hdg ?_
  rw [nI_clamp (by omega)]; exact kk
end
/-! what the law's two sides share -/
def lw_lg (a b : Int32) : Int64 := (a.toInt64 <<< ((nI 32).toInt64 &&& 63)) ||| (b.toInt64 &&& 4294967295)
theorem k4_0 {a : Nat} (b c d : Nat) (h : a < 18446744073709551616) : lN a = ae_l (ae_k4 a b c d) 0 := by
  have e : ae_hf (ae_k4 a b c d) 0 = ae_hf (ae_by a) 0 := ae_hf_c (fun k hk => by unfold ae_k4; rw [if_pos (by omega)])
  unfold ae_l; rw [e, ae_hf_by h]
theorem k4_8 {b : Nat} (a c d : Nat) (h : b < 18446744073709551616) : lN b = ae_l (ae_k4 a b c d) 8 := by
  have e : ae_hf (ae_k4 a b c d) 8 = ae_hf (ae_by b) 0 := ae_hf_c (fun k hk => by unfold ae_k4; rw [if_neg (by omega), if_pos (by omega)]; congr 1; omega)
  unfold ae_l; rw [e, ae_hf_by h]
theorem k4_16 {c : Nat} (a b d : Nat) (h : c < 18446744073709551616) : lN c = ae_l (ae_k4 a b c d) 16 := by
  have e : ae_hf (ae_k4 a b c d) 16 = ae_hf (ae_by c) 0 := ae_hf_c (fun k hk => by unfold ae_k4; rw [if_neg (by omega), if_neg (by omega), if_pos (by omega)]; congr 1; omega)
  unfold ae_l; rw [e, ae_hf_by h]
theorem k4_24 {d : Nat} (a b c : Nat) (h : d < 18446744073709551616) : lN d = ae_l (ae_k4 a b c d) 24 := by
  have e : ae_hf (ae_k4 a b c d) 24 = ae_hf (ae_by d) 0 := ae_hf_c (fun k hk => by unfold ae_k4; rw [if_neg (by omega), if_neg (by omega), if_neg (by omega)]; congr 1; omega)
  unfold ae_l; rw [e, ae_hf_by h]
theorem pt_8 {f : Nat → Int64} {S : Nat → Nat} {i n : Nat} (h : ∀ j, j < 16 → f j = ae_l S (8 * j)) (hn : n < 18446744073709551616) : ∀ j, j < 16 → vp_updL f i (lN n) j = ae_l (ae_pt S (8 * i) 8 (ae_by n)) (8 * j) := fun j hj => by
  by_cases c : j = i
  · subst c
    rw [pk_uLs]
    have e : ae_hf (ae_pt S (8 * j) 8 (ae_by n)) (8 * j) = ae_hf (ae_by n) 0 := ae_hf_c (fun k hk => by unfold ae_pt; rw [if_pos (by omega)]; congr 1; omega)
    unfold ae_l; rw [e, ae_hf_by hn]
  · rw [pk_uLn c, h j hj, ae_ptout (by omega)]
theorem sm_x {f : Nat → Int64} {S : Nat → Nat} (h : ∀ j, j < 16 → f j = ae_l S (8 * j)) : ∀ n, n ≤ 16 → xs_f f n = ae_sx S n
  | 0, _ => rfl
  | n + 1, hn => by
    show xs_f f n ^^^ f n = ae_sx S n ^^^ ae_l S (8 * n)
    rw [sm_x h n (by omega), h n (by omega)]
/-- class and reference stand for one KEY and one SECTOR -/
def lw_I (KEY SEC : Nat → Nat) (f : Nat → Int64) (sD sT f0 f1 f2 f3 : Nat → Int32) : Prop := ae_B KEY ∧ ae_B SEC ∧ (∀ i, i < 16 → f i = ae_l SEC (8 * i)) ∧ (∀ i, i < 44 → sD i = ae_wf (ae_kx (ae_at KEY (16 * 0))) (4 * i)) ∧ (∀ i, i < 44 → sT i = ae_wf (ae_kx (ae_at KEY (16 * 1))) (4 * i)) ∧ li_ag 32 f0 KEY ∧ li_ag 128 f1 SEC ∧ li_ag 256 f2 ae_sb ∧ li_ag 256 f3 ae_ib
