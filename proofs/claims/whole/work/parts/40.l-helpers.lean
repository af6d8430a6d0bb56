/-! the law's helpers: a call of the class, caught -/
def wsW_1 : List Cond := [.classLink RL 13 "java/lang/IndexOutOfBoundsException", .classLink RL 23 "java/lang/IllegalArgumentException", .methodLink RL 7 yX1_put, .methodLink RL 15 yX1_get, .methodLink RL 19 yX1_sector, .methodLink RL 25 yX1_block]
def wsW_a : List Cond := wsW_1 ++ wsC_a
theorem wsW_good : wsW_a.all goodWord = true := by
  unfold wsW_a
  rw [List.all_append, wsC_good]
  decide +kernel
theorem inW : ∀ w ∈ wsC_a, w ∈ wsW_a := fun _ h => List.mem_append_right _ h
theorem goodW_mem {w : Cond} (h : w ∈ wsW_a) : w ∈ wsW_a ∧ ((w.onTables && w.keeps) = true ∨ ∃ ty, w = .arrayClass ty) := ⟨h, good_of_word (List.all_eq_true.mp wsW_good w h)⟩
theorem goodW_V {idx : Nat} {y : MethodName} {c : Cond} (h1 : Cond.methodLink RL idx y ∈ wsW_a) (h2 : Cond.instanceMethod y ∈ wsC_a) (h3 : Cond.selects RX1 y y ∈ wsC_a) (h4 : c ∈ wsC_a) : GoodIn wsW_a (wsV RL idx RX1 y (c :: wsC_a)) :=
  goodIn_app (fun w hw => by
    simp only [List.mem_cons, List.not_mem_nil, or_false] at hw
    rcases hw with e | e | e | e <;> rw [e]
    · exact goodW_mem h1
    · exact goodW_mem (inW _ h2)
    · exact goodW_mem (inW _ h3)
    · exact goodW_mem (inW _ mS_initialized)) (fun w hw => by
    rcases List.mem_cons.mp hw with e | e
    · rw [e]; exact goodW_mem (inW _ h4)
    · exact goodW_mem (inW _ e))
theorem mW_c13 : Cond.classLink RL 13 "java/lang/IndexOutOfBoundsException" ∈ wsW_a := List.mem_append_left _ (List.mem_of_getElem? (i := 0) rfl)
theorem mW_c23 : Cond.classLink RL 23 "java/lang/IllegalArgumentException" ∈ wsW_a := List.mem_append_left _ (List.mem_of_getElem? (i := 1) rfl)
theorem mW_l7 : Cond.methodLink RL 7 yX1_put ∈ wsW_a := List.mem_append_left _ (List.mem_of_getElem? (i := 2) rfl)
theorem mW_l15 : Cond.methodLink RL 15 yX1_get ∈ wsW_a := List.mem_append_left _ (List.mem_of_getElem? (i := 3) rfl)
theorem mW_l19 : Cond.methodLink RL 19 yX1_sector ∈ wsW_a := List.mem_append_left _ (List.mem_of_getElem? (i := 4) rfl)
theorem mW_l25 : Cond.methodLink RL 25 yX1_block ∈ wsW_a := List.mem_append_left _ (List.mem_of_getElem? (i := 5) rfl)
abbrev wsH_put : List Cond := .codeWith yL_put cL_put 6 (some .int) [(0, 10, 13, 13)] :: wsW_a
abbrev wsH_get : List Cond := .codeWith yL_get cL_get 4 (some .int) [(0, 8, 11, 13)] :: wsW_a
abbrev wsH_sector : List Cond := .codeWith yL_sector cL_sector 5 (some .int) [(0, 9, 12, 23)] :: wsW_a
abbrev wsH_block : List Cond := .codeWith yL_block cL_block 6 (some .int) [(0, 11, 14, 13)] :: wsW_a
def kp_Mj (l : Launch) (y : MethodName) (wsY : List Cond) (rm : Room) (D : va_G) (cl : List vw_C) (av : List Value) (wc : va_W) (tys : List (ClassId × FieldType)) (sz : Nat) (X : (Nat → Prop) → State → Prop) (mc ms : Nat) {S : Type} (post : Int32 → S → Prop) (w1 : S → va_W) : Prop :=
  Met l y wsY rm (va_Pc av (kp_P D cl wc tys sz X)) (va_Qi post (kp_B D cl w1 (va_A wc sz)) (va_A wc sz)) mc ms (va_A wc sz)
theorem kp_ofw {l : Launch} {y : MethodName} {wsY ws' : List Cond} {rm : Room} {D : va_G} {cl : List vw_C} {av : List Value} {wc : va_W} {tys : List (ClassId × FieldType)} {sz : Nat} {X : (Nat → Prop) → State → Prop} {mc ms : Nat} {S : Type} {post : Int32 → S → Prop} {w1 : S → va_W} {cc : ByteArray} {maxL : Nat} {ret : Option FieldType} {hh : List (Nat × Nat × Nat × Nat)} (hy : plainName y.cls = true) (hw : wsY = Cond.codeWith y cc maxL ret hh :: ws') (hn : (lg_sl av).length ≤ maxL)
    (body : ∀ (p : Program) (e : Env) (s : State) (m : MethodId) (args : Array Value) (below : List Frame) (meth : Method) (c : Code) (ls : Array Slot) (A : Nat → Prop), p.tables.exec = Jvm.exec → c.code = cc → meth.sig.returnType = ret → (∀ w ∈ wsY, w.before args s = true) → s.vm.findClass y.cls = some m.cls → meth.locks = false → c.maxLocals = maxL → c.exceptionTable.toList = tableOf hh → (∀ q, s.heap.size ≤ q → A q) → lv_has ls maxL (lv_args 0 av) → va_P D cl wc s.heap → va_D A wc → va_K D cl tys s → X A s → va_S A s.heap s.heap [] →
      W p l e rm s m args below meth c s.heap [] 0 0 (MQ below (va_Qi post (kp_B D cl w1 A) A) args s mc ms A) (F0 m 0 ls [])) : kp_Mj l y wsY rm D cl av wc tys sz X mc ms post w1 := by
  refine va_MetW (cc := cc) (maxL := maxL) (ret := ret) (hh := hh) hy hw ?_
  intro p e s m args below meth c s₁ B hml hv
  obtain ⟨rfl, hsz, hP, hK, hD0, hX⟩ := hv
  have hA : ∀ q, s.heap.size ≤ q → va_A wc sz q := fun q h => by rw [← hsz]; exact Or.inr h
  have hts := atoms_spec (ws := wsY) B.pre
  have htab : c.exceptionTable.toList = tableOf hh := vx_table (x := y) B (hts _ (by rw [hw]; exact List.mem_cons_self))
  have hl := lv_entry av (n := maxL) hn
  rw [lg_entry_eq]
  exact body p e s m _ below meth c _ (va_A wc sz) B.exec B.bytes B.returns hts (findClass_of_methodNamed B.named) B.notSynchronized hml htab hA hl hP (hD0.self (sz := sz)) hK hX va_S.rf
set_option maxRecDepth 100000 in
set_option maxHeartbeats 4000000 in
theorem h_put_t (l : Launch) (dC : Nat → ClassId) (dI : Nat → Nat → Nat) (cI cL : ClassId) (ad : Nat → Nat) (sz : Nat) (f t : Nat → Int64) (sD sT : Nat → Int32) (qo : Nat) (g : Nat → Int64) (i : Nat) (hi : i < 16) (v : Int64) : kp_Mj l yL_put wsH_put { frames := 1, cells := 0, slots := 0, locals := 25 } (dC, dI) mCl [.ref (ad 6), .int (nI i), .long v, .ref qo] [((ad 6), .inr (1, [.ref (ad 0), .ref (ad 1), .ref (ad 2), .ref (ad 4)])), ((ad 0), .inl (cL, 16, .inr (.inl (f)))), ((ad 1), .inl (cL, 2, .inr (.inl (t)))), ((ad 2), .inr (0, [.ref (ad 3)])), ((ad 3), .inl (cI, 44, .inl (sD))), ((ad 4), .inr (0, [.ref (ad 5)])), ((ad 5), .inl (cI, 44, .inl (sT))), (qo, .inl (cL, 1, .inr (.inl (g))))] [(cI, .int), (cL, .long)] sz kp_T 0 0 (fun (r : Int32) (_ : Unit) => r = nI 0) (fun _ => [((ad 6), .inr (1, [.ref (ad 0), .ref (ad 1), .ref (ad 2), .ref (ad 4)])), ((ad 0), .inl (cL, 16, .inr (.inl (vp_updL f i v)))), ((ad 1), .inl (cL, 2, .inr (.inl (t)))), ((ad 2), .inr (0, [.ref (ad 3)])), ((ad 3), .inl (cI, 44, .inl (sD))), ((ad 4), .inr (0, [.ref (ad 5)])), ((ad 5), .inl (cI, 44, .inl (sT))), (qo, .inl (cL, 1, .inr (.inl (vp_updL g 0 (f i)))))]) := by
  refine kp_ofw (cc := cL_put) (maxL := 6) (ret := some .int) (hh := [(0, 10, 13, 13)]) (by decide) rfl (Nat.le_of_ble_eq_true rfl) ?_
  intro p e s m args below meth c ls A hx hb hr hts hown hlocks hml htab hA hl hP hD hK hX hS
  have hown : s.vm.findClass RL = some m.cls := hown
  have htA : ∀ w ∈ wsW_a, w.before args s = true := fun w h => hts w (List.mem_cons_of_mem _ h)
  have hl : lv_has ls 6 [(0, .ref (ad 6)), (1, .int (nI (i))), (2, .long (v)), (4, .ref qo)] := hl
  refine lv_aload hx hb dL_put_0 (lv_at hl 3 rfl) ?_
  refine lv_iconst (v := nI 0) hx hb dL_put_2 (by decide) ?_
  refine lv_aload_n hx hb dL_put_3 rfl (lv_at hl 0 rfl) ?_
  refine lv_iload_n hx hb dL_put_4 rfl (lv_at hl 1 rfl) ?_
  refine lv_lload_n hx hb dL_put_5 rfl (lv_at hl 2 rfl) ?_
  refine kp_calll (wr := [(qo, .inl (cL, 1, .inr (.inl (g))))]) (nw := fun _u => [((ad 6), .inr (1, [.ref (ad 0), .ref (ad 1), .ref (ad 2), .ref (ad 4)])), ((ad 0), .inl (cL, 16, .inr (.inl (vp_updL f i v)))), ((ad 1), .inl (cL, 2, .inr (.inl (t)))), ((ad 2), .inr (0, [.ref (ad 3)])), ((ad 3), .inl (cI, 44, .inl (sD))), ((ad 4), .inr (0, [.ref (ad 5)])), ((ad 5), .inl (cI, 44, .inl (sT))), (qo, .inl (cL, 1, .inr (.inl (g))))]) (va_runV (As := [.int (nI (i)), .long (v)]) (rest := [.int (nI (0)), .ref qo]) ⟨hx, hb, hml, hown, htA⟩ (c_X1_put l dC dI cI cL ad _ f t sD sT i hi v) (cwV 2 htA (goodW_V mW_l7 mS_instanceMethod_put mS_selects_put mS_code_put) rfl rfl rfl (by decide +kernel) ⟨Nat.le_of_ble_eq_true rfl, Nat.le_of_ble_eq_true rfl⟩) (kp_preV (wc := [((ad 6), .inr (1, [.ref (ad 0), .ref (ad 1), .ref (ad 2), .ref (ad 4)])), ((ad 0), .inl (cL, 16, .inr (.inl (f)))), ((ad 1), .inl (cL, 2, .inr (.inl (t)))), ((ad 2), .inr (0, [.ref (ad 3)])), ((ad 3), .inl (cI, 44, .inl (sD))), ((ad 4), .inr (0, [.ref (ad 5)])), ((ad 5), .inl (cI, 44, .inl (sT)))]) kp_XT trivial hP hD hK hS hA [0, 1, 2, 3, 4, 5, 6] rfl rfl rfl [0, 1] rfl (q0 := 0) rfl rfl) rfl rfl hl.1 rfl (lv_room (Nat.le_of_ble_eq_true rfl)) dL_put_6 ⟨Nat.le_of_ble_eq_true rfl, Nat.le_of_ble_eq_true rfl⟩) hP hD hS hA [0, 1, 2, 3, 4, 5, 6] [7] rfl rfl rfl (by decide) [1, 2, 3, 4, 5, 6, 7, 0] rfl (fun _ => rfl) (fun _ => rfl) (fun r _u H locs hu hP hD hS => ?_)
  subst hu
  refine xa_lst hx hb hK hP hD hS 7 1 rfl rfl (by omega) (by omega) dL_put_9 (fun H locs hP hD hS => ?_)
  have hP : va_P (dC, dI) mCl [((ad 6), .inr (1, [.ref (ad 0), .ref (ad 1), .ref (ad 2), .ref (ad 4)])), ((ad 0), .inl (cL, 16, .inr (.inl (vp_updL f i v)))), ((ad 1), .inl (cL, 2, .inr (.inl (t)))), ((ad 2), .inr (0, [.ref (ad 3)])), ((ad 3), .inl (cI, 44, .inl (sD))), ((ad 4), .inr (0, [.ref (ad 5)])), ((ad 5), .inl (cI, 44, .inl (sT))), (qo, .inl (cL, 1, .inr (.inl (vp_updL (g) (0) (f i)))))] H := hP
  have hD : va_D A [((ad 6), .inr (1, [.ref (ad 0), .ref (ad 1), .ref (ad 2), .ref (ad 4)])), ((ad 0), .inl (cL, 16, .inr (.inl (vp_updL f i v)))), ((ad 1), .inl (cL, 2, .inr (.inl (t)))), ((ad 2), .inr (0, [.ref (ad 3)])), ((ad 3), .inl (cI, 44, .inl (sD))), ((ad 4), .inr (0, [.ref (ad 5)])), ((ad 5), .inl (cI, 44, .inl (sT))), (qo, .inl (cL, 1, .inr (.inl (vp_updL (g) (0) (f i)))))] := hD
  refine lv_goto (tgt := 17) hx hb dL_put_10 (by decide) ?_
  refine lv_iconst (v := nI 0) hx hb dL_put_17 (by decide) ?_
  exact kp_reti () hx hb hr rfl hlocks rfl hP hD hS dL_put_18
set_option maxRecDepth 100000 in
set_option maxHeartbeats 4000000 in
theorem h_put_f (l : Launch) (hlt : l.stackTraces = false) (dC : Nat → ClassId) (dI : Nat → Nat → Nat) (cI cL : ClassId) (ad : Nat → Nat) (sz : Nat) (f t : Nat → Int64) (sD sT : Nat → Int32) (qo : Nat) (g : Nat → Int64) (sa : Nat) (i : Int32) (hi : i < 0 ∨ nI 16 ≤ i) (v : Int64) : kp_Mj l yL_put wsH_put { frames := 7, cells := 1, slots := 6, locals := 107 } (dC, dI) mCl [.ref (ad 6), .int i, .long v, .ref qo] [((ad 6), .inr (1, [.ref (ad 0), .ref (ad 1), .ref (ad 2), .ref (ad 4)])), ((ad 0), .inl (cL, 16, .inr (.inl (f)))), ((ad 1), .inl (cL, 2, .inr (.inl (t)))), ((ad 2), .inr (0, [.ref (ad 3)])), ((ad 3), .inl (cI, 44, .inl (sD))), ((ad 4), .inr (0, [.ref (ad 5)])), ((ad 5), .inl (cI, 44, .inl (sT))), (qo, .inl (cL, 1, .inr (.inl (g))))] [(cI, .int), (cL, .long)] sz (tw_X 32 "a long's index is 0 to 15" "java/lang/IndexOutOfBoundsException" sa) 1 6 (fun (r : Int32) (_ : Unit) => r = nI 1) (fun _ => [((ad 6), .inr (1, [.ref (ad 0), .ref (ad 1), .ref (ad 2), .ref (ad 4)])), ((ad 0), .inl (cL, 16, .inr (.inl (f)))), ((ad 1), .inl (cL, 2, .inr (.inl (t)))), ((ad 2), .inr (0, [.ref (ad 3)])), ((ad 3), .inl (cI, 44, .inl (sD))), ((ad 4), .inr (0, [.ref (ad 5)])), ((ad 5), .inl (cI, 44, .inl (sT))), (qo, .inl (cL, 1, .inr (.inl (g))))]) := by
  refine kp_ofw (cc := cL_put) (maxL := 6) (ret := some .int) (hh := [(0, 10, 13, 13)]) (by decide) rfl (Nat.le_of_ble_eq_true rfl) ?_
  intro p e s m args below meth c ls A hx hb hr hts hown hlocks hml htab hA hl hP hD hK hX hS
  have hown : s.vm.findClass RL = some m.cls := hown
  have htA : ∀ w ∈ wsW_a, w.before args s = true := fun w h => hts w (List.mem_cons_of_mem _ h)
  have hl : lv_has ls 6 [(0, .ref (ad 6)), (1, .int (i)), (2, .long (v)), (4, .ref qo)] := hl
  refine lv_aload hx hb dL_put_0 (lv_at hl 3 rfl) ?_
  refine lv_iconst (v := nI 0) hx hb dL_put_2 (by decide) ?_
  refine lv_aload_n hx hb dL_put_3 rfl (lv_at hl 0 rfl) ?_
  refine lv_iload_n hx hb dL_put_4 rfl (lv_at hl 1 rfl) ?_
  refine lv_lload_n hx hb dL_put_5 rfl (lv_at hl 2 rfl) ?_
  refine kp_callx (wr := [(qo, .inl (cL, 1, .inr (.inl (g))))]) (nw := [((ad 6), .inr (1, [.ref (ad 0), .ref (ad 1), .ref (ad 2), .ref (ad 4)])), ((ad 0), .inl (cL, 16, .inr (.inl (f)))), ((ad 1), .inl (cL, 2, .inr (.inl (t)))), ((ad 2), .inr (0, [.ref (ad 3)])), ((ad 3), .inl (cI, 44, .inl (sD))), ((ad 4), .inr (0, [.ref (ad 5)])), ((ad 5), .inl (cI, 44, .inl (sT))), (qo, .inl (cL, 1, .inr (.inl (g))))]) (vx_runV (As := [.int (i), .long (v)]) (rest := [.int (nI (0)), .ref qo]) ⟨hx, hb, hml, hown, htA⟩ (t_X1_put l hlt dC dI cI cL ad _ f t sD sT sa i hi v) (cwV 2 htA (goodW_V mW_l7 mS_instanceMethod_put mS_selects_put mS_code_put) rfl rfl rfl (by decide +kernel) ⟨Nat.le_of_ble_eq_true rfl, Nat.le_of_ble_eq_true rfl⟩) (kp_preV (wc := [((ad 6), .inr (1, [.ref (ad 0), .ref (ad 1), .ref (ad 2), .ref (ad 4)])), ((ad 0), .inl (cL, 16, .inr (.inl (f)))), ((ad 1), .inl (cL, 2, .inr (.inl (t)))), ((ad 2), .inr (0, [.ref (ad 3)])), ((ad 3), .inl (cI, 44, .inl (sD))), ((ad 4), .inr (0, [.ref (ad 5)])), ((ad 5), .inl (cI, 44, .inl (sT)))]) (tw_kp _ _ _ _) hX hP hD hK hS hA [0, 1, 2, 3, 4, 5, 6] rfl rfl rfl [0, 1] rfl (q0 := 0) rfl rfl) rfl rfl hl.1 rfl (lv_room (Nat.le_of_ble_eq_true rfl)) dL_put_6 ⟨Nat.le_of_ble_eq_true rfl, Nat.le_of_ble_eq_true rfl⟩) hP hD hS hA [0, 1, 2, 3, 4, 5, 6] [7] rfl rfl rfl (by decide) [1, 2, 3, 4, 5, 6, 7, 0] rfl rfl rfl (fun ce q9 H locs hP hD hS hce hcv hcl => ?_)
  refine vx_catch hown [] ⟨0, 10, 13, 13⟩ [] (by rw [htab]; rfl) (fun z hz => by cases hz) (by decide) (by decide) (htA _ mW_c13) (va_Nw.use rfl hX.2.2.2.1) hce hcv hcl ?_
  refine lv_astore (nL := 6) (lv' := [(5, .ref q9), (0, .ref (ad 6)), (1, .int (i)), (2, .long (v)), (4, .ref qo)]) hx hb dL_put_13 hl (by decide) rfl (fun ls hl => ?_)
  refine lv_iconst (v := nI 1) hx hb dL_put_15 (by decide) ?_
  exact kp_reti () hx hb hr rfl hlocks rfl hP hD hS dL_put_16
set_option maxRecDepth 100000 in
set_option maxHeartbeats 4000000 in
theorem h_get_t (l : Launch) (dC : Nat → ClassId) (dI : Nat → Nat → Nat) (cI cL : ClassId) (ad : Nat → Nat) (sz : Nat) (f t : Nat → Int64) (sD sT : Nat → Int32) (qo : Nat) (g : Nat → Int64) (i : Nat) (hi : i < 16) : kp_Mj l yL_get wsH_get { frames := 1, cells := 0, slots := 0, locals := 21 } (dC, dI) mCl [.ref (ad 6), .int (nI i), .ref qo] [((ad 6), .inr (1, [.ref (ad 0), .ref (ad 1), .ref (ad 2), .ref (ad 4)])), ((ad 0), .inl (cL, 16, .inr (.inl (f)))), ((ad 1), .inl (cL, 2, .inr (.inl (t)))), ((ad 2), .inr (0, [.ref (ad 3)])), ((ad 3), .inl (cI, 44, .inl (sD))), ((ad 4), .inr (0, [.ref (ad 5)])), ((ad 5), .inl (cI, 44, .inl (sT))), (qo, .inl (cL, 1, .inr (.inl (g))))] [(cI, .int), (cL, .long)] sz kp_T 0 0 (fun (r : Int32) (_ : Unit) => r = nI 0) (fun _ => [((ad 6), .inr (1, [.ref (ad 0), .ref (ad 1), .ref (ad 2), .ref (ad 4)])), ((ad 0), .inl (cL, 16, .inr (.inl (f)))), ((ad 1), .inl (cL, 2, .inr (.inl (t)))), ((ad 2), .inr (0, [.ref (ad 3)])), ((ad 3), .inl (cI, 44, .inl (sD))), ((ad 4), .inr (0, [.ref (ad 5)])), ((ad 5), .inl (cI, 44, .inl (sT))), (qo, .inl (cL, 1, .inr (.inl (vp_updL g 0 (f i)))))]) := by
  refine kp_ofw (cc := cL_get) (maxL := 4) (ret := some .int) (hh := [(0, 8, 11, 13)]) (by decide) rfl (Nat.le_of_ble_eq_true rfl) ?_
  intro p e s m args below meth c ls A hx hb hr hts hown hlocks hml htab hA hl hP hD hK hX hS
  have hown : s.vm.findClass RL = some m.cls := hown
  have htA : ∀ w ∈ wsW_a, w.before args s = true := fun w h => hts w (List.mem_cons_of_mem _ h)
  have hl : lv_has ls 4 [(0, .ref (ad 6)), (1, .int (nI (i))), (2, .ref qo)] := hl
  refine lv_aload_n hx hb dL_get_0 rfl (lv_at hl 2 rfl) ?_
  refine lv_iconst (v := nI 0) hx hb dL_get_1 (by decide) ?_
  refine lv_aload_n hx hb dL_get_2 rfl (lv_at hl 0 rfl) ?_
  refine lv_iload_n hx hb dL_get_3 rfl (lv_at hl 1 rfl) ?_
  refine kp_calll (wr := [(qo, .inl (cL, 1, .inr (.inl (g))))]) (nw := fun _u => [((ad 6), .inr (1, [.ref (ad 0), .ref (ad 1), .ref (ad 2), .ref (ad 4)])), ((ad 0), .inl (cL, 16, .inr (.inl (f)))), ((ad 1), .inl (cL, 2, .inr (.inl (t)))), ((ad 2), .inr (0, [.ref (ad 3)])), ((ad 3), .inl (cI, 44, .inl (sD))), ((ad 4), .inr (0, [.ref (ad 5)])), ((ad 5), .inl (cI, 44, .inl (sT))), (qo, .inl (cL, 1, .inr (.inl (g))))]) (va_runV (As := [.int (nI (i))]) (rest := [.int (nI (0)), .ref qo]) ⟨hx, hb, hml, hown, htA⟩ (c_X1_get l dC dI cI cL ad _ f t sD sT i hi) (cwV 1 htA (goodW_V mW_l15 mS_instanceMethod_get mS_selects_get mS_code_get) rfl rfl rfl (by decide +kernel) ⟨Nat.le_of_ble_eq_true rfl, Nat.le_of_ble_eq_true rfl⟩) (kp_preV (wc := [((ad 6), .inr (1, [.ref (ad 0), .ref (ad 1), .ref (ad 2), .ref (ad 4)])), ((ad 0), .inl (cL, 16, .inr (.inl (f)))), ((ad 1), .inl (cL, 2, .inr (.inl (t)))), ((ad 2), .inr (0, [.ref (ad 3)])), ((ad 3), .inl (cI, 44, .inl (sD))), ((ad 4), .inr (0, [.ref (ad 5)])), ((ad 5), .inl (cI, 44, .inl (sT)))]) kp_XT trivial hP hD hK hS hA [0, 1, 2, 3, 4, 5, 6] rfl rfl rfl [0, 1] rfl (q0 := 0) rfl rfl) rfl rfl hl.1 rfl (lv_room (Nat.le_of_ble_eq_true rfl)) dL_get_4 ⟨Nat.le_of_ble_eq_true rfl, Nat.le_of_ble_eq_true rfl⟩) hP hD hS hA [0, 1, 2, 3, 4, 5, 6] [7] rfl rfl rfl (by decide) [1, 2, 3, 4, 5, 6, 7, 0] rfl (fun _ => rfl) (fun _ => rfl) (fun r _u H locs hu hP hD hS => ?_)
  subst hu
  refine xa_lst hx hb hK hP hD hS 7 1 rfl rfl (by omega) (by omega) dL_get_7 (fun H locs hP hD hS => ?_)
  have hP : va_P (dC, dI) mCl [((ad 6), .inr (1, [.ref (ad 0), .ref (ad 1), .ref (ad 2), .ref (ad 4)])), ((ad 0), .inl (cL, 16, .inr (.inl (f)))), ((ad 1), .inl (cL, 2, .inr (.inl (t)))), ((ad 2), .inr (0, [.ref (ad 3)])), ((ad 3), .inl (cI, 44, .inl (sD))), ((ad 4), .inr (0, [.ref (ad 5)])), ((ad 5), .inl (cI, 44, .inl (sT))), (qo, .inl (cL, 1, .inr (.inl (vp_updL (g) (0) (f i)))))] H := hP
  have hD : va_D A [((ad 6), .inr (1, [.ref (ad 0), .ref (ad 1), .ref (ad 2), .ref (ad 4)])), ((ad 0), .inl (cL, 16, .inr (.inl (f)))), ((ad 1), .inl (cL, 2, .inr (.inl (t)))), ((ad 2), .inr (0, [.ref (ad 3)])), ((ad 3), .inl (cI, 44, .inl (sD))), ((ad 4), .inr (0, [.ref (ad 5)])), ((ad 5), .inl (cI, 44, .inl (sT))), (qo, .inl (cL, 1, .inr (.inl (vp_updL (g) (0) (f i)))))] := hD
  refine lv_goto (tgt := 14) hx hb dL_get_8 (by decide) ?_
  refine lv_iconst (v := nI 0) hx hb dL_get_14 (by decide) ?_
  exact kp_reti () hx hb hr rfl hlocks rfl hP hD hS dL_get_15
set_option maxRecDepth 100000 in
set_option maxHeartbeats 4000000 in
theorem h_get_f (l : Launch) (hlt : l.stackTraces = false) (dC : Nat → ClassId) (dI : Nat → Nat → Nat) (cI cL : ClassId) (ad : Nat → Nat) (sz : Nat) (f t : Nat → Int64) (sD sT : Nat → Int32) (qo : Nat) (g : Nat → Int64) (sa : Nat) (i : Int32) (hi : i < 0 ∨ nI 16 ≤ i) : kp_Mj l yL_get wsH_get { frames := 7, cells := 1, slots := 6, locals := 103 } (dC, dI) mCl [.ref (ad 6), .int i, .ref qo] [((ad 6), .inr (1, [.ref (ad 0), .ref (ad 1), .ref (ad 2), .ref (ad 4)])), ((ad 0), .inl (cL, 16, .inr (.inl (f)))), ((ad 1), .inl (cL, 2, .inr (.inl (t)))), ((ad 2), .inr (0, [.ref (ad 3)])), ((ad 3), .inl (cI, 44, .inl (sD))), ((ad 4), .inr (0, [.ref (ad 5)])), ((ad 5), .inl (cI, 44, .inl (sT))), (qo, .inl (cL, 1, .inr (.inl (g))))] [(cI, .int), (cL, .long)] sz (tw_X 32 "a long's index is 0 to 15" "java/lang/IndexOutOfBoundsException" sa) 1 6 (fun (r : Int32) (_ : Unit) => r = nI 1) (fun _ => [((ad 6), .inr (1, [.ref (ad 0), .ref (ad 1), .ref (ad 2), .ref (ad 4)])), ((ad 0), .inl (cL, 16, .inr (.inl (f)))), ((ad 1), .inl (cL, 2, .inr (.inl (t)))), ((ad 2), .inr (0, [.ref (ad 3)])), ((ad 3), .inl (cI, 44, .inl (sD))), ((ad 4), .inr (0, [.ref (ad 5)])), ((ad 5), .inl (cI, 44, .inl (sT))), (qo, .inl (cL, 1, .inr (.inl (g))))]) := by
  refine kp_ofw (cc := cL_get) (maxL := 4) (ret := some .int) (hh := [(0, 8, 11, 13)]) (by decide) rfl (Nat.le_of_ble_eq_true rfl) ?_
  intro p e s m args below meth c ls A hx hb hr hts hown hlocks hml htab hA hl hP hD hK hX hS
  have hown : s.vm.findClass RL = some m.cls := hown
  have htA : ∀ w ∈ wsW_a, w.before args s = true := fun w h => hts w (List.mem_cons_of_mem _ h)
  have hl : lv_has ls 4 [(0, .ref (ad 6)), (1, .int (i)), (2, .ref qo)] := hl
  refine lv_aload_n hx hb dL_get_0 rfl (lv_at hl 2 rfl) ?_
  refine lv_iconst (v := nI 0) hx hb dL_get_1 (by decide) ?_
  refine lv_aload_n hx hb dL_get_2 rfl (lv_at hl 0 rfl) ?_
  refine lv_iload_n hx hb dL_get_3 rfl (lv_at hl 1 rfl) ?_
  refine kp_callx (wr := [(qo, .inl (cL, 1, .inr (.inl (g))))]) (nw := [((ad 6), .inr (1, [.ref (ad 0), .ref (ad 1), .ref (ad 2), .ref (ad 4)])), ((ad 0), .inl (cL, 16, .inr (.inl (f)))), ((ad 1), .inl (cL, 2, .inr (.inl (t)))), ((ad 2), .inr (0, [.ref (ad 3)])), ((ad 3), .inl (cI, 44, .inl (sD))), ((ad 4), .inr (0, [.ref (ad 5)])), ((ad 5), .inl (cI, 44, .inl (sT))), (qo, .inl (cL, 1, .inr (.inl (g))))]) (vx_runV (As := [.int (i)]) (rest := [.int (nI (0)), .ref qo]) ⟨hx, hb, hml, hown, htA⟩ (t_X1_get l hlt dC dI cI cL ad _ f t sD sT sa i hi) (cwV 1 htA (goodW_V mW_l15 mS_instanceMethod_get mS_selects_get mS_code_get) rfl rfl rfl (by decide +kernel) ⟨Nat.le_of_ble_eq_true rfl, Nat.le_of_ble_eq_true rfl⟩) (kp_preV (wc := [((ad 6), .inr (1, [.ref (ad 0), .ref (ad 1), .ref (ad 2), .ref (ad 4)])), ((ad 0), .inl (cL, 16, .inr (.inl (f)))), ((ad 1), .inl (cL, 2, .inr (.inl (t)))), ((ad 2), .inr (0, [.ref (ad 3)])), ((ad 3), .inl (cI, 44, .inl (sD))), ((ad 4), .inr (0, [.ref (ad 5)])), ((ad 5), .inl (cI, 44, .inl (sT)))]) (tw_kp _ _ _ _) hX hP hD hK hS hA [0, 1, 2, 3, 4, 5, 6] rfl rfl rfl [0, 1] rfl (q0 := 0) rfl rfl) rfl rfl hl.1 rfl (lv_room (Nat.le_of_ble_eq_true rfl)) dL_get_4 ⟨Nat.le_of_ble_eq_true rfl, Nat.le_of_ble_eq_true rfl⟩) hP hD hS hA [0, 1, 2, 3, 4, 5, 6] [7] rfl rfl rfl (by decide) [1, 2, 3, 4, 5, 6, 7, 0] rfl rfl rfl (fun ce q9 H locs hP hD hS hce hcv hcl => ?_)
  refine vx_catch hown [] ⟨0, 8, 11, 13⟩ [] (by rw [htab]; rfl) (fun z hz => by cases hz) (by decide) (by decide) (htA _ mW_c13) (va_Nw.use rfl hX.2.2.2.1) hce hcv hcl ?_
  refine lv_astore_n (nL := 4) (lv' := [(3, .ref q9), (0, .ref (ad 6)), (1, .int (i)), (2, .ref qo)]) hx hb dL_get_11 rfl hl (by decide) rfl (fun ls hl => ?_)
  refine lv_iconst (v := nI 1) hx hb dL_get_12 (by decide) ?_
  exact kp_reti () hx hb hr rfl hlocks rfl hP hD hS dL_get_13
set_option maxRecDepth 100000 in
set_option maxHeartbeats 4000000 in
theorem h_sector_t (l : Launch) (dC : Nat → ClassId) (dI : Nat → Nat → Nat) (cI cL : ClassId) (ad : Nat → Nat) (sz tS tI : Nat) (f t : Nat → Int64) (sD sT : Nat → Int32) (qo : Nat) (g : Nat → Int64) (X0 X1 : Nat → Nat) (hX0 : ae_B X0) (hX1 : ae_B X1) (hsD : ∀ i, i < 44 → sD i = ae_wf X0 (4 * i)) (hsT : ∀ i, i < 44 → sT i = ae_wf X1 (4 * i)) (SEC : Nat → Nat) (hBS : ae_B SEC) (hL : ∀ i, i < 16 → f i = ae_l SEC (8 * i)) (sn : Nat) (hsn : sn < 2147483648) (sl : Int32) : kp_Mj l yL_sector wsH_sector { frames := 5, cells := 0, slots := 0, locals := 120 } (dC, dI) mCl [.ref (ad 6), .int (nI sn), .int sl, .ref qo] [((ad 6), .inr (1, [.ref (ad 0), .ref (ad 1), .ref (ad 2), .ref (ad 4)])), ((ad 0), .inl (cL, 16, .inr (.inl (f)))), ((ad 1), .inl (cL, 2, .inr (.inl (t)))), ((ad 2), .inr (0, [.ref (ad 3)])), ((ad 3), .inl (cI, 44, .inl (sD))), ((ad 4), .inr (0, [.ref (ad 5)])), ((ad 5), .inl (cI, 44, .inl (sT))), (qo, .inl (cL, 1, .inr (.inl (g))))] [(cI, .int), (cL, .long)] sz (st_X tS tI) 0 0 (fun (r : Int32) (u : (Nat → Int64) × (Nat → Int64)) => r = nI 0 ∧ ∀ j, j < 16 → u.1 j = ae_l (ae_sj (if sl = 0 then ae_dec X0 else ae_enc X0) (ae_enc X1 (ae_sn sn)) SEC 8) (8 * j)) (fun u => [((ad 6), .inr (1, [.ref (ad 0), .ref (ad 1), .ref (ad 2), .ref (ad 4)])), ((ad 0), .inl (cL, 16, .inr (.inl (u.1)))), ((ad 1), .inl (cL, 2, .inr (.inl (u.2)))), ((ad 2), .inr (0, [.ref (ad 3)])), ((ad 3), .inl (cI, 44, .inl (sD))), ((ad 4), .inr (0, [.ref (ad 5)])), ((ad 5), .inl (cI, 44, .inl (sT))), (qo, .inl (cL, 1, .inr (.inl (vp_updL g 0 (ae_l (ae_sj (if sl = 0 then ae_dec X0 else ae_enc X0) (ae_enc X1 (ae_sn sn)) SEC 8) 0)))))]) := by
  refine kp_ofw (cc := cL_sector) (maxL := 5) (ret := some .int) (hh := [(0, 9, 12, 23)]) (by decide) rfl (Nat.le_of_ble_eq_true rfl) ?_
  intro p e s m args below meth c ls A hx hb hr hts hown hlocks hml htab hA hl hP hD hK hX hS
  have hown : s.vm.findClass RL = some m.cls := hown
  have htA : ∀ w ∈ wsW_a, w.before args s = true := fun w h => hts w (List.mem_cons_of_mem _ h)
  have hl : lv_has ls 5 [(0, .ref (ad 6)), (1, .int (nI (sn))), (2, .int (sl)), (3, .ref qo)] := hl
  refine lv_aload_n hx hb dL_sector_0 rfl (lv_at hl 3 rfl) ?_
  refine lv_iconst (v := nI 0) hx hb dL_sector_1 (by decide) ?_
  refine lv_aload_n hx hb dL_sector_2 rfl (lv_at hl 0 rfl) ?_
  refine lv_iload_n hx hb dL_sector_3 rfl (lv_at hl 1 rfl) ?_
  refine lv_iload_n hx hb dL_sector_4 rfl (lv_at hl 2 rfl) ?_
  refine kp_calll (wr := [(qo, .inl (cL, 1, .inr (.inl (g))))]) (nw := fun u => [((ad 6), .inr (1, [.ref (ad 0), .ref (ad 1), .ref (ad 2), .ref (ad 4)])), ((ad 0), .inl (cL, 16, .inr (.inl (u.1)))), ((ad 1), .inl (cL, 2, .inr (.inl (u.2)))), ((ad 2), .inr (0, [.ref (ad 3)])), ((ad 3), .inl (cI, 44, .inl (sD))), ((ad 4), .inr (0, [.ref (ad 5)])), ((ad 5), .inl (cI, 44, .inl (sT))), (qo, .inl (cL, 1, .inr (.inl (g))))]) (va_runV (As := [.int (nI (sn)), .int (sl)]) (rest := [.int (nI (0)), .ref qo]) ⟨hx, hb, hml, hown, htA⟩ (c_X1_sector l dC dI cI cL ad _ tS tI f t sD sT X0 X1 hX0 hX1 hsD hsT SEC hBS hL sn hsn sl) (cwV 2 htA (goodW_V mW_l19 mS_instanceMethod_sector mS_selects_sector mS_code_sector) rfl rfl rfl (by decide +kernel) ⟨Nat.le_of_ble_eq_true rfl, Nat.le_of_ble_eq_true rfl⟩) (kp_preV (wc := [((ad 6), .inr (1, [.ref (ad 0), .ref (ad 1), .ref (ad 2), .ref (ad 4)])), ((ad 0), .inl (cL, 16, .inr (.inl (f)))), ((ad 1), .inl (cL, 2, .inr (.inl (t)))), ((ad 2), .inr (0, [.ref (ad 3)])), ((ad 3), .inl (cI, 44, .inl (sD))), ((ad 4), .inr (0, [.ref (ad 5)])), ((ad 5), .inl (cI, 44, .inl (sT)))]) (stX_kp tS tI) hX hP hD hK hS hA [0, 1, 2, 3, 4, 5, 6] rfl rfl rfl [0, 1] rfl (q0 := 0) rfl rfl) rfl rfl hl.1 rfl (lv_room (Nat.le_of_ble_eq_true rfl)) dL_sector_5 ⟨Nat.le_of_ble_eq_true rfl, Nat.le_of_ble_eq_true rfl⟩) hP hD hS hA [0, 1, 2, 3, 4, 5, 6] [7] rfl rfl rfl (by decide) [1, 2, 3, 4, 5, 6, 7, 0] rfl (fun _ => rfl) (fun _ => rfl) (fun r u H locs hu hP hD hS => ?_)
  obtain ⟨hu1, hu2⟩ := hu
  subst hu1
  refine xa_lst hx hb hK hP hD hS 7 1 rfl rfl (by omega) (by omega) dL_sector_8 (fun H locs hP hD hS => ?_)
  have hP : va_P (dC, dI) mCl [((ad 6), .inr (1, [.ref (ad 0), .ref (ad 1), .ref (ad 2), .ref (ad 4)])), ((ad 0), .inl (cL, 16, .inr (.inl (u.1)))), ((ad 1), .inl (cL, 2, .inr (.inl (u.2)))), ((ad 2), .inr (0, [.ref (ad 3)])), ((ad 3), .inl (cI, 44, .inl (sD))), ((ad 4), .inr (0, [.ref (ad 5)])), ((ad 5), .inl (cI, 44, .inl (sT))), (qo, .inl (cL, 1, .inr (.inl (vp_updL (g) (0) (ae_l (ae_sj (if sl = 0 then ae_dec X0 else ae_enc X0) (ae_enc X1 (ae_sn sn)) SEC 8) 0)))))] H := hP
  have hD : va_D A [((ad 6), .inr (1, [.ref (ad 0), .ref (ad 1), .ref (ad 2), .ref (ad 4)])), ((ad 0), .inl (cL, 16, .inr (.inl (u.1)))), ((ad 1), .inl (cL, 2, .inr (.inl (u.2)))), ((ad 2), .inr (0, [.ref (ad 3)])), ((ad 3), .inl (cI, 44, .inl (sD))), ((ad 4), .inr (0, [.ref (ad 5)])), ((ad 5), .inl (cI, 44, .inl (sT))), (qo, .inl (cL, 1, .inr (.inl (vp_updL (g) (0) (ae_l (ae_sj (if sl = 0 then ae_dec X0 else ae_enc X0) (ae_enc X1 (ae_sn sn)) SEC 8) 0)))))] := hD
  refine lv_goto (tgt := 16) hx hb dL_sector_9 (by decide) ?_
  refine lv_iconst (v := nI 0) hx hb dL_sector_16 (by decide) ?_
  exact kp_reti u hx hb hr rfl hlocks ⟨rfl, hu2⟩ hP hD hS dL_sector_17
set_option maxRecDepth 100000 in
set_option maxHeartbeats 4000000 in
theorem h_sector_f (l : Launch) (hlt : l.stackTraces = false) (dC : Nat → ClassId) (dI : Nat → Nat → Nat) (cI cL : ClassId) (ad : Nat → Nat) (sz : Nat) (f t : Nat → Int64) (sD sT : Nat → Int32) (qo : Nat) (g : Nat → Int64) (sa : Nat) (i : Int32) (hi : i < 0) (sl : Int32) : kp_Mj l yL_sector wsH_sector { frames := 7, cells := 1, slots := 6, locals := 105 } (dC, dI) mCl [.ref (ad 6), .int i, .int sl, .ref qo] [((ad 6), .inr (1, [.ref (ad 0), .ref (ad 1), .ref (ad 2), .ref (ad 4)])), ((ad 0), .inl (cL, 16, .inr (.inl (f)))), ((ad 1), .inl (cL, 2, .inr (.inl (t)))), ((ad 2), .inr (0, [.ref (ad 3)])), ((ad 3), .inl (cI, 44, .inl (sD))), ((ad 4), .inr (0, [.ref (ad 5)])), ((ad 5), .inl (cI, 44, .inl (sT))), (qo, .inl (cL, 1, .inr (.inl (g))))] [(cI, .int), (cL, .long)] sz (tw_X 39 "a sector's number is not below 0" "java/lang/IllegalArgumentException" sa) 1 6 (fun (r : Int32) (_ : Unit) => r = nI 1) (fun _ => [((ad 6), .inr (1, [.ref (ad 0), .ref (ad 1), .ref (ad 2), .ref (ad 4)])), ((ad 0), .inl (cL, 16, .inr (.inl (f)))), ((ad 1), .inl (cL, 2, .inr (.inl (t)))), ((ad 2), .inr (0, [.ref (ad 3)])), ((ad 3), .inl (cI, 44, .inl (sD))), ((ad 4), .inr (0, [.ref (ad 5)])), ((ad 5), .inl (cI, 44, .inl (sT))), (qo, .inl (cL, 1, .inr (.inl (g))))]) := by
  refine kp_ofw (cc := cL_sector) (maxL := 5) (ret := some .int) (hh := [(0, 9, 12, 23)]) (by decide) rfl (Nat.le_of_ble_eq_true rfl) ?_
  intro p e s m args below meth c ls A hx hb hr hts hown hlocks hml htab hA hl hP hD hK hX hS
  have hown : s.vm.findClass RL = some m.cls := hown
  have htA : ∀ w ∈ wsW_a, w.before args s = true := fun w h => hts w (List.mem_cons_of_mem _ h)
  have hl : lv_has ls 5 [(0, .ref (ad 6)), (1, .int (i)), (2, .int (sl)), (3, .ref qo)] := hl
  refine lv_aload_n hx hb dL_sector_0 rfl (lv_at hl 3 rfl) ?_
  refine lv_iconst (v := nI 0) hx hb dL_sector_1 (by decide) ?_
  refine lv_aload_n hx hb dL_sector_2 rfl (lv_at hl 0 rfl) ?_
  refine lv_iload_n hx hb dL_sector_3 rfl (lv_at hl 1 rfl) ?_
  refine lv_iload_n hx hb dL_sector_4 rfl (lv_at hl 2 rfl) ?_
  refine kp_callx (wr := [(qo, .inl (cL, 1, .inr (.inl (g))))]) (nw := [((ad 6), .inr (1, [.ref (ad 0), .ref (ad 1), .ref (ad 2), .ref (ad 4)])), ((ad 0), .inl (cL, 16, .inr (.inl (f)))), ((ad 1), .inl (cL, 2, .inr (.inl (t)))), ((ad 2), .inr (0, [.ref (ad 3)])), ((ad 3), .inl (cI, 44, .inl (sD))), ((ad 4), .inr (0, [.ref (ad 5)])), ((ad 5), .inl (cI, 44, .inl (sT))), (qo, .inl (cL, 1, .inr (.inl (g))))]) (vx_runV (As := [.int (i), .int (sl)]) (rest := [.int (nI (0)), .ref qo]) ⟨hx, hb, hml, hown, htA⟩ (t_X1_sector l hlt dC dI cI cL ad _ f t sD sT sa i hi sl) (cwV 2 htA (goodW_V mW_l19 mS_instanceMethod_sector mS_selects_sector mS_code_sector) rfl rfl rfl (by decide +kernel) ⟨Nat.le_of_ble_eq_true rfl, Nat.le_of_ble_eq_true rfl⟩) (kp_preV (wc := [((ad 6), .inr (1, [.ref (ad 0), .ref (ad 1), .ref (ad 2), .ref (ad 4)])), ((ad 0), .inl (cL, 16, .inr (.inl (f)))), ((ad 1), .inl (cL, 2, .inr (.inl (t)))), ((ad 2), .inr (0, [.ref (ad 3)])), ((ad 3), .inl (cI, 44, .inl (sD))), ((ad 4), .inr (0, [.ref (ad 5)])), ((ad 5), .inl (cI, 44, .inl (sT)))]) (tw_kp _ _ _ _) hX hP hD hK hS hA [0, 1, 2, 3, 4, 5, 6] rfl rfl rfl [0, 1] rfl (q0 := 0) rfl rfl) rfl rfl hl.1 rfl (lv_room (Nat.le_of_ble_eq_true rfl)) dL_sector_5 ⟨Nat.le_of_ble_eq_true rfl, Nat.le_of_ble_eq_true rfl⟩) hP hD hS hA [0, 1, 2, 3, 4, 5, 6] [7] rfl rfl rfl (by decide) [1, 2, 3, 4, 5, 6, 7, 0] rfl rfl rfl (fun ce q9 H locs hP hD hS hce hcv hcl => ?_)
  refine vx_catch hown [] ⟨0, 9, 12, 23⟩ [] (by rw [htab]; rfl) (fun z hz => by cases hz) (by decide) (by decide) (htA _ mW_c23) (va_Nw.use rfl hX.2.2.2.1) hce hcv hcl ?_
  refine lv_astore (nL := 5) (lv' := [(4, .ref q9), (0, .ref (ad 6)), (1, .int (i)), (2, .int (sl)), (3, .ref qo)]) hx hb dL_sector_12 hl (by decide) rfl (fun ls hl => ?_)
  refine lv_iconst (v := nI 1) hx hb dL_sector_14 (by decide) ?_
  exact kp_reti () hx hb hr rfl hlocks rfl hP hD hS dL_sector_15
set_option maxRecDepth 100000 in
set_option maxHeartbeats 4000000 in
theorem h_block_t (l : Launch) (dC : Nat → ClassId) (dI : Nat → Nat → Nat) (cI cL : ClassId) (ad : Nat → Nat) (sz tS tI : Nat) (f t : Nat → Int64) (sD sT : Nat → Int32) (qo : Nat) (g : Nat → Int64) (X0 X1 : Nat → Nat) (hX0 : ae_B X0) (hX1 : ae_B X1) (hsD : ∀ i, i < 44 → sD i = ae_wf X0 (4 * i)) (hsT : ∀ i, i < 44 → sT i = ae_wf X1 (4 * i)) (SEC : Nat → Nat) (hBS : ae_B SEC) (hL : ∀ i, i < 16 → f i = ae_l SEC (8 * i)) (i : Nat) (hi : i < 8) (bd bs : Int32) : kp_Mj l yL_block wsH_block { frames := 5, cells := 0, slots := 0, locals := 122 } (dC, dI) mCl [.ref (ad 6), .int (nI i), .int bd, .int bs, .ref qo] [((ad 6), .inr (1, [.ref (ad 0), .ref (ad 1), .ref (ad 2), .ref (ad 4)])), ((ad 0), .inl (cL, 16, .inr (.inl (f)))), ((ad 1), .inl (cL, 2, .inr (.inl (t)))), ((ad 2), .inr (0, [.ref (ad 3)])), ((ad 3), .inl (cI, 44, .inl (sD))), ((ad 4), .inr (0, [.ref (ad 5)])), ((ad 5), .inl (cI, 44, .inl (sT))), (qo, .inl (cL, 1, .inr (.inl (g))))] [(cI, .int), (cL, .long)] sz (st_X tS tI) 0 0 (fun (r : Int32) (u : Nat → Int64) => r = nI 0 ∧ ∀ j, j < 16 → u j = ae_l (ae_pt SEC (16 * i) 16 ((if bd = 0 then ae_enc else ae_dec) (if bs = 0 then X0 else X1) (ae_at SEC (16 * i)))) (8 * j)) (fun u => [((ad 6), .inr (1, [.ref (ad 0), .ref (ad 1), .ref (ad 2), .ref (ad 4)])), ((ad 0), .inl (cL, 16, .inr (.inl (u)))), ((ad 1), .inl (cL, 2, .inr (.inl (t)))), ((ad 2), .inr (0, [.ref (ad 3)])), ((ad 3), .inl (cI, 44, .inl (sD))), ((ad 4), .inr (0, [.ref (ad 5)])), ((ad 5), .inl (cI, 44, .inl (sT))), (qo, .inl (cL, 1, .inr (.inl (vp_updL g 0 (ae_l (ae_pt SEC (16 * i) 16 ((if bd = 0 then ae_enc else ae_dec) (if bs = 0 then X0 else X1) (ae_at SEC (16 * i)))) (16 * i))))))]) := by
  refine kp_ofw (cc := cL_block) (maxL := 6) (ret := some .int) (hh := [(0, 11, 14, 13)]) (by decide) rfl (Nat.le_of_ble_eq_true rfl) ?_
  intro p e s m args below meth c ls A hx hb hr hts hown hlocks hml htab hA hl hP hD hK hX hS
  have hown : s.vm.findClass RL = some m.cls := hown
  have htA : ∀ w ∈ wsW_a, w.before args s = true := fun w h => hts w (List.mem_cons_of_mem _ h)
  have hl : lv_has ls 6 [(0, .ref (ad 6)), (1, .int (nI (i))), (2, .int (bd)), (3, .int (bs)), (4, .ref qo)] := hl
  refine lv_aload hx hb dL_block_0 (lv_at hl 4 rfl) ?_
  refine lv_iconst (v := nI 0) hx hb dL_block_2 (by decide) ?_
  refine lv_aload_n hx hb dL_block_3 rfl (lv_at hl 0 rfl) ?_
  refine lv_iload_n hx hb dL_block_4 rfl (lv_at hl 1 rfl) ?_
  refine lv_iload_n hx hb dL_block_5 rfl (lv_at hl 2 rfl) ?_
  refine lv_iload_n hx hb dL_block_6 rfl (lv_at hl 3 rfl) ?_
  refine kp_calll (wr := [(qo, .inl (cL, 1, .inr (.inl (g))))]) (nw := fun u => [((ad 6), .inr (1, [.ref (ad 0), .ref (ad 1), .ref (ad 2), .ref (ad 4)])), ((ad 0), .inl (cL, 16, .inr (.inl (u)))), ((ad 1), .inl (cL, 2, .inr (.inl (t)))), ((ad 2), .inr (0, [.ref (ad 3)])), ((ad 3), .inl (cI, 44, .inl (sD))), ((ad 4), .inr (0, [.ref (ad 5)])), ((ad 5), .inl (cI, 44, .inl (sT))), (qo, .inl (cL, 1, .inr (.inl (g))))]) (va_runV (As := [.int (nI (i)), .int (bd), .int (bs)]) (rest := [.int (nI (0)), .ref qo]) ⟨hx, hb, hml, hown, htA⟩ (c_X1_block l dC dI cI cL ad _ tS tI f t sD sT X0 X1 hX0 hX1 hsD hsT SEC hBS hL i hi bd bs) (cwV 3 htA (goodW_V mW_l25 mS_instanceMethod_block mS_selects_block mS_code_block) rfl rfl rfl (by decide +kernel) ⟨Nat.le_of_ble_eq_true rfl, Nat.le_of_ble_eq_true rfl⟩) (kp_preV (wc := [((ad 6), .inr (1, [.ref (ad 0), .ref (ad 1), .ref (ad 2), .ref (ad 4)])), ((ad 0), .inl (cL, 16, .inr (.inl (f)))), ((ad 1), .inl (cL, 2, .inr (.inl (t)))), ((ad 2), .inr (0, [.ref (ad 3)])), ((ad 3), .inl (cI, 44, .inl (sD))), ((ad 4), .inr (0, [.ref (ad 5)])), ((ad 5), .inl (cI, 44, .inl (sT)))]) (stX_kp tS tI) hX hP hD hK hS hA [0, 1, 2, 3, 4, 5, 6] rfl rfl rfl [0, 1] rfl (q0 := 0) rfl rfl) rfl rfl hl.1 rfl (lv_room (Nat.le_of_ble_eq_true rfl)) dL_block_7 ⟨Nat.le_of_ble_eq_true rfl, Nat.le_of_ble_eq_true rfl⟩) hP hD hS hA [0, 1, 2, 3, 4, 5, 6] [7] rfl rfl rfl (by decide) [1, 2, 3, 4, 5, 6, 7, 0] rfl (fun _ => rfl) (fun _ => rfl) (fun r u H locs hu hP hD hS => ?_)
  obtain ⟨hu1, hu2⟩ := hu
  subst hu1
  refine xa_lst hx hb hK hP hD hS 7 1 rfl rfl (by omega) (by omega) dL_block_10 (fun H locs hP hD hS => ?_)
  have hP : va_P (dC, dI) mCl [((ad 6), .inr (1, [.ref (ad 0), .ref (ad 1), .ref (ad 2), .ref (ad 4)])), ((ad 0), .inl (cL, 16, .inr (.inl (u)))), ((ad 1), .inl (cL, 2, .inr (.inl (t)))), ((ad 2), .inr (0, [.ref (ad 3)])), ((ad 3), .inl (cI, 44, .inl (sD))), ((ad 4), .inr (0, [.ref (ad 5)])), ((ad 5), .inl (cI, 44, .inl (sT))), (qo, .inl (cL, 1, .inr (.inl (vp_updL (g) (0) (ae_l (ae_pt SEC (16 * i) 16 ((if bd = 0 then ae_enc else ae_dec) (if bs = 0 then X0 else X1) (ae_at SEC (16 * i)))) (16 * i))))))] H := hP
  have hD : va_D A [((ad 6), .inr (1, [.ref (ad 0), .ref (ad 1), .ref (ad 2), .ref (ad 4)])), ((ad 0), .inl (cL, 16, .inr (.inl (u)))), ((ad 1), .inl (cL, 2, .inr (.inl (t)))), ((ad 2), .inr (0, [.ref (ad 3)])), ((ad 3), .inl (cI, 44, .inl (sD))), ((ad 4), .inr (0, [.ref (ad 5)])), ((ad 5), .inl (cI, 44, .inl (sT))), (qo, .inl (cL, 1, .inr (.inl (vp_updL (g) (0) (ae_l (ae_pt SEC (16 * i) 16 ((if bd = 0 then ae_enc else ae_dec) (if bs = 0 then X0 else X1) (ae_at SEC (16 * i)))) (16 * i))))))] := hD
  refine lv_goto (tgt := 18) hx hb dL_block_11 (by decide) ?_
  refine lv_iconst (v := nI 0) hx hb dL_block_18 (by decide) ?_
  exact kp_reti u hx hb hr rfl hlocks ⟨rfl, hu2⟩ hP hD hS dL_block_19
set_option maxRecDepth 100000 in
set_option maxHeartbeats 4000000 in
theorem h_block_f (l : Launch) (hlt : l.stackTraces = false) (dC : Nat → ClassId) (dI : Nat → Nat → Nat) (cI cL : ClassId) (ad : Nat → Nat) (sz : Nat) (f t : Nat → Int64) (sD sT : Nat → Int32) (qo : Nat) (g : Nat → Int64) (sa : Nat) (i : Int32) (hi : i < 0 ∨ nI 8 ≤ i) (bd bs : Int32) : kp_Mj l yL_block wsH_block { frames := 7, cells := 1, slots := 6, locals := 107 } (dC, dI) mCl [.ref (ad 6), .int i, .int bd, .int bs, .ref qo] [((ad 6), .inr (1, [.ref (ad 0), .ref (ad 1), .ref (ad 2), .ref (ad 4)])), ((ad 0), .inl (cL, 16, .inr (.inl (f)))), ((ad 1), .inl (cL, 2, .inr (.inl (t)))), ((ad 2), .inr (0, [.ref (ad 3)])), ((ad 3), .inl (cI, 44, .inl (sD))), ((ad 4), .inr (0, [.ref (ad 5)])), ((ad 5), .inl (cI, 44, .inl (sT))), (qo, .inl (cL, 1, .inr (.inl (g))))] [(cI, .int), (cL, .long)] sz (tw_X 59 "a block's index is 0 to 7" "java/lang/IndexOutOfBoundsException" sa) 1 6 (fun (r : Int32) (_ : Unit) => r = nI 1) (fun _ => [((ad 6), .inr (1, [.ref (ad 0), .ref (ad 1), .ref (ad 2), .ref (ad 4)])), ((ad 0), .inl (cL, 16, .inr (.inl (f)))), ((ad 1), .inl (cL, 2, .inr (.inl (t)))), ((ad 2), .inr (0, [.ref (ad 3)])), ((ad 3), .inl (cI, 44, .inl (sD))), ((ad 4), .inr (0, [.ref (ad 5)])), ((ad 5), .inl (cI, 44, .inl (sT))), (qo, .inl (cL, 1, .inr (.inl (g))))]) := by
  refine kp_ofw (cc := cL_block) (maxL := 6) (ret := some .int) (hh := [(0, 11, 14, 13)]) (by decide) rfl (Nat.le_of_ble_eq_true rfl) ?_
  intro p e s m args below meth c ls A hx hb hr hts hown hlocks hml htab hA hl hP hD hK hX hS
  have hown : s.vm.findClass RL = some m.cls := hown
  have htA : ∀ w ∈ wsW_a, w.before args s = true := fun w h => hts w (List.mem_cons_of_mem _ h)
  have hl : lv_has ls 6 [(0, .ref (ad 6)), (1, .int (i)), (2, .int (bd)), (3, .int (bs)), (4, .ref qo)] := hl
  refine lv_aload hx hb dL_block_0 (lv_at hl 4 rfl) ?_
  refine lv_iconst (v := nI 0) hx hb dL_block_2 (by decide) ?_
  refine lv_aload_n hx hb dL_block_3 rfl (lv_at hl 0 rfl) ?_
  refine lv_iload_n hx hb dL_block_4 rfl (lv_at hl 1 rfl) ?_
  refine lv_iload_n hx hb dL_block_5 rfl (lv_at hl 2 rfl) ?_
  refine lv_iload_n hx hb dL_block_6 rfl (lv_at hl 3 rfl) ?_
  refine kp_callx (wr := [(qo, .inl (cL, 1, .inr (.inl (g))))]) (nw := [((ad 6), .inr (1, [.ref (ad 0), .ref (ad 1), .ref (ad 2), .ref (ad 4)])), ((ad 0), .inl (cL, 16, .inr (.inl (f)))), ((ad 1), .inl (cL, 2, .inr (.inl (t)))), ((ad 2), .inr (0, [.ref (ad 3)])), ((ad 3), .inl (cI, 44, .inl (sD))), ((ad 4), .inr (0, [.ref (ad 5)])), ((ad 5), .inl (cI, 44, .inl (sT))), (qo, .inl (cL, 1, .inr (.inl (g))))]) (vx_runV (As := [.int (i), .int (bd), .int (bs)]) (rest := [.int (nI (0)), .ref qo]) ⟨hx, hb, hml, hown, htA⟩ (t_X1_block l hlt dC dI cI cL ad _ f t sD sT sa i hi bd bs) (cwV 3 htA (goodW_V mW_l25 mS_instanceMethod_block mS_selects_block mS_code_block) rfl rfl rfl (by decide +kernel) ⟨Nat.le_of_ble_eq_true rfl, Nat.le_of_ble_eq_true rfl⟩) (kp_preV (wc := [((ad 6), .inr (1, [.ref (ad 0), .ref (ad 1), .ref (ad 2), .ref (ad 4)])), ((ad 0), .inl (cL, 16, .inr (.inl (f)))), ((ad 1), .inl (cL, 2, .inr (.inl (t)))), ((ad 2), .inr (0, [.ref (ad 3)])), ((ad 3), .inl (cI, 44, .inl (sD))), ((ad 4), .inr (0, [.ref (ad 5)])), ((ad 5), .inl (cI, 44, .inl (sT)))]) (tw_kp _ _ _ _) hX hP hD hK hS hA [0, 1, 2, 3, 4, 5, 6] rfl rfl rfl [0, 1] rfl (q0 := 0) rfl rfl) rfl rfl hl.1 rfl (lv_room (Nat.le_of_ble_eq_true rfl)) dL_block_7 ⟨Nat.le_of_ble_eq_true rfl, Nat.le_of_ble_eq_true rfl⟩) hP hD hS hA [0, 1, 2, 3, 4, 5, 6] [7] rfl rfl rfl (by decide) [1, 2, 3, 4, 5, 6, 7, 0] rfl rfl rfl (fun ce q9 H locs hP hD hS hce hcv hcl => ?_)
  refine vx_catch hown [] ⟨0, 11, 14, 13⟩ [] (by rw [htab]; rfl) (fun z hz => by cases hz) (by decide) (by decide) (htA _ mW_c13) (va_Nw.use rfl hX.2.2.2.1) hce hcv hcl ?_
  refine lv_astore (nL := 6) (lv' := [(5, .ref q9), (0, .ref (ad 6)), (1, .int (i)), (2, .int (bd)), (3, .int (bs)), (4, .ref qo)]) hx hb dL_block_14 hl (by decide) rfl (fun ls hl => ?_)
  refine lv_iconst (v := nI 1) hx hb dL_block_16 (by decide) ?_
  exact kp_reti () hx hb hr rfl hlocks rfl hP hD hS dL_block_17
