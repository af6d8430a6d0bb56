/-! the class: put, get, block, sector where they throw -/
def tw_X (is : Nat) (text cls : String) (sa : Nat) : (Nat → Prop) → State → Prop := fun A U => vx_Zq Bundle.tN "UNASSIGNED_STACK" Bundle.steD A U U.heap ∧ vx_Zq Bundle.tN "SUPPRESSED_SENTINEL" Bundle.listD A U U.heap ∧ vk_R RX1 is text sa U ∧ va_Nw (.castable cls cls) U ∧ va_Nw (.declares ⟨"java/lang/RuntimeException", "<init>", "(Ljava/lang/String;)V"⟩) U ∧ va_Nw (.declares ⟨"java/lang/Exception", "<init>", "(Ljava/lang/String;)V"⟩) U ∧ va_Nw (.declares ⟨"java/lang/Throwable", "<init>", "(Ljava/lang/String;)V"⟩) U
theorem tw_kp (is : Nat) (text cls : String) (sa : Nat) : kp_X (tw_X is text cls sa) := fun A B u U h hW hq hAB =>
  ⟨vx_Zq.narrow (vx_Zq.moved hW.alike (vx_Zq.kept h.1 hq)) hAB, vx_Zq.narrow (vx_Zq.moved hW.alike (vx_Zq.kept h.2.1 hq)) hAB, vk_R.warm hW h.2.2.1, va_Nw.warmC hW h.2.2.2.1, va_Nw.warmD hW h.2.2.2.2.1, va_Nw.warmD hW h.2.2.2.2.2.1, va_Nw.warmD hW h.2.2.2.2.2.2⟩
def kp_XC (D : va_G) (cl : List vw_C) (wc : va_W) (cls : String) (A : Nat → Prop) : String → State → State → Prop := vx_X (fun _ : Unit => True) (fun E _ t => E = cls ∧ va_P D cl wc t.heap ∧ va_D A wc) A
def kp_Mx (l : Launch) (y : MethodName) (wsY : List Cond) (rm : Room) (D : va_G) (cl : List vw_C) (av : List Value) (wc : va_W) (tys : List (ClassId × FieldType)) (sz : Nat) (X : (Nat → Prop) → State → Prop) (cls : String) (mc ms : Nat) : Prop :=
  vx_Met l y wsY rm (va_Pc av (kp_P D cl wc tys sz X)) (va_Ql (fun (_ : Int64) (_ : Unit) => False) (fun _ _ => True) (va_A wc sz)) (kp_XC D cl wc cls (va_A wc sz)) mc ms (va_A wc sz)
theorem kp_ofx {l : Launch} {y : MethodName} {wsY ws' : List Cond} {rm : Room} {D : va_G} {cl : List vw_C} {av : List Value} {wc : va_W} {tys : List (ClassId × FieldType)} {sz : Nat} {X : (Nat → Prop) → State → Prop} {cls : String} {mc ms : Nat} {cc : ByteArray} {maxL : Nat} {ret : Option FieldType} (hy : plainName y.cls = true) (hw : wsY = Cond.code y cc maxL ret :: ws') (hn : (lg_sl av).length ≤ maxL)
    (body : ∀ (p : Program) (e : Env) (s : State) (m : MethodId) (args : Array Value) (below : List Frame) (meth : Method) (c : Code) (ls : Array Slot) (A : Nat → Prop), p.tables.exec = Jvm.exec → c.code = cc → (∀ w ∈ wsY, w.before args s = true) → s.vm.findClass y.cls = some m.cls → meth.locks = false → c.maxLocals = maxL → (∀ x ∈ c.exceptionTable.toList, False) → lv_has ls maxL (lv_args 0 av) → va_P D cl wc s.heap → va_D A wc → X A s → va_S A s.heap s.heap [] →
      W p l e rm s m args below meth c s.heap [] 0 0 (vx_MQ below (va_Ql (fun (_ : Int64) (_ : Unit) => False) (fun _ _ => True) A) (kp_XC D cl wc cls A) args s mc ms A) (F0 m 0 ls [])) : kp_Mx l y wsY rm D cl av wc tys sz X cls mc ms := by
  refine vx_ofW (cc := cc) (maxL := maxL) (ret := ret) hy hw ?_
  intro p e s m args below meth c s₁ B hml hnt hv
  obtain ⟨rfl, hsz, hP, hK, hD0, hX⟩ := hv
  have hl := lv_entry av (n := maxL) hn
  rw [lg_entry_eq]
  exact body p e s m _ below meth c _ (va_A wc sz) B.exec B.bytes (atoms_spec (ws := wsY) B.pre) (findClass_of_methodNamed B.named) B.notSynchronized hml hnt hl hP (hD0.self (sz := sz)) hX va_S.rf
section
variable {p : Program} {l : Launch} {e : Env} {R : Room} {s : State} {m : MethodId} {args : Array Value} {below : List Frame} {meth : Method} {c : Code} {H H0 : Heap} {locs : List Loc} {cells slots : Nat} {Q : State → Prop} {cc : ByteArray} {pc : Nat} {ls : Array Slot} {rest st0 : List Value} {D : va_G} {cl : List vw_C} {ws wc wr nw : va_W} {A : Nat → Prop} {Qc : Array Value → State → Outcome → State → Prop}
theorem kp_throw (hexec : p.tables.exec = Jvm.exec) (hb : c.code = cc) (hlt : l.stackTraces = false) {cls text : String} {ik is ic sa : Nat} (hown : s.vm.findClass RX1 = some m.cls) (hcls : Bundle.fit cls = true) (hk : (Cond.classLink RX1 ik cls).before args s = true) (hini : (Cond.initialized cls).before args s = true) (hX : tw_X is text cls sa A s)
    (hgw : ∀ w ∈ (vx_atS RX1 ic cls ["java/lang/RuntimeException", "java/lang/Exception"]).filter goodWord, w.before args s = true) (hbw : ∀ w ∈ (vx_atS RX1 ic cls ["java/lang/RuntimeException", "java/lang/Exception"]).filter (fun w => !goodWord w), w ∈ [Cond.castable cls cls, Cond.declares ⟨"java/lang/RuntimeException", "<init>", "(Ljava/lang/String;)V"⟩, Cond.declares ⟨"java/lang/Exception", "<init>", "(Ljava/lang/String;)V"⟩, Cond.declares ⟨"java/lang/Throwable", "<init>", "(Ljava/lang/String;)V"⟩])
    (hgood : ∀ w ∈ Cond.classLink RX1 ik cls :: Cond.initialized cls :: vx_atS RX1 ic cls ["java/lang/RuntimeException", "java/lang/Exception"], vx_ot w = true) (hP : va_P D cl ws H) (hD : va_D A ws) (hS : va_S A s.heap H locs) (hsize : ls.size = c.maxLocals)
    (d0 : decode cc pc = .ok (.new ik, 3)) (d3 : decode cc (pc + 3) = .ok (.dup, 1)) (d4 : decode cc (pc + 4) = .ok (.ldc is, 2)) (d6 : decode cc (pc + 6) = .ok (.invokespecial ic, 3)) (d9 : decode cc (pc + 9) = .ok (.athrow, 1)) (hnt : ∀ x ∈ c.exceptionTable.toList, False)
    (hRf : 6 ≤ R.frames) (hRl : 82 ≤ R.locals) (hRc : cells + 1 ≤ R.cells) (hRs : slots + 6 ≤ R.slots) (hlocks : meth.locks = false) :
    W p l e R s m args below meth c H locs cells slots (vx_MQ below Qc (kp_XC D cl ws cls A) args s (cells + 1) (slots + 6) A) (F0 m pc ls []) :=
  vx_throwS hexec hb hlt (names := ["java/lang/RuntimeException", "java/lang/Exception"]) hown hcls (by decide +kernel) hk hini hX.2.2.1
    (vx_hat hgw hbw (vx_c (va_Nw.use rfl hX.2.2.2.1) (vx_c (va_Nw.use rfl hX.2.2.2.2.1) (vx_c (va_Nw.use rfl hX.2.2.2.2.2.1) (vx_c (va_Nw.use rfl hX.2.2.2.2.2.2) vx_n)))))
    hgood hX.1 hX.2.1 hS hsize d0 d3 d4 d6 d9 (fun x hx => (hnt x hx).elim) (show 2 + 3 < R.frames from hRf) (show 0 + (13 * (2 + 1) + 43) ≤ R.locals from hRl) hRc hRs hlocks
    (fun t hal hsz hkp => ⟨(), trivial, ⟨rfl, hP.kept (fun k q h => hkp q.1 ((hP k q h).lt)), hD⟩, Nat.le_trans hS.1 hsz, fun q h1 h2 => (hkp q (Nat.lt_of_lt_of_le h1 hS.1)).trans (hS.2.1 q h1 h2)⟩)
    hS.2.2 (Nat.le_refl _) (Nat.le_refl _)
/-- a call that throws -/
theorem kp_callx {cls : String} {mc ms : Nat} {aa : Array Value} (hr : vx_Run p l e R s m args below meth c H locs cells slots mc ms (F0 m pc ls st0) rest (va_Ql (fun (_ : Int64) (_ : Unit) => False) (fun _ _ => True) (va_A wc H.size) aa) (kp_XC D cl wc cls (va_A wc H.size)) (va_A wc H.size)) (hP : va_P D cl ws H) (hD : va_D A ws) (hS : va_S A H0 H locs) (hA : ∀ q, H0.size ≤ q → A q) (isC isR : List Nat) (hC : isC.map (fun i => ws[i]?) = wc.map some) (hR : isR.map (fun i => ws[i]?) = wr.map some) (hn : va_nd isR = true) (hdis : ∀ i ∈ isR, i ∉ isC) (pm : List Nat) (hnp : va_nd pm = true) (hpm : pm.filterMap (fun i => (wr ++ wc)[i]?) = nw) (hpm2 : pm.map (fun i => (wr ++ wc)[i]?) = nw.map some)
    (kx : ∀ (ce : Cell) (q9 : Addr) (H1 : Heap) (locs1 : List Loc), va_P D cl nw H1 → va_D A nw → va_S A H0 H1 locs1 → H1[q9]? = some ce → ce.vm = .none → s.vm.findClass cls = some ce.cls → vx_W p l e R s m args below meth c H1 locs1 (cells + mc) (slots + ms) Q (F0 m pc ls rest) q9) : W p l e R s m args below meth c H locs cells slots Q (F0 m pc ls st0) := by
  have hF := va_free (wc := wc) hD hS hA isC hC
  refine vx_calll hr hS (fun q _ h => hF q h) hF (fun q _ h => hF q h) (fun E ce q9 u t H1 locs1 ht hvm hp hB hz hk hS1 hce hcv hcl => ?_) (fun r u t H1 locs1 ht hvm hp hB hz hk hS1 => hp.elim)
  obtain ⟨rfl, hP1, hD1⟩ := hB
  rw [ht] at hP1
  obtain ⟨hP2, hD2⟩ := va_join (wr := wr) (w1 := wc) hP hD isC isR hC hR hn hdis hk hF hP1 hD1
  exact kx ce q9 H1 locs1 (hP2.sub pm hpm) (hD2.sub pm hnp hpm2) hS1 hce hcv hcl
end
theorem at_IO : ∀ w ∈ (vx_atS RX1 34 "java/lang/IndexOutOfBoundsException" ["java/lang/RuntimeException", "java/lang/Exception"]).filter (fun w => !goodWord w), w ∈ [Cond.castable "java/lang/IndexOutOfBoundsException" "java/lang/IndexOutOfBoundsException", Cond.declares ⟨"java/lang/RuntimeException", "<init>", "(Ljava/lang/String;)V"⟩, Cond.declares ⟨"java/lang/Exception", "<init>", "(Ljava/lang/String;)V"⟩, Cond.declares ⟨"java/lang/Throwable", "<init>", "(Ljava/lang/String;)V"⟩] := by decide +kernel
theorem at_IA : ∀ w ∈ (vx_atS RX1 41 "java/lang/IllegalArgumentException" ["java/lang/RuntimeException", "java/lang/Exception"]).filter (fun w => !goodWord w), w ∈ [Cond.castable "java/lang/IllegalArgumentException" "java/lang/IllegalArgumentException", Cond.declares ⟨"java/lang/RuntimeException", "<init>", "(Ljava/lang/String;)V"⟩, Cond.declares ⟨"java/lang/Exception", "<init>", "(Ljava/lang/String;)V"⟩, Cond.declares ⟨"java/lang/Throwable", "<init>", "(Ljava/lang/String;)V"⟩] := by decide +kernel
theorem ot_IO : ∀ w ∈ Cond.classLink RX1 30 "java/lang/IndexOutOfBoundsException" :: Cond.initialized "java/lang/IndexOutOfBoundsException" :: vx_atS RX1 34 "java/lang/IndexOutOfBoundsException" ["java/lang/RuntimeException", "java/lang/Exception"], vx_ot w = true := by decide +kernel
theorem ot_IA : ∀ w ∈ Cond.classLink RX1 37 "java/lang/IllegalArgumentException" :: Cond.initialized "java/lang/IllegalArgumentException" :: vx_atS RX1 41 "java/lang/IllegalArgumentException" ["java/lang/RuntimeException", "java/lang/Exception"], vx_ot w = true := by decide +kernel
set_option maxRecDepth 100000 in
set_option maxHeartbeats 4000000 in
theorem t_X1_put (l : Launch) (hlt : l.stackTraces = false) (dC : Nat → ClassId) (dI : Nat → Nat → Nat) (cI cL : ClassId) (ad : Nat → Nat) (sz : Nat) (f t : Nat → Int64) (sD sT : Nat → Int32) (sa : Nat) (i : Int32) (hi : i < 0 ∨ nI 16 ≤ i) (v : Int64) : kp_Mx l yX1_put wsC_X1_put { frames := 6, cells := 1, slots := 6, locals := 82 } (dC, dI) mCl [.ref (ad 6), .int i, .long v] [((ad 6), .inr (1, [.ref (ad 0), .ref (ad 1), .ref (ad 2), .ref (ad 4)])), ((ad 0), .inl (cL, 16, .inr (.inl (f)))), ((ad 1), .inl (cL, 2, .inr (.inl (t)))), ((ad 2), .inr (0, [.ref (ad 3)])), ((ad 3), .inl (cI, 44, .inl (sD))), ((ad 4), .inr (0, [.ref (ad 5)])), ((ad 5), .inl (cI, 44, .inl (sT)))] [(cI, .int), (cL, .long)] sz (tw_X 32 "a long's index is 0 to 15" "java/lang/IndexOutOfBoundsException" sa) "java/lang/IndexOutOfBoundsException" 1 6 := by
  refine kp_ofx (cc := cX1_put) (maxL := 6) (ret := some .long) (by decide) rfl (Nat.le_of_ble_eq_true rfl) ?_
  intro p e s m args below meth c ls A hx hb hts hown hlocks hml hnt hl hP hD hX hS
  have hown : s.vm.findClass RX1 = some m.cls := hown
  have htA : ∀ w ∈ wsC_a, w.before args s = true := fun w h => hts w (List.mem_cons_of_mem _ h)
  have hl : lv_has ls 6 [(0, .ref (ad 6)), (1, .int (i)), (2, .long (v))] := hl
  refine lv_iload_n hx hb dX1_put_0 rfl (lv_at hl 1 rfl) ?_
  refine lv_if_lt (tgt := 10) hx hb dX1_put_1 (by decide) (fun hc0 => ?_) (fun hc0 => ?_)
  · exact kp_throw hx hb hlt hown (by decide +kernel) (htA _ mS_c30) (htA _ mC_initIOOBE) hX (fun w h => htA w (inC2 w h)) at_IO ot_IO hP hD hS (hl.1.trans hml.symm) dX1_put_10 dX1_put_13 dX1_put_14 dX1_put_16 dX1_put_19 hnt (Nat.le_of_ble_eq_true rfl) (Nat.le_of_ble_eq_true rfl) (Nat.le_of_ble_eq_true rfl) (Nat.le_of_ble_eq_true rfl) hlocks
  · refine lv_iload_n hx hb dX1_put_4 rfl (lv_at hl 1 rfl) ?_
    refine lv_bipush (v := nI 16) hx hb dX1_put_5 (by decide) ?_
    refine lv_icmp_lt (tgt := 20) hx hb dX1_put_7 (by decide) (fun h9 => absurd h9 (by rcases hi with h | h; exact fun _ => hc0 h; exact Int32.not_lt.mpr h)) (fun hc1 => ?_)
    exact kp_throw hx hb hlt hown (by decide +kernel) (htA _ mS_c30) (htA _ mC_initIOOBE) hX (fun w h => htA w (inC2 w h)) at_IO ot_IO hP hD hS (hl.1.trans hml.symm) dX1_put_10 dX1_put_13 dX1_put_14 dX1_put_16 dX1_put_19 hnt (Nat.le_of_ble_eq_true rfl) (Nat.le_of_ble_eq_true rfl) (Nat.le_of_ble_eq_true rfl) (Nat.le_of_ble_eq_true rfl) hlocks
set_option maxRecDepth 100000 in
set_option maxHeartbeats 4000000 in
theorem t_X1_get (l : Launch) (hlt : l.stackTraces = false) (dC : Nat → ClassId) (dI : Nat → Nat → Nat) (cI cL : ClassId) (ad : Nat → Nat) (sz : Nat) (f t : Nat → Int64) (sD sT : Nat → Int32) (sa : Nat) (i : Int32) (hi : i < 0 ∨ nI 16 ≤ i) : kp_Mx l yX1_get wsC_X1_get { frames := 6, cells := 1, slots := 6, locals := 82 } (dC, dI) mCl [.ref (ad 6), .int i] [((ad 6), .inr (1, [.ref (ad 0), .ref (ad 1), .ref (ad 2), .ref (ad 4)])), ((ad 0), .inl (cL, 16, .inr (.inl (f)))), ((ad 1), .inl (cL, 2, .inr (.inl (t)))), ((ad 2), .inr (0, [.ref (ad 3)])), ((ad 3), .inl (cI, 44, .inl (sD))), ((ad 4), .inr (0, [.ref (ad 5)])), ((ad 5), .inl (cI, 44, .inl (sT)))] [(cI, .int), (cL, .long)] sz (tw_X 32 "a long's index is 0 to 15" "java/lang/IndexOutOfBoundsException" sa) "java/lang/IndexOutOfBoundsException" 1 6 := by
  refine kp_ofx (cc := cX1_get) (maxL := 2) (ret := some .long) (by decide) rfl (Nat.le_of_ble_eq_true rfl) ?_
  intro p e s m args below meth c ls A hx hb hts hown hlocks hml hnt hl hP hD hX hS
  have hown : s.vm.findClass RX1 = some m.cls := hown
  have htA : ∀ w ∈ wsC_a, w.before args s = true := fun w h => hts w (List.mem_cons_of_mem _ h)
  have hl : lv_has ls 2 [(0, .ref (ad 6)), (1, .int (i))] := hl
  refine lv_iload_n hx hb dX1_get_0 rfl (lv_at hl 1 rfl) ?_
  refine lv_if_lt (tgt := 10) hx hb dX1_get_1 (by decide) (fun hc0 => ?_) (fun hc0 => ?_)
  · exact kp_throw hx hb hlt hown (by decide +kernel) (htA _ mS_c30) (htA _ mC_initIOOBE) hX (fun w h => htA w (inC2 w h)) at_IO ot_IO hP hD hS (hl.1.trans hml.symm) dX1_get_10 dX1_get_13 dX1_get_14 dX1_get_16 dX1_get_19 hnt (Nat.le_of_ble_eq_true rfl) (Nat.le_of_ble_eq_true rfl) (Nat.le_of_ble_eq_true rfl) (Nat.le_of_ble_eq_true rfl) hlocks
  · refine lv_iload_n hx hb dX1_get_4 rfl (lv_at hl 1 rfl) ?_
    refine lv_bipush (v := nI 16) hx hb dX1_get_5 (by decide) ?_
    refine lv_icmp_lt (tgt := 20) hx hb dX1_get_7 (by decide) (fun h9 => absurd h9 (by rcases hi with h | h; exact fun _ => hc0 h; exact Int32.not_lt.mpr h)) (fun hc1 => ?_)
    exact kp_throw hx hb hlt hown (by decide +kernel) (htA _ mS_c30) (htA _ mC_initIOOBE) hX (fun w h => htA w (inC2 w h)) at_IO ot_IO hP hD hS (hl.1.trans hml.symm) dX1_get_10 dX1_get_13 dX1_get_14 dX1_get_16 dX1_get_19 hnt (Nat.le_of_ble_eq_true rfl) (Nat.le_of_ble_eq_true rfl) (Nat.le_of_ble_eq_true rfl) (Nat.le_of_ble_eq_true rfl) hlocks
set_option maxRecDepth 100000 in
set_option maxHeartbeats 4000000 in
theorem t_X1_block (l : Launch) (hlt : l.stackTraces = false) (dC : Nat → ClassId) (dI : Nat → Nat → Nat) (cI cL : ClassId) (ad : Nat → Nat) (sz : Nat) (f t : Nat → Int64) (sD sT : Nat → Int32) (sa : Nat) (i : Int32) (hi : i < 0 ∨ nI 8 ≤ i) (bd bs : Int32) : kp_Mx l yX1_block wsC_X1_block { frames := 6, cells := 1, slots := 6, locals := 82 } (dC, dI) mCl [.ref (ad 6), .int i, .int bd, .int bs] [((ad 6), .inr (1, [.ref (ad 0), .ref (ad 1), .ref (ad 2), .ref (ad 4)])), ((ad 0), .inl (cL, 16, .inr (.inl (f)))), ((ad 1), .inl (cL, 2, .inr (.inl (t)))), ((ad 2), .inr (0, [.ref (ad 3)])), ((ad 3), .inl (cI, 44, .inl (sD))), ((ad 4), .inr (0, [.ref (ad 5)])), ((ad 5), .inl (cI, 44, .inl (sT)))] [(cI, .int), (cL, .long)] sz (tw_X 59 "a block's index is 0 to 7" "java/lang/IndexOutOfBoundsException" sa) "java/lang/IndexOutOfBoundsException" 1 6 := by
  refine kp_ofx (cc := cX1_block) (maxL := 6) (ret := some .long) (by decide) rfl (Nat.le_of_ble_eq_true rfl) ?_
  intro p e s m args below meth c ls A hx hb hts hown hlocks hml hnt hl hP hD hX hS
  have hown : s.vm.findClass RX1 = some m.cls := hown
  have htA : ∀ w ∈ wsC_a, w.before args s = true := fun w h => hts w (List.mem_cons_of_mem _ h)
  have hl : lv_has ls 6 [(0, .ref (ad 6)), (1, .int (i)), (2, .int (bd)), (3, .int (bs))] := hl
  refine lv_iload_n hx hb dX1_block_0 rfl (lv_at hl 1 rfl) ?_
  refine lv_if_lt (tgt := 10) hx hb dX1_block_1 (by decide) (fun hc0 => ?_) (fun hc0 => ?_)
  · exact kp_throw hx hb hlt hown (by decide +kernel) (htA _ mS_c30) (htA _ mC_initIOOBE) hX (fun w h => htA w (inC2 w h)) at_IO ot_IO hP hD hS (hl.1.trans hml.symm) dX1_block_10 dX1_block_13 dX1_block_14 dX1_block_16 dX1_block_19 hnt (Nat.le_of_ble_eq_true rfl) (Nat.le_of_ble_eq_true rfl) (Nat.le_of_ble_eq_true rfl) (Nat.le_of_ble_eq_true rfl) hlocks
  · refine lv_iload_n hx hb dX1_block_4 rfl (lv_at hl 1 rfl) ?_
    refine lv_bipush (v := nI 8) hx hb dX1_block_5 (by decide) ?_
    refine lv_icmp_lt (tgt := 20) hx hb dX1_block_7 (by decide) (fun h9 => absurd h9 (by rcases hi with h | h; exact fun _ => hc0 h; exact Int32.not_lt.mpr h)) (fun hc1 => ?_)
    exact kp_throw hx hb hlt hown (by decide +kernel) (htA _ mS_c30) (htA _ mC_initIOOBE) hX (fun w h => htA w (inC2 w h)) at_IO ot_IO hP hD hS (hl.1.trans hml.symm) dX1_block_10 dX1_block_13 dX1_block_14 dX1_block_16 dX1_block_19 hnt (Nat.le_of_ble_eq_true rfl) (Nat.le_of_ble_eq_true rfl) (Nat.le_of_ble_eq_true rfl) (Nat.le_of_ble_eq_true rfl) hlocks
set_option maxRecDepth 100000 in
set_option maxHeartbeats 4000000 in
theorem t_X1_sector (l : Launch) (hlt : l.stackTraces = false) (dC : Nat → ClassId) (dI : Nat → Nat → Nat) (cI cL : ClassId) (ad : Nat → Nat) (sz : Nat) (f t : Nat → Int64) (sD sT : Nat → Int32) (sa : Nat) (i : Int32) (hi : i < 0) (sl : Int32) : kp_Mx l yX1_sector wsC_X1_sector { frames := 6, cells := 1, slots := 6, locals := 82 } (dC, dI) mCl [.ref (ad 6), .int i, .int sl] [((ad 6), .inr (1, [.ref (ad 0), .ref (ad 1), .ref (ad 2), .ref (ad 4)])), ((ad 0), .inl (cL, 16, .inr (.inl (f)))), ((ad 1), .inl (cL, 2, .inr (.inl (t)))), ((ad 2), .inr (0, [.ref (ad 3)])), ((ad 3), .inl (cI, 44, .inl (sD))), ((ad 4), .inr (0, [.ref (ad 5)])), ((ad 5), .inl (cI, 44, .inl (sT)))] [(cI, .int), (cL, .long)] sz (tw_X 39 "a sector's number is not below 0" "java/lang/IllegalArgumentException" sa) "java/lang/IllegalArgumentException" 1 6 := by
  refine kp_ofx (cc := cX1_sector) (maxL := 4) (ret := some .long) (by decide) rfl (Nat.le_of_ble_eq_true rfl) ?_
  intro p e s m args below meth c ls A hx hb hts hown hlocks hml hnt hl hP hD hX hS
  have hown : s.vm.findClass RX1 = some m.cls := hown
  have htA : ∀ w ∈ wsC_a, w.before args s = true := fun w h => hts w (List.mem_cons_of_mem _ h)
  have hl : lv_has ls 4 [(0, .ref (ad 6)), (1, .int (i)), (2, .int (sl))] := hl
  refine lv_iload_n hx hb dX1_sector_0 rfl (lv_at hl 1 rfl) ?_
  refine lv_if_ge (tgt := 14) hx hb dX1_sector_1 (by decide) (fun h9 => absurd h9 (Int32.not_le.mpr hi)) (fun hc0 => ?_)
  exact kp_throw hx hb hlt hown (by decide +kernel) (htA _ mS_c37) (htA _ mC_initIAE) hX (fun w h => htA w (inC3 w h)) at_IA ot_IA hP hD hS (hl.1.trans hml.symm) dX1_sector_4 dX1_sector_7 dX1_sector_8 dX1_sector_10 dX1_sector_13 hnt (Nat.le_of_ble_eq_true rfl) (Nat.le_of_ble_eq_true rfl) (Nat.le_of_ble_eq_true rfl) (Nat.le_of_ble_eq_true rfl) hlocks
