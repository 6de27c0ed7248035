/-! STRINGBUILDER: a builder of sixteen places beside the memory -/
/-- its class's places, its cell, its bytes' cell and class -/
abbrev BX : Type := va_G × Nat × Nat × ClassId
abbrev bCl : List vw_C := [(RJ4, TJ4, 4)]
def bW (z : BX) (n : Nat) (f : Nat → Int32) : va_W := [(z.2.1, .inr (0, [.ref z.2.2.1, .int 0, .int 0, .int (Int32.ofNat n)])), (z.2.2.1, .inl (z.2.2.2, 16, .inl f))]
def bA (w : WD) (sz : Nat) (z : BX) : Nat → Prop := fun q => mA w sz q ∨ q = z.2.1 ∨ q = z.2.2.1
set_option maxRecDepth 100000 in
theorem lyJ4 : ∀ w ∈ u_ws RJ4 TJ4 4, w ∈ lw_tbl ∧ mgood w = true := m_in _ [989, 991, 993, 995] rfl rfl
theorem wsJ4 {s : State} {args : Array Value} (h : mT s) : ∀ w ∈ u_ws RJ4 TJ4 4, w.before args s = true := fun w hw => h w (lyJ4 w hw).1 (lyJ4 w hw).2 args
def bF (w : WD) (z : BX) (n : Nat) (f : Nat → Int32) (U : State) (H : Heap) : Prop :=
  va_P z.1 bCl (bW z n f) H ∧ (∀ g i, mok g i → w.1 g i ≠ z.2.1 ∧ w.1 g i ≠ z.2.2.1) ∧ z.2.1 ≠ z.2.2.1 ∧ va_K z.1 bCl [(z.2.2.2, .byte)] U
def bB (w : WD) (sz : Nat) (z : BX) (n : Nat) (f : Nat → Int32) (M : Mem) (U : State) : Prop :=
  U.heap.size = sz ∧ (z.2.1 < sz ∧ z.2.2.1 < sz) ∧ (mP w M U.heap ∧ mJ w ∧ va_K w.2.1 mCl (mTys w) U ∧ mT U ∧ mSt w (bA w sz z) U U.heap) ∧ bF w z n f U U.heap
def bPre (w : WD) (sz : Nat) (z : BX) (n : Nat) (f : Nat → Int32) (M : Mem) (av : List Value) : Array Value → State → Prop := va_Pc av (bB w sz z n f M)
def bQ (w : WD) (sz : Nat) (z : BX) (v : Option Value) (n : Nat) (f : Nat → Int32) (M : Mem) : Array Value → State → Outcome → State → Prop :=
  fun _ st oc t => oc = .returned v ∧ mP w M t.heap ∧ va_P z.1 bCl (bW z n f) t.heap ∧ va_F (bA w sz z) st t
abbrev bMet (l : Launch) (y : MethodName) (cc : ByteArray) (maxL : Nat) (ret : Option FieldType) (rm : Room) (w : WD) (sz : Nat) (z : BX) (n : Nat) (f : Nat → Int32) (M : Mem) (av : List Value) (v : Option Value) (n1 : Nat) (f1 : Nat → Int32) : Prop :=
  Met l y [Cond.code y cc maxL ret] rm (bPre w sz z n f M av) (bQ w sz z v n1 f1 M) 0 0 (bA w sz z)
theorem bPre.blind {w : WD} {sz : Nat} {z : BX} {n : Nat} {f : Nat → Int32} {M : Mem} {av : List Value} : FrameBlind (bPre w sz z n f M av) := fun v U g mk h =>
  ⟨h.1, h.2.1, h.2.2.1, ⟨h.2.2.2.1.1, h.2.2.2.1.2.1, va_K.moved (u := U) (U := U.calling g mk v) (Vm.Alike.refl U.vm) h.2.2.2.1.2.2.1, h.2.2.2.1.2.2.2.1.warm (s := U) (U := U.calling g mk v) (State.WarmedH.refl U), h.2.2.2.1.2.2.2.2.moved (u := U) (U := U.calling g mk v) (State.WarmedH.refl U)⟩, h.2.2.2.2.1, h.2.2.2.2.2.1, h.2.2.2.2.2.2.1, va_K.moved (u := U) (U := U.calling g mk v) (Vm.Alike.refl U.vm) h.2.2.2.2.2.2.2⟩
/-- on the way -/
def bI (w : WD) (s : State) (H : Heap) (locs : List Loc) (z : BX) (n : Nat) (f : Nat → Int32) (M : Mem) : Prop := mI w s (bA w s.heap.size z) H locs M ∧ bF w z n f s H ∧ z.2.1 < s.heap.size ∧ z.2.2.1 < s.heap.size
theorem b_of {l : Launch} {y : MethodName} {cc : ByteArray} {maxL : Nat} {ret : Option FieldType} {rm : Room} {w : WD} {sz : Nat} {z : BX} {n n1 : Nat} {f f1 : Nat → Int32} {M : Mem} {av : List Value} {v : Option Value} (hy : plainName y.cls = true) (ha : (lg_sl av).length ≤ maxL)
    (body : ∀ (p : Program) (e : Env) (s : State) (m : MethodId) (args : Array Value) (below : List Frame) (meth : Method) (c : Code), p.tables.exec = Jvm.exec → c.code = cc → meth.sig.returnType = ret → c.maxLocals = maxL → s.vm.findClass y.cls = some m.cls → meth.locks = false →
      bI w s s.heap [] z n f M → ∀ ls : Array Slot, lv_has ls maxL (lv_args 0 av) → W p l e rm s m args below meth c s.heap [] 0 0 (MQ below (bQ w s.heap.size z v n1 f1 M) args s 0 0 (bA w s.heap.size z)) (F0 m 0 ls [])) : bMet l y cc maxL ret rm w sz z n f M av v n1 f1 := by
  refine Met.ofW (cc := cc) (maxL := maxL) (ret := ret) hy rfl ?_
  intro p e s m args below meth c s₁ B hml hv
  obtain ⟨rfl, rfl, hlt, ⟨hP, hJ, hK, hT, hSt⟩, hF⟩ := hv
  rw [lg_entry_eq]
  exact body p e s m _ below meth c B.exec B.bytes B.returns hml (findClass_of_methodNamed B.named) B.notSynchronized ⟨⟨hP, hJ, hK, hT, hSt, va_S.rf, fun q hq => Or.inl (Or.inr hq), fun g i hg => Or.inl (Or.inl ⟨g, i, hg, rfl⟩)⟩, hF, hlt⟩ _ (lv_entry av ha)
section BROWS
variable {p : Program} {l : Launch} {e : Env} {R : Room} {s : State} {m : MethodId} {args : Array Value} {below : List Frame} {meth : Method} {c : Code} {H : Heap} {locs : List Loc} {cells slots : Nat} {Q : State → Prop}
variable {cc : ByteArray} {pc : Nat} {ls : Array Slot} {rest : List Value} {w : WD} {M : Mem} {z : BX} {n n1 : Nat} {f f1 : Nat → Int32}
theorem bI.T (h : bI w s H locs z n f M) : mT s := h.1.T
theorem bI.K (h : bI w s H locs z n f M) : va_K z.1 bCl [(z.2.2.2, .byte)] s := h.2.1.2.2.2
theorem bI.P (h : bI w s H locs z n f M) : va_P z.1 bCl (bW z n f) H := h.2.1.1
theorem bI.D (h : bI w s H locs z n f M) : va_D (bA w s.heap.size z) (bW z n f) := by
  have hne := h.2.1.2.2.1
  refine ⟨fun i j p q hi hj e => ?_, fun k q hk => ?_⟩
  · rcases i with _ | _ | i <;> rcases j with _ | _ | j <;> first | rfl | (cases hj; done) | (cases hi; done) | (cases hi; cases hj; first | exact absurd e hne | exact absurd e.symm hne)
  · rcases k with _ | _ | k
    · cases hk; exact Or.inr (Or.inl rfl)
    · cases hk; exact Or.inr (Or.inr rfl)
    · cases hk
theorem bI.no (h : bI w s H locs z n f M) : ¬ mA w H.size z.2.1 ∧ ¬ mA w H.size z.2.2.1 := by
  have hz := h.1.S.1
  obtain ⟨-, ⟨-, hne, -, -⟩, l1, l2⟩ := h
  refine ⟨?_, ?_⟩
  · rintro (⟨g, i, hg, q⟩ | q)
    · exact (hne g i hg).1 q.symm
    · omega
  · rintro (⟨g, i, hg, q⟩ | q)
    · exact (hne g i hg).2 q.symm
    · omega
theorem bW_P {D : va_G} {H1 : Heap} (h : va_P D bCl (bW z n f) H) (e1 : H1[z.2.1]? = H[z.2.1]?) (e2 : H1[z.2.2.1]? = H[z.2.2.1]?) : va_P D bCl (bW z n f) H1 := h.kept fun k q hk => by
  rcases k with _ | _ | k
  · cases hk; exact e1
  · cases hk; exact e2
  · cases hk
theorem bI.sub (h : bI w s H locs z n f M) : ∀ q, bA w H.size z q → bA w s.heap.size z q := fun q hq => by
  rcases hq with q1 | q1
  · exact h.1.sub q q1
  · exact Or.inr q1
theorem bI.pre (h : bI w s H locs z n f M) {U : State} (hU : U.heap = H) (hW : s.WarmedH U.vm) : bB w H.size z n f M U := by
  have hz := h.1.S.1
  have hsub := h.sub
  obtain ⟨hm, ⟨hP, hne, hd, hK⟩, l1, l2⟩ := h
  exact ⟨by rw [hU], ⟨by omega, by omega⟩, ⟨by rw [hU]; exact hm.P, hm.J, va_K.moved hW.alike hm.K, hm.T.warm hW, by rw [hU]; exact ((hm.St.kept (fun a h1 h2 => hm.S.2.1 a h1 h2)).moved hW).narrow hsub⟩, by rw [hU]; exact hP, hne, hd, va_K.moved hW.alike hK⟩
/-- behind a call that changes the builder -/
theorem b_after {st0 : List Value} {a : Array Value} {v : Option Value} (hr : va_Run p l e R s m args below meth c H locs cells slots 0 0 (F0 m pc ls st0) rest (bQ w H.size z v n1 f1 M a) (bA w H.size z)) (hI : bI w s H locs z n f M)
    (kk : ∀ (H1 : Heap) (locs1 : List Loc), bI w s H1 locs1 z n1 f1 M → W p l e R s m args below meth c H1 locs1 cells slots Q (F0 m (pc + 3) ls (v.toList ++ rest))) : W p l e R s m args below meth c H locs cells slots Q (F0 m pc ls st0) := by
  intro T hT X
  obtain ⟨v1, st₀, t, T', Ls, h0, X', hL, e1, e2, ⟨hv, hP1, hB1, hz, hk⟩, st⟩ := hr T hT X
  cases hv
  rw [h0] at hz hk
  have hS := hI.1.S
  have hsub := hI.sub
  obtain ⟨hm, ⟨hP, hne, hd, hK⟩, l1, l2⟩ := hI
  obtain ⟨t2, a1, b1⟩ := kk T'.heap (locs ++ Ls) ⟨hm.next (by rw [e1]; exact hP1) ⟨Nat.le_trans hS.1 (by rw [e1]; exact hz), fun q h1 h2 => by rw [e1, hk q (Nat.lt_of_lt_of_le h1 hS.1) (fun z => h2 (hsub q z))]; exact hS.2.1 q h1 h2, fun q hq => by
      rcases List.mem_append.mp hq with h | h
      · exact hS.2.2 q h
      · exact hsub _ (hL q h)⟩, ⟨by rw [e1]; exact hB1, hne, hd, hK⟩, l1, l2⟩ T' rfl X'
  exact ⟨t2, st t2 a1, b1⟩
/-- behind a call that changes neither -/
theorem b_afterM {st0 : List Value} {a : Array Value} {v : Option Value} (hr : va_Run p l e R s m args below meth c H locs cells slots 0 0 (F0 m pc ls st0) rest (mQ w H.size v M a) (mA w H.size)) (hI : bI w s H locs z n f M)
    (kk : ∀ (H1 : Heap) (locs1 : List Loc), bI w s H1 locs1 z n f M → W p l e R s m args below meth c H1 locs1 cells slots Q (F0 m (pc + 3) ls (v.toList ++ rest))) : W p l e R s m args below meth c H locs cells slots Q (F0 m pc ls st0) := by
  intro T hT X
  obtain ⟨v1, st₀, t, T', Ls, h0, X', hL, e1, e2, ⟨hv, hP1, hz, hk⟩, st⟩ := hr T hT X
  cases hv
  rw [h0] at hz hk
  have hS := hI.1.S
  have hle := hS.1
  have hn := hI.no
  obtain ⟨hm, ⟨hP, hne, hd, hK⟩, l1, l2⟩ := hI
  obtain ⟨t2, a1, b1⟩ := kk T'.heap (locs ++ Ls) ⟨hm.next (by rw [e1]; exact hP1) ⟨Nat.le_trans hS.1 (by rw [e1]; exact hz), fun q h1 h2 => by rw [e1, hk q (Nat.lt_of_lt_of_le h1 hS.1) (fun z => h2 (hm.sub q z))]; exact hS.2.1 q h1 h2, fun q hq => by
      rcases List.mem_append.mp hq with h | h
      · exact hS.2.2 q h
      · exact hm.sub _ (hL q h)⟩, ⟨by rw [e1]; exact bW_P hP (hk _ (by omega) hn.1) (hk _ (by omega) hn.2), hne, hd, hK⟩, l1, l2⟩ T' rfl X'
  exact ⟨t2, st t2 a1, b1⟩
/-- the builder as a receiver -/
theorem bI.recv (hI : bI w s H locs z n f M) : ∃ cell : Cell, H[z.2.1]? = some cell ∧ cell.vm.isStatics = false ∧ s.vm.findClass RJ4 = some cell.cls := va_recv hI.K hI.P (show bCl[0]? = some (RJ4, TJ4, 4) from rfl) (show (bW z n f)[0]? = some (z.2.1, .inr (0, [.ref z.2.2.1, .int 0, .int 0, .int (Int32.ofNat n)])) from rfl)
theorem bI.at (hI : bI w s H locs z n f M) : ClassAt s RJ4 (z.1.1 0) := (hI.K.1 0 _ rfl).2
theorem b_callV {y : MethodName} {bytes : ByteArray} {maxL nL k idx : Nat} {ret : Option FieldType} {rm : Room} {own : String} {As : List Value} {v : Option Value} (hx : p.tables.exec = Jvm.exec) (hb : c.code = cc) (hml : c.maxLocals = nL) (hown : s.vm.findClass own = some m.cls) (hI : bI w s H locs z n f M)
    (hM : bMet l y bytes maxL ret rm w H.size z n f M (.ref z.2.1 :: As) v n1 f1) (hcb : CallB R s args own idx y bytes maxL ret [Cond.code y bytes maxL ret] rm 0 0 k) (hin : (Cond.instanceMethod y).before args s = true) (hse : (Cond.selects RJ4 y y).before args s = true)
    (hn : As.length = k) (hsize : ls.size = nL) (hW : (rest.map fun v => v.category).sum ≤ 8) (hdg : decode cc pc = .ok (.invokevirtual idx, 3)) (hf : cells ≤ R.cells ∧ slots ≤ R.slots)
    (kk : ∀ (H1 : Heap) (locs1 : List Loc), bI w s H1 locs1 z n1 f1 M → W p l e R s m args below meth c H1 locs1 cells slots Q (F0 m (pc + 3) ls (v.toList ++ rest))) : W p l e R s m args below meth c H locs cells slots Q (F0 m pc ls (As.reverse ++ .ref z.2.1 :: rest)) :=
  b_after (va_runV (g := F0 m pc ls (As.reverse ++ .ref z.2.1 :: rest)) (Ts := []) (As := As) (rest := rest) ⟨hx, hb, hml, hown, fun _ h => nomatch h⟩ hM ⟨hcb, hin, hse⟩ ⟨bPre.blind, hI.recv, fun U hU hW => ⟨rfl, hI.pre hU hW⟩⟩ rfl hn hsize rfl (lv_room hW) hdg ⟨hf.1, hf.2⟩) hI kk
theorem b_callSU {y : MethodName} {bytes : ByteArray} {maxL nL k idx : Nat} {ret : Option FieldType} {rm : Room} {own : String} {As : List Value} {v : Option Value} (hx : p.tables.exec = Jvm.exec) (hb : c.code = cc) (hml : c.maxLocals = nL) (hown : s.vm.findClass own = some m.cls) (hI : bI w s H locs z n f M)
    (hM : bMet l y bytes maxL ret rm w H.size z n f M (.ref z.2.1 :: As) v n1 f1) (cw : va_CS R s args own idx y bytes maxL ret [Cond.code y bytes maxL ret] rm 0 0 k)
    (hn : As.length = k) (hsize : ls.size = nL) (hW : (rest.map fun v => v.category).sum ≤ 8) (hdg : decode cc pc = .ok (.invokespecial idx, 3)) (hf : cells ≤ R.cells ∧ slots ≤ R.slots)
    (kk : ∀ (H1 : Heap) (locs1 : List Loc), bI w s H1 locs1 z n1 f1 M → W p l e R s m args below meth c H1 locs1 cells slots Q (F0 m (pc + 3) ls (v.toList ++ rest))) : W p l e R s m args below meth c H locs cells slots Q (F0 m pc ls (As.reverse ++ .ref z.2.1 :: rest)) :=
  b_after (va_runSU (C := RJ4) (g := F0 m pc ls (As.reverse ++ .ref z.2.1 :: rest)) (Ts := []) (As := As) (rest := rest) hI.at ⟨hx, hb, hml, hown, fun _ h => nomatch h⟩ hM cw ⟨bPre.blind, hI.recv, fun U hU hW => ⟨rfl, hI.pre hU hW⟩⟩ rfl hn hsize rfl (lv_room hW) hdg ⟨hf.1, hf.2⟩) hI kk
/-- a method of another receiver that leaves the builder be -/
theorem b_callVm {y : MethodName} {bytes : ByteArray} {maxL nL k idx b0 : Nat} {ret : Option FieldType} {rm : Room} {own C : String} {As : List Value} {v : Option Value} (hx : p.tables.exec = Jvm.exec) (hb : c.code = cc) (hml : c.maxLocals = nL) (hown : s.vm.findClass own = some m.cls) (hI : bI w s H locs z n f M)
    (hM : mMet l y bytes maxL ret rm w H.size M (.ref b0 :: As) v M) (hcb : CallB R s args own idx y bytes maxL ret [Cond.code y bytes maxL ret] rm 0 0 k) (hin : (Cond.instanceMethod y).before args s = true) (hse : (Cond.selects C y y).before args s = true)
    (hrc : ∃ cell : Cell, H[b0]? = some cell ∧ cell.vm.isStatics = false ∧ s.vm.findClass C = some cell.cls) (hn : As.length = k) (hsize : ls.size = nL) (hW : (rest.map fun v => v.category).sum ≤ 8) (hdg : decode cc pc = .ok (.invokevirtual idx, 3)) (hf : cells ≤ R.cells ∧ slots ≤ R.slots)
    (kk : ∀ (H1 : Heap) (locs1 : List Loc), bI w s H1 locs1 z n f M → W p l e R s m args below meth c H1 locs1 cells slots Q (F0 m (pc + 3) ls (v.toList ++ rest))) : W p l e R s m args below meth c H locs cells slots Q (F0 m pc ls (As.reverse ++ .ref b0 :: rest)) :=
  b_afterM (va_runV (g := F0 m pc ls (As.reverse ++ .ref b0 :: rest)) (Ts := []) (As := As) (rest := rest) ⟨hx, hb, hml, hown, fun _ h => nomatch h⟩ hM ⟨hcb, hin, hse⟩ ⟨mPre.blind, hrc, fun U hU hW => ⟨rfl, by rw [hU], hI.1.pre hU hW⟩⟩ rfl hn hsize rfl (lv_room hW) hdg ⟨hf.1, hf.2⟩) hI kk
theorem b_callSm {y : MethodName} {bytes : ByteArray} {maxL nL k idx : Nat} {ret : Option FieldType} {rm : Room} {own : String} {As : List Value} {v : Option Value} (hx : p.tables.exec = Jvm.exec) (hb : c.code = cc) (hml : c.maxLocals = nL) (hown : s.vm.findClass own = some m.cls) (hI : bI w s H locs z n f M)
    (hM : mMet l y bytes maxL ret rm w H.size M As v M) (hcb : CallB R s args own idx y bytes maxL ret [Cond.code y bytes maxL ret] rm 0 0 k) (hst : (Cond.static y).before args s = true)
    (hn : As.length = k) (hsize : ls.size = nL) (hW : (rest.map fun v => v.category).sum ≤ 8) (hdg : decode cc pc = .ok (.invokestatic idx, 3)) (hf : cells ≤ R.cells ∧ slots ≤ R.slots)
    (kk : ∀ (H1 : Heap) (locs1 : List Loc), bI w s H1 locs1 z n f M → W p l e R s m args below meth c H1 locs1 cells slots Q (F0 m (pc + 3) ls (v.toList ++ rest))) : W p l e R s m args below meth c H locs cells slots Q (F0 m pc ls (As.reverse ++ rest)) :=
  b_afterM (va_runS (g := F0 m pc ls (As.reverse ++ rest)) (Ts := []) (As := As) (rest := rest) ⟨hx, hb, hml, hown, fun _ h => nomatch h⟩ hM ⟨hcb, hst⟩ ⟨mPre.blind, fun U hU hW => ⟨rfl, by rw [hU], hI.1.pre hU hW⟩⟩ rfl hn hsize rfl (lv_room hW) hdg ⟨hf.1, hf.2⟩) hI kk
theorem b_callS {y : MethodName} {bytes : ByteArray} {maxL nL k idx : Nat} {ret : Option FieldType} {rm : Room} {own : String} {As : List Value} {v : Option Value} (hx : p.tables.exec = Jvm.exec) (hb : c.code = cc) (hml : c.maxLocals = nL) (hown : s.vm.findClass own = some m.cls) (hI : bI w s H locs z n f M)
    (hM : bMet l y bytes maxL ret rm w H.size z n f M As v n1 f1) (hcb : CallB R s args own idx y bytes maxL ret [Cond.code y bytes maxL ret] rm 0 0 k) (hst : (Cond.static y).before args s = true)
    (hn : As.length = k) (hsize : ls.size = nL) (hW : (rest.map fun v => v.category).sum ≤ 8) (hdg : decode cc pc = .ok (.invokestatic idx, 3)) (hf : cells ≤ R.cells ∧ slots ≤ R.slots)
    (kk : ∀ (H1 : Heap) (locs1 : List Loc), bI w s H1 locs1 z n1 f1 M → W p l e R s m args below meth c H1 locs1 cells slots Q (F0 m (pc + 3) ls (v.toList ++ rest))) : W p l e R s m args below meth c H locs cells slots Q (F0 m pc ls (As.reverse ++ rest)) :=
  b_after (va_runS (g := F0 m pc ls (As.reverse ++ rest)) (Ts := []) (As := As) (rest := rest) ⟨hx, hb, hml, hown, fun _ h => nomatch h⟩ hM ⟨hcb, hst⟩ ⟨bPre.blind, fun U hU hW => ⟨rfl, hI.pre hU hW⟩⟩ rfl hn hsize rfl (lv_room hW) hdg ⟨hf.1, hf.2⟩) hI kk
/-- a String's method that writes the builder's bytes -/
theorem b_callVs {y : MethodName} {bytes : ByteArray} {maxL nL k idx b0 : Nat} {ret : Option FieldType} {rm : Room} {own C : String} {As : List Value} {v : Option Value} (hx : p.tables.exec = Jvm.exec) (hb : c.code = cc) (hml : c.maxLocals = nL) (hown : s.vm.findClass own = some m.cls) (hI : bI w s H locs z n f M)
    (hM : bMet l y bytes maxL ret rm w H.size z n f M (.ref b0 :: As) v n1 f1) (hcb : CallB R s args own idx y bytes maxL ret [Cond.code y bytes maxL ret] rm 0 0 k) (hin : (Cond.instanceMethod y).before args s = true) (hse : (Cond.selects C y y).before args s = true)
    (hrc : ∃ cell : Cell, H[b0]? = some cell ∧ cell.vm.isStatics = false ∧ s.vm.findClass C = some cell.cls) (hn : As.length = k) (hsize : ls.size = nL) (hW : (rest.map fun v => v.category).sum ≤ 8) (hdg : decode cc pc = .ok (.invokevirtual idx, 3)) (hf : cells ≤ R.cells ∧ slots ≤ R.slots)
    (kk : ∀ (H1 : Heap) (locs1 : List Loc), bI w s H1 locs1 z n1 f1 M → W p l e R s m args below meth c H1 locs1 cells slots Q (F0 m (pc + 3) ls (v.toList ++ rest))) : W p l e R s m args below meth c H locs cells slots Q (F0 m pc ls (As.reverse ++ .ref b0 :: rest)) :=
  b_after (va_runV (g := F0 m pc ls (As.reverse ++ .ref b0 :: rest)) (Ts := []) (As := As) (rest := rest) ⟨hx, hb, hml, hown, fun _ h => nomatch h⟩ hM ⟨hcb, hin, hse⟩ ⟨bPre.blind, hrc, fun U hU hW => ⟨rfl, hI.pre hU hW⟩⟩ rfl hn hsize rfl (lv_room hW) hdg ⟨hf.1, hf.2⟩) hI kk
/-- its fields -/
theorem b_get {own : String} {idx : Nat} (hx : p.tables.exec = Jvm.exec) (hb : c.code = cc) (hown : s.vm.findClass own = some m.cls) (hI : bI w s H locs z n f M) (k : Nat) (hk : k < 4) (hlink : (Cond.fieldLink own idx RJ5 (TJ4 k).2.1 (TJ4 k).2.2.1).before args s = true) (hr : (TJ4 k).1 = RJ5) {v : Value} (hv : ([.ref z.2.2.1, .int 0, .int 0, .int (Int32.ofNat n)] : List Value)[k]? = some v) (hdg : decode cc pc = .ok (.getfield idx, 3))
    (kk : W p l e R s m args below meth c H locs cells slots Q (F0 m (pc + 3) ls (v :: rest))) : W p l e R s m args below meth c H locs cells slots Q (F0 m pc ls (.ref z.2.1 :: rest)) :=
  va_get hx hb (wsJ4 hI.T) (fun _ h => h) hown hI.K hI.P 0 rfl rfl k hk hlink (fun x h => by rw [hr] at h; exact h) hv hdg kk
end BROWS
