/-! THE LAW'S METHODS: their contracts, calls of them, exceptions caught, longs, compares -/
/-- as Met.ofW, for a method with an exception table -/
theorem Met_ofWH {l : Launch} {y : MethodName} {ws ws' : List Cond} {rm : Room} {Pc : Array Value → State → Prop} {Qc : Array Value → State → Outcome → State → Prop} {mc ms : Nat} {free : Addr → Prop} {cc : ByteArray} {maxL : Nat} {ret : Option FieldType} {hh : List (Nat × Nat × Nat × Nat)}
    (hy : plainName y.cls = true) (hw : ws = Cond.codeWith y cc maxL ret hh :: ws')
    (body : ∀ p e s m args below meth c s₁, BodyLoose p l y (headSpec ws rm) cc maxL ret e s m args below meth c s₁ → c.maxLocals = maxL → c.exceptionTable.toList = tableOf hh → Pc args s →
      W p l e (headSpec ws rm).room s m args below meth c s.heap [] 0 0 (MQ below Qc args s mc ms free) (entryFrame m args maxL)) : Met l y ws rm Pc Qc mc ms free := by
  refine MetFree.of_bodyS (code := cc) (maxLocals := maxL) (ret := ret) hy ?_ ?_
  · intro args s m h hn
    obtain ⟨m9, meth, c, hn9, h1, h2, h3, h4, -, h5, h6, -⟩ := Cond.codeWith_spec (atoms_spec (ws := ws) h _ (by rw [hw]; exact List.mem_cons_self))
    cases hn.symm.trans hn9
    exact ⟨meth, c, h1, h2, h3, h4, h5, h6⟩
  · intro p e s m args below meth c s₁ B hml hP _
    have hh0 : s₁.heap = s.heap := by rw [B.state]; rfl
    have ht : c.exceptionTable.toList = tableOf hh := vx_table (x := y) B (atoms_spec (ws := ws) B.pre _ (by rw [hw]; exact List.mem_cons_self))
    obtain ⟨t, a1, o, b1, b2, b3⟩ := body p e s m args below meth c s₁ B hml ht hP s₁ hh0 (Stand.of_body B)
    exact ⟨t, o, a1, b1, b2, ⟨b3.1, b3.2⟩⟩
/-- a method of the law: it answers, whatever was thrown on the way was caught -/
abbrev kMet (l : Launch) (y : MethodName) (ws : List Cond) (rm : Room) (w : WD) (sz : Nat) (M : Mem) (av : List Value) (v : Option Value) (M1 : Mem) (mc ms : Nat) : Prop := Met l y ws rm (mPre w sz M av) (mQ w sz v M1) mc ms (mA w sz)
theorem k_of {l : Launch} {y : MethodName} {cc : ByteArray} {maxL mc ms : Nat} {ret : Option FieldType} {rm : Room} {w : WD} {sz : Nat} {M M1 : Mem} {av : List Value} {v : Option Value} (hy : plainName y.cls = true) (ha : (lg_sl av).length ≤ maxL)
    (body : ∀ (p : Program) (e : Env) (s : State) (m : MethodId) (args : Array Value) (below : List Frame) (meth : Method) (c : Code), p.tables.exec = Jvm.exec → c.code = cc → meth.sig.returnType = ret → c.maxLocals = maxL → s.vm.findClass y.cls = some m.cls → meth.locks = false →
      mI w s (mA w s.heap.size) s.heap [] M → ∀ ls : Array Slot, lv_has ls maxL (lv_args 0 av) → W p l e rm s m args below meth c s.heap [] 0 0 (MQ below (mQ w s.heap.size v M1) args s mc ms (mA w s.heap.size)) (F0 m 0 ls [])) : kMet l y [Cond.code y cc maxL ret] rm w sz M av v M1 mc ms := by
  refine Met.ofW (cc := cc) (maxL := maxL) (ret := ret) hy rfl ?_
  intro p e s m args below meth c s₁ B hml hv
  obtain ⟨rfl, rfl, hp⟩ := hv
  rw [lg_entry_eq]
  exact body p e s m _ below meth c B.exec B.bytes B.returns hml (findClass_of_methodNamed B.named) B.notSynchronized hp.start _ (lv_entry av ha)
theorem k_ofH {l : Launch} {y : MethodName} {cc : ByteArray} {maxL mc ms : Nat} {ret : Option FieldType} {hh : List (Nat × Nat × Nat × Nat)} {rm : Room} {w : WD} {sz : Nat} {M M1 : Mem} {av : List Value} {v : Option Value} (hy : plainName y.cls = true) (ha : (lg_sl av).length ≤ maxL)
    (body : ∀ (p : Program) (e : Env) (s : State) (m : MethodId) (args : Array Value) (below : List Frame) (meth : Method) (c : Code), p.tables.exec = Jvm.exec → c.code = cc → meth.sig.returnType = ret → c.maxLocals = maxL → c.exceptionTable.toList = tableOf hh → s.vm.findClass y.cls = some m.cls → meth.locks = false →
      mI w s (mA w s.heap.size) s.heap [] M → ∀ ls : Array Slot, lv_has ls maxL (lv_args 0 av) → W p l e rm s m args below meth c s.heap [] 0 0 (MQ below (mQ w s.heap.size v M1) args s mc ms (mA w s.heap.size)) (F0 m 0 ls [])) : kMet l y [Cond.codeWith y cc maxL ret hh] rm w sz M av v M1 mc ms := by
  refine Met_ofWH (cc := cc) (maxL := maxL) (ret := ret) hy rfl ?_
  intro p e s m args below meth c s₁ B hml hxt hv
  obtain ⟨rfl, rfl, hp⟩ := hv
  rw [lg_entry_eq]
  exact body p e s m _ below meth c B.exec B.bytes B.returns hml hxt (findClass_of_methodNamed B.named) B.notSynchronized hp.start _ (lv_entry av ha)
section KCAT
variable {α β : Type}
/-- a call whose exceptions are caught -/
def mcat (x : Option ((Nat ⊕ α) × Mem)) (kx : Nat → Mem → Option β) (k : α → Mem → Option β) : Option β := match x with
  | none => none
  | some (.inl n, m) => kx n m
  | some (.inr a, m) => k a m
theorem mcat_e {x : Option ((Nat ⊕ α) × Mem)} {kx : Nat → Mem → Option β} {k : α → Mem → Option β} {o : β} (h : mcat x kx k = some o) : (∃ n m, x = some (.inl n, m) ∧ kx n m = some o) ∨ ∃ a m, x = some (.inr a, m) ∧ k a m = some o := by
  unfold mcat at h
  split at h
  · cases h
  · exact Or.inl ⟨_, _, rfl, h⟩
  · exact Or.inr ⟨_, _, rfl, h⟩
def mcatp (x : Option (Nat ⊕ α)) (kx : Nat → Option β) (k : α → Option β) : Option β := match x with
  | none => none
  | some (.inl n) => kx n
  | some (.inr a) => k a
theorem mcatp_e {x : Option (Nat ⊕ α)} {kx : Nat → Option β} {k : α → Option β} {o : β} (h : mcatp x kx k = some o) : (∃ n, x = some (.inl n) ∧ kx n = some o) ∨ ∃ a, x = some (.inr a) ∧ k a = some o := by
  unfold mcatp at h
  split at h
  · cases h
  · exact Or.inl ⟨_, rfl, h⟩
  · exact Or.inr ⟨_, rfl, h⟩
end KCAT
section KROWS
variable {p : Program} {l : Launch} {e : Env} {R : Room} {s : State} {m : MethodId} {args : Array Value} {below : List Frame} {meth : Method} {c : Code} {H : Heap} {locs : List Loc} {cells slots mc ms : Nat} {Q : State → Prop}
variable {cc : ByteArray} {pc : Nat} {ls : Array Slot} {rest : List Value} {A : Nat → Prop} {w : WD} {M M1 M9 : Mem}
-- behind a call
theorem k_after {st0 : List Value} {a : Array Value} {v : Option Value} (hr : va_Run p l e R s m args below meth c H locs cells slots mc ms (F0 m pc ls st0) rest (mQ w H.size v M1 a) (mA w H.size)) (hI : mI w s A H locs M)
    (kk : ∀ (H1 : Heap) (locs1 : List Loc), mI w s A H1 locs1 M1 → W p l e R s m args below meth c H1 locs1 (cells + mc) (slots + ms) Q (F0 m (pc + 3) ls (v.toList ++ rest))) : W p l e R s m args below meth c H locs cells slots Q (F0 m pc ls st0) := by
  intro T hT X
  obtain ⟨v1, st₀, t, T', L, h0, X', hL, e1, e2, ⟨hv, hP1, hz, hk⟩, st⟩ := hr T hT X
  cases hv
  rw [h0] at hz hk
  have hS := hI.S
  obtain ⟨t2, a1, b1⟩ := kk T'.heap (locs ++ L) (hI.next (by rw [e1]; exact hP1) ⟨Nat.le_trans hS.1 (by rw [e1]; exact hz), fun q h1 h2 => by rw [e1, hk q (Nat.lt_of_lt_of_le h1 hS.1) (fun z => h2 (hI.sub q z))]; exact hS.2.1 q h1 h2, fun q hq => by
      rcases List.mem_append.mp hq with h | h
      · exact hS.2.2 q h
      · exact hI.sub _ (hL q h)⟩) T' rfl X'
  exact ⟨t2, st t2 a1, b1⟩
theorem k_callS {y : MethodName} {bytes : ByteArray} {maxL nL n idx : Nat} {ret : Option FieldType} {rm : Room} {own : String} {As : List Value} {v : Option Value} (hx : p.tables.exec = Jvm.exec) (hb : c.code = cc) (hml : c.maxLocals = nL) (hown : s.vm.findClass own = some m.cls) (hI : mI w s A H locs M)
    (hM : kMet l y [Cond.code y bytes maxL ret] rm w H.size M As v M1 mc ms) (hcb : CallB R s args own idx y bytes maxL ret [Cond.code y bytes maxL ret] rm mc ms n) (hst : (Cond.static y).before args s = true)
    (hn : As.length = n) (hsize : ls.size = nL) (hW : (rest.map fun v => v.category).sum ≤ 8) (hdg : decode cc pc = .ok (.invokestatic idx, 3)) (hf : cells + mc ≤ R.cells ∧ slots + ms ≤ R.slots)
    (kk : ∀ (H1 : Heap) (locs1 : List Loc), mI w s A H1 locs1 M1 → W p l e R s m args below meth c H1 locs1 (cells + mc) (slots + ms) Q (F0 m (pc + 3) ls (v.toList ++ rest))) : W p l e R s m args below meth c H locs cells slots Q (F0 m pc ls (As.reverse ++ rest)) :=
  k_after (va_runS (g := F0 m pc ls (As.reverse ++ rest)) (Ts := []) (As := As) (rest := rest) ⟨hx, hb, hml, hown, fun _ h => nomatch h⟩ hM ⟨hcb, hst⟩ ⟨mPre.blind, fun U hU hW => ⟨rfl, by rw [hU], hI.pre hU hW⟩⟩ rfl hn hsize rfl (lv_room hW) hdg ⟨hf.1, hf.2⟩) hI kk
theorem k_callH {y : MethodName} {bytes : ByteArray} {maxL nL n idx : Nat} {ret : Option FieldType} {hh : List (Nat × Nat × Nat × Nat)} {rm : Room} {own : String} {As : List Value} {v : Option Value} (hx : p.tables.exec = Jvm.exec) (hb : c.code = cc) (hml : c.maxLocals = nL) (hown : s.vm.findClass own = some m.cls) (hI : mI w s A H locs M)
    (hM : kMet l y [Cond.codeWith y bytes maxL ret hh] rm w H.size M As v M1 mc ms) (cw : vx_CSW R s args own idx y bytes maxL ret hh [Cond.codeWith y bytes maxL ret hh] rm mc ms n)
    (hn : As.length = n) (hsize : ls.size = nL) (hW : (rest.map fun v => v.category).sum ≤ 8) (hdg : decode cc pc = .ok (.invokestatic idx, 3)) (hf : cells + mc ≤ R.cells ∧ slots + ms ≤ R.slots)
    (kk : ∀ (H1 : Heap) (locs1 : List Loc), mI w s A H1 locs1 M1 → W p l e R s m args below meth c H1 locs1 (cells + mc) (slots + ms) Q (F0 m (pc + 3) ls (v.toList ++ rest))) : W p l e R s m args below meth c H locs cells slots Q (F0 m pc ls (As.reverse ++ rest)) :=
  k_after (vx_runSW (cells := cells) (slots := slots) (locs := locs) (R := R) (e := e) (below := below) (meth := meth) (g := F0 m pc ls (As.reverse ++ rest)) (Ts := []) (As := As) (rest := rest) ⟨hx, hb, hml, hown, fun _ h => nomatch h⟩ hM cw ⟨mPre.blind, fun U hU hW => ⟨rfl, by rw [hU], hI.pre hU hW⟩⟩ rfl hn hsize rfl (lv_room hW) hdg hf) hI kk
/-- a call of the class that throws, inside a try -/
theorem k_callX {γ : Type} {f : γ → Option Value} {n9 : Nat} {y : MethodName} {bytes : ByteArray} {maxL nL n idx : Nat} {ret : Option FieldType} {rm : Room} {own C : String} {b : Nat} {As : List Value} (hx : p.tables.exec = Jvm.exec) (hb : c.code = cc) (hml : c.maxLocals = nL) (hown : s.vm.findClass own = some m.cls) (hI : mI w s A H locs M)
    (hM : mMetx l y bytes maxL ret rm w H.size M (.ref b :: As) (mo f (.inl n9)) M1 mc ms) (hcb : CallB R s args own idx y bytes maxL ret [Cond.code y bytes maxL ret] rm mc ms n) (hin : (Cond.instanceMethod y).before args s = true) (hse : (Cond.selects C y y).before args s = true)
    (hrc : ∃ cell : Cell, H[b]? = some cell ∧ cell.vm.isStatics = false ∧ s.vm.findClass C = some cell.cls) (hn : As.length = n) (hsize : ls.size = nL) (hW : (rest.map fun v => v.category).sum ≤ 8) (hdg : decode cc pc = .ok (.invokevirtual idx, 3)) (hf : cells + mc ≤ R.cells ∧ slots + ms ≤ R.slots)
    (kx : ∀ (ce : Cell) (q : Addr) (H1 : Heap) (locs1 : List Loc), mI w s A H1 locs1 M1 → H1[q]? = some ce → ce.vm = .none → s.vm.findClass (mXn n9) = some ce.cls → vx_W p l e R s m args below meth c H1 locs1 (cells + mc) (slots + ms) Q (F0 m pc ls rest) q) : W p l e R s m args below meth c H locs cells slots Q (F0 m pc ls (As.reverse ++ .ref b :: rest)) :=
  m_afterX (vx_runV (g := F0 m pc ls (As.reverse ++ .ref b :: rest)) (Ts := []) (As := As) (rest := rest) ⟨hx, hb, hml, hown, fun _ h => nomatch h⟩ hM ⟨hcb, hin, hse⟩ ⟨mPre.blind, hrc, fun U hU hW => ⟨rfl, by rw [hU], hI.pre hU hW⟩⟩ rfl hn hsize rfl (lv_room hW) hdg ⟨hf.1, hf.2⟩) rfl hI kx
/-- what a call of a helper of the law asks -/
theorem k_cw {y : MethodName} {bytes : ByteArray} {maxL n idx : Nat} {ret : Option FieldType} {hh : List (Nat × Nat × Nat × Nat)} {rm : Room} {own : String} (hT : mT s) (hcode : Cond.codeWith y bytes maxL ret hh ∈ lw_tbl) (hini : Cond.initialized y.cls ∈ lw_tbl) (hlink : (Cond.methodLink own idx y).before args s = true) (hst : (Cond.static y).before args s = true)
    (hd : y.cls ≠ "java/lang/invoke/MethodHandle" ∧ y.cls ≠ "java/lang/invoke/VarHandle" ∧ (parseMethodDescriptor y.desc).map (fun d => d.parameters.length) = some n) (hrm : rm.cells = mc ∧ rm.slots = ms ∧ rm.frames + 1 ≤ R.frames ∧ 8 + (maxL + 11) + rm.locals ≤ R.locals) :
    vx_CSW R s args own idx y bytes maxL ret hh [Cond.codeWith y bytes maxL ret hh] rm mc ms n := by
  refine ⟨⟨hrm.1, hrm.2.1, hrm.2.2.1, hrm.2.2.2, fun w hw a' U hW => ?_, List.mem_cons_self⟩, hT _ hcode rfl _, hT _ hini rfl _, ⟨hd.1, hd.2.1⟩, fun sig h => ?_, hlink, hst⟩
  · obtain rfl := List.mem_singleton.mp hw
    exact word_at hW (good_of_word rfl) (hT _ hcode rfl args)
  · have h2 := hd.2.2
    rw [h] at h2
    exact (Option.some.inj h2).symm
-- ends
theorem k_iretf (hx : p.tables.exec = Jvm.exec) (hb : c.code = cc) (hr : meth.sig.returnType = some .int) (hlocks : meth.locks = false) (hI : mI w s (mA w s.heap.size) H locs M) {v r : Int32} (hf : some (v, M) = some (r, M9)) (hdg : decode cc pc = .ok (.ireturn, 1)) (h1 : cells ≤ mc) (h2 : slots ≤ ms) :
    W p l e R s m args below meth c H locs cells slots (MQ below (mQ w s.heap.size (some (.int r)) M9) args s mc ms (mA w s.heap.size)) (F0 m pc ls [.int v]) := by
  cases hf; exact W.widen h1 h2 (W.iret hx hb hr hI.ret hI.S.2.2 hdg hlocks)
theorem k_iretp (hx : p.tables.exec = Jvm.exec) (hb : c.code = cc) (hr : meth.sig.returnType = some .int) (hlocks : meth.locks = false) (hI : mI w s (mA w s.heap.size) H locs M) {v r : Int32} (hf : some v = some r) (hdg : decode cc pc = .ok (.ireturn, 1)) (h1 : cells ≤ mc) (h2 : slots ≤ ms) :
    W p l e R s m args below meth c H locs cells slots (MQ below (mQ w s.heap.size (some (.int r)) M) args s mc ms (mA w s.heap.size)) (F0 m pc ls [.int v]) := by
  cases hf; exact W.widen h1 h2 (W.iret hx hb hr hI.ret hI.S.2.2 hdg hlocks)
theorem k_fretf (hx : p.tables.exec = Jvm.exec) (hb : c.code = cc) (hr : meth.sig.returnType = some .float) (hlocks : meth.locks = false) (hI : mI w s (mA w s.heap.size) H locs M) {v r : UInt32} (hf : some (v, M) = some (r, M9)) (hdg : decode cc pc = .ok (.freturn, 1)) (h1 : cells ≤ mc) (h2 : slots ≤ ms) :
    W p l e R s m args below meth c H locs cells slots (MQ below (mQ w s.heap.size (some (.float r)) M9) args s mc ms (mA w s.heap.size)) (F0 m pc ls [.float v]) := by
  cases hf; exact W.widen h1 h2 (W.fret hx hb hr hI.ret hI.S.2.2 hdg hlocks)
theorem k_fretp (hx : p.tables.exec = Jvm.exec) (hb : c.code = cc) (hr : meth.sig.returnType = some .float) (hlocks : meth.locks = false) (hI : mI w s (mA w s.heap.size) H locs M) {v r : UInt32} (hf : some v = some r) (hdg : decode cc pc = .ok (.freturn, 1)) (h1 : cells ≤ mc) (h2 : slots ≤ ms) :
    W p l e R s m args below meth c H locs cells slots (MQ below (mQ w s.heap.size (some (.float r)) M) args s mc ms (mA w s.heap.size)) (F0 m pc ls [.float v]) := by
  cases hf; exact W.widen h1 h2 (W.fret hx hb hr hI.ret hI.S.2.2 hdg hlocks)
theorem k_zretf (hx : p.tables.exec = Jvm.exec) (hb : c.code = cc) {ty : FieldType} (hr : meth.sig.returnType = some ty) (hlocks : meth.locks = false) (hI : mI w s (mA w s.heap.size) H locs M) {v r : Int32} (hn : narrow ty (.int v) = .int v) (hf : some (v, M) = some (r, M9)) (hdg : decode cc pc = .ok (.ireturn, 1)) (h1 : cells ≤ mc) (h2 : slots ≤ ms) :
    W p l e R s m args below meth c H locs cells slots (MQ below (mQ w s.heap.size (some (.int r)) M9) args s mc ms (mA w s.heap.size)) (F0 m pc ls [.int v]) := by
  cases hf; exact W.widen h1 h2 (W.zret hx hb hr hn hI.ret hI.S.2.2 hdg hlocks)
theorem k_lretf (hx : p.tables.exec = Jvm.exec) (hb : c.code = cc) (hr : meth.sig.returnType = some .long) (hlocks : meth.locks = false) (hI : mI w s (mA w s.heap.size) H locs M) {v r : Int64} (hf : some (v, M) = some (r, M9)) (hdg : decode cc pc = .ok (.lreturn, 1)) (h1 : cells ≤ mc) (h2 : slots ≤ ms) :
    W p l e R s m args below meth c H locs cells slots (MQ below (mQ w s.heap.size (some (.long r)) M9) args s mc ms (mA w s.heap.size)) (F0 m pc ls [.long v]) := by
  cases hf; exact W.widen h1 h2 (W.lret hx hb hr hI.ret hI.S.2.2 hdg hlocks)
theorem k_zretp (hx : p.tables.exec = Jvm.exec) (hb : c.code = cc) {ty : FieldType} (hr : meth.sig.returnType = some ty) (hlocks : meth.locks = false) (hI : mI w s (mA w s.heap.size) H locs M) {v r : Int32} (hn : narrow ty (.int v) = .int v) (hf : some v = some r) (hdg : decode cc pc = .ok (.ireturn, 1)) (h1 : cells ≤ mc) (h2 : slots ≤ ms) :
    W p l e R s m args below meth c H locs cells slots (MQ below (mQ w s.heap.size (some (.int r)) M) args s mc ms (mA w s.heap.size)) (F0 m pc ls [.int v]) := by
  cases hf; exact W.widen h1 h2 (W.zret hx hb hr hn hI.ret hI.S.2.2 hdg hlocks)
theorem k_lretp (hx : p.tables.exec = Jvm.exec) (hb : c.code = cc) (hr : meth.sig.returnType = some .long) (hlocks : meth.locks = false) (hI : mI w s (mA w s.heap.size) H locs M) {v r : Int64} (hf : some v = some r) (hdg : decode cc pc = .ok (.lreturn, 1)) (h1 : cells ≤ mc) (h2 : slots ≤ ms) :
    W p l e R s m args below meth c H locs cells slots (MQ below (mQ w s.heap.size (some (.long r)) M) args s mc ms (mA w s.heap.size)) (F0 m pc ls [.long v]) := by
  cases hf; exact W.widen h1 h2 (W.lret hx hb hr hI.ret hI.S.2.2 hdg hlocks)
-- compares, a long named
theorem k_topl {x : Int64} (k : ∀ y : Int64, y = x → W p l e R s m args below meth c H locs cells slots Q (F0 m pc ls (.long y :: rest))) : W p l e R s m args below meth c H locs cells slots Q (F0 m pc ls (.long x :: rest)) := k x rfl
theorem k_fcmpl (hexec : p.tables.exec = Jvm.exec) (hb : c.code = cc) {x y : UInt32} (hdg : decode cc pc = .ok (.fcmp .l, 1))
    (k : W p l e R s m args below meth c H locs cells slots Q (F0 m (pc + 1) ls (.int (FP.cmpInt (-1) (FP.fcmp x y)) :: rest))) : W p l e R s m args below meth c H locs cells slots Q (F0 m pc ls (.float y :: .float x :: rest)) := by
  intro T hT X
  obtain ⟨t, a, b⟩ := k T hT X
  refine ⟨t, ?_, b⟩
  cases h : FP.fcmp x y with
  | none => rw [h] at a; jvm_step X.here [X.here.top, hexec, hb, hdg, h]; exact a
  | some q =>
    cases q
    · rw [h] at a; jvm_step X.here [X.here.top, hexec, hb, hdg, h]; exact a
    · rw [h] at a; jvm_step X.here [X.here.top, hexec, hb, hdg, h]; exact a
    · rw [h] at a; jvm_step X.here [X.here.top, hexec, hb, hdg, h]; exact a
theorem k_dcmpl (hexec : p.tables.exec = Jvm.exec) (hb : c.code = cc) {x y : UInt64} (hdg : decode cc pc = .ok (.dcmp .l, 1))
    (k : W p l e R s m args below meth c H locs cells slots Q (F0 m (pc + 1) ls (.int (FP.cmpInt (-1) (FP.dcmp x y)) :: rest))) : W p l e R s m args below meth c H locs cells slots Q (F0 m pc ls (.double y :: .double x :: rest)) := by
  intro T hT X
  obtain ⟨t, a, b⟩ := k T hT X
  refine ⟨t, ?_, b⟩
  cases h : FP.dcmp x y with
  | none => rw [h] at a; jvm_step X.here [X.here.top, hexec, hb, hdg, h]; exact a
  | some q =>
    cases q
    · rw [h] at a; jvm_step X.here [X.here.top, hexec, hb, hdg, h]; exact a
    · rw [h] at a; jvm_step X.here [X.here.top, hexec, hb, hdg, h]; exact a
    · rw [h] at a; jvm_step X.here [X.here.top, hexec, hb, hdg, h]; exact a
end KROWS
