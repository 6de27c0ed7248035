/-! texts, constants of Word, throws: rows that stand on single words -/
section UPG
variable {p : Program} {l : Launch} {e : Env} {R : Room} {s : State} {m : MethodId} {args : Array Value} {below : List Frame} {meth : Method} {c : Code} {T : State} {locs : List Loc} {cells slots : Nat}
/-- a getter of an int that the named class inherits, walked by hand: its class need not be said to be initialized -/
theorem m_upGet (X : Stand p l e R s m args below meth c T locs cells slots) (hexec : p.tables.exec = Jvm.exec) {own C owner ref name desc : String} {index fi : Nat} {x y : MethodName} {bytes : ByteArray}
    (hown : s.vm.findClass own = some m.cls) (hlink : (Cond.methodLink own index x).before args s = true) (hsame : (Cond.sameMethod x.cls owner x.name x.desc).before args s = true)
    (hdecl : (Cond.declares ⟨owner, x.name, x.desc⟩).before args s = true) (howner : owner ≠ "java/lang/invoke/MethodHandle" ∧ owner ≠ "java/lang/invoke/VarHandle")
    (hsel : (Cond.selects C x y).before args s = true) (hinst : (Cond.instanceMethod y).before args s = true) (hcode : (Cond.code y bytes 1 (some .int)).before args s = true) (hplain : plainName y.cls = true)
    (d0 : decode bytes 0 = .ok (.aload_n 0, 1)) (d1 : decode bytes 1 = .ok (.getfield fi, 3)) (d4 : decode bytes 4 = .ok (.ireturn, 1)) (hfl : (Cond.fieldLink y.cls fi ref name desc).before args s = true)
    {cf i : Nat} {k : Class} {f : Field} (hi : s.fieldFound? ref name desc = some (cf, k, i, f)) (hst : f.isStatic = false)
    {b : Addr} {cellB : Cell} {v : Int32} (hcls : s.vm.findClass C = some cellB.cls) (hcellB : T.heap[b]? = some cellB) (hknown : cellB.vm ≠ .unknown) (hstatB : cellB.vm.isStatics = false) (hslot : cellB.slots[f.slot]? = some (.int v))
    {g : JFrame} (hg : g.method = m) (hsize : g.locals.size = c.maxLocals) {rest : List Value} (hlen : ∀ sig, parseMethodDescriptor x.desc = some sig → 0 = sig.parameters.length)
    (hstack : g.stack = .ref b :: rest) (hdg : decode c.code g.pc = .ok (.invokevirtual index, 3))
    (hframes : 1 ≤ R.frames) (hlocals : 2 * g.monitorRoom + (rest.map fun v => v.category).sum + 12 ≤ R.locals) :
    ∃ vm', Stand p l e R s m args below meth c (T.setVm vm') locs cells slots ∧
      ∀ target, Steps p.tables e below ((T.setVm vm').setTop { g with pc := g.pc + 3, stack := .int v :: rest }) target → Steps p.tables e below (T.setTop g) target := by
  have hgm := hg
  subst hg
  obtain ⟨r0, r, hn, hrm, hstR, hsigR⟩ := Cond.declares_spec hdecl
  obtain ⟨cn, ck, r1, hcn, hck, hni, hf, hn1⟩ := Cond.sameMethod_found hsame
  cases hn.symm.trans hn1
  obtain ⟨mk, methM, hnamed, hmethM, -, habM⟩ := Cond.instanceMethod_spec hinst
  obtain ⟨methM', cM, hmethM', hcodeM', hbM, hlocalsM, hretM, hlockM, -, -⟩ := Cond.code_spec hnamed hcode
  cases hmethM.symm.trans hmethM'
  obtain ⟨c2, r2, m2, q1, q2, q3, q4, kP, hkP, hkPi⟩ := Cond.selects_spec hsel
  cases hcls.symm.trans q1
  cases hf.symm.trans q2
  cases hnamed.symm.trans q3
  have hselP : selectMethod e.platform s.vm cellB.cls r0 = .method mk := by rw [Launch.admits_selectMethod X.admits]; exact q4
  obtain ⟨vm₁, X₁, hstep₁⟩ := X.invokevirtualUp hexec hown hlink hsame howner hn hrm hstR (a := b) (cell := cellB) hcellB
    (fun z h => by rw [h] at hstatB; cases hstatB) hselP hmethM habM hkP hkPi (g := g) rfl (argsL := []) (rest := rest) (hlen _ hsigR) hstack hdg
  have hW₁ : s.WarmedH vm₁ := X₁.warmed
  have hm₁ : (T.setVm vm₁).vm.method? mk = some methM := by show vm₁.method? mk = _; rw [hW₁.alike.method?]; exact hmethM
  obtain ⟨kT, hkT, hnameT⟩ := className_of_methodNamed hnamed
  have hplainT : (T.setVm vm₁).plainMethod mk := by
    refine State.plainMethod.of_name ?_
    intro k hk
    obtain ⟨k', hk', he'⟩ := hW₁.alike.2.2 _ _ hkT
    cases (show vm₁.classes[mk.cls]? = some k from hk).symm.trans hk'
    rw [he']; show plainName kT.name = true; rw [hnameT]; exact hplain
  have hAt₁ : At (T.setVm vm₁) ({ g with stack := rest } : JFrame).method c below := X₁.here
  have hU := hAt₁.enter #[.ref b] hm₁ hcodeM' hplainT
  rw [hlocalsM] at hU
  have hfU : (((T.setVm vm₁).setTop { g with stack := rest }).pushFrame (.java (entryFrame mk #[.ref b] 1))).frames = .java (entryFrame mk #[.ref b] 1) :: .java { g with stack := rest } :: below := by
    rw [frames_entered (s := T.setVm vm₁) (g := { g with stack := rest }) X₁.here.top, X₁.tail]
  have hback : ∀ vm, ((((T.setVm vm₁).setTop { g with stack := rest }).pushFrame (.java (entryFrame mk #[.ref b] 1))).setVm vm).setFrames (.java { g with stack := rest } :: below) = (T.setVm vm).setTop { g with stack := rest } := by
    intro vm
    have h := setFrames_entered (s := T.setVm vm) (g := { g with stack := rest }) X.here.top (.java (entryFrame mk #[.ref b] 1))
    rw [show (T.setVm vm).frames.tail = below from X.tail] at h
    exact h
  have hstart : ∀ acts, (doInvoke e ((T.setVm vm₁).setTop { g with stack := rest }) acts mk #[.ref b]).1 = (((T.setVm vm₁).setTop { g with stack := rest }).pushFrame (.java (entryFrame mk #[.ref b] 1))).setTop { method := mk, pc := 0, locals := #[.val (.ref b)], stack := [], locked := none } := by
    intro acts
    rw [doInvoke_enter (g := { g with stack := rest }) X₁.here.top acts hm₁ hcodeM' hlockM (X₁.notFull (g := { g with stack := rest }) hsize hframes (by rw [hlocalsM]; show 2 * g.monitorRoom + (rest.map fun v => v.category).sum + (1 + 11) ≤ R.locals; omega)), hlocalsM]
    rfl
  have hUvm : s.WarmedH (((T.setVm vm₁).setTop { g with stack := rest }).pushFrame (.java (entryFrame mk #[.ref b] 1))).vm := hW₁
  have hUh : (((T.setVm vm₁).setTop { g with stack := rest }).pushFrame (.java (entryFrame mk #[.ref b] 1))).heap[b]? = some cellB := hcellB
  have hUm : (((T.setVm vm₁).setTop { g with stack := rest }).pushFrame (.java (entryFrame mk #[.ref b] 1))).vm.method? mk = some methM := hm₁
  generalize (((T.setVm vm₁).setTop { g with stack := rest }).pushFrame (.java (entryFrame mk #[.ref b] 1))) = U at hU hfU hback hstart hUvm hUh hUm
  have hpl : e.platform.magicAccessors = ({} : Platform).magicAccessors := by rw [X.admits.platform]
  obtain ⟨ci', cfl, k', i', f', hi', hlinks, hright⟩ := Cond.fieldLink_spec (findClass_of_methodNamed hnamed) hfl e.platform hpl
  cases hi.symm.trans hi'
  obtain ⟨hk, hff⟩ := State.fieldFound?_spec hi
  obtain ⟨vm₂, hgives, hW₂, hready, hfi⟩ := State.fieldEntry (e := e) hUvm hlinks hright hk hff
  have hU₂ := hU.setVm (vm' := vm₂) (hUvm.alike.symm.trans hW₂.alike)
  have hm₂ : (U.setVm vm₂).vm.method? mk = some methM := by show vm₂.method? mk = _; rw [hW₂.alike.method?]; exact hmethM
  refine ⟨vm₂, X.noted hW₂, fun target hrest => hstep₁ target fun acts => ?_⟩
  show Steps p.tables e below (doInvoke e ((T.setVm vm₁).setTop { g with stack := rest }) acts mk #[.ref b]).1 target
  rw [hstart]
  jvm_step hU [hU.top, hexec, hbM, d0, Value.isRef]
  jvm_step hU [hexec, hbM, d1, getfield.wp_cold (e := e) (s := U) (f := { method := mk, pc := 1, locals := #[.val (.ref b)], stack := [.ref b], locked := none }) hU.top hgives hready hfi,
    getfield.wp_ready (e := e) (s := U.setVm vm₂) (f := { method := mk, pc := 1, locals := #[.val (.ref b)], stack := [.ref b], locked := none }) (rest := []) hU.top hready hst rfl (show (U.setVm vm₂).heap[b]? = some cellB from hUh) hknown hslot]
  jvm_step hU₂ [hU₂.top, hexec, hbM, d4, hm₂, hretM, narrow]
  have htop : ∀ h : JFrame, ((U.setVm vm₂).setTop h).topJava? = some h := fun h => State.topJava?_setTop' h hU₂.top
  refine ⟨_, htop _, _, _, rfl, _, hm₂, _, hretM, fun acts => ?_⟩
  have hcg : (U.setVm vm₂).code? ({ g with stack := rest } : JFrame).method = some c := by
    have h := (X.noted hW₂).here.code
    rw [State.code?_eq] at h ⊢
    exact h
  rw [doReturn_leave (u := U.setVm vm₂) (g := { g with stack := rest }) (f := { method := mk, pc := 4, locals := #[.val (.ref b)], stack := [], locked := none }) (meth := methM) (cg := c) (ig := .invokevirtual index) (len := 3) acts hfU hm₂ hlockM rfl rfl hcg hdg, hback]
  simpa using hrest
end UPG
section THX
variable {p : Program} {l : Launch} {e : Env} {R : Room} {s : State} {m : MethodId} {args : Array Value} {below : List Frame} {meth : Method} {c : Code} {W0 : State} {locs : List Loc} {cells slots : Nat}
/-- from 'invokespecial X.<init>(String)' to 'threw', the trace off, where X's constructor has other bytes than its superclasses' have: what is kept is the class of what is thrown -/
theorem m_ctorX (X : Stand p l e R s m args below meth c W0 locs cells slots) (hexec : p.tables.exec = Jvm.exec) (htr : e.platform.stackTraces = false) {own cls : String} {names : List String} {ic ix : Nat} {rx : ByteArray}
    (x0 : decode rx 0 = .ok (.aload_n 0, 1)) (x1 : decode rx 1 = .ok (.aload_n 1, 1)) (x2 : decode rx 2 = .ok (.invokespecial ix, 3)) (x5 : decode rx 5 = .ok (.return_, 1))
    (hown : s.vm.findClass own = some m.cls) (hcls : Bundle.fit cls = true) (hnames : ∀ n ∈ names, Bundle.fit n = true) (h : ∀ a ∈ Bundle.ownAtomsX own ic cls ix rx names, a.before args s = true)
    (hlocs : ∀ x ∈ locs, ∀ cell, s.heap[x.base]? = some cell → cell.vm.isStatics = false)
    {a : Addr} {cX : ClassId} {kX : Class} (hfX : s.vm.findClass cls = some cX) (hkX : s.vm.classes[cX]? = some kX) (hcell : W0.heap[a]? = some (freshCell cX kX)) (hnew : s.heap.size ≤ a) {msg : Value} (hmsg : msg.isRef = true)
    {g : JFrame} (hg : g.method = m) (hsize : g.locals.size = c.maxLocals) (hlocked : g.locked = none) (hentered : g.entered = []) {rest : List Value} (hstack : g.stack = msg :: .ref a :: .ref a :: rest)
    (hd6 : decode c.code g.pc = .ok (.invokespecial ic, 3)) (hd9 : decode c.code (g.pc + 3) = .ok (.athrow, 1)) (hout : ∀ x ∈ c.exceptionTable.toList, covers x (g.pc + 3) = false)
    (hRframes : names.length + 3 < R.frames) (hRlocals : 2 * g.monitorRoom + ((Value.ref a :: rest).map fun v => v.category).sum + (13 * (names.length + 1) + 42) ≤ R.locals) (hlocks : meth.locks = false) :
    ∃ U : State, Steps p.tables e below (W0.setTop g) U ∧ U.status = .running ∧ Ended U below (.threw a) ∧ s.WarmedH U.vm ∧ s.sameButNew ({ U with vm := s.vm } : State) locs cells slots ∧
      ∃ ce, U.heap[a]? = some ce ∧ ce.cls = cX ∧ ce.vm = .none := by
  have hP := X.admits.platform
  have hpl : e.platform.magicAccessors = ({} : Platform).magicAccessors := by rw [hP]
  have a' : ∀ x, x ∈ Bundle.ownAtomsX own ic cls ix rx names → x.holds args s none s [] = true := fun x hx => h x hx
  obtain ⟨T, Z0, L, -, Y⟩ := ThrowableC.of_atoms (args := args) (by rw [hP]) (by rw [hP]) hpl (fun x hx => h x (by simp [Bundle.ownAtomsX, hx]))
  obtain ⟨Z, M, LZ, LM, hnZ⟩ := Init0T.ofS_atoms (args := args) hpl L Y (fun x hx => h x (by simp [Bundle.ownAtomsX, hx]))
  obtain ⟨P1, Ps, hlen, L1, hL, hP1m, hlk1, hlk⟩ := Bundle.chainSX (args := args) hpl hnZ x0 x1 x2 x5 names cls hcls hnames (fun x hx => h x (by simp [Bundle.ownAtomsX, hx]))
  have hfound : s.vm.findClass cls = some P1.m.cls := findClass_of_methodNamed hP1m
  cases hfX.symm.trans hfound
  obtain ⟨c1, kX', hc1, hk, hord, -, -, -⟩ := Cond.instantiable_spec (a' (.instantiable cls 6) (by simp [Bundle.ownAtomsX]))
  cases hc1.symm.trans hfound
  cases hkX.symm.trans hk
  have sel : ∀ {y : MethodName} {mm : MethodId}, s.methodNamed? y = some mm → y.cls ≠ "java/lang/invoke/MethodHandle" ∧ y.cls ≠ "java/lang/invoke/VarHandle" → (Cond.selects cls y y).holds args s none s [] = true → selectMethod e.platform s.vm P1.m.cls mm = .method mm := by
    intro y mm hy hne hw
    obtain ⟨c2, r2, m2, q1, q2, q3, q4, -⟩ := Cond.selects_spec hw
    cases q1.symm.trans hfound
    cases q2.symm.trans (State.methodFound?_of_named hy hne)
    cases q3.symm.trans hy
    rw [Launch.admits_selectMethod X.admits]; exact q4
  have hsel0 := sel Y.fill0 (by decide) (a' (.selects cls Bundle.tFill0 Bundle.tFill0) (by simp [Bundle.ownAtomsX]))
  have hselF := sel Y.fill (by decide) (a' (.selects cls Bundle.tFill Bundle.tFill) (by simp [Bundle.ownAtomsX]))
  obtain ⟨cellS0, hcS0, hiss⟩ := Y.statics
  obtain ⟨u0, hu0⟩ := Cond.staticRefV Y.unassigned L.unassignedStatic L.statics hcS0 hiss (a' (.isRef (.static Bundle.tN "UNASSIGNED_STACK" Bundle.steD)) (by simp [Bundle.ownAtomsX]))
  obtain ⟨sen, hsen⟩ := Cond.staticRefV Y.sentinel L.sentinelStatic L.statics hcS0 hiss (a' (.isRef (.static Bundle.tN "SUPPRESSED_SENTINEL" Bundle.listD)) (by simp [Bundle.ownAtomsX]))
  obtain ⟨ciB, iB, fB, hkB, hgB, haB, hsB, -, hnB, htB, hffB⟩ := Cond.ownField (t := .object "java/lang/Object") Y.found L.cls (by decide +kernel) (a' (.fieldLink Bundle.tN 198 Bundle.tN "backtrace" "Ljava/lang/Object;") (by simp [Bundle.ownAtomsX])) (a' (.lays Bundle.tN Bundle.tN "backtrace" "Ljava/lang/Object;") (by simp [Bundle.ownAtomsX])) e.platform hpl
  obtain ⟨cellS, hcS, heS, -, hkeep⟩ := X.same.2.2.2.2.2 T.aS cellS0 hcS0
  have hnl : ∀ i, (⟨T.aS, i⟩ : Loc) ∉ locs := fun i hm => by
    have := hlocs _ hm cellS0 hcS0
    rw [hiss] at this; cases this
  have hknownS : cellS.vm ≠ .unknown := by
    rw [heS]; intro hu
    rw [show cellS0.vm = .unknown from hu] at hiss
    cases hiss
  have hneS : T.aS ≠ a := Nat.ne_of_lt (Nat.lt_of_lt_of_le (Array.getElem?_eq_some_iff.mp hcS0).1 hnew)
  obtain ⟨iM, hffM⟩ := Y.msg
  obtain ⟨tyC, dC, hdC, hnC⟩ := Cond.laysAt hfound hk Y.cause (a' (.lays cls Bundle.tN "cause" "Ljava/lang/Throwable;") (by simp [Bundle.ownAtomsX]))
  obtain ⟨tyS, dS, hdS, hnS⟩ := Cond.laysAt hfound hk Y.stack (a' (.lays cls Bundle.tN "stackTrace" Bundle.steD) (by simp [Bundle.ownAtomsX]))
  obtain ⟨tyP, dP, hdP, hnP⟩ := Cond.laysAt hfound hk Y.supp (a' (.lays cls Bundle.tN "suppressedExceptions" Bundle.listD) (by simp [Bundle.ownAtomsX]))
  obtain ⟨tyM, -, -, -⟩ := Cond.laysAt hfound hk hffM (a' (.lays cls Bundle.tN "detailMessage" "Ljava/lang/String;") (by simp [Bundle.ownAtomsX]))
  obtain ⟨tyB, dB, hdB, hnD⟩ := Cond.laysAt hfound hk hffB (a' (.lays cls Bundle.tN "backtrace" "Ljava/lang/Object;") (by simp [Bundle.ownAtomsX]))
  have bC := Cond.laysApart hdB hdC hnD hnC (by rw [hnB, Y.causeName]; decide)
  have bS := Cond.laysApart hdB hdS hnD hnS (by rw [hnB, Y.stackName]; decide)
  have bP := Cond.laysApart hdB hdP hnD hnP (by rw [hnB, Y.suppName]; decide)
  have hskip : SkipFacts T e.platform s (fun u => u) u0 ((preparedCellV T.toThrowableT (freshCell P1.m.cls kX) a u0 sen).withEntry W0.cur) :=
    ⟨{ ci198 := ciB, i198 := iB, fBack := fB }, ⟨hkB, hgB, haB, hsB⟩, by
      have := fresh_default (c := P1.m.cls) tyB
      rw [htB] at this
      simpa [preparedCellV, Cell.setSlot, Cell.withEntry, Array.getElem?_setIfInBounds, bC, bS, bP, bC.symm, bS.symm, bP.symm, defaultValue] using this, fun _ _ => rfl⟩
  have hinst := h (.instanceMethod (Bundle.initS cls)) (by cases names <;> simp [Bundle.ownAtomsX, Bundle.chainSAtomsX, Bundle.passSAtoms])
  have hcode := h (.code (Bundle.initS cls) rx 2 none) (by cases names <;> simp [Bundle.ownAtomsX, Bundle.chainSAtomsX, Bundle.passSAtoms])
  obtain ⟨tm, methC, cdC, kC, vm₁, hnC', -, -, -, -, -, -, -, hW₁, st1⟩ := Steps.initColdS (tb := p.tables) (e := e) (below := below) (s := s) (U := W0) X.here hexec X.warmed hpl hown (t := Bundle.initS cls) rfl rfl (Bundle.fit_spec hcls).2
    (a' (.methodLink own ic (Bundle.initS cls)) (by simp [Bundle.ownAtomsX])) hinst (bytes := rx) (maxL := 2) hcode (f := g) hg (a := a) (msg := msg) (rest := .ref a :: rest) hstack hd6
  cases hnC'.symm.trans hP1m
  have X₁ := X.noted hW₁
  obtain ⟨vm₂, X₂, st2⟩ := X₁.ctorMessageOffV hexec (g := { g with stack := .ref a :: rest }) hg hsize T L Z LZ M LM (P1 :: Ps)
    (fun P hP => by rcases List.mem_cons.mp hP with rfl | hP; exact L1; exact hL P hP) ⟨hlk1, hlk⟩ (u0 := u0) (sen := sen) (self := a) hmsg (cell := freshCell P1.m.cls kX) (cellS := cellS)
    hcell (fun _ => by simp) (by simp) rfl rfl hsel0 hselF hcS hneS hknownS (by rw [hkeep _ (hnl _)]; exact hu0) (by rw [hkeep _ (hnl _)]; exact hsen)
    (Takes.of_laid hk hord tyC (by rw [Y.causeType]; rfl)) (Takes.of_laid hk hord tyS (by rw [Y.stackType]; exact fits_refV_array _ u0)) (Takes.of_laid hk hord tyP (by rw [Y.suppType]; exact fits_refV_object _ sen))
    (Takes.of_laid hk hord tyM (by rw [Y.msgType]; exact fits_refV_object _ ⟨msg, hmsg⟩)) Y.objLocals hskip htr [] hd6
    (by simp only [List.length_cons, hlen]; omega) (by simp only [List.length_cons, hlen]; exact hRlocals)
  obtain ⟨hwalk, hrun, hended, hWU, hsame⟩ := X₂.athrowLeaves hexec (g := { g with stack := .ref a :: rest, pc := g.pc + 3 }) hg hlocked hentered hout (a := a) (rest := rest) rfl hd9
  have hlt : a < ((W0.setVm vm₁).setVm vm₂).heap.size := (Array.getElem?_eq_some_iff.mp hcell).1
  refine ⟨_, st1 _ (fun acts => ?_), hrun, hended, hWU, hsame.weaken (fun y hy hlt' => ?_) (Nat.le_refl _) (Nat.le_refl _), _, heapAt_setCell_self (s := (W0.setVm vm₁).setVm vm₂) (plainBareV T.toThrowableT (freshCell P1.m.cls kX) a u0 sen msg) hlt, rfl, rfl⟩
  · rw [doInvoke_state]
    exact st2 _ hwalk
  · rcases List.mem_append.mp hy with h1 | h1
    · exact h1
    · exfalso
      have hb : y.base = a := by
        simp only [List.mem_cons, List.not_mem_nil, or_false] at h1
        rcases h1 with rfl | rfl | rfl | rfl | rfl <;> rfl
      rw [hb] at hlt'
      exact Nat.not_lt.mpr hnew hlt'
end THX
/-- the words of such a throw, without the four on statics -/
def vxX_at (own : String) (ic : Nat) (X : String) (ix : Nat) (rx : ByteArray) (names : List String) : List Cond := (Bundle.ownAtomsX own ic X ix rx names).filter vx_no
section THY
variable {p : Program} {l : Launch} {e : Env} {R : Room} {s : State} {m : MethodId} {args : Array Value} {below : List Frame} {meth : Method} {c : Code} {H : Heap} {locs : List Loc} {cells slots : Nat} {rest : List Value} {ls : Array Slot}
variable {Qc : Array Value → State → Outcome → State → Prop} {XC : String → State → State → Prop} {free : Addr → Prop}
/-- as vx_throwS and vx_throwSW, for such a constructor: d = 6 with 'ldc', 7 with 'ldc_w' -/
theorem vxX_throw {cc : ByteArray} {pc d : Nat} (hexec : p.tables.exec = Jvm.exec) (hb : c.code = cc) (hl : l.stackTraces = false) {own cls text : String} {names : List String} {ik is ic ix mc ms sa : Nat} {rx : ByteArray} {A : Nat → Prop}
    (x0 : decode rx 0 = .ok (.aload_n 0, 1)) (x1 : decode rx 1 = .ok (.aload_n 1, 1)) (x2 : decode rx 2 = .ok (.invokespecial ix, 3)) (x5 : decode rx 5 = .ok (.return_, 1))
    (hown : s.vm.findClass own = some m.cls) (hcls : Bundle.fit cls = true) (hnames : ∀ n ∈ names, Bundle.fit n = true)
    (hk : (Cond.classLink own ik cls).before args s = true) (hini : (Cond.initialized cls).before args s = true) (hstr : vk_R own is text sa s) (hat : ∀ w ∈ vxX_at own ic cls ix rx names, w.before args s = true)
    (hgood : ∀ w ∈ Cond.classLink own ik cls :: Cond.initialized cls :: vxX_at own ic cls ix rx names, vx_ot w = true)
    (hU : vx_Zq Bundle.tN "UNASSIGNED_STACK" Bundle.steD A s s.heap) (hN : vx_Zq Bundle.tN "SUPPRESSED_SENTINEL" Bundle.listD A s s.heap) (hS : va_S A s.heap H locs) (hsize : ls.size = c.maxLocals)
    (d0 : decode cc pc = .ok (.new ik, 3)) (d3 : decode cc (pc + 3) = .ok (.dup, 1)) (d4 : (d = 6 ∧ decode cc (pc + 4) = .ok (.ldc is, 2)) ∨ (d = 7 ∧ decode cc (pc + 4) = .ok (.ldc_w is, 3))) (d6 : decode cc (pc + d) = .ok (.invokespecial ic, 3)) (d9 : decode cc (pc + d + 3) = .ok (.athrow, 1))
    (hout : ∀ x ∈ c.exceptionTable.toList, covers x (pc + d + 3) = false)
    (hRframes : names.length + 3 < R.frames) (hRlocals : (rest.map fun v => v.category).sum + (13 * (names.length + 1) + 43) ≤ R.locals) (hRcells : cells + 1 ≤ R.cells) (hRslots : slots + 6 ≤ R.slots) (hlocks : meth.locks = false)
    (hx : ∀ t : State, s.vm.Alike t.vm → H.size ≤ t.heap.size → (∀ q : Nat, q < H.size → t.heap[q]? = H[q]?) → XC cls s t)
    (hf : ∀ z ∈ locs, free z.base) (hc : cells + 1 ≤ mc) (hs : slots + 6 ≤ ms) :
    W p l e R s m args below meth c H locs cells slots (vx_MQ below Qc XC args s mc ms free) (F0 m pc ls rest) := by
  intro T hT X
  have htr : e.platform.stackTraces = false := (show e.platform.stackTraces = l.stackTraces by rw [X.admits.platform]).trans hl
  have Y := vx_rebase X (R' := { frames := R.frames, locals := R.locals, cells := 1, slots := 6 }) (Nat.le_refl _) (Nat.le_refl _) hRcells hRslots
  obtain ⟨s', hA⟩ : ∃ z, z = (T.setVm s.vm).setFrames (.invoking m args :: below) := ⟨_, rfl⟩
  rw [← hA] at Y
  have hvm : s'.vm = s.vm := by rw [hA]; rfl
  have hhp : s'.heap = H := by rw [hA]; exact hT
  have hW0 : s.WarmedH s'.vm := by rw [hvm]; exact State.WarmedH.refl s
  have hat' : ∀ w ∈ vxX_at own ic cls ix rx names, w.before args s' = true := fun w hw => vx_ot_at hW0 hvm.symm (hgood w (List.mem_cons_of_mem _ (List.mem_cons_of_mem _ hw))) (hat w hw)
  have hk' : (Cond.classLink own ik cls).before args s' = true := vx_ot_at hW0 hvm.symm (hgood _ List.mem_cons_self) hk
  have hini' : (Cond.initialized cls).before args s' = true := vx_ot_at hW0 hvm.symm (hgood _ (List.mem_cons_of_mem _ List.mem_cons_self)) hini
  have hU' : vx_Zq Bundle.tN "UNASSIGNED_STACK" Bundle.steD A s' s'.heap := by rw [hhp]; exact vx_Zq.moved hW0.alike (hU.kept hS.2.1)
  have hN' : vx_Zq Bundle.tN "SUPPRESSED_SENTINEL" Bundle.listD A s' s'.heap := by rw [hhp]; exact vx_Zq.moved hW0.alike (hN.kept hS.2.1)
  have h : ∀ w ∈ Bundle.ownAtomsX own ic cls ix rx names, w.before args s' = true := vx_own hat' (vx_isRefq hU'.1) (vx_isRefq hN'.1) hU'.2.word hN'.2.word
  have hown' : s'.vm.findClass own = some m.cls := by rw [hvm]; exact hown
  have hins : (Cond.instantiable cls 6).before args s' = true := h _ (by simp [Bundle.ownAtomsX])
  obtain ⟨vm₁, cX, kX, hfX, hkX, -, -, X₁, st1⟩ := Y.newCold hexec (own := own) (C := cls) (index := ik) (n := 6) hown' hk' hins hini'
    (g := F0 m pc ls rest) rfl (by rw [hb]; exact d0) (Nat.le_refl _) (Nat.le_refl _)
  generalize hT1 : (T.setVm vm₁).pushCell { cls := cX, slots := kX.instanceTypes.map defaultValue, vm := .none } = T1 at X₁ st1
  have hcat : (Value.ref T.heap.size).category = 1 := rfl
  have hcellA : T1.heap[T.heap.size]? = some (freshCell cX kX) := by rw [← hT1]; exact State.heap_pushCell_size _ _
  have d3' : decode c.code (pc + 3) = .ok (.dup, 1) := by rw [hb]; exact d3
  have hstr' : vk_R own is text sa s' := vk_R.warm hW0 hstr
  obtain ⟨U, hsteps, hrun, hend, hW, hsame, ce, hce, hcC, hcV⟩ := m_ctorX X₁ hexec htr (own := own) (cls := cls) (names := names) (ic := ic) x0 x1 x2 x5 hown' hcls hnames h (fun x hx => nomatch hx) hfX hkX hcellA (by rw [hhp, hT]; exact Nat.le_refl _) (msg := .ref sa) rfl
    (g := { method := m, pc := pc + d, locals := ls, stack := .ref sa :: .ref T.heap.size :: .ref T.heap.size :: rest, locked := none }) rfl hsize rfl rfl (rest := rest) rfl
    (by rw [hb]; exact d6) (by rw [hb]; exact d9) hout hRframes (by simp only [List.map_cons, List.sum_cons, hcat]; omega) hlocks
  obtain ⟨f1, f2⟩ := vx_frame hsame
  rw [hhp] at f1 f2
  have hWs : s.WarmedH U.vm := State.WarmedH.trans hW0 hW
  have hcl : s.vm.findClass cls = some ce.cls := by
    rw [hvm] at hfX
    rw [hcC]; exact hfX
  have hall : s.sameButNew ({ U with vm := s.vm } : State) locs mc ms := by
    subst hA
    obtain ⟨e1, e2⟩ := hsame
    rw [State.setFrames_setFrames] at e1
    have h2 : (T.setVm s.vm).sameButNew ({ U with vm := s.vm } : State) [] (0 + 1) (0 + 6) := ⟨e1, e2⟩
    have h3 := X.same.trans h2
    rw [List.append_nil] at h3
    exact h3.mono hc hs
  refine ⟨U, ?_, .threw T.heap.size, hrun, hend, Or.inr ⟨T.heap.size, rfl, cls, ce, locs, hx U hWs.alike f1 (fun q hq => f2 q hq (fun z hz => nomatch hz)), hce, hcV, hcl, hWs, hall, hf⟩⟩
  refine st1 _ ?_
  show Steps p.tables e below (T1.setTop { method := m, pc := pc + 3, locals := ls, stack := .ref T.heap.size :: rest, locked := none }) _
  jvm_step X₁.here [X₁.here.top, hexec, d3', Value.category]
  rcases d4 with ⟨rfl, d4⟩ | ⟨rfl, d4⟩
  · exact X₁.ldcString hexec (own := own) (text := text) (index := is) (a := sa) hown' hstr'.1 hstr'.2
      (g := { method := m, pc := pc + 4, locals := ls, stack := .ref T.heap.size :: .ref T.heap.size :: rest, locked := none }) rfl (by rw [hb]; exact d4) _ hsteps
  · exact X₁.ldcStringW hexec (own := own) (text := text) (index := is) (a := sa) hown' hstr'.1 hstr'.2
      (g := { method := m, pc := pc + 4, locals := ls, stack := .ref T.heap.size :: .ref T.heap.size :: rest, locked := none }) rfl (by rw [hb]; exact d4) _ hsteps
end THY
section MORE0
variable {s : State} {w : WD} {A : Nat → Prop} {H : Heap} {locs : List Loc} {M : Mem}
theorem mI.en (h : mI w s A H locs M) {k : Nat} (hk : k < 11) : va_O "ShareVault$Word" (w.2.2.2 0 k) A s s.heap ∧ va_OF "java/lang/Enum" "ordinal" "I" (.int (Int32.ofNat k)) (w.2.2.2 0 k) A s s.heap ∧
    va_OF "ShareVault$Word" "letters" "Ljava/lang/String;" (.ref (w.2.2.2 1 (mLt.getD k 0))) (w.2.2.2 0 k) A s s.heap ∧ va_OF "ShareVault$Word" "form" "Ljava/lang/String;" (.ref (w.2.2.2 1 (mFm.getD k 0))) (w.2.2.2 0 k) A s s.heap := h.St.2.2.2.2.1 k hk
theorem mI.sx (h : mI w s A H locs M) {i : Nat} (hi : mtx i) : va_O "java/lang/String" (w.2.2.2 1 i) A s s.heap ∧ va_OF "java/lang/String" "coder" "B" (.int 0) (w.2.2.2 1 i) A s s.heap ∧ va_OF "java/lang/String" "value" "[B" (.ref (w.2.2.2 2 i)) (w.2.2.2 1 i) A s s.heap ∧ va_T .byte (w.2.2.2 2 i) (mTl.getD i 0) (fun j => .int ((mTx.getD i []).getD j 0)) A s s.heap := h.St.2.2.2.2.2.1 i hi
theorem mI.Zcs (h : mI w s A H locs M) : va_Z "java/lang/String" "COMPACT_STRINGS" "Z" (.int 1) A s s.heap := h.St.2.2.2.2.2.2.1
theorem mI.nc (h : mI w s A H locs M) {i j : Nat} (h1 : 1 ≤ i) (h2 : i ≤ 6) (h3 : 1 ≤ j) (h4 : j ≤ 6) (h5 : i ≠ j) : va_Nc (mXn i) (mXn j) s := h.St.2.2.2.2.2.2.2.2.2.1 i j h1 h2 h3 h4 h5
theorem mI.Zsi (h : mI w s A H locs M) : va_Zq "jdk/internal/util/Preconditions" "SIOOBE_FORMATTER" "Ljava/util/function/BiFunction;" A s s.heap := h.St.2.2.2.2.2.2.2.2.2.2.1
end MORE0
abbrev rmJ1 : Room := { frames := 1, cells := 0, slots := 0, locals := 40 }
abbrev rmJ2 : Room := { frames := 2, cells := 0, slots := 0, locals := 80 }
abbrev rmJ3 : Room := { frames := 3, cells := 0, slots := 0, locals := 120 }
abbrev rmJ4 : Room := { frames := 4, cells := 0, slots := 0, locals := 160 }
theorem m_vpl {j : Int32} {n : Nat} (hn : n < 2 ^ 31) (h : vp_in j n) : ¬ j < 0 ∧ j < Int32.ofNat n := by
  refine ⟨fun q => h (Or.inl q), ?_⟩
  obtain ⟨k, hk, rfl⟩ := vp_in_of h hn
  exact nI_lt hk hn
set_option maxRecDepth 100000 in
theorem c_ord (l : Launch) (w : WD) (sz : Nat) (k : Nat) (hk : k < 11) (M : Mem) : mMet l yJx29ce0_ordinal_8abf5 cJx29ce0_ordinal_8abf5 1 (some .int) rmJ1 w sz M [.ref (w.2.2.2 0 k)] (some (.int (Int32.ofNat k))) M := by
  refine m_of (by decide) (Nat.le_of_ble_eq_true rfl) ?_
  intro p e s m args below meth c hx hb hr hml hown hlk hI ls hl
  have hl : lv_has ls 1 [(0, .ref (w.2.2.2 0 k))] := hl
  refine lv_aload_n hx hb dJx29ce0_ordinal_8abf5_0 rfl (lv_at hl 0 rfl) ?_
  refine vk_getf hx hb (hI.en hk).2.1 hI.S hown (q1644 hI.T) (fun _ h => h) dJx29ce0_ordinal_8abf5_1 ?_
  exact m_iretp hx hb hr hlk hI rfl dJx29ce0_ordinal_8abf5_4
/-- .. that nobody writes -/
def kSx (w : WD) (a v n : Nat) (f : Nat → Int32) : Prop := (∀ A U H, mSt w A U H → kS A U H a v n f) ∧ n < 2 ^ 31 ∧ ∀ j, j < n → (((f j) &&& 255).toUInt32 % 65536).toInt32 = f j ∧ narrow .char (.int (f j)) = .int (f j)
theorem kSx_w (w : WD) {i : Nat} (hi : mtx i) : kSx w (w.2.2.2 1 i) (w.2.2.2 2 i) (mTl.getD i 0) (fun j => (mTx.getD i []).getD j 0) := by
  have h8 : ∀ i : Nat, i < 33 → mTl.getD i 0 < 2 ^ 31 := by decide +kernel
  have h9 : ∀ i : Nat, i < 33 → ∀ j : Nat, j < mTl.getD i 0 → ((((mTx.getD i []).getD j 0) &&& 255).toUInt32 % 65536).toInt32 = (mTx.getD i []).getD j 0 ∧ narrow .char (.int ((mTx.getD i []).getD j 0)) = .int ((mTx.getD i []).getD j 0) := by decide +kernel
  exact ⟨fun A U H h => h.2.2.2.2.2.1 i hi, h8 i (Nat.lt_trans hi.2 (by decide)), h9 i (Nat.lt_trans hi.2 (by decide))⟩
set_option maxRecDepth 100000 in
theorem c_coder (l : Launch) (w : WD) (sz : Nat) (a v n : Nat) (f : Nat → Int32) (hi : kSx w a v n f) (M : Mem) : mMet l yJ0_coder_7d493 cJ0_coder_7d493 1 (some .byte) rmJ1 w sz M [.ref a] (some (.int 0)) M := by
  refine m_of (by decide) (Nat.le_of_ble_eq_true rfl) ?_
  intro p e s m args below meth c hx hb hr hml hown hlk hI ls hl
  have hl : lv_has ls 1 [(0, .ref a)] := hl
  refine va_gets hx hb hI.Zcs hI.S hown (q1080 hI.T) (fun _ h => h) dJ0_coder_7d493_0 ?_
  refine lv_if_eq (tgt := 13) hx hb dJ0_coder_7d493_3 (by decide) (fun c => absurd c (by decide)) (fun _ => ?_)
  refine lv_aload_n hx hb dJ0_coder_7d493_6 rfl (lv_at hl 0 rfl) ?_
  refine vk_getf hx hb (hi.1 _ _ _ hI.St).2.1 hI.S hown (q1199 hI.T) (fun _ h => h) dJ0_coder_7d493_7 ?_
  refine lv_goto (tgt := 14) hx hb dJ0_coder_7d493_10 (by decide) ?_
  exact m_zretp hx hb hr hlk hI rfl rfl dJ0_coder_7d493_14
set_option maxRecDepth 100000 in
theorem c_isLatin1 (l : Launch) (w : WD) (sz : Nat) (a v n : Nat) (f : Nat → Int32) (hi : kSx w a v n f) (M : Mem) : mMet l yJ0_isLatin1_aae02 cJ0_isLatin1_aae02 1 (some .boolean) rmJ1 w sz M [.ref a] (some (.int 1)) M := by
  refine m_of (by decide) (Nat.le_of_ble_eq_true rfl) ?_
  intro p e s m args below meth c hx hb hr hml hown hlk hI ls hl
  have hl : lv_has ls 1 [(0, .ref a)] := hl
  refine va_gets hx hb hI.Zcs hI.S hown (q1080 hI.T) (fun _ h => h) dJ0_isLatin1_aae02_0 ?_
  refine lv_if_eq (tgt := 17) hx hb dJ0_isLatin1_aae02_3 (by decide) (fun c => absurd c (by decide)) (fun _ => ?_)
  refine lv_aload_n hx hb dJ0_isLatin1_aae02_6 rfl (lv_at hl 0 rfl) ?_
  refine vk_getf hx hb (hi.1 _ _ _ hI.St).2.1 hI.S hown (q1199 hI.T) (fun _ h => h) dJ0_isLatin1_aae02_7 ?_
  refine lv_if_ne (tgt := 17) hx hb dJ0_isLatin1_aae02_10 (by decide) (fun c => absurd rfl c) (fun _ => ?_)
  refine lv_iconst (v := 1) hx hb dJ0_isLatin1_aae02_13 (by decide) ?_
  refine lv_goto (tgt := 18) hx hb dJ0_isLatin1_aae02_14 (by decide) ?_
  exact m_zretp hx hb hr hlk hI rfl rfl dJ0_isLatin1_aae02_18
set_option maxRecDepth 100000 in
theorem c_length (l : Launch) (w : WD) (sz : Nat) (a v n : Nat) (f : Nat → Int32) (hi : kSx w a v n f) (M : Mem) : mMet l yJ0_length_8abf5 cJ0_length_8abf5 1 (some .int) rmJ2 w sz M [.ref a] (some (.int (Int32.ofNat n))) M := by
  refine m_of (by decide) (Nat.le_of_ble_eq_true rfl) ?_
  intro p e s m args below meth c hx hb hr hml hown hlk hI ls hl
  have hl : lv_has ls 1 [(0, .ref a)] := hl
  refine lv_aload_n hx hb dJ0_length_8abf5_0 rfl (lv_at hl 0 rfl) ?_
  refine vk_getf hx hb (hi.1 _ _ _ hI.St).2.2.1 hI.S hown (q1198 hI.T) (fun _ h => h) dJ0_length_8abf5_1 ?_
  refine va_tlen hx hb (hi.1 _ _ _ hI.St).2.2.2 hI.S rfl dJ0_length_8abf5_4 ?_
  refine lv_aload_n hx hb dJ0_length_8abf5_5 rfl (lv_at hl 0 rfl) ?_
  refine m_callV (As := []) (rest := [.int (Int32.ofNat n)]) hx hb hml hown hI (c_coder l w s.heap.size a v n f hi M) (m_callB hI.T kc_J0_coder_7d493 ki_J0_coder_7d493 (q1076 hI.T) (by decide +kernel) ⟨rfl, rfl, Nat.le_of_ble_eq_true rfl, Nat.le_of_ble_eq_true rfl⟩) (q1077 hI.T) (q1078 hI.T) ((hi.1 _ _ _ hI.St).1.elim fun cell h => ⟨cell, h.1, h.2.1, h.2.2.1⟩) rfl hl.1 (Nat.le_of_ble_eq_true rfl) dJ0_length_8abf5_6 ⟨Nat.le_of_ble_eq_true rfl, Nat.le_of_ble_eq_true rfl⟩ (fun H locs hI => ?_)
  refine lv_ishr hx hb dJ0_length_8abf5_9 ?_
  exact m_iretp hx hb hr hlk hI (congrArg some (sb_shr0 _)) dJ0_length_8abf5_10
set_option maxRecDepth 100000 in
theorem c_chk3 (l : Launch) (w : WD) (sz : Nat) (a b : Int32) (u : Value) (hu : u = .null ∨ ∃ t, u = .ref t) (h0 : ¬ a < 0) (h1 : a < b) (M : Mem) : mMet l yJ3_checkIndex_8e157 cJ3_checkIndex_8e157 3 (some .int) rmJ1 w sz M [.int a, .int b, u] (some (.int a)) M := by
  have hlg : (lg_sl [.int a, .int b, u]).length ≤ 3 := by rcases hu with rfl | ⟨t, rfl⟩ <;> exact Nat.le_of_ble_eq_true rfl
  refine m_of (by decide) hlg ?_
  intro p e s m args below meth c hx hb hr hml hown hlk hI ls hl
  have hl : lv_has ls 3 [(0, .int a), (1, .int b), (2, u)] := hl
  refine lv_iload_n hx hb dJ3_checkIndex_8e157_0 rfl (lv_at hl 0 rfl) ?_
  refine lv_if_lt (tgt := 9) hx hb dJ3_checkIndex_8e157_1 (by decide) (fun c => absurd c h0) (fun _ => ?_)
  refine lv_iload_n hx hb dJ3_checkIndex_8e157_4 rfl (lv_at hl 0 rfl) ?_
  refine lv_iload_n hx hb dJ3_checkIndex_8e157_5 rfl (lv_at hl 1 rfl) ?_
  refine lv_icmp_lt (tgt := 16) hx hb dJ3_checkIndex_8e157_6 (by decide) (fun _ => ?_) (fun c => absurd h1 c)
  refine lv_iload_n hx hb dJ3_checkIndex_8e157_16 rfl (lv_at hl 0 rfl) ?_
  exact m_iretp hx hb hr hlk hI rfl dJ3_checkIndex_8e157_17
set_option maxRecDepth 100000 in
theorem c_chk2 (l : Launch) (w : WD) (sz : Nat) (a b : Int32) (h0 : ¬ a < 0) (h1 : a < b) (M : Mem) : mMet l yJ0_checkIndex_df160 cJ0_checkIndex_df160 2 none rmJ2 w sz M [.int a, .int b] none M := by
  refine m_of (by decide) (Nat.le_of_ble_eq_true rfl) ?_
  intro p e s m args below meth c hx hb hr hml hown hlk hI ls hl
  have hl : lv_has ls 2 [(0, .int a), (1, .int b)] := hl
  refine lv_iload_n hx hb dJ0_checkIndex_df160_0 rfl (lv_at hl 0 rfl) ?_
  refine lv_iload_n hx hb dJ0_checkIndex_df160_1 rfl (lv_at hl 1 rfl) ?_
  obtain ⟨u, hu, hZ⟩ : ∃ u : Value, (u = .null ∨ ∃ t, u = .ref t) ∧ va_Z "jdk/internal/util/Preconditions" "SIOOBE_FORMATTER" "Ljava/util/function/BiFunction;" u (mA w s.heap.size) s s.heap := by
    rcases hI.Zsi with h | ⟨t, h⟩
    · exact ⟨.null, Or.inl rfl, h⟩
    · exact ⟨.ref t, Or.inr ⟨t, rfl⟩, h⟩
  refine va_gets hx hb hZ hI.S hown (q1058 hI.T) (fun _ h => h) dJ0_checkIndex_df160_2 ?_
  refine m_callS (As := [.int a, .int b, u]) (rest := []) hx hb hml hown hI (c_chk3 l w s.heap.size a b u hu h0 h1 M) (m_callB (n := 3) hI.T kc_J3_checkIndex_8e157 ki_J3_checkIndex_8e157 (q1226 hI.T) (by decide +kernel) ⟨rfl, rfl, Nat.le_of_ble_eq_true rfl, Nat.le_of_ble_eq_true rfl⟩) (q1227 hI.T) rfl hl.1 (Nat.le_of_ble_eq_true rfl) dJ0_checkIndex_df160_5 ⟨Nat.le_of_ble_eq_true rfl, Nat.le_of_ble_eq_true rfl⟩ (fun H locs hI => ?_)
  refine lv_pop hx hb dJ0_checkIndex_df160_8 rfl ?_
  exact m_vretp (r := ()) hx hb hr hlk hI rfl dJ0_checkIndex_df160_9
set_option maxRecDepth 100000 in
theorem c_lat (l : Launch) (w : WD) (sz : Nat) (a v n : Nat) (f : Nat → Int32) (hi : kSx w a v n f) (j : Int32) (hj : vp_in j n) (M : Mem) : mMet l yJ1_charAt_3b067 cJ1_charAt_3b067 2 (some .char) rmJ3 w sz M [.ref v, .int j] (some (.int (f j.toNatClampNeg))) M := by
  refine m_of (by decide) (Nat.le_of_ble_eq_true rfl) ?_
  intro p e s m args below meth c hx hb hr hml hown hlk hI ls hl
  have hl : lv_has ls 2 [(0, .ref v), (1, .int j)] := hl
  refine lv_iload_n hx hb dJ1_charAt_3b067_0 rfl (lv_at hl 1 rfl) ?_
  refine lv_aload_n hx hb dJ1_charAt_3b067_1 rfl (lv_at hl 0 rfl) ?_
  refine va_tlen hx hb (hi.1 _ _ _ hI.St).2.2.2 hI.S rfl dJ1_charAt_3b067_2 ?_
  obtain ⟨h0, h1⟩ := m_vpl hi.2.1 hj
  refine m_callS (As := [.int j, .int (Int32.ofNat n)]) (rest := []) hx hb hml hown hI (c_chk2 l w s.heap.size _ _ h0 h1 M) (m_callB (n := 2) hI.T kc_J0_checkIndex_df160 ki_J0_coder_7d493 (q1223 hI.T) (by decide +kernel) ⟨rfl, rfl, Nat.le_of_ble_eq_true rfl, Nat.le_of_ble_eq_true rfl⟩) (q1224 hI.T) rfl hl.1 (Nat.le_of_ble_eq_true rfl) dJ1_charAt_3b067_3 ⟨Nat.le_of_ble_eq_true rfl, Nat.le_of_ble_eq_true rfl⟩ (fun H locs hI => ?_)
  refine lv_aload_n hx hb dJ1_charAt_3b067_6 rfl (lv_at hl 0 rfl) ?_
  refine lv_iload_n hx hb dJ1_charAt_3b067_7 rfl (lv_at hl 1 rfl) ?_
  refine va_tb hx hb (hi.1 _ _ _ hI.St).2.2.2 hI.S hj rfl dJ1_charAt_3b067_8 ?_
  refine lv_sipush (v := 255) hx hb dJ1_charAt_3b067_9 (by decide) ?_
  refine lv_iand hx hb dJ1_charAt_3b067_12 ?_
  refine lv_i2c hx hb dJ1_charAt_3b067_13 (hi.2.2 _ (mix_lt hj)).1 ?_
  exact m_zretp hx hb hr hlk hI (hi.2.2 _ (mix_lt hj)).2 rfl dJ1_charAt_3b067_14
set_option maxRecDepth 100000 in
theorem c_charAt (l : Launch) (w : WD) (sz : Nat) (a v n : Nat) (f : Nat → Int32) (hi : kSx w a v n f) (j : Int32) (hj : vp_in j n) (M : Mem) : mMet l yJ0_charAt_5068e cJ0_charAt_5068e 2 (some .char) rmJ4 w sz M [.ref a, .int j] (some (.int (f j.toNatClampNeg))) M := by
  refine m_of (by decide) (Nat.le_of_ble_eq_true rfl) ?_
  intro p e s m args below meth c hx hb hr hml hown hlk hI ls hl
  have hl : lv_has ls 2 [(0, .ref a), (1, .int j)] := hl
  refine lv_aload_n hx hb dJ0_charAt_5068e_0 rfl (lv_at hl 0 rfl) ?_
  refine m_callV (As := []) (rest := []) hx hb hml hown hI (c_isLatin1 l w s.heap.size a v n f hi M) (m_callB hI.T kc_J0_isLatin1_aae02 ki_J0_coder_7d493 (q1216 hI.T) (by decide +kernel) ⟨rfl, rfl, Nat.le_of_ble_eq_true rfl, Nat.le_of_ble_eq_true rfl⟩) (q1217 hI.T) (q1218 hI.T) ((hi.1 _ _ _ hI.St).1.elim fun cell h => ⟨cell, h.1, h.2.1, h.2.2.1⟩) rfl hl.1 (Nat.le_of_ble_eq_true rfl) dJ0_charAt_5068e_1 ⟨Nat.le_of_ble_eq_true rfl, Nat.le_of_ble_eq_true rfl⟩ (fun H locs hI => ?_)
  refine lv_if_eq (tgt := 16) hx hb dJ0_charAt_5068e_4 (by decide) (fun c => absurd c (by decide)) (fun _ => ?_)
  refine lv_aload_n hx hb dJ0_charAt_5068e_7 rfl (lv_at hl 0 rfl) ?_
  refine vk_getf hx hb (hi.1 _ _ _ hI.St).2.2.1 hI.S hown (q1198 hI.T) (fun _ h => h) dJ0_charAt_5068e_8 ?_
  refine lv_iload_n hx hb dJ0_charAt_5068e_11 rfl (lv_at hl 1 rfl) ?_
  refine m_callS (As := [.ref v, .int j]) (rest := []) hx hb hml hown hI (c_lat l w H.size a v n f hi j hj M) (m_callB (n := 2) hI.T kc_J1_charAt_3b067 ki_J1_charAt_3b067 (q1220 hI.T) (by decide +kernel) ⟨rfl, rfl, Nat.le_of_ble_eq_true rfl, Nat.le_of_ble_eq_true rfl⟩) (q1221 hI.T) rfl hl.1 (Nat.le_of_ble_eq_true rfl) dJ0_charAt_5068e_12 ⟨Nat.le_of_ble_eq_true rfl, Nat.le_of_ble_eq_true rfl⟩ (fun H locs hI => ?_)
  exact m_zretp hx hb hr hlk hI (hi.2.2 _ (mix_lt hj)).2 rfl dJ0_charAt_5068e_15
section MORE
variable {p : Program} {l : Launch} {e : Env} {R : Room} {s : State} {m : MethodId} {args : Array Value} {below : List Frame} {meth : Method} {c : Code} {H : Heap} {locs : List Loc} {cells slots : Nat} {Q : State → Prop}
variable {cc : ByteArray} {pc : Nat} {ls : Array Slot} {rest : List Value} {A : Nat → Prop} {w : WD} {M M1 : Mem} {nL idx : Nat} {own : String}
theorem va_ldcSw (hexec : p.tables.exec = Jvm.exec) (hb : c.code = cc) {tx : String} {index q : Nat} (hown : s.vm.findClass own = some m.cls) (hZ : vk_R own index tx q s) (hdg : decode cc pc = .ok (.ldc_w index, 3))
    (k : W p l e R s m args below meth c H locs cells slots Q (F0 m (pc + 3) ls (.ref q :: rest))) : W p l e R s m args below meth c H locs cells slots Q (F0 m pc ls rest) := by
  intro T hT X
  obtain ⟨t, a1, b1⟩ := k T hT X
  exact ⟨t, X.ldcStringW hexec hown (text := tx) (a := q) hZ.1 hZ.2 (g := F0 m pc ls rest) rfl (by rw [hb]; exact hdg) t a1, b1⟩
theorem m_enletters (hx : p.tables.exec = Jvm.exec) (hb : c.code = cc) (hI : mI w s A H locs M) (hown : s.vm.findClass own = some m.cls) {k : Nat} (hk : k < 11) (hlink : (Cond.fieldLink own idx "ShareVault$Word" "letters" "Ljava/lang/String;").before args s = true) (hdg : decode cc pc = .ok (.getfield idx, 3))
    (kk : W p l e R s m args below meth c H locs cells slots Q (F0 m (pc + 3) ls (.ref (w.2.2.2 1 (mLt.getD k 0)) :: rest))) : W p l e R s m args below meth c H locs cells slots Q (F0 m pc ls (.ref (w.2.2.2 0 k) :: rest)) :=
  vk_getf hx hb (hI.en hk).2.2.1 hI.S hown hlink (fun _ h => h) hdg kk
theorem m_enform (hx : p.tables.exec = Jvm.exec) (hb : c.code = cc) (hI : mI w s A H locs M) (hown : s.vm.findClass own = some m.cls) {k : Nat} (hk : k < 11) (hlink : (Cond.fieldLink own idx "ShareVault$Word" "form" "Ljava/lang/String;").before args s = true) (hdg : decode cc pc = .ok (.getfield idx, 3))
    (kk : W p l e R s m args below meth c H locs cells slots Q (F0 m (pc + 3) ls (.ref (w.2.2.2 1 (mFm.getD k 0)) :: rest))) : W p l e R s m args below meth c H locs cells slots Q (F0 m pc ls (.ref (w.2.2.2 0 k) :: rest)) :=
  vk_getf hx hb (hI.en hk).2.2.2 hI.S hown hlink (fun _ h => h) hdg kk
theorem m_slen (hx : p.tables.exec = Jvm.exec) (hb : c.code = cc) (hml : c.maxLocals = nL) (hown : s.vm.findClass own = some m.cls) (hI : mI w s A H locs M) {i : Nat} (hi : mtx i) (hlink : (Cond.methodLink own idx yJ0_length_8abf5).before args s = true) (hsize : ls.size = nL) (hR1 : 3 ≤ R.frames) (hR2 : 100 ≤ R.locals) (hW : (rest.map fun v => v.category).sum ≤ 8) (hdg : decode cc pc = .ok (.invokevirtual idx, 3)) (hf : cells ≤ R.cells ∧ slots ≤ R.slots)
    (kk : ∀ (H1 : Heap) (locs1 : List Loc), mI w s A H1 locs1 M → W p l e R s m args below meth c H1 locs1 cells slots Q (F0 m (pc + 3) ls (.int (Int32.ofNat (mTl.getD i 0)) :: rest))) : W p l e R s m args below meth c H locs cells slots Q (F0 m pc ls (.ref (w.2.2.2 1 i) :: rest)) :=
  m_callV (As := []) (rest := rest) hx hb hml hown hI (c_length l w H.size _ _ _ _ (kSx_w w hi) M) (m_callB hI.T kc_J0_length_8abf5 ki_J0_coder_7d493 hlink (by decide +kernel) ⟨rfl, rfl, hR1, hR2⟩) (q1073 hI.T) (q1074 hI.T) ((va_O.kept (hI.sx hi).1 hI.S.2.1).elim fun cell h => ⟨cell, h.1, h.2.1, h.2.2.1⟩) rfl hsize hW hdg hf kk
theorem m_sat (hx : p.tables.exec = Jvm.exec) (hb : c.code = cc) (hml : c.maxLocals = nL) (hown : s.vm.findClass own = some m.cls) (hI : mI w s A H locs M) {i : Nat} (hi : mtx i) {j : Int32} (hj : vp_in j (mTl.getD i 0)) (hlink : (Cond.methodLink own idx yJ0_charAt_5068e).before args s = true) (hsize : ls.size = nL) (hR1 : 5 ≤ R.frames) (hR2 : 181 ≤ R.locals) (hW : (rest.map fun v => v.category).sum ≤ 8) (hdg : decode cc pc = .ok (.invokevirtual idx, 3)) (hf : cells ≤ R.cells ∧ slots ≤ R.slots)
    (kk : ∀ (H1 : Heap) (locs1 : List Loc), mI w s A H1 locs1 M → W p l e R s m args below meth c H1 locs1 cells slots Q (F0 m (pc + 3) ls (.int ((mTx.getD i []).getD j.toNatClampNeg 0) :: rest))) : W p l e R s m args below meth c H locs cells slots Q (F0 m pc ls (.int j :: .ref (w.2.2.2 1 i) :: rest)) :=
  m_callV (As := [.int j]) (rest := rest) hx hb hml hown hI (c_charAt l w H.size _ _ _ _ (kSx_w w hi) j hj M) (m_callB (n := 1) hI.T kc_J0_charAt_5068e ki_J0_coder_7d493 hlink (by decide +kernel) ⟨rfl, rfl, hR1, hR2⟩) (q1213 hI.T) (q1214 hI.T) ((va_O.kept (hI.sx hi).1 hI.S.2.1).elim fun cell h => ⟨cell, h.1, h.2.1, h.2.2.1⟩) rfl hsize hW hdg hf kk
theorem m_slenK (hx : p.tables.exec = Jvm.exec) (hb : c.code = cc) (hml : c.maxLocals = nL) (hown : s.vm.findClass own = some m.cls) (hI : mI w s A H locs M) {a v n : Nat} {f : Nat → Int32} (hi : kSx w a v n f) (hlink : (Cond.methodLink own idx yJ0_length_8abf5).before args s = true) (hsize : ls.size = nL) (hR1 : 3 ≤ R.frames) (hR2 : 100 ≤ R.locals) (hW : (rest.map fun v => v.category).sum ≤ 8) (hdg : decode cc pc = .ok (.invokevirtual idx, 3)) (hf : cells ≤ R.cells ∧ slots ≤ R.slots)
    (kk : ∀ (H1 : Heap) (locs1 : List Loc), mI w s A H1 locs1 M → W p l e R s m args below meth c H1 locs1 cells slots Q (F0 m (pc + 3) ls (.int (Int32.ofNat n) :: rest))) : W p l e R s m args below meth c H locs cells slots Q (F0 m pc ls (.ref a :: rest)) :=
  m_callV (As := []) (rest := rest) hx hb hml hown hI (c_length l w H.size _ _ _ _ hi M) (m_callB hI.T kc_J0_length_8abf5 ki_J0_coder_7d493 hlink (by decide +kernel) ⟨rfl, rfl, hR1, hR2⟩) (q1073 hI.T) (q1074 hI.T) ((va_O.kept (hi.1 _ _ _ hI.St).1 hI.S.2.1).elim fun cell h => ⟨cell, h.1, h.2.1, h.2.2.1⟩) rfl hsize hW hdg hf kk
theorem m_satK (hx : p.tables.exec = Jvm.exec) (hb : c.code = cc) (hml : c.maxLocals = nL) (hown : s.vm.findClass own = some m.cls) (hI : mI w s A H locs M) {a v n : Nat} {f : Nat → Int32} (hi : kSx w a v n f) {j : Int32} (hj : vp_in j n) (hlink : (Cond.methodLink own idx yJ0_charAt_5068e).before args s = true) (hsize : ls.size = nL) (hR1 : 5 ≤ R.frames) (hR2 : 181 ≤ R.locals) (hW : (rest.map fun v => v.category).sum ≤ 8) (hdg : decode cc pc = .ok (.invokevirtual idx, 3)) (hf : cells ≤ R.cells ∧ slots ≤ R.slots)
    (kk : ∀ (H1 : Heap) (locs1 : List Loc), mI w s A H1 locs1 M → W p l e R s m args below meth c H1 locs1 cells slots Q (F0 m (pc + 3) ls (.int (f j.toNatClampNeg) :: rest))) : W p l e R s m args below meth c H locs cells slots Q (F0 m pc ls (.int j :: .ref a :: rest)) :=
  m_callV (As := [.int j]) (rest := rest) hx hb hml hown hI (c_charAt l w H.size _ _ _ _ hi j hj M) (m_callB (n := 1) hI.T kc_J0_charAt_5068e ki_J0_coder_7d493 hlink (by decide +kernel) ⟨rfl, rfl, hR1, hR2⟩) (q1213 hI.T) (q1214 hI.T) ((va_O.kept (hi.1 _ _ _ hI.St).1 hI.S.2.1).elim fun cell h => ⟨cell, h.1, h.2.1, h.2.2.1⟩) rfl hsize hW hdg hf kk
theorem m_ord (hx : p.tables.exec = Jvm.exec) (hb : c.code = cc) (hml : c.maxLocals = nL) (hown : s.vm.findClass "ShareVault$State" = some m.cls) (hI : mI w s A H locs M) {k : Nat} (hk : k < 11) (hsize : ls.size = nL) (hR1 : 2 ≤ R.frames) (hR2 : 60 ≤ R.locals) (hW : (rest.map fun v => v.category).sum ≤ 8) (hdg : decode cc pc = .ok (.invokevirtual 179, 3)) (hf : cells ≤ R.cells ∧ slots ≤ R.slots)
    (kk : ∀ (H1 : Heap) (locs1 : List Loc), mI w s A H1 locs1 M → W p l e R s m args below meth c H1 locs1 cells slots Q (F0 m (pc + 3) ls (.int (Int32.ofNat k) :: rest))) : W p l e R s m args below meth c H locs cells slots Q (F0 m pc ls (.ref (w.2.2.2 0 k) :: rest)) := by
  intro T hT X
  obtain ⟨cellV, g1, g2, g3, -⟩ := va_O.kept (hI.en hk).1 hI.S.2.1
  obtain ⟨cf, kf, fi, f, cell, h1, h2, h3, h4, h5, -⟩ := va_OF.kept (hI.en hk).2.1 hI.S.2.1
  cases g1.symm.trans h3
  subst hb
  obtain ⟨vm', X', st⟩ := m_upGet X hx (own := "ShareVault$State") (C := "ShareVault$Word") (owner := "java/lang/Enum") (x := ⟨"ShareVault$Word", "ordinal", "()I"⟩) (y := yJx29ce0_ordinal_8abf5) (bytes := cJx29ce0_ordinal_8abf5) hown (q1331 hI.T) (q1332 hI.T)
    (hI.T (.declares ⟨"java/lang/Enum", "ordinal", "()I"⟩) (tin6 (List.mem_of_getElem? (l := tables_1_6) (i := 133) rfl)) rfl args) (by decide) (q1334 hI.T) (q1335 hI.T)
    (hI.T (.code yJx29ce0_ordinal_8abf5 cJx29ce0_ordinal_8abf5 1 (some .int)) (tin6 (List.mem_of_getElem? (l := tables_1_6) (i := 136) rfl)) rfl args) (by decide)
    dJx29ce0_ordinal_8abf5_0 dJx29ce0_ordinal_8abf5_1 dJx29ce0_ordinal_8abf5_4 (q1644 hI.T) h1 h2 g3 (by rw [hT]; exact g1) h4 g2 h5 (g := F0 m pc ls (.ref (w.2.2.2 0 k) :: rest)) rfl (hsize.trans hml.symm) (rest := rest)
    (fun sig h => by
      have h' : parseMethodDescriptor "()I" = some sig := h
      rw [show parseMethodDescriptor "()I" = some ⟨[], some .int⟩ from by decide +kernel] at h'
      rw [← Option.some.inj h']; rfl) rfl hdg (by omega) (by show 2 * 0 + (rest.map fun v => v.category).sum + 12 ≤ R.locals; omega)
  obtain ⟨t, a1, b1⟩ := kk H locs hI (T.setVm vm') hT X'
  exact ⟨t, st t a1, b1⟩
theorem m_wast (hx : p.tables.exec = Jvm.exec) (hb : c.code = cc) (hI : mI w s A H locs M) {k : Nat} (hk : k < 11) {j : Int32} (hin : vp_in j 15) (hM : M1 = mup M 12 28 j.toNatClampNeg (Int32.ofNat k)) (hdg : decode cc pc = .ok (.aastore, 1))
    (kk : ∀ (H1 : Heap) (locs1 : List Loc), mI w s A H1 locs1 M1 → W p l e R s m args below meth c H1 locs1 cells slots Q (F0 m (pc + 1) ls rest)) : W p l e R s m args below meth c H locs cells slots Q (F0 m pc ls (.ref (w.2.2.2 0 k) :: .int j :: .ref (w.1 12 28) :: rest)) := by
  subst hM
  obtain ⟨q0, hq⟩ := mok_get (mokX (i := 28) (by decide) (by decide))
  have ha := mkeys_get (w := w) (M := M) hq
  have hlt : j.toNatClampNeg < 15 := Nat.not_le.mp fun q => hin (Or.inr q)
  have h0 : ¬ j < 0 := fun q => hin (Or.inl q)
  obtain ⟨cellV, g1, g2, g3, -⟩ := va_O.kept (hI.en hk).1 hI.S.2.1
  obtain ⟨kA, comp, k1, k2, k3, -⟩ := (hI.K.2 5 _ rfl).2
  obtain ⟨kE, hkE, -⟩ := Vm.findClass_spec k3
  cases k3.symm.trans g3
  have hasg : s.vm.assignable cellV.cls cellV.cls = true := va_asg _ _
  refine W.aast hx hb (hI.P q0 _ ha) (fun q h => by cases h) (fun h => by cases h) k1 k2 rfl hkE ⟨h0, by show _ < (arrV _ _ _).slots.size; rw [arrV_size]; exact hlt⟩ g1 (fun q h => by rw [h] at g2; cases g2) hkE hasg rfl rfl hdg fun H1 e z oq => ?_
  have hP1 := hI.P.set hI.D ha (e := menc w 12 28 (upd (M 12 28) j.toNatClampNeg (Int32.ofNat k))) (H1 := H1) ?_ oq
  · have e1 := mW_set (w := w) (M := M) (M1 := mup M 12 28 j.toNatClampNeg (Int32.ofNat k)) (e := menc w 12 28 (upd (M 12 28) j.toNatClampNeg (Int32.ofNat k))) hq (by rw [mup_self]) (fun a b h => mup_ne h)
    rw [e1] at hP1
    exact kk H1 _ (hI.next hP1 (hI.S.put z oq (hI.In _ _ (mokX (by decide) (by decide)))))
  · show H1[w.1 12 28]? = some (vp_cell _ _)
    rw [e]
    show some ((vp_cell _ _).setSlot _ _) = _
    rw [vp_cell_q, vp_cell_q, arrV_store]
    congr 2
    funext q
    have hne : ¬ Int32.ofNat k = -1 := by
      have h9 : ∀ k : Nat, k < 11 → ¬ Int32.ofNat k = -1 := by decide
      exact h9 k hk
    have hcl : (Int32.ofNat k).toNatClampNeg = k := nI_clamp (n := k) (by omega)
    by_cases hq : q = j.toNatClampNeg
    · subst hq
      simp [updV, upd, mwr, hne, hcl, va_rf]
    · simp [updV, upd, hq]
theorem m_astnull {cc : ByteArray} {k : Fin 4} {i : Nat} {lv lv' : List (Nat × Value)} (hexec : p.tables.exec = Jvm.exec) (hb : c.code = cc) (hdg : decode cc pc = .ok (.astore_n k, 1)) (hi : (k : Nat) = i) (h : lv_has ls nL lv) (hn : i < nL) (hl : (i, Value.null) :: lv.filter (fun q => !(q.1 == i) && !(q.1 + 1 == i && q.2.category == 2)) = lv')
    (kk : ∀ ls' : Array Slot, lv_has ls' nL lv' → W p l e R s m args below meth c H locs cells slots Q (F0 m (pc + 1) ls' rest)) : W p l e R s m args below meth c H locs cells slots Q (F0 m pc ls (.null :: rest)) := by
  subst hi
  obtain ⟨ls', e', h'⟩ := lv_store1 (v := .null) h hn rfl
  intro T hT X
  obtain ⟨t, a, b⟩ := kk ls' (hl ▸ h') T hT X
  refine ⟨t, ?_, b⟩
  jvm_step X.here [X.here.top, ↓top_set X.here.top, hexec, hb, hdg, e', Value.isRef]
  exact a
theorem m_aldnull {cc : ByteArray} {k : Fin 4} {i : Nat} (hexec : p.tables.exec = Jvm.exec) (hb : c.code = cc) (hdg : decode cc pc = .ok (.aload_n k, 1)) (hi : (k : Nat) = i) (hl : ls[i]? = some (.val .null))
    (kk : W p l e R s m args below meth c H locs cells slots Q (F0 m (pc + 1) ls (.null :: rest))) : W p l e R s m args below meth c H locs cells slots Q (F0 m pc ls rest) := by
  subst hi
  intro T hT X
  obtain ⟨t, a, b⟩ := kk T hT X
  refine ⟨t, ?_, b⟩
  jvm_step X.here [X.here.top, hexec, hb, hdg, hl, Value.isRef]
  exact a
end MORE
set_option maxRecDepth 100000 in
theorem thw_1 : ∀ w ∈ vx_atS "ShareVault" 378 "java/lang/IndexOutOfBoundsException" ["java/lang/RuntimeException", "java/lang/Exception"], w ∈ lw_tbl ∧ mgood w = true := by decide +kernel
theorem thg_1 : ∀ w ∈ Cond.classLink "ShareVault" 374 "java/lang/IndexOutOfBoundsException" :: Cond.initialized "java/lang/IndexOutOfBoundsException" :: vx_atS "ShareVault" 378 "java/lang/IndexOutOfBoundsException" ["java/lang/RuntimeException", "java/lang/Exception"], vx_ot w = true := by decide +kernel
theorem m_thw_1_X11_378 {w : WD} {s : State} {A : Nat → Prop} {H : Heap} {locs : List Loc} {M : Mem} {args : Array Value} (hI : mI w s A H locs M) : Bundle.fit (mXn 1) = true ∧ (∀ n ∈ ["java/lang/RuntimeException", "java/lang/Exception"], Bundle.fit n = true) ∧ (∀ w ∈ vx_atS "ShareVault" 378 (mXn 1) ["java/lang/RuntimeException", "java/lang/Exception"], w.before args s = true) ∧ ∀ w ∈ Cond.classLink "ShareVault" 374 (mXn 1) :: Cond.initialized (mXn 1) :: vx_atS "ShareVault" 378 (mXn 1) ["java/lang/RuntimeException", "java/lang/Exception"], vx_ot w = true := ⟨by decide +kernel, by decide +kernel, fun w hw => hI.T w (thw_1 w hw).1 (thw_1 w hw).2 args, thg_1⟩
set_option maxRecDepth 100000 in
theorem thw_2 : ∀ w ∈ vx_atS "ShareVault" 175 "java/lang/IllegalArgumentException" ["java/lang/RuntimeException", "java/lang/Exception"], w ∈ lw_tbl ∧ mgood w = true := by decide +kernel
theorem thg_2 : ∀ w ∈ Cond.classLink "ShareVault" 171 "java/lang/IllegalArgumentException" :: Cond.initialized "java/lang/IllegalArgumentException" :: vx_atS "ShareVault" 175 "java/lang/IllegalArgumentException" ["java/lang/RuntimeException", "java/lang/Exception"], vx_ot w = true := by decide +kernel
theorem m_thw_2_X11_175 {w : WD} {s : State} {A : Nat → Prop} {H : Heap} {locs : List Loc} {M : Mem} {args : Array Value} (hI : mI w s A H locs M) : Bundle.fit (mXn 2) = true ∧ (∀ n ∈ ["java/lang/RuntimeException", "java/lang/Exception"], Bundle.fit n = true) ∧ (∀ w ∈ vx_atS "ShareVault" 175 (mXn 2) ["java/lang/RuntimeException", "java/lang/Exception"], w.before args s = true) ∧ ∀ w ∈ Cond.classLink "ShareVault" 171 (mXn 2) :: Cond.initialized (mXn 2) :: vx_atS "ShareVault" 175 (mXn 2) ["java/lang/RuntimeException", "java/lang/Exception"], vx_ot w = true := ⟨by decide +kernel, by decide +kernel, fun w hw => hI.T w (thw_2 w hw).1 (thw_2 w hw).2 args, thg_2⟩
set_option maxRecDepth 100000 in
theorem thw_3 : ∀ w ∈ vx_atS "ShareVault" 353 "java/lang/UnsupportedOperationException" ["java/lang/RuntimeException", "java/lang/Exception"], w ∈ lw_tbl ∧ mgood w = true := by decide +kernel
theorem thg_3 : ∀ w ∈ Cond.classLink "ShareVault" 349 "java/lang/UnsupportedOperationException" :: Cond.initialized "java/lang/UnsupportedOperationException" :: vx_atS "ShareVault" 353 "java/lang/UnsupportedOperationException" ["java/lang/RuntimeException", "java/lang/Exception"], vx_ot w = true := by decide +kernel
theorem m_thw_3_X11_353 {w : WD} {s : State} {A : Nat → Prop} {H : Heap} {locs : List Loc} {M : Mem} {args : Array Value} (hI : mI w s A H locs M) : Bundle.fit (mXn 3) = true ∧ (∀ n ∈ ["java/lang/RuntimeException", "java/lang/Exception"], Bundle.fit n = true) ∧ (∀ w ∈ vx_atS "ShareVault" 353 (mXn 3) ["java/lang/RuntimeException", "java/lang/Exception"], w.before args s = true) ∧ ∀ w ∈ Cond.classLink "ShareVault" 349 (mXn 3) :: Cond.initialized (mXn 3) :: vx_atS "ShareVault" 353 (mXn 3) ["java/lang/RuntimeException", "java/lang/Exception"], vx_ot w = true := ⟨by decide +kernel, by decide +kernel, fun w hw => hI.T w (thw_3 w hw).1 (thw_3 w hw).2 args, thg_3⟩
set_option maxRecDepth 100000 in
theorem thw_4 : ∀ w ∈ vxX_at "ShareVault" 155 "java/util/NoSuchElementException" 13 prog_42_method_4_code ["java/lang/RuntimeException", "java/lang/Exception"], w ∈ lw_tbl ∧ mgood w = true := by decide +kernel
theorem thg_4 : ∀ w ∈ Cond.classLink "ShareVault" 151 "java/util/NoSuchElementException" :: Cond.initialized "java/util/NoSuchElementException" :: vxX_at "ShareVault" 155 "java/util/NoSuchElementException" 13 prog_42_method_4_code ["java/lang/RuntimeException", "java/lang/Exception"], vx_ot w = true := by decide +kernel
theorem m_thw_4_X11_155 {w : WD} {s : State} {A : Nat → Prop} {H : Heap} {locs : List Loc} {M : Mem} {args : Array Value} (hI : mI w s A H locs M) : (decode prog_42_method_4_code 0 = .ok (.aload_n 0, 1) ∧ decode prog_42_method_4_code 1 = .ok (.aload_n 1, 1) ∧ decode prog_42_method_4_code 2 = .ok (.invokespecial 13, 3) ∧ decode prog_42_method_4_code 5 = .ok (.return_, 1)) ∧ Bundle.fit (mXn 4) = true ∧ (∀ n ∈ ["java/lang/RuntimeException", "java/lang/Exception"], Bundle.fit n = true) ∧ (∀ w ∈ vxX_at "ShareVault" 155 (mXn 4) 13 prog_42_method_4_code ["java/lang/RuntimeException", "java/lang/Exception"], w.before args s = true) ∧ ∀ w ∈ Cond.classLink "ShareVault" 151 (mXn 4) :: Cond.initialized (mXn 4) :: vxX_at "ShareVault" 155 (mXn 4) 13 prog_42_method_4_code ["java/lang/RuntimeException", "java/lang/Exception"], vx_ot w = true := ⟨by decide +kernel, by decide +kernel, by decide +kernel, fun w hw => hI.T w (thw_4 w hw).1 (thw_4 w hw).2 args, thg_4⟩
set_option maxRecDepth 100000 in
theorem thw_5 : ∀ w ∈ vx_atS "ShareVault" 313 "java/lang/IllegalStateException" ["java/lang/RuntimeException", "java/lang/Exception"], w ∈ lw_tbl ∧ mgood w = true := by decide +kernel
theorem thg_5 : ∀ w ∈ Cond.classLink "ShareVault" 309 "java/lang/IllegalStateException" :: Cond.initialized "java/lang/IllegalStateException" :: vx_atS "ShareVault" 313 "java/lang/IllegalStateException" ["java/lang/RuntimeException", "java/lang/Exception"], vx_ot w = true := by decide +kernel
theorem m_thw_5_X11_313 {w : WD} {s : State} {A : Nat → Prop} {H : Heap} {locs : List Loc} {M : Mem} {args : Array Value} (hI : mI w s A H locs M) : Bundle.fit (mXn 5) = true ∧ (∀ n ∈ ["java/lang/RuntimeException", "java/lang/Exception"], Bundle.fit n = true) ∧ (∀ w ∈ vx_atS "ShareVault" 313 (mXn 5) ["java/lang/RuntimeException", "java/lang/Exception"], w.before args s = true) ∧ ∀ w ∈ Cond.classLink "ShareVault" 309 (mXn 5) :: Cond.initialized (mXn 5) :: vx_atS "ShareVault" 313 (mXn 5) ["java/lang/RuntimeException", "java/lang/Exception"], vx_ot w = true := ⟨by decide +kernel, by decide +kernel, fun w hw => hI.T w (thw_5 w hw).1 (thw_5 w hw).2 args, thg_5⟩
set_option maxRecDepth 100000 in
theorem thw_6 : ∀ w ∈ vx_atS "ShareVault" 291 "java/lang/ArithmeticException" ["java/lang/RuntimeException", "java/lang/Exception"], w ∈ lw_tbl ∧ mgood w = true := by decide +kernel
theorem thg_6 : ∀ w ∈ Cond.classLink "ShareVault" 287 "java/lang/ArithmeticException" :: Cond.initialized "java/lang/ArithmeticException" :: vx_atS "ShareVault" 291 "java/lang/ArithmeticException" ["java/lang/RuntimeException", "java/lang/Exception"], vx_ot w = true := by decide +kernel
theorem m_thw_6_X11_291 {w : WD} {s : State} {A : Nat → Prop} {H : Heap} {locs : List Loc} {M : Mem} {args : Array Value} (hI : mI w s A H locs M) : Bundle.fit (mXn 6) = true ∧ (∀ n ∈ ["java/lang/RuntimeException", "java/lang/Exception"], Bundle.fit n = true) ∧ (∀ w ∈ vx_atS "ShareVault" 291 (mXn 6) ["java/lang/RuntimeException", "java/lang/Exception"], w.before args s = true) ∧ ∀ w ∈ Cond.classLink "ShareVault" 287 (mXn 6) :: Cond.initialized (mXn 6) :: vx_atS "ShareVault" 291 (mXn 6) ["java/lang/RuntimeException", "java/lang/Exception"], vx_ot w = true := ⟨by decide +kernel, by decide +kernel, fun w hw => hI.T w (thw_6 w hw).1 (thw_6 w hw).2 args, thg_6⟩
