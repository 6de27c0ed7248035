/-! THE LAW'S HELPERS: a call of the class, its answer laid into an array of one long, its exceptions caught -/
def hA (w : WD) (sz o : Nat) : Nat → Prop := fun q => mA w sz q ∨ q = o
/-- the law's own cell -/
abbrev hC (w : WD) (cL : ClassId) (o : Nat) (x : Int64) (H : Heap) : Prop := va_at w.2.1 mCl (o, .inl (cL, 1, .inr (.inl fun _ => x))) H
def hPre (w : WD) (sz o : Nat) (cL : ClassId) (x : Int64) (M : Mem) (av : List Value) : Array Value → State → Prop :=
  va_Pc av (fun U => U.heap.size = sz ∧ o < sz ∧ (mP w M U.heap ∧ mJ w ∧ va_K w.2.1 mCl (mTys w) U ∧ mT U ∧ mSt w (hA w sz o) U U.heap) ∧ hC w cL o x U.heap ∧ (∀ g i, mok g i → w.1 g i ≠ o) ∧ ArrOfT U cL .long)
def hQ (w : WD) (sz o : Nat) (cL : ClassId) (k : Int32) (y : Int64) (M1 : Mem) : Array Value → State → Outcome → State → Prop := fun _ st oc t => oc = .returned (some (.int k)) ∧ mP w M1 t.heap ∧ hC w cL o y t.heap ∧ va_F (hA w sz o) st t
abbrev hMet (l : Launch) (y : MethodName) (cc : ByteArray) (maxL : Nat) (hh : List (Nat × Nat × Nat × Nat)) (rm : Room) (w : WD) (sz o : Nat) (cL : ClassId) (x : Int64) (M : Mem) (av : List Value) (k : Int32) (y1 : Int64) (M1 : Mem) (mc ms : Nat) : Prop :=
  Met l y [Cond.codeWith y cc maxL (some .int) hh] rm (hPre w sz o cL x M av) (hQ w sz o cL k y1 M1) mc ms (hA w sz o)
theorem hPre.blind {w : WD} {sz o : Nat} {cL : ClassId} {x : Int64} {M : Mem} {av : List Value} : FrameBlind (hPre w sz o cL x M av) := fun v U g mk h =>
  ⟨h.1, h.2.1, h.2.2.1, ⟨h.2.2.2.1.1, h.2.2.2.1.2.1, va_K.moved (u := U) (U := U.calling g mk v) (Vm.Alike.refl U.vm) h.2.2.2.1.2.2.1, h.2.2.2.1.2.2.2.1.warm (s := U) (U := U.calling g mk v) (State.WarmedH.refl U), h.2.2.2.1.2.2.2.2.moved (u := U) (U := U.calling g mk v) (State.WarmedH.refl U)⟩, h.2.2.2.2.1, h.2.2.2.2.2.1, arrOfT_moved (u := U) (E := U.calling g mk v) (Vm.Alike.refl U.vm) h.2.2.2.2.2.2⟩
/-- as Met.ofW, for a method with an exception table -/
theorem Met_ofWH {l : Launch} {y : MethodName} {ws ws' : List Cond} {rm : Room} {Pc : Array Value → State → Prop} {Qc : Array Value → State → Outcome → State → Prop} {mc ms : Nat} {free : Addr → Prop} {cc : ByteArray} {maxL : Nat} {ret : Option FieldType} {hh : List (Nat × Nat × Nat × Nat)}
    (hy : plainName y.cls = true) (hw : ws = Cond.codeWith y cc maxL ret hh :: ws')
    (body : ∀ p e s m args below meth c s₁, BodyLoose p l y (headSpec ws rm) cc maxL ret e s m args below meth c s₁ → c.maxLocals = maxL → c.exceptionTable.toList = tableOf hh → Pc args s →
      W p l e (headSpec ws rm).room s m args below meth c s.heap [] 0 0 (MQ below Qc args s mc ms free) (entryFrame m args maxL)) : Met l y ws rm Pc Qc mc ms free := by
  refine MetFree.of_bodyS (code := cc) (maxLocals := maxL) (ret := ret) hy ?_ ?_
  · intro args s m h hn
    obtain ⟨m9, meth, c, hn9, h1, h2, h3, h4, -, h5, h6, -⟩ := Cond.codeWith_spec (atoms_spec (ws := ws) h _ (by rw [hw]; exact List.mem_cons_self))
    cases hn.symm.trans hn9
    exact ⟨meth, c, h1, h2, h3, h4, h5, h6⟩
  · intro p e s m args below meth c s₁ B hml hP _
    have hh0 : s₁.heap = s.heap := by rw [B.state]; rfl
    have ht : c.exceptionTable.toList = tableOf hh := vx_table (x := y) B (atoms_spec (ws := ws) B.pre _ (by rw [hw]; exact List.mem_cons_self))
    obtain ⟨t, a1, o, b1, b2, b3⟩ := body p e s m args below meth c s₁ B hml ht hP s₁ hh0 (Stand.of_body B)
    exact ⟨t, o, a1, b1, b2, ⟨b3.1, b3.2⟩⟩
/-- on the way -/
def hI (w : WD) (s : State) (H : Heap) (locs : List Loc) (o : Nat) (cL : ClassId) (x : Int64) (M : Mem) : Prop := mI w s (hA w s.heap.size o) H locs M ∧ hC w cL o x H ∧ (∀ g i, mok g i → w.1 g i ≠ o) ∧ ArrOfT s cL .long ∧ o < s.heap.size
theorem h_of {l : Launch} {y : MethodName} {cc : ByteArray} {maxL mc ms : Nat} {hh : List (Nat × Nat × Nat × Nat)} {rm : Room} {w : WD} {sz o : Nat} {cL : ClassId} {x y1 : Int64} {M M1 : Mem} {av : List Value} {k : Int32} (hy : plainName y.cls = true) (ha : (lg_sl av).length ≤ maxL)
    (body : ∀ (p : Program) (e : Env) (s : State) (m : MethodId) (args : Array Value) (below : List Frame) (meth : Method) (c : Code), p.tables.exec = Jvm.exec → c.code = cc → meth.sig.returnType = some .int → c.maxLocals = maxL → c.exceptionTable.toList = tableOf hh → s.vm.findClass y.cls = some m.cls → meth.locks = false →
      hI w s s.heap [] o cL x M → ∀ ls : Array Slot, lv_has ls maxL (lv_args 0 av) → W p l e rm s m args below meth c s.heap [] 0 0 (MQ below (hQ w s.heap.size o cL k y1 M1) args s mc ms (hA w s.heap.size o)) (F0 m 0 ls [])) : hMet l y cc maxL hh rm w sz o cL x M av k y1 M1 mc ms := by
  refine Met_ofWH (cc := cc) (maxL := maxL) (ret := some .int) hy rfl ?_
  intro p e s m args below meth c s₁ B hml hxt hv
  obtain ⟨rfl, rfl, hlt, ⟨hP, hJ, hK, hT, hSt⟩, hc, hne, har⟩ := hv
  rw [lg_entry_eq]
  exact body p e s m _ below meth c B.exec B.bytes B.returns hml hxt (findClass_of_methodNamed B.named) B.notSynchronized ⟨⟨hP, hJ, hK, hT, hSt, va_S.rf, fun q hq => Or.inl (Or.inr hq), fun g i hg => Or.inl (Or.inl ⟨g, i, hg, rfl⟩)⟩, hc, hne, har, hlt⟩ _ (lv_entry av ha)
section HROWS
variable {p : Program} {l : Launch} {e : Env} {R : Room} {s : State} {m : MethodId} {args : Array Value} {below : List Frame} {meth : Method} {c : Code} {H : Heap} {locs : List Loc} {cells slots mc ms : Nat} {Q : State → Prop}
variable {cc : ByteArray} {pc : Nat} {ls : Array Slot} {rest : List Value} {w : WD} {M M1 : Mem} {o : Nat} {cL : ClassId} {x : Int64}
theorem hI.keep (h : hI w s H locs o cL x M) {H1 : Heap} {L : List Loc} (hP : mP w M1 H1) (hz : H.size ≤ H1.size) (hk : ∀ q : Nat, q < H.size → ¬ mA w H.size q → H1[q]? = H[q]?) (hL : ∀ q ∈ L, mA w H.size q.base) : hI w s H1 (locs ++ L) o cL x M1 := by
  obtain ⟨hm, hc, hne, har, hlt⟩ := h
  have hS := hm.S
  refine ⟨hm.next hP ⟨Nat.le_trans hS.1 hz, fun q h1 h2 => (hk q (Nat.lt_of_lt_of_le h1 hS.1) (fun z => h2 (hm.sub q z))).trans (hS.2.1 q h1 h2), fun q hq => ?_⟩, hc.kept (hk o (Nat.lt_of_lt_of_le hlt hS.1) ?_), hne, har, hlt⟩
  · rcases List.mem_append.mp hq with h | h
    · exact hS.2.2 q h
    · exact hm.sub _ (hL q h)
  · rintro (⟨g, i, hg, h⟩ | h)
    · exact hne g i hg h.symm
    · exact Nat.not_le.mpr (Nat.lt_of_lt_of_le hlt hS.1) h
theorem h_after {st0 : List Value} {a : Array Value} {oc : Nat ⊕ Option Value} (hr : vx_Run p l e R s m args below meth c H locs cells slots mc ms (F0 m pc ls st0) rest (mQx w H.size oc M1 a) (mXx w H.size oc M1) (mA w H.size)) (hI0 : hI w s H locs o cL x M)
    (kr : ∀ (v : Option Value), oc = .inr v → ∀ (H1 : Heap) (locs1 : List Loc), hI w s H1 locs1 o cL x M1 → W p l e R s m args below meth c H1 locs1 (cells + mc) (slots + ms) Q (F0 m (pc + 3) ls (v.toList ++ rest)))
    (kx : ∀ (n : Nat), oc = .inl n → ∀ (ce : Cell) (q : Addr) (H1 : Heap) (locs1 : List Loc), hI w s H1 locs1 o cL x M1 → H1[q]? = some ce → ce.vm = .none → s.vm.findClass (mXn n) = some ce.cls → vx_W p l e R s m args below meth c H1 locs1 (cells + mc) (slots + ms) Q (F0 m pc ls rest) q) : W p l e R s m args below meth c H locs cells slots Q (F0 m pc ls st0) := by
  intro T hT X
  rcases hr T hT X with ⟨v1, st₀, t, T', L, h0, X', hL, e1, e2, ⟨⟨v2, hv2, hv⟩, hP1, hz, hk⟩, st⟩ | ⟨q, st₀, t, T', L, E, ce, h0, X', hL, e1, e2, ⟨⟨n1, hn, rfl⟩, hP1, hz, hk⟩, hce, hcv, hcl, st⟩
  · cases hv
    rw [h0] at hz hk
    obtain ⟨t2, a1, b1⟩ := kr v1 hv2 T'.heap (locs ++ L) (hI0.keep (by rw [e1]; exact hP1) (by rw [e1]; exact hz) (fun q h1 h2 => by rw [e1]; exact hk q h1 h2) hL) T' rfl X'
    exact ⟨t2, st t2 a1, b1⟩
  · rw [h0] at hz hk
    obtain ⟨t2, a1, b1⟩ := kx n1 hn ce q T'.heap (locs ++ L) (hI0.keep (by rw [e1]; exact hP1) (by rw [e1]; exact hz) (fun q h1 h2 => by rw [e1]; exact hk q h1 h2) hL) (by rw [e1]; exact hce) hcv hcl T' rfl X'
    exact ⟨t2, st.trans a1, b1⟩
theorem h_last (hx : p.tables.exec = Jvm.exec) (hb : c.code = cc) (hI0 : hI w s H locs o cL x M) {y : Int64} (hdg : decode cc pc = .ok (.lastore, 1))
    (kk : ∀ (H1 : Heap) (locs1 : List Loc), hI w s H1 locs1 o cL y M → W p l e R s m args below meth c H1 locs1 cells slots Q (F0 m (pc + 1) ls rest)) : W p l e R s m args below meth c H locs cells slots Q (F0 m pc ls (.long y :: .int 0 :: .ref o :: rest)) := by
  obtain ⟨hm, hc, hne, har, hlt⟩ := hI0
  have hA : H[o]? = some (vp_cell cL (1, .inr (.inl fun _ => x))) := hc
  refine W.last hx hb hA (har 1 (fun j => .long x)) (fun q => by cases q) (by show ¬ ((0 : Int32) < 0 ∨ (arrV _ _ _).slots.size ≤ _); rw [arrV_size]; show ¬ ((0 : Int32) < 0 ∨ 1 ≤ (0 : Int32).toNatClampNeg); decide) rfl rfl hdg fun H1 e1 z oq => ?_
  refine kk H1 _ ⟨hm.next (hm.P.kept fun k q hk => oq q.1 ?_) (hm.S.put z oq (Or.inr rfl)), ?_, hne, har, hlt⟩
  · obtain ⟨g, hg, rfl⟩ := mW_of hk
    exact hne g.1 g.2 (List.mem_of_getElem? hg)
  · show H1[o]? = some (vp_cell _ _)
    rw [e1]
    show some ((vp_cell _ _).setSlot _ _) = _
    rw [vp_cell_l, vp_cell_l, arrV_store]
    exact congrArg some (arrV_congr _ _ fun j hj => by
      obtain rfl : j = 0 := by omega
      rfl)
theorem h_iret (hx : p.tables.exec = Jvm.exec) (hb : c.code = cc) (hr : meth.sig.returnType = some .int) (hlk : meth.locks = false) (hI0 : hI w s H locs o cL x M) {k : Int32} (hc : cells ≤ mc) (hs : slots ≤ ms) (hdg : decode cc pc = .ok (.ireturn, 1)) :
    W p l e R s m args below meth c H locs cells slots (MQ below (hQ w s.heap.size o cL k x M) args s mc ms (hA w s.heap.size o)) (F0 m pc ls [.int k]) := by
  obtain ⟨hm, hc0, hne, har, hlt⟩ := hI0
  exact W.widen hc hs (W.iret hx hb hr (fun t ht hW => ⟨rfl, by rw [ht]; exact hm.P, by rw [ht]; exact hc0, hm.S.F ht⟩) hm.S.2.2 hdg hlk)
end HROWS
