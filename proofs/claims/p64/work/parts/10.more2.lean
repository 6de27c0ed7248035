/-! what some answers are; throws of methods that leave the memory as it is -/
theorem b_X4_prepared {M : Mem} {r : Nat} (h : f_X4_prepared M = some r) : r ≤ 10 := by
  unfold f_X4_prepared at h
  obtain ⟨hi, h⟩ := mix_e h
  cases h
  have := mix_lt hi
  omega
theorem b_X4_takeLatest {M M1 : Mem} {r : Nat} (h : f_X4_takeLatest M = some (r, M1)) : r ≤ 10 := by
  unfold f_X4_takeLatest at h
  obtain ⟨M2, e2, h⟩ := mlet_e h
  obtain ⟨M3, e3, h⟩ := mlet_e h
  obtain ⟨hi, h⟩ := mix_e h
  cases h
  have := mix_lt hi
  omega
theorem b_X2_readWord_L {M M1 : Mem} {k : Nat} : ∀ (n : Nat) (x1 x2 : Int32) (kk : Int32 → Option (Option Nat × Mem)), f_X2_readWord_L12 M n x1 x2 kk = some (some k, M1) → (∀ a, kk a ≠ some (some k, M1)) → k < 11 := by
  intro n
  induction n with
  | zero => intro x1 x2 kk h _; rw [f_X2_readWord_L12.eq_1] at h; cases h
  | succ n ih =>
    intro x1 x2 kk h hk
    rw [f_X2_readWord_L12.eq_2] at h
    split at h
    · exact absurd h (hk _)
    · obtain ⟨hi, h⟩ := mix_e h
      obtain ⟨r4, hc, h⟩ := mbp_e h
      split at h
      · obtain ⟨M8, e8, h⟩ := mlet_e h
        cases h
        exact mix_lt hi
      · obtain ⟨x6, e6, h⟩ := mlet_e h
        obtain ⟨x7, e7, h⟩ := mlet_e h
        exact ih _ _ _ h hk
theorem b_X2_readWord {M M1 : Mem} {r : Option Nat} (h : f_X2_readWord M = some (r, M1)) : ∀ k, r = some k → k < 11 := by
  rintro k rfl
  unfold f_X2_readWord at h
  exact b_X2_readWord_L _ _ _ _ h (fun a q => by cases q)
section MROWS3
variable {p : Program} {l : Launch} {e : Env} {R : Room} {s : State} {m : MethodId} {args : Array Value} {below : List Frame} {meth : Method} {c : Code} {H : Heap} {locs : List Loc} {cells slots : Nat} {Q : State → Prop}
variable {cc : ByteArray} {pc : Nat} {ls : Array Slot} {rest : List Value} {A : Nat → Prop} {w : WD} {M M1 M9 : Mem} {g i mc ms : Nat}
variable {y : MethodName} {bytes : ByteArray} {maxL nL n idx n9 : Nat} {ret : Option FieldType} {rm : Room} {own C : String} {b : Nat} {As : List Value} {α γ : Type} {f : α → Option Value} {h : γ → Option Value} {mc9 ms9 : Nat}
theorem m_throwp {n ix ik is ic : Nat} {text : String} {names : List String} {r : Nat ⊕ γ} (hx : p.tables.exec = Jvm.exec) (hb : c.code = cc) (hsf : l.stackTraces = false) (hown : s.vm.findClass "ShareVault" = some m.cls) (hI : mI w s (mA w s.heap.size) H locs M) (hms : mCx[ix]? = some (is, text))
    (hk : (Cond.classLink "ShareVault" ik (mXn n)).before args s = true) (hini : (Cond.initialized (mXn n)).before args s = true) (hat : Bundle.fit (mXn n) = true ∧ (∀ n ∈ names, Bundle.fit n = true) ∧ (∀ w ∈ vx_atS "ShareVault" ic (mXn n) names, w.before args s = true) ∧ ∀ w ∈ Cond.classLink "ShareVault" ik (mXn n) :: Cond.initialized (mXn n) :: vx_atS "ShareVault" ic (mXn n) names, vx_ot w = true)
    (hsize : ls.size = nL) (hml : c.maxLocals = nL) (d0 : decode cc pc = .ok (.new ik, 3)) (d3 : decode cc (pc + 3) = .ok (.dup, 1)) (d4 : decode cc (pc + 4) = .ok (.ldc is, 2)) (d6 : decode cc (pc + 6) = .ok (.invokespecial ic, 3)) (d9 : decode cc (pc + 9) = .ok (.athrow, 1))
    (hxt : ∀ x ∈ c.exceptionTable.toList, False) (hRf : names.length + 3 < R.frames) (hRl : (rest.map fun v => v.category).sum + (13 * (names.length + 1) + 43) ≤ R.locals) (hRc : cells + 1 ≤ R.cells) (hRs : slots + 6 ≤ R.slots) (hlk : meth.locks = false) (hr : some (Sum.inl n) = some r) (hc : cells + 1 ≤ mc) (hs : slots + 6 ≤ ms) :
    W p l e R s m args below meth c H locs cells slots (vx_MQ below (mQx w s.heap.size (mo h r) M) (mXx w s.heap.size (mo h r) M) args s mc ms (mA w s.heap.size)) (F0 m pc ls rest) :=
  m_throw hx hb hsf hown hI hms hk hini hat hsize hml d0 d3 d4 d6 d9 hxt hRf hRl hRc hRs hlk (by cases hr; rfl) hc hs
theorem m_throwWp {n ix ik is ic : Nat} {text : String} {names : List String} {r : Nat ⊕ γ} (hx : p.tables.exec = Jvm.exec) (hb : c.code = cc) (hsf : l.stackTraces = false) (hown : s.vm.findClass "ShareVault" = some m.cls) (hI : mI w s (mA w s.heap.size) H locs M) (hms : mCx[ix]? = some (is, text))
    (hk : (Cond.classLink "ShareVault" ik (mXn n)).before args s = true) (hini : (Cond.initialized (mXn n)).before args s = true) (hat : Bundle.fit (mXn n) = true ∧ (∀ n ∈ names, Bundle.fit n = true) ∧ (∀ w ∈ vx_atS "ShareVault" ic (mXn n) names, w.before args s = true) ∧ ∀ w ∈ Cond.classLink "ShareVault" ik (mXn n) :: Cond.initialized (mXn n) :: vx_atS "ShareVault" ic (mXn n) names, vx_ot w = true)
    (hsize : ls.size = nL) (hml : c.maxLocals = nL) (d0 : decode cc pc = .ok (.new ik, 3)) (d3 : decode cc (pc + 3) = .ok (.dup, 1)) (d4 : decode cc (pc + 4) = .ok (.ldc_w is, 3)) (d7 : decode cc (pc + 7) = .ok (.invokespecial ic, 3)) (d10 : decode cc (pc + 10) = .ok (.athrow, 1))
    (hxt : ∀ x ∈ c.exceptionTable.toList, False) (hRf : names.length + 3 < R.frames) (hRl : (rest.map fun v => v.category).sum + (13 * (names.length + 1) + 43) ≤ R.locals) (hRc : cells + 1 ≤ R.cells) (hRs : slots + 6 ≤ R.slots) (hlk : meth.locks = false) (hr : some (Sum.inl n) = some r) (hc : cells + 1 ≤ mc) (hs : slots + 6 ≤ ms) :
    W p l e R s m args below meth c H locs cells slots (vx_MQ below (mQx w s.heap.size (mo h r) M) (mXx w s.heap.size (mo h r) M) args s mc ms (mA w s.heap.size)) (F0 m pc ls rest) :=
  m_throwW hx hb hsf hown hI hms hk hini hat hsize hml d0 d3 d4 d7 d10 hxt hRf hRl hRc hRs hlk (by cases hr; rfl) hc hs
theorem m_throwXp {n ix ik is ic jx : Nat} {rx : ByteArray} {text : String} {names : List String} {r : Nat ⊕ γ} (hx : p.tables.exec = Jvm.exec) (hb : c.code = cc) (hsf : l.stackTraces = false) (hown : s.vm.findClass "ShareVault" = some m.cls) (hI : mI w s (mA w s.heap.size) H locs M) (hms : mCx[ix]? = some (is, text))
    (hk : (Cond.classLink "ShareVault" ik (mXn n)).before args s = true) (hini : (Cond.initialized (mXn n)).before args s = true) (hat : (decode rx 0 = .ok (.aload_n 0, 1) ∧ decode rx 1 = .ok (.aload_n 1, 1) ∧ decode rx 2 = .ok (.invokespecial jx, 3) ∧ decode rx 5 = .ok (.return_, 1)) ∧ Bundle.fit (mXn n) = true ∧ (∀ n ∈ names, Bundle.fit n = true) ∧ (∀ w ∈ vxX_at "ShareVault" ic (mXn n) jx rx names, w.before args s = true) ∧ ∀ w ∈ Cond.classLink "ShareVault" ik (mXn n) :: Cond.initialized (mXn n) :: vxX_at "ShareVault" ic (mXn n) jx rx names, vx_ot w = true)
    (hsize : ls.size = nL) (hml : c.maxLocals = nL) (d0 : decode cc pc = .ok (.new ik, 3)) (d3 : decode cc (pc + 3) = .ok (.dup, 1)) (d4 : decode cc (pc + 4) = .ok (.ldc is, 2)) (d6 : decode cc (pc + 6) = .ok (.invokespecial ic, 3)) (d9 : decode cc (pc + 9) = .ok (.athrow, 1))
    (hxt : ∀ x ∈ c.exceptionTable.toList, False) (hRf : names.length + 3 < R.frames) (hRl : (rest.map fun v => v.category).sum + (13 * (names.length + 1) + 43) ≤ R.locals) (hRc : cells + 1 ≤ R.cells) (hRs : slots + 6 ≤ R.slots) (hlk : meth.locks = false) (hr : some (Sum.inl n) = some r) (hc : cells + 1 ≤ mc) (hs : slots + 6 ≤ ms) :
    W p l e R s m args below meth c H locs cells slots (vx_MQ below (mQx w s.heap.size (mo h r) M) (mXx w s.heap.size (mo h r) M) args s mc ms (mA w s.heap.size)) (F0 m pc ls rest) := by
  cases hr
  obtain ⟨sa, hstr⟩ := hI.msg hms
  exact vxX_throw (d := 6) hx hb hsf hat.1.1 hat.1.2.1 hat.1.2.2.1 hat.1.2.2.2 hown hat.2.1 hat.2.2.1 hk hini hstr hat.2.2.2.1 hat.2.2.2.2 hI.St.1.1 hI.St.1.2 hI.S (hsize.trans hml.symm) d0 d3 (Or.inl ⟨rfl, d4⟩) d6 d9 (fun x hx => (hxt x hx).elim) hRf hRl hRc hRs hlk
    (fun t hv hz hq => ⟨⟨n, rfl, rfl⟩, hI.P.kept (fun k q hk => hq q.1 (hI.P k q hk).lt), ⟨Nat.le_trans hI.S.1 hz, fun q h1 h2 => (hq q (Nat.lt_of_lt_of_le h1 hI.S.1)).trans (hI.S.2.1 q h1 h2)⟩⟩) hI.S.2.2 hc hs
theorem m_throwXWp {n ix ik is ic jx : Nat} {rx : ByteArray} {text : String} {names : List String} {r : Nat ⊕ γ} (hx : p.tables.exec = Jvm.exec) (hb : c.code = cc) (hsf : l.stackTraces = false) (hown : s.vm.findClass "ShareVault" = some m.cls) (hI : mI w s (mA w s.heap.size) H locs M) (hms : mCx[ix]? = some (is, text))
    (hk : (Cond.classLink "ShareVault" ik (mXn n)).before args s = true) (hini : (Cond.initialized (mXn n)).before args s = true) (hat : (decode rx 0 = .ok (.aload_n 0, 1) ∧ decode rx 1 = .ok (.aload_n 1, 1) ∧ decode rx 2 = .ok (.invokespecial jx, 3) ∧ decode rx 5 = .ok (.return_, 1)) ∧ Bundle.fit (mXn n) = true ∧ (∀ n ∈ names, Bundle.fit n = true) ∧ (∀ w ∈ vxX_at "ShareVault" ic (mXn n) jx rx names, w.before args s = true) ∧ ∀ w ∈ Cond.classLink "ShareVault" ik (mXn n) :: Cond.initialized (mXn n) :: vxX_at "ShareVault" ic (mXn n) jx rx names, vx_ot w = true)
    (hsize : ls.size = nL) (hml : c.maxLocals = nL) (d0 : decode cc pc = .ok (.new ik, 3)) (d3 : decode cc (pc + 3) = .ok (.dup, 1)) (d4 : decode cc (pc + 4) = .ok (.ldc_w is, 3)) (d7 : decode cc (pc + 7) = .ok (.invokespecial ic, 3)) (d10 : decode cc (pc + 10) = .ok (.athrow, 1))
    (hxt : ∀ x ∈ c.exceptionTable.toList, False) (hRf : names.length + 3 < R.frames) (hRl : (rest.map fun v => v.category).sum + (13 * (names.length + 1) + 43) ≤ R.locals) (hRc : cells + 1 ≤ R.cells) (hRs : slots + 6 ≤ R.slots) (hlk : meth.locks = false) (hr : some (Sum.inl n) = some r) (hc : cells + 1 ≤ mc) (hs : slots + 6 ≤ ms) :
    W p l e R s m args below meth c H locs cells slots (vx_MQ below (mQx w s.heap.size (mo h r) M) (mXx w s.heap.size (mo h r) M) args s mc ms (mA w s.heap.size)) (F0 m pc ls rest) := by
  cases hr
  obtain ⟨sa, hstr⟩ := hI.msg hms
  exact vxX_throw (d := 7) hx hb hsf hat.1.1 hat.1.2.1 hat.1.2.2.1 hat.1.2.2.2 hown hat.2.1 hat.2.2.1 hk hini hstr hat.2.2.2.1 hat.2.2.2.2 hI.St.1.1 hI.St.1.2 hI.S (hsize.trans hml.symm) d0 d3 (Or.inr ⟨rfl, d4⟩) d7 d10 (fun x hx => (hxt x hx).elim) hRf hRl hRc hRs hlk
    (fun t hv hz hq => ⟨⟨n, rfl, rfl⟩, hI.P.kept (fun k q hk => hq q.1 (hI.P k q hk).lt), ⟨Nat.le_trans hI.S.1 hz, fun q h1 h2 => (hq q (Nat.lt_of_lt_of_le h1 hI.S.1)).trans (hI.S.2.1 q h1 h2)⟩⟩) hI.S.2.2 hc hs
end MROWS3
/-- as Met.ofW, for a method of a class whose other methods the machine runs itself -/
theorem Met_ofWF {l : Launch} {y : MethodName} {ws ws' : List Cond} {rm : Room} {Pc : Array Value → State → Prop} {Qc : Array Value → State → Outcome → State → Prop} {mc ms : Nat} {free : Addr → Prop} {cc : ByteArray} {maxL : Nat} {ret : Option FieldType}
    (hy : plainFor y = true) (hw : ws = Cond.code y cc maxL ret :: ws')
    (body : ∀ p e s m args below meth c s₁, BodyLoose p l y (headSpec ws rm) cc maxL ret e s m args below meth c s₁ → c.maxLocals = maxL → Pc args s →
      W p l e (headSpec ws rm).room s m args below meth c s.heap [] 0 0 (MQ below Qc args s mc ms free) (entryFrame m args maxL)) : Met l y ws rm Pc Qc mc ms free := by
  refine MetFree.of_bodySF (code := cc) (maxLocals := maxL) (ret := ret) hy ?_ ?_
  · intro args s m h hn
    obtain ⟨meth, c, h1, h2, h3, h4, h5, h6, -, -⟩ := Cond.code_spec hn (atoms_spec (ws := ws) h _ (by rw [hw]; exact List.mem_cons_self))
    exact ⟨meth, c, h1, h2, h3, h4, h5, h6⟩
  · intro p e s m args below meth c s₁ B hml hP _
    have hh0 : s₁.heap = s.heap := by rw [B.state]; rfl
    obtain ⟨t, a1, o, b1, b2, b3⟩ := body p e s m args below meth c s₁ B hml hP s₁ hh0 (Stand.of_body B)
    exact ⟨t, o, a1, b1, b2, ⟨b3.1, b3.2⟩⟩
theorem m_ofF {l : Launch} {y : MethodName} {cc : ByteArray} {maxL : Nat} {ret : Option FieldType} {rm : Room} {w : WD} {sz : Nat} {M M1 : Mem} {av : List Value} {v : Option Value} (hy : plainFor y = true) (ha : (lg_sl av).length ≤ maxL)
    (body : ∀ (p : Program) (e : Env) (s : State) (m : MethodId) (args : Array Value) (below : List Frame) (meth : Method) (c : Code), p.tables.exec = Jvm.exec → c.code = cc → meth.sig.returnType = ret → c.maxLocals = maxL → s.vm.findClass y.cls = some m.cls → meth.locks = false →
      mI w s (mA w s.heap.size) s.heap [] M → ∀ ls : Array Slot, lv_has ls maxL (lv_args 0 av) → W p l e rm s m args below meth c s.heap [] 0 0 (MQ below (mQ w s.heap.size v M1) args s 0 0 (mA w s.heap.size)) (F0 m 0 ls [])) : mMet l y cc maxL ret rm w sz M av v M1 := by
  refine Met_ofWF (cc := cc) (maxL := maxL) (ret := ret) hy rfl ?_
  intro p e s m args below meth c s₁ B hml hv
  obtain ⟨rfl, rfl, hp⟩ := hv
  rw [lg_entry_eq]
  exact body p e s m _ below meth c B.exec B.bytes B.returns hml (findClass_of_methodNamed B.named) B.notSynchronized hp.start _ (lv_entry av ha)
