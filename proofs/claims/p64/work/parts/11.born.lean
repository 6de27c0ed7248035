/-! WHAT CONSTRUCTORS MAKE: new cells, at addresses that the heap's size tells -/
/-- what a constructor may change: the object that it is called on, and what is new -/
def gA (a sz : Nat) : Nat → Prop := fun q => q = a ∨ sz ≤ q
/-- what the tables say: the classes of arrays of references too -/
def gT (U : State) : Prop := mT U ∧ va_AO "ShareVault$State" U ∧ va_AO "ShareVault$Word" U ∧ (Cond.arrayOver (.array .int)).before #[] U = true
theorem gT.warm {s U : State} (hW : s.WarmedH U.vm) (h : gT s) : gT U := ⟨h.1.warm hW, h.2.1.moved hW.alike, h.2.2.1.moved hW.alike, over_moved hW.alike h.2.2.2⟩
/-- on the way: the object a holds e; ws: what is new; n: how many cells that is -/
def gI (w : WD) (s : State) (H : Heap) (locs : List Loc) (a : Nat) (e : va_E) (ws : va_W) (n : Nat) : Prop :=
  va_K w.2.1 mCl (mTys w) s ∧ gT s ∧ a < s.heap.size ∧ va_at w.2.1 mCl (a, e) H ∧ va_P w.2.1 mCl ws H ∧ (∀ q ∈ ws, s.heap.size ≤ q.1) ∧ va_S (gA a s.heap.size) s.heap H locs ∧ H.size = s.heap.size + n
theorem gI.K {w : WD} {s : State} {H : Heap} {locs : List Loc} {a : Nat} {e : va_E} {ws : va_W} {n : Nat} (h : gI w s H locs a e ws n) : va_K w.2.1 mCl (mTys w) s := h.1
theorem gI.T {w : WD} {s : State} {H : Heap} {locs : List Loc} {a : Nat} {e : va_E} {ws : va_W} {n : Nat} (h : gI w s H locs a e ws n) : mT s := h.2.1.1
theorem gI.T0 {w : WD} {s : State} {H : Heap} {locs : List Loc} {a : Nat} {e : va_E} {ws : va_W} {n : Nat} (h : gI w s H locs a e ws n) : gT s := h.2.1
theorem gI.sz {w : WD} {s : State} {H : Heap} {locs : List Loc} {a : Nat} {e : va_E} {ws : va_W} {n : Nat} (h : gI w s H locs a e ws n) : H.size = s.heap.size + n := h.2.2.2.2.2.2.2
/-- more cells -/
theorem gI.grow {w : WD} {s : State} {H H1 : Heap} {locs locs1 : List Loc} {a : Nat} {e : va_E} {ws ws2 : va_W} {n n1 : Nat} (h : gI w s H locs a e ws n) (hn : n ≤ n1) (z : H1.size = s.heap.size + n1) (o : ∀ q : Nat, q < s.heap.size + n → H1[q]? = H[q]?) (hP : va_P w.2.1 mCl ws2 H1) (hg : ∀ q ∈ ws2, s.heap.size ≤ q.1) (hL : ∀ l ∈ locs1, gA a s.heap.size l.base) : gI w s H1 locs1 a e (ws ++ ws2) n1 := by
  obtain ⟨hK, hT, hlt, hat, hP0, hg0, hS, hsz⟩ := h
  refine ⟨hK, hT, hlt, hat.kept (o a (by omega)), (hP0.kept fun k q hk => o q.1 (by rw [← hsz]; exact (hP0 k q hk).lt)).app hP, fun q hq => ?_, ⟨by omega, fun q h1 h2 => (o q (by omega)).trans (hS.2.1 q h1 h2), hL⟩, z⟩
  rcases List.mem_append.mp hq with h | h
  · exact hg0 q h
  · exact hg q h
theorem va_P1 {D : va_G} {cl : List vw_C} {x : Nat × va_E} {H : Heap} (h : va_at D cl x H) : va_P D cl [x] H := by
  intro k q hk
  have hz : k < 1 := (List.getElem?_eq_some_iff.mp hk).1
  rw [show k = 0 by omega] at hk
  cases hk
  exact h
section BORN
variable {p : Program} {l : Launch} {e : Env} {R : Room} {s : State} {m : MethodId} {args : Array Value} {below : List Frame} {meth : Method} {c : Code} {H : Heap} {locs : List Loc} {cells slots : Nat} {Q : State → Prop}
variable {cc : ByteArray} {pc : Nat} {ls : Array Slot} {rest : List Value} {w : WD} {a n : Nat} {e0 : va_E} {ws : va_W}
theorem g_newa (hx : p.tables.exec = Jvm.exec) (hb : c.code = cc) (hI : gI w s H locs a e0 ws n) {atype : ArrayType} {ty : FieldType} {cA : ClassId} {t0 N : Nat} {k : Int32} (hty : newarray.typeOf atype = ty) (harr : (Cond.arrayClass ty).before args s = true) (ht : (mTys w)[t0]? = some (cA, ty)) (hra : va_RA s cA ty → s.vm.findClass ("[" ++ ty.toString) = some cA) (hdv : defaultValue ty = .int 0)
    (hk : ¬ k < 0) (hN : k.toNatClampNeg = N) (hbytes : N * componentBytes ty ≤ 536870912) (hcells : cells + 1 ≤ R.cells) (hslots : slots + N ≤ R.slots) (hdg : decode cc pc = .ok (.newarray atype, 2))
    (kk : ∀ H1, gI w s H1 locs a e0 (ws ++ [(s.heap.size + n, .inl (cA, N, .inl fun _ => 0))]) (n + 1) → W p l e R s m args below meth c H1 locs (cells + 1) (slots + N) Q (F0 m (pc + 2) ls (.ref (s.heap.size + n) :: rest))) : W p l e R s m args below meth c H locs cells slots Q (F0 m pc ls (.int k :: rest)) := by
  subst hty
  refine va_newaK hx hb harr rfl hdg rfl hk hN hbytes hcells hslots hI.sz fun H1 cA' e1 z1 o1 hAr hNm => ?_
  cases (hra (hI.K.2 t0 _ ht).2).symm.trans hNm
  refine kk H1 (hI.grow (Nat.le_succ n) z1 o1 (va_P1 ?_) (fun q hq => ?_) hI.2.2.2.2.2.2.1.2.2)
  · show H1[s.heap.size + n]? = some (vp_cell _ _)
    rw [vp_cell_i, e1, hdv]
  · rw [List.mem_singleton.mp hq]
    exact Nat.le_add_right _ _
/-- a field of the object itself that is final -/
theorem g_putF (hx : p.tables.exec = Jvm.exec) (hb : c.code = cc) {own C : String} {T : u_T} {N ci idx k : Nat} {fs : List Value} {v : Value} {ty : FieldType} (hI : gI w s H locs a (.inr (ci, fs)) ws n) (hown : s.vm.findClass own = some m.cls) (hc : mCl[ci]? = some (C, T, N)) (hk : k < N) (hly : ∀ w ∈ u_ws C T N, w ∈ lw_tbl ∧ mgood w = true)
    (ty0 : Nat → FieldType) (hty : ∀ k, k < N → parseFieldDescriptor (T k).2.2.1 = some (ty0 k)) (hnm : ∀ a, a < N → ∀ b, b < N → a ≠ b → (T a).2.1 ≠ (T b).2.1) (hlink : (Cond.fieldLink own idx (T k).1 (T k).2.1 (T k).2.2.1).before args s = true) (hin2 : meth.name = "<init>") (hfin : (T k).2.2.2 = true) (hdecl : (T k).1 = own)
    (hd : ty0 k = ty) (hn : narrow ty v = v) (hfit : fits ty v = true) (hl : k < fs.length) (hdg : decode cc pc = .ok (.putfield idx, 3))
    (kk : ∀ (H1 : Heap) (locs1 : List Loc), gI w s H1 locs1 a (.inr (ci, fs.set k v)) ws n → W p l e R s m args below meth c H1 locs1 cells slots Q (F0 m (pc + 3) ls rest)) : W p l e R s m args below meth c H locs cells slots Q (F0 m pc ls (v :: .ref a :: rest)) := by
  subst hd
  obtain ⟨hK, hT, hlt, ⟨r, h1, cell, q1, q2, q3, q4⟩, hP, hge, hS, hsz⟩ := hI
  have hts : ∀ w ∈ u_ws C T N, w.before args s = true := fun w hw => hT.1 w (hly w hw).1 (hly w hw).2 args
  have hap := va_apart (own := own) hts (fun _ h => h) ty0 hty hnm hK hc
  obtain rfl : r = (C, T, N) := Option.some.inj (h1.symm.trans hc)
  obtain ⟨hSl, hfc, kC, hkC, hkind⟩ := hK.1 ci _ hc
  obtain ⟨cf, kf, fi, f, hi, hsl⟩ := hSl k hk
  have hlay := hts _ (u_in_lay hk)
  unfold u_lay at hlay
  rw [if_pos hfin] at hlay
  have hst := (u_facts hfc hkC (u_lays hts (fun _ h => h) hk) hi).1
  have hcf : m.cls = cf := by
    obtain ⟨_, _, c', _, _, _, -, -, hf', -, -, -, hown2, -⟩ := Cond.laysFinal_spec hlay
    cases hi.symm.trans hf'
    rw [hdecl] at hown2
    exact (Option.some.inj (hown2.symm.trans hown)).symm
  have h6 := u_fits hfc hkC hkind (Or.inr hlay) hi (hty k hk) hn hfit
  refine W.putFinK hx hb hown hlink hi hst hcf hin2 (by rw [q2]; exact h6) q1 q3 (by rw [hsl]; exact k2_hasslot (q4 k hk)) rfl rfl hdg fun H' e1 e2 e3 => ?_
  rw [hsl] at e1 ⊢
  refine kk H' _ ⟨hK, hT, hlt, ⟨_, hc, t_OB.to (V := updV (vp_V fs) k v) ⟨_, e1, q2, q3, t_set q4 hap hk v⟩ (fun j _ => vp_updV_set hl v j)⟩, hP.kept (fun j q hq => e3 q.1 (fun h => ?_)), hge, hS.put e2 e3 (Or.inl rfl), e2.trans hsz⟩
  have h9 := hge q (List.mem_of_getElem? hq)
  rw [h] at h9
  exact Nat.not_le.mpr hlt h9
/-- .. or not final -/
theorem g_put (hx : p.tables.exec = Jvm.exec) (hb : c.code = cc) {own C : String} {T : u_T} {N ci idx k : Nat} {fs : List Value} {v : Value} {ty : FieldType} (hI : gI w s H locs a (.inr (ci, fs)) ws n) (hown : s.vm.findClass own = some m.cls) (hc : mCl[ci]? = some (C, T, N)) (hk : k < N) (hly : ∀ w ∈ u_ws C T N, w ∈ lw_tbl ∧ mgood w = true)
    (ty0 : Nat → FieldType) (hty : ∀ k, k < N → parseFieldDescriptor (T k).2.2.1 = some (ty0 k)) (hnm : ∀ a, a < N → ∀ b, b < N → a ≠ b → (T a).2.1 ≠ (T b).2.1) (hlink : (Cond.fieldLink own idx (T k).1 (T k).2.1 (T k).2.2.1).before args s = true) (hfin : (T k).2.2.2 = false)
    (hd : ty0 k = ty) (hn : narrow ty v = v) (hfit : fits ty v = true) (hl : k < fs.length) (hdg : decode cc pc = .ok (.putfield idx, 3))
    (kk : ∀ (H1 : Heap) (locs1 : List Loc), gI w s H1 locs1 a (.inr (ci, fs.set k v)) ws n → W p l e R s m args below meth c H1 locs1 cells slots Q (F0 m (pc + 3) ls rest)) : W p l e R s m args below meth c H locs cells slots Q (F0 m pc ls (v :: .ref a :: rest)) := by
  subst hd
  obtain ⟨hK, hT, hlt, ⟨r, h1, cell, q1, q2, q3, q4⟩, hP, hge, hS, hsz⟩ := hI
  have hts : ∀ w ∈ u_ws C T N, w.before args s = true := fun w hw => hT.1 w (hly w hw).1 (hly w hw).2 args
  have hap := va_apart (own := own) hts (fun _ h => h) ty0 hty hnm hK hc
  obtain rfl : r = (C, T, N) := Option.some.inj (h1.symm.trans hc)
  obtain ⟨hSl, hfc, kC, hkC, hkind⟩ := hK.1 ci _ hc
  obtain ⟨cf, kf, fi, f, hi, hsl⟩ := hSl k hk
  have hlay := hts _ (u_in_lay hk)
  unfold u_lay at hlay
  rw [if_neg (by rw [hfin]; decide)] at hlay
  have hst := (u_facts hfc hkC (u_lays hts (fun _ h => h) hk) hi).1
  have h6 := u_store hfc hkC hkind hlay hi (hty k hk) hn hfit
  refine W.putK hx hb (f := f) ⟨hown, hlink, ⟨_, _, _, hi⟩, hst⟩ (by rw [q2]; exact h6) q1 q3 (by rw [hsl]; exact k2_hasslot (q4 k hk)) rfl rfl hdg fun H' e1 e2 e3 => ?_
  rw [hsl] at e1 ⊢
  refine kk H' _ ⟨hK, hT, hlt, ⟨_, hc, t_OB.to (V := updV (vp_V fs) k v) ⟨_, e1, q2, q3, t_set q4 hap hk v⟩ (fun j _ => vp_updV_set hl v j)⟩, hP.kept (fun j q hq => e3 q.1 (fun h => ?_)), hge, hS.put e2 e3 (Or.inl rfl), e2.trans hsz⟩
  have h9 := hge q (List.mem_of_getElem? hq)
  rw [h] at h9
  exact Nat.not_le.mpr hlt h9
end BORN
/-- a constructor without arguments: at a heap of size sz, on the object a that holds e0, it makes n cells and leaves ws -/
def gPre (w : WD) (sz a : Nat) (e0 : va_E) : Array Value → State → Prop := va_Pc [.ref a] (fun U => U.heap.size = sz ∧ a < sz ∧ va_at w.2.1 mCl (a, e0) U.heap ∧ va_K w.2.1 mCl (mTys w) U ∧ gT U)
def gQ (w : WD) (sz a : Nat) (ws : va_W) (n : Nat) : Array Value → State → Outcome → State → Prop := fun _ st oc t => oc = .returned none ∧ t.heap.size = sz + n ∧ va_P w.2.1 mCl ws t.heap ∧ va_F (gA a sz) st t
abbrev gMet (l : Launch) (y : MethodName) (cc : ByteArray) (maxL : Nat) (rm : Room) (w : WD) (sz a : Nat) (e0 : va_E) (ws : va_W) (n ms : Nat) : Prop := Met l y [Cond.code y cc maxL none] rm (gPre w sz a e0) (gQ w sz a ws n) n ms (gA a sz)
theorem gPre.blind {w : WD} {sz a : Nat} {e0 : va_E} : FrameBlind (gPre w sz a e0) := fun x U g mk h => ⟨h.1, h.2.1, h.2.2.1, h.2.2.2.1, va_K.moved (u := U) (U := U.calling g mk x) (Vm.Alike.refl U.vm) h.2.2.2.2.1, h.2.2.2.2.2.warm (s := U) (U := U.calling g mk x) (State.WarmedH.refl U)⟩
theorem g_of {l : Launch} {y : MethodName} {cc : ByteArray} {maxL : Nat} {rm : Room} {w : WD} {sz a : Nat} {e0 : va_E} {ws : va_W} {n ms : Nat} (hy : plainName y.cls = true) (hyn : y.name = "<init>") (ha : (lg_sl [.ref a]).length ≤ maxL)
    (body : ∀ (p : Program) (e : Env) (s : State) (m : MethodId) (args : Array Value) (below : List Frame) (meth : Method) (c : Code), p.tables.exec = Jvm.exec → c.code = cc → meth.sig.returnType = none → c.maxLocals = maxL → s.vm.findClass y.cls = some m.cls → meth.locks = false → meth.name = "<init>" → s.heap.size = sz →
      gI w s s.heap [] a e0 [] 0 → ∀ ls : Array Slot, lv_has ls maxL (lv_args 0 [.ref a]) → W p l e rm s m args below meth c s.heap [] 0 0 (MQ below (gQ w s.heap.size a ws n) args s n ms (gA a s.heap.size)) (F0 m 0 ls [])) : gMet l y cc maxL rm w sz a e0 ws n ms := by
  refine Met.ofW (cc := cc) (maxL := maxL) (ret := none) hy rfl ?_
  intro p e s m args below meth c s₁ B hml hv
  obtain ⟨rfl, rfl, hlt, hat, hK, hT⟩ := hv
  rw [lg_entry_eq]
  exact body p e s m _ below meth c B.exec B.bytes B.returns hml (findClass_of_methodNamed B.named) B.notSynchronized ((name_of_methodNamed B.named B.method).1.trans hyn) rfl ⟨hK, hT, hlt, hat, fun k q h => (nomatch h), fun q h => (nomatch h), va_S.rf, rfl⟩ _ (lv_entry [.ref a] ha)
section BORN2
variable {p : Program} {l : Launch} {e : Env} {R : Room} {s : State} {m : MethodId} {args : Array Value} {below : List Frame} {meth : Method} {c : Code} {H : Heap} {locs : List Loc} {cells slots : Nat} {Q : State → Prop}
variable {cc : ByteArray} {pc : Nat} {ls : Array Slot} {rest : List Value} {w : WD} {a n : Nat} {e0 : va_E} {ws : va_W}
theorem g_ret (hx : p.tables.exec = Jvm.exec) (hb : c.code = cc) (hr : meth.sig.returnType = none) (hlk : meth.locks = false) (hI : gI w s H locs a e0 ws n) {ws1 : va_W} (hw : (a, e0) :: ws = ws1) (hdg : decode cc pc = .ok (.return_, 1)) :
    W p l e R s m args below meth c H locs cells slots (MQ below (gQ w s.heap.size a ws1 n) args s cells slots (gA a s.heap.size)) (F0 m pc ls []) := by
  subst hw
  obtain ⟨hK, hT, hlt, hat, hP, hge, hS, hsz⟩ := hI
  exact W.vret hx hb hr (fun t ht hW => ⟨rfl, by rw [ht]; exact hsz, by rw [ht]; exact (va_P1 hat).app hP, hS.F ht⟩) hS.2.2 hdg hlk
/-- 'new C; dup; invokespecial C.<init>' -/
theorem g_make (hx : p.tables.exec = Jvm.exec) (hb : c.code = cc) {nL : Nat} (hml : c.maxLocals = nL) (hI : gI w s H locs a e0 ws n) {own C host : String} (hown : s.vm.findClass own = some m.cls) {T : u_T} {N ci ik idx maxL n1 ms1 : Nat} {y : MethodName} {bytes : ByteArray} {rm : Room} {fs : List Value} {ws1 : va_W} (hc : mCl[ci]? = some (C, T, N)) (hly : ∀ w ∈ u_ws C T N, w ∈ lw_tbl ∧ mgood w = true)
    (ty0 : Nat → FieldType) (hty : ∀ k, k < N → parseFieldDescriptor (T k).2.2.1 = some (ty0 k)) (hcl : (Cond.classLink own ik C).before args s = true) (hinst : (Cond.instantiable C N).before args s = true) (hini : (Cond.initialized C).before args s = true) (hfs : ∀ j, j < N → defaultValue (ty0 j) = vp_V fs j)
    (hM : gMet l y bytes maxL rm w (s.heap.size + n + 1) (s.heap.size + n) (.inr (ci, fs)) ws1 n1 ms1) (hg1 : ∀ q ∈ ws1, s.heap.size + n ≤ q.1)
    (hcb : CallB R s args own idx y bytes maxL none [Cond.code y bytes maxL none] rm n1 ms1 0 ∨ va_CN R s args own idx y host bytes maxL none [Cond.code y bytes maxL none] rm n1 ms1 0) (hyn : y.name = "<init>") (hyi : (Cond.instanceMethod y).before args s = true)
    (hsize : ls.size = nL) (hW : (rest.map fun v => v.category).sum ≤ 7) (hcells : cells + 1 + n1 ≤ R.cells) (hslots : slots + N + ms1 ≤ R.slots) (d0 : decode cc pc = .ok (.new ik, 3)) (d3 : decode cc (pc + 3) = .ok (.dup, 1)) (d4 : decode cc (pc + 4) = .ok (.invokespecial idx, 3))
    (kk : ∀ (H1 : Heap) (locs1 : List Loc), gI w s H1 locs1 a e0 (ws ++ ws1) (n + 1 + n1) → W p l e R s m args below meth c H1 locs1 (cells + 1 + n1) (slots + N + ms1) Q (F0 m (pc + 7) ls (.ref (s.heap.size + n) :: rest))) : W p l e R s m args below meth c H locs cells slots Q (F0 m pc ls rest) := by
  have hKn := hI.K.1 ci _ hc
  have hts : ∀ w ∈ u_ws C T N, w.before args s = true := fun w hw => hI.T w (hly w hw).1 (hly w hw).2 args
  refine W.newcK hx hb hown hcl hinst hini rfl d0 (by omega) (by omega) hKn.2.1 hI.sz fun H1 kC hkC e1 z1 o1 => ?_
  have hborn : va_at w.2.1 mCl (s.heap.size + n, .inr (ci, fs)) H1 := ⟨_, hc, (u_born ty0 hts (fun _ h => h) hKn hkC e1 hty).to hfs⟩
  refine W.eq (g2 := F0 m (pc + 3) ls (.ref (s.heap.size + n) :: rest)) rfl ?_
  refine lv_dup hx hb d3 rfl ?_
  have hpre : PreS s H1 (gPre w (s.heap.size + n + 1) (s.heap.size + n) (.inr (ci, fs))) [.ref (s.heap.size + n)] :=
    ⟨gPre.blind, fun U hU hWU => ⟨rfl, by rw [hU]; exact z1, by omega, by rw [hU]; exact hborn, va_K.moved hWU.alike hI.K, hI.T0.warm hWU⟩⟩
  have hrun : va_Run p l e R s m args below meth c H1 locs (cells + 1) (slots + N) n1 ms1 (F0 m (pc + 4) ls (.ref (s.heap.size + n) :: .ref (s.heap.size + n) :: rest)) (.ref (s.heap.size + n) :: rest) (gQ w (s.heap.size + n + 1) (s.heap.size + n) ws1 n1 [.ref (s.heap.size + n)].toArray) (gA (s.heap.size + n) (s.heap.size + n + 1)) := by
    have hroom : 2 * (F0 m (pc + 4) ls (.ref (s.heap.size + n) :: .ref (s.heap.size + n) :: rest)).monitorRoom + ((Value.ref (s.heap.size + n) :: rest).map fun v => v.category).sum ≤ 8 := by
      rw [List.map_cons, List.sum_cons]
      show 2 * 0 + (1 + _) ≤ 8
      omega
    rcases hcb with hcb | hcb
    · exact va_runI (Ts := []) (As := []) (rest := .ref (s.heap.size + n) :: rest) ⟨hx, hb, hml, hown, fun _ h => nomatch h⟩ hM ⟨hcb, hyn, hyi⟩ hpre rfl rfl hsize rfl hroom d4 ⟨hcells, hslots⟩
    · exact va_runIN (Ts := []) (As := []) (rest := .ref (s.heap.size + n) :: rest) ⟨hx, hb, hml, hown, fun _ h => nomatch h⟩ hM ⟨hcb, hyn, hyi⟩ hpre rfl rfl hsize rfl hroom d4 ⟨hcells, hslots⟩
  intro T0 hT0 X
  obtain ⟨v1, st₀, t, T', L, h0, X', hL, e1', e2', ⟨hv, hsz1, hP1, hz, hkeep⟩, st⟩ := hrun T0 hT0 X
  cases hv
  rw [h0] at hz hkeep
  have hS := hI.2.2.2.2.2.2.1
  have hgrow : gI w s T'.heap (locs ++ L) a e0 (ws ++ ws1) (n + 1 + n1) := by
    refine hI.grow (by omega) (by rw [e1', hsz1]; omega) (fun q hq => ?_) (by rw [e1']; exact hP1) (fun q hq => Nat.le_trans (Nat.le_add_right _ _) (hg1 q hq)) (fun q hq => ?_)
    · rw [e1', hkeep q (by omega) (fun h => by rcases h with h | h <;> omega)]
      exact o1 q hq
    · rcases List.mem_append.mp hq with h | h
      · exact hS.2.2 q h
      · rcases hL q h with h9 | h9
        · exact Or.inr (by omega)
        · exact Or.inr (by omega)
  obtain ⟨t2, a1, b1⟩ := kk T'.heap (locs ++ L) hgrow T' rfl X'
  exact ⟨t2, st t2 a1, b1⟩
end BORN2
section BORN3
variable {p : Program} {l : Launch} {e : Env} {R : Room} {s : State} {m : MethodId} {args : Array Value} {below : List Frame} {meth : Method} {c : Code} {H : Heap} {locs : List Loc} {cells slots : Nat} {Q : State → Prop}
variable {cc : ByteArray} {pc : Nat} {ls : Array Slot} {rest : List Value} {w : WD} {a n : Nat} {e0 : va_E} {ws : va_W}
/-- an array of references, all null -/
theorem g_anew (hx : p.tables.exec = Jvm.exec) (hb : c.code = cc) (hI : gI w s H locs a e0 ws n) {own C : String} (hown : s.vm.findClass own = some m.cls) {cA : ClassId} {t0 N idx : Nat} {k : Int32} (hcl : (Cond.classLink own idx C).before args s = true) (hover : (Cond.arrayOver (.object C)).before args s = true) (ht : (mTys w)[t0]? = some (cA, .object C))
    (hk : ¬ k < 0) (hN : k.toNatClampNeg = N) (hbytes : N * 4 ≤ 536870912) (hcells : cells + 1 ≤ R.cells) (hslots : slots + N ≤ R.slots) (hdg : decode cc pc = .ok (.anewarray idx, 3))
    (kk : ∀ H1, gI w s H1 locs a e0 (ws ++ [(s.heap.size + n, .inl (cA, N, .inr (.inr (.inr (.inr fun _ => none)))))]) (n + 1) → W p l e R s m args below meth c H1 locs (cells + 1) (slots + N) Q (F0 m (pc + 3) ls (.ref (s.heap.size + n) :: rest))) : W p l e R s m args below meth c H locs cells slots Q (F0 m pc ls (.int k :: rest)) := by
  subst hN
  refine W.anew hx hb hown hcl hover rfl hdg rfl hk hbytes hcells hslots fun cA' kA comp f1 f2 f3 f4 => ?_
  obtain ⟨kA', comp', h1, h2, h3, h4⟩ := (hI.K.2 t0 _ ht).2
  cases h4.symm.trans f1
  have z1 : (H.push ({ cls := cA, slots := Array.replicate k.toNatClampNeg .null, vm := .none } : Cell)).size = s.heap.size + (n + 1) := by rw [Array.size_push, hI.sz]; omega
  have e1 : (H.push ({ cls := cA, slots := Array.replicate k.toNatClampNeg .null, vm := .none } : Cell))[s.heap.size + n]? = some (arrV cA k.toNatClampNeg (fun _ => .null)) := by rw [← hI.sz, Array.getElem?_push_size, ← arrV_new]
  have o1 : ∀ q : Nat, q < s.heap.size + n → (H.push ({ cls := cA, slots := Array.replicate k.toNatClampNeg .null, vm := .none } : Cell))[q]? = H[q]? := fun q hq => by rw [Array.getElem?_push, if_neg (by rw [hI.sz]; omega)]
  refine W.eq (g2 := F0 m (pc + 3) ls (.ref (s.heap.size + n) :: rest)) (by rw [hI.sz]) (kk _ (hI.grow (Nat.le_succ n) z1 o1 (va_P1 ?_) (fun q hq => ?_) hI.2.2.2.2.2.2.1.2.2))
  · show (H.push _)[s.heap.size + n]? = some (vp_cell _ _)
    rw [e1]
    rfl
  · rw [List.mem_singleton.mp hq]
    exact Nat.le_add_right _ _
theorem outer_arrV (cA : ClassId) (N h0 : Nat) : Jvm.Free.Multi.outerC cA N h0 N = arrV cA N (fun j => .ref (h0 + 1 + j)) := by
  obtain ⟨h1, h2, h3⟩ := Jvm.Free.Multi.outerC_facts cA N h0 N
  obtain ⟨h4, h5⟩ := Jvm.Free.Multi.outerC_plain cA N h0 N
  have h6 := Jvm.Free.Multi.outerC_slot cA N h0 N
  generalize Jvm.Free.Multi.outerC cA N h0 N = x at h1 h2 h3 h4 h5 h6
  have hs : x.slots = (arrV cA N (fun j => .ref (h0 + 1 + j))).slots := by
    apply Array.ext_getElem?
    intro j
    by_cases hj : j < N
    · rw [h6 j hj, if_pos hj, arrV_read _ _ hj]
    · rw [Array.getElem?_eq_none (by omega), Array.getElem?_eq_none (by rw [arrV_size]; omega)]
  cases x
  dsimp only at h1 h2 h4 h5 hs
  subst h1; subst h2; subst h4; subst h5; subst hs
  rfl
/-- an array of arrays of ints -/
theorem g_multi (hx : p.tables.exec = Jvm.exec) (hb : c.code = cc) (hI : gI w s H locs a e0 ws n) {own : String} (hown : s.vm.findClass own = some m.cls) {cA cI : ClassId} {tA tI N K idx : Nat} {n1 k1 : Int32} (hcl : (Cond.classLink own idx "[[I").before args s = true) (hover : (Cond.arrayOver (.array .int)).before args s = true) (harr : (Cond.arrayClass .int).before args s = true)
    (htA : (mTys w)[tA]? = some (cA, .array .int)) (htI : (mTys w)[tI]? = some (cI, .int)) (hn : ¬ n1 < 0) (hk : ¬ k1 < 0) (hN : n1.toNatClampNeg = N) (hK : k1.toNatClampNeg = K) (hb1 : N * 4 ≤ 536870912) (hb2 : K * componentBytes .int ≤ 536870912) (hb3 : K ≤ 536870912) (hcells : cells + (1 + N) ≤ R.cells) (hslots : slots + (N + N * K) ≤ R.slots) (hdg : decode cc pc = .ok (.multianewarray idx 2, 4))
    (kk : ∀ H1, gI w s H1 locs a e0 (ws ++ ([(s.heap.size + n, .inl (cA, N, .inr (.inr (.inr (.inr fun j => some (s.heap.size + n + 1 + j))))))] ++ (List.range N).map (fun j => (s.heap.size + n + 1 + j, (.inl (cI, K, .inl fun _ => 0) : va_E))))) (n + 1 + N) → W p l e R s m args below meth c H1 locs (cells + 1 + N) (slots + N + N * K) Q (F0 m (pc + 4) ls (.ref (s.heap.size + n) :: rest))) : W p l e R s m args below meth c H locs cells slots Q (F0 m pc ls (.int k1 :: .int n1 :: rest)) := by
  subst hN; subst hK
  intro T hT X
  have hs1 : ("[" ++ (FieldType.array .int).toString) = "[[I" := by decide +kernel
  obtain ⟨vm₁, cA', comp, hW, hfA, hfC, -, -, X1, step⟩ := X.multianewarray2F hx (ty := .int) hown (by rw [hs1]; exact hcl) hover harr (g := F0 m pc ls (.int k1 :: .int n1 :: rest)) rfl (by rw [hb]; exact hdg) (rest := rest) rfl hn hk hb1 hb2 hb3 rfl rfl hcells hslots
  cases (show s.vm.findClass ("[" ++ (FieldType.array .int).toString) = some cA from (hI.K.2 tA _ htA).2).symm.trans hfA
  cases (show s.vm.findClass ("[" ++ FieldType.int.toString) = some cI from (hI.K.2 tI _ htI).2).symm.trans hfC
  have hTs : (T.setVm vm₁).heap.size = s.heap.size + n := by show T.heap.size = _; rw [hT, hI.sz]
  obtain ⟨f1, f2, -⟩ := Jvm.Free.Multi.fill_facts (T.setVm vm₁) cA cI n1.toNatClampNeg k1.toNatClampNeg (defaultValue .int) n1.toNatClampNeg
  have f3 := fun q (hq : q < (T.setVm vm₁).heap.size) => Jvm.Free.Multi.fill_old (T.setVm vm₁) cA cI n1.toNatClampNeg k1.toNatClampNeg (defaultValue .int) hq n1.toNatClampNeg
  have f4 := Jvm.Free.Multi.fill_inner (T.setVm vm₁) cA cI n1.toNatClampNeg k1.toNatClampNeg (defaultValue .int) n1.toNatClampNeg
  rw [hTs] at f1 f2 f3 f4
  have hT2 : T.heap.size = s.heap.size + n := hTs
  rw [hT2] at step
  generalize Jvm.Free.Multi.fill (T.setVm vm₁) cA cI n1.toNatClampNeg k1.toNatClampNeg (defaultValue .int) n1.toNatClampNeg = F at f1 f2 f3 f4 X1 step
  have hG : gI w s F.heap locs a e0 (ws ++ ([(s.heap.size + n, .inl (cA, n1.toNatClampNeg, .inr (.inr (.inr (.inr fun j => some (s.heap.size + n + 1 + j))))))] ++ (List.range n1.toNatClampNeg).map (fun j => (s.heap.size + n + 1 + j, (.inl (cI, k1.toNatClampNeg, .inl fun _ => 0) : va_E))))) (n + 1 + n1.toNatClampNeg) := by
    refine hI.grow (by omega) (by rw [f1]; omega) (fun q hq => (f3 q hq).trans (by show T.heap[q]? = _; rw [hT])) ((va_P1 ?_).app ?_) (fun q hq => ?_) hI.2.2.2.2.2.2.1.2.2
    · show F.heap[s.heap.size + n]? = some (vp_cell _ _)
      rw [f2, outer_arrV]
      rfl
    · intro j q hq
      rw [List.getElem?_map] at hq
      cases hr : (List.range n1.toNatClampNeg)[j]? with
      | none => rw [hr] at hq; cases hq
      | some i =>
        rw [hr] at hq
        cases hq
        have hi : i < n1.toNatClampNeg := List.mem_range.mp (List.mem_of_getElem? hr)
        show F.heap[s.heap.size + n + 1 + i]? = some (vp_cell _ _)
        rw [f4 i hi, vp_cell_i, ← arrV_new]
        rfl
    · rcases List.mem_append.mp hq with h | h
      · rw [List.mem_singleton.mp h]
        exact Nat.le_add_right _ _
      · obtain ⟨i, -, rfl⟩ := List.mem_map.mp h
        dsimp only
        omega
  obtain ⟨t, a1, b1⟩ := kk F.heap hG F rfl X1
  exact ⟨t, step t a1, b1⟩
end BORN3
