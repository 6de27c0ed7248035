/-- the law's own cell -/
abbrev dC (w : WD) (cL : ClassId) (o : Nat) (x : UInt64) (H : Heap) : Prop := va_at w.2.1 mCl (o, .inl (cL, 1, .inr (.inr (.inr (.inl fun _ => x))))) H
def dPre (w : WD) (sz o : Nat) (cL : ClassId) (x : UInt64) (M : Mem) (av : List Value) : Array Value → State → Prop :=
  va_Pc av (fun U => U.heap.size = sz ∧ o < sz ∧ (mP w M U.heap ∧ mJ w ∧ va_K w.2.1 mCl (mTys w) U ∧ mT U ∧ mSt w (hA w sz o) U U.heap) ∧ dC w cL o x U.heap ∧ (∀ g i, mok g i → w.1 g i ≠ o) ∧ ArrOfT U cL .double)
def dQ (w : WD) (sz o : Nat) (cL : ClassId) (k : Int32) (y : UInt64) (M1 : Mem) : Array Value → State → Outcome → State → Prop := fun _ st oc t => oc = .returned (some (.int k)) ∧ mP w M1 t.heap ∧ dC w cL o y t.heap ∧ va_F (hA w sz o) st t
abbrev dMet (l : Launch) (y : MethodName) (cc : ByteArray) (maxL : Nat) (hh : List (Nat × Nat × Nat × Nat)) (rm : Room) (w : WD) (sz o : Nat) (cL : ClassId) (x : UInt64) (M : Mem) (av : List Value) (k : Int32) (y1 : UInt64) (M1 : Mem) (mc ms : Nat) : Prop :=
  Met l y [Cond.codeWith y cc maxL (some .int) hh] rm (dPre w sz o cL x M av) (dQ w sz o cL k y1 M1) mc ms (hA w sz o)
theorem dPre.blind {w : WD} {sz o : Nat} {cL : ClassId} {x : UInt64} {M : Mem} {av : List Value} : FrameBlind (dPre w sz o cL x M av) := fun v U g mk h =>
  ⟨h.1, h.2.1, h.2.2.1, ⟨h.2.2.2.1.1, h.2.2.2.1.2.1, va_K.moved (u := U) (U := U.calling g mk v) (Vm.Alike.refl U.vm) h.2.2.2.1.2.2.1, h.2.2.2.1.2.2.2.1.warm (s := U) (U := U.calling g mk v) (State.WarmedH.refl U), h.2.2.2.1.2.2.2.2.moved (u := U) (U := U.calling g mk v) (State.WarmedH.refl U)⟩, h.2.2.2.2.1, h.2.2.2.2.2.1, arrOfT_moved (u := U) (E := U.calling g mk v) (Vm.Alike.refl U.vm) h.2.2.2.2.2.2⟩
/-- on the way -/
def dI (w : WD) (s : State) (H : Heap) (locs : List Loc) (o : Nat) (cL : ClassId) (x : UInt64) (M : Mem) : Prop := mI w s (hA w s.heap.size o) H locs M ∧ dC w cL o x H ∧ (∀ g i, mok g i → w.1 g i ≠ o) ∧ ArrOfT s cL .double ∧ o < s.heap.size
theorem d_of {l : Launch} {y : MethodName} {cc : ByteArray} {maxL mc ms : Nat} {hh : List (Nat × Nat × Nat × Nat)} {rm : Room} {w : WD} {sz o : Nat} {cL : ClassId} {x y1 : UInt64} {M M1 : Mem} {av : List Value} {k : Int32} (hy : plainName y.cls = true) (ha : (lg_sl av).length ≤ maxL)
    (body : ∀ (p : Program) (e : Env) (s : State) (m : MethodId) (args : Array Value) (below : List Frame) (meth : Method) (c : Code), p.tables.exec = Jvm.exec → c.code = cc → meth.sig.returnType = some .int → c.maxLocals = maxL → c.exceptionTable.toList = tableOf hh → s.vm.findClass y.cls = some m.cls → meth.locks = false →
      dI w s s.heap [] o cL x M → ∀ ls : Array Slot, lv_has ls maxL (lv_args 0 av) → W p l e rm s m args below meth c s.heap [] 0 0 (MQ below (dQ w s.heap.size o cL k y1 M1) args s mc ms (hA w s.heap.size o)) (F0 m 0 ls [])) : dMet l y cc maxL hh rm w sz o cL x M av k y1 M1 mc ms := by
  refine Met_ofWH (cc := cc) (maxL := maxL) (ret := some .int) hy rfl ?_
  intro p e s m args below meth c s₁ B hml hxt hv
  obtain ⟨rfl, rfl, hlt, ⟨hP, hJ, hK, hT, hSt⟩, hc, hne, har⟩ := hv
  rw [lg_entry_eq]
  exact body p e s m _ below meth c B.exec B.bytes B.returns hml hxt (findClass_of_methodNamed B.named) B.notSynchronized ⟨⟨hP, hJ, hK, hT, hSt, va_S.rf, fun q hq => Or.inl (Or.inr hq), fun g i hg => Or.inl (Or.inl ⟨g, i, hg, rfl⟩)⟩, hc, hne, har, hlt⟩ _ (lv_entry av ha)
section DROWS
variable {p : Program} {l : Launch} {e : Env} {R : Room} {s : State} {m : MethodId} {args : Array Value} {below : List Frame} {meth : Method} {c : Code} {H : Heap} {locs : List Loc} {cells slots mc ms : Nat} {Q : State → Prop}
variable {cc : ByteArray} {pc : Nat} {ls : Array Slot} {rest : List Value} {w : WD} {M M1 : Mem} {o : Nat} {cL : ClassId} {x : UInt64}
theorem dI.keep (h : dI w s H locs o cL x M) {H1 : Heap} {L : List Loc} (hP : mP w M1 H1) (hz : H.size ≤ H1.size) (hk : ∀ q : Nat, q < H.size → ¬ mA w H.size q → H1[q]? = H[q]?) (hL : ∀ q ∈ L, mA w H.size q.base) : dI w s H1 (locs ++ L) o cL x M1 := by
  obtain ⟨hm, hc, hne, har, hlt⟩ := h
  have hS := hm.S
  refine ⟨hm.next hP ⟨Nat.le_trans hS.1 hz, fun q h1 h2 => (hk q (Nat.lt_of_lt_of_le h1 hS.1) (fun z => h2 (hm.sub q z))).trans (hS.2.1 q h1 h2), fun q hq => ?_⟩, hc.kept (hk o (Nat.lt_of_lt_of_le hlt hS.1) ?_), hne, har, hlt⟩
  · rcases List.mem_append.mp hq with h | h
    · exact hS.2.2 q h
    · exact hm.sub _ (hL q h)
  · rintro (⟨g, i, hg, h⟩ | h)
    · exact hne g i hg h.symm
    · exact Nat.not_le.mpr (Nat.lt_of_lt_of_le hlt hS.1) h
theorem d_after {st0 : List Value} {a : Array Value} {oc : Nat ⊕ Option Value} (hr : vx_Run p l e R s m args below meth c H locs cells slots mc ms (F0 m pc ls st0) rest (mQx w H.size oc M1 a) (mXx w H.size oc M1) (mA w H.size)) (dI0 : dI w s H locs o cL x M)
    (kr : ∀ (v : Option Value), oc = .inr v → ∀ (H1 : Heap) (locs1 : List Loc), dI w s H1 locs1 o cL x M1 → W p l e R s m args below meth c H1 locs1 (cells + mc) (slots + ms) Q (F0 m (pc + 3) ls (v.toList ++ rest)))
    (kx : ∀ (n : Nat), oc = .inl n → ∀ (ce : Cell) (q : Addr) (H1 : Heap) (locs1 : List Loc), dI w s H1 locs1 o cL x M1 → H1[q]? = some ce → ce.vm = .none → s.vm.findClass (mXn n) = some ce.cls → vx_W p l e R s m args below meth c H1 locs1 (cells + mc) (slots + ms) Q (F0 m pc ls rest) q) : W p l e R s m args below meth c H locs cells slots Q (F0 m pc ls st0) := by
  intro T hT X
  rcases hr T hT X with ⟨v1, st₀, t, T', L, h0, X', hL, e1, e2, ⟨⟨v2, hv2, hv⟩, hP1, hz, hk⟩, st⟩ | ⟨q, st₀, t, T', L, E, ce, h0, X', hL, e1, e2, ⟨⟨n1, hn, rfl⟩, hP1, hz, hk⟩, hce, hcv, hcl, st⟩
  · cases hv
    rw [h0] at hz hk
    obtain ⟨t2, a1, b1⟩ := kr v1 hv2 T'.heap (locs ++ L) (dI0.keep (by rw [e1]; exact hP1) (by rw [e1]; exact hz) (fun q h1 h2 => by rw [e1]; exact hk q h1 h2) hL) T' rfl X'
    exact ⟨t2, st t2 a1, b1⟩
  · rw [h0] at hz hk
    obtain ⟨t2, a1, b1⟩ := kx n1 hn ce q T'.heap (locs ++ L) (dI0.keep (by rw [e1]; exact hP1) (by rw [e1]; exact hz) (fun q h1 h2 => by rw [e1]; exact hk q h1 h2) hL) (by rw [e1]; exact hce) hcv hcl T' rfl X'
    exact ⟨t2, st.trans a1, b1⟩
theorem d_dast (hx : p.tables.exec = Jvm.exec) (hb : c.code = cc) (dI0 : dI w s H locs o cL x M) {y : UInt64} (hdg : decode cc pc = .ok (.dastore, 1))
    (kk : ∀ (H1 : Heap) (locs1 : List Loc), dI w s H1 locs1 o cL y M → W p l e R s m args below meth c H1 locs1 cells slots Q (F0 m (pc + 1) ls rest)) : W p l e R s m args below meth c H locs cells slots Q (F0 m pc ls (.double y :: .int 0 :: .ref o :: rest)) := by
  obtain ⟨hm, hc, hne, har, hlt⟩ := dI0
  have hA : H[o]? = some (vp_cell cL (1, .inr (.inr (.inr (.inl fun _ => x))))) := hc
  refine W.dast hx hb hA (har 1 (fun j => .double x)) (fun q => by cases q) (by show ¬ ((0 : Int32) < 0 ∨ (arrV _ _ _).slots.size ≤ _); rw [arrV_size]; show ¬ ((0 : Int32) < 0 ∨ 1 ≤ (0 : Int32).toNatClampNeg); decide) rfl rfl hdg fun H1 e1 z oq => ?_
  refine kk H1 _ ⟨hm.next (hm.P.kept fun k q hk => oq q.1 ?_) (hm.S.put z oq (Or.inr rfl)), ?_, hne, har, hlt⟩
  · obtain ⟨g, hg, rfl⟩ := mW_of hk
    exact hne g.1 g.2 (List.mem_of_getElem? hg)
  · show H1[o]? = some (vp_cell _ _)
    rw [e1]
    show some ((vp_cell _ _).setSlot _ _) = _
    rw [vp_cell_d, vp_cell_d, arrV_store]
    exact congrArg some (arrV_congr _ _ fun j hj => by
      obtain rfl : j = 0 := by omega
      rfl)
theorem d_iret (hx : p.tables.exec = Jvm.exec) (hb : c.code = cc) (hr : meth.sig.returnType = some .int) (hlk : meth.locks = false) (dI0 : dI w s H locs o cL x M) {k : Int32} (hc : cells ≤ mc) (hs : slots ≤ ms) (hdg : decode cc pc = .ok (.ireturn, 1)) :
    W p l e R s m args below meth c H locs cells slots (MQ below (dQ w s.heap.size o cL k x M) args s mc ms (hA w s.heap.size o)) (F0 m pc ls [.int k]) := by
  obtain ⟨hm, hc0, hne, har, hlt⟩ := dI0
  exact W.widen hc hs (W.iret hx hb hr (fun t ht hW => ⟨rfl, by rw [ht]; exact hm.P, by rw [ht]; exact hc0, hm.S.F ht⟩) hm.S.2.2 hdg hlk)
end DROWS
section DCALL
variable {p : Program} {l : Launch} {e : Env} {R : Room} {s : State} {m : MethodId} {args : Array Value} {below : List Frame} {meth : Method} {c : Code} {H : Heap} {locs : List Loc} {cells slots mc ms : Nat} {Q : State → Prop}
variable {cc : ByteArray} {pc : Nat} {ls : Array Slot} {rest : List Value} {w : WD} {M M1 : Mem} {o : Nat} {cL : ClassId} {x : UInt64}
variable {y : MethodName} {bytes : ByteArray} {maxL nL n idx : Nat} {ret : Option FieldType} {rm : Room} {own C : String} {b : Nat} {As : List Value} {oc : Nat ⊕ Option Value}
theorem d_call (hx : p.tables.exec = Jvm.exec) (hb : c.code = cc) (hml : c.maxLocals = nL) (hown : s.vm.findClass own = some m.cls) (dI0 : dI w s H locs o cL x M)
    (hM : mMetx l y bytes maxL ret rm w H.size M (.ref b :: As) oc M1 mc ms) (hcb : CallB R s args own idx y bytes maxL ret [Cond.code y bytes maxL ret] rm mc ms n) (hin : (Cond.instanceMethod y).before args s = true) (hse : (Cond.selects C y y).before args s = true)
    (hrc : ∃ cell : Cell, H[b]? = some cell ∧ cell.vm.isStatics = false ∧ s.vm.findClass C = some cell.cls) (hn : As.length = n) (hsize : ls.size = nL) (hW : (rest.map fun v => v.category).sum ≤ 8) (hdg : decode cc pc = .ok (.invokevirtual idx, 3)) (hf : cells + mc ≤ R.cells ∧ slots + ms ≤ R.slots)
    (kr : ∀ (v : Option Value), oc = .inr v → ∀ (H1 : Heap) (locs1 : List Loc), dI w s H1 locs1 o cL x M1 → W p l e R s m args below meth c H1 locs1 (cells + mc) (slots + ms) Q (F0 m (pc + 3) ls (v.toList ++ rest)))
    (kx : ∀ (n : Nat), oc = .inl n → ∀ (ce : Cell) (q : Addr) (H1 : Heap) (locs1 : List Loc), dI w s H1 locs1 o cL x M1 → H1[q]? = some ce → ce.vm = .none → s.vm.findClass (mXn n) = some ce.cls → vx_W p l e R s m args below meth c H1 locs1 (cells + mc) (slots + ms) Q (F0 m pc ls rest) q) : W p l e R s m args below meth c H locs cells slots Q (F0 m pc ls (As.reverse ++ .ref b :: rest)) :=
  d_after (vx_runV (g := F0 m pc ls (As.reverse ++ .ref b :: rest)) (Ts := []) (As := As) (rest := rest) ⟨hx, hb, hml, hown, fun _ h => nomatch h⟩ hM ⟨hcb, hin, hse⟩ ⟨mPre.blind, hrc, fun U hU hW => ⟨rfl, by rw [hU], dI0.1.pre hU hW⟩⟩ rfl hn hsize rfl (lv_room hW) hdg ⟨hf.1, hf.2⟩) dI0 kr kx
end DCALL
def dRes (es : List (Nat × Int32)) (x : UInt64) : Nat ⊕ UInt32 → Int32 → UInt64 → Prop
  | .inr v, k, y => k = 0 ∧ y = FP.f2d v ∧ vf_n64 (FP.f2d v)
  | .inl n, k, y => y = x ∧ (n, k) ∈ es
set_option maxRecDepth 100000 in
theorem h_alarmShare (l : Launch) (w : WD) (hsf : l.stackTraces = false) (sz o : Nat) (cL : ClassId) (x : UInt64) (a1 : Int32) (M : Mem) (r : Nat ⊕ UInt32) (hf : f_X11_alarmShare a1 M = some r) (k : Int32) (y1 : UInt64) (hres : dRes [(2, 1), (6, 2)] x r k y1) : dMet l yL_alarmShare cL_alarmShare 4 [(0, 9, 12, 19), (0, 9, 15, 131)] { frames := 10, cells := 2, slots := 12, locals := 182 } w sz o cL x M [.ref (w.1 12 16), .int a1, .ref o] k y1 M 2 12 := by
  refine d_of (by decide) (Nat.le_of_ble_eq_true rfl) ?_
  intro p e s m args below meth c hx hb hr hml hxt hown hlk hI ls hl
  have hl : lv_has ls 4 [(0, .ref (w.1 12 16)), (1, .int a1), (2, .ref o)] := hl
  refine lv_aload_n hx hb dL_alarmShare_0 rfl (lv_at hl 2 rfl) ?_
  refine lv_iconst (v := 0) hx hb dL_alarmShare_1 (by decide) ?_
  refine lv_aload_n hx hb dL_alarmShare_2 rfl (lv_at hl 0 rfl) ?_
  refine lv_iload_n hx hb dL_alarmShare_3 rfl (lv_at hl 1 rfl) ?_
  refine d_call (As := [.int a1]) (rest := [.int 0, .ref o]) hx hb hml hown hI (c_X11_alarmShare l w hsf s.heap.size a1 M r hf) (kb_X11_alarmShare hI.1.T (q1179 hI.1.T) (Nat.le_of_ble_eq_true rfl) (Nat.le_of_ble_eq_true rfl)) (q1180 hI.1.T) (q1181 hI.1.T) (m_recv hI.1 (mokX (by decide) (by decide)) rfl rfl) rfl hl.1 (Nat.le_of_ble_eq_true rfl) dL_alarmShare_4 ⟨(Nat.le_of_ble_eq_true rfl), (Nat.le_of_ble_eq_true rfl)⟩ (fun v hv H locs hI => ?_) (fun n hn ce q H locs hI hc1 hc2 hc3 => ?_)
  · obtain ⟨v9, rfl, rfl⟩ : ∃ v9, r = .inr v9 ∧ v = some (.float v9) := by
      rcases r with n9 | v9
      · cases hv
      · cases hv; exact ⟨v9, rfl, rfl⟩
    obtain ⟨rfl, rfl, hnn⟩ := hres
    refine lv_f2d hx hb dL_alarmShare_7 hnn ?_
    refine d_dast hx hb hI dL_alarmShare_8 (fun H locs hI => ?_)
    refine lv_goto (tgt := 18) hx hb dL_alarmShare_9 (by decide) ?_
    refine lv_iconst (v := 0) hx hb dL_alarmShare_18 (by decide) ?_
    exact d_iret hx hb hr hlk hI (Nat.le_of_ble_eq_true rfl) (Nat.le_of_ble_eq_true rfl) dL_alarmShare_19
  · obtain rfl : r = .inl n := by
      rcases r with n9 | v9
      · cases hn; rfl
      · cases hn
    obtain ⟨rfl, hk⟩ := hres
    simp only [List.mem_cons, List.not_mem_nil, or_false, Prod.mk.injEq] at hk
    rcases hk with ⟨rfl, rfl⟩ | ⟨rfl, rfl⟩
    · refine vx_catch hown [] ⟨0, 9, 12, 19⟩ [⟨0, 9, 15, 131⟩] hxt (fun z hz => nomatch hz) (by decide) (by decide) (q713 hI.1.T) (q663 hI.1.T) hc1 hc2 hc3 ?_
      refine lv_astore_n hx hb dL_alarmShare_12 rfl hl (by decide) rfl (fun ls hl => ?_)
      refine lv_iconst (v := 1) hx hb dL_alarmShare_13 (by decide) ?_
      exact d_iret hx hb hr hlk hI (Nat.le_of_ble_eq_true rfl) (Nat.le_of_ble_eq_true rfl) dL_alarmShare_14
    · refine vx_catch hown [⟨0, 9, 12, 19⟩] ⟨0, 9, 15, 131⟩ [] hxt (fun z hz => by rcases List.mem_cons.mp hz with rfl | hz; exact Or.inr ⟨by decide, _, (q713 hI.1.T), hI.1.nc (i := 6) (j := 2) (by decide) (by decide) (by decide) (by decide) (by decide)⟩; exact nomatch hz) (by decide) (by decide) (q1165 hI.1.T) (q1177 hI.1.T) hc1 hc2 hc3 ?_
      refine lv_astore_n hx hb dL_alarmShare_15 rfl hl (by decide) rfl (fun ls hl => ?_)
      refine lv_iconst (v := 2) hx hb dL_alarmShare_16 (by decide) ?_
      exact d_iret hx hb hr hlk hI (Nat.le_of_ble_eq_true rfl) (Nat.le_of_ble_eq_true rfl) dL_alarmShare_17
