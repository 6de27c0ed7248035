/-! new StringBuilder() -/
def nA (w : WD) (sz b : Nat) : Nat → Prop := fun q => mA w sz q ∨ q = b
def nB (w : WD) (sz b : Nat) (D : va_G) (M : Mem) (U : State) : Prop :=
  U.heap.size = sz ∧ b < sz ∧ (mP w M U.heap ∧ mJ w ∧ va_K w.2.1 mCl (mTys w) U ∧ mT U ∧ mSt w (nA w sz b) U U.heap) ∧ va_at D bCl (b, .inr (0, [.null, .int 0, .int 0, .int 0])) U.heap ∧ (∀ g i, mok g i → w.1 g i ≠ b) ∧ va_K D bCl [] U
def nPre (w : WD) (sz b : Nat) (D : va_G) (M : Mem) (av : List Value) : Array Value → State → Prop := va_Pc av (nB w sz b D M)
def nQ (w : WD) (sz b : Nat) (D : va_G) (M : Mem) : Array Value → State → Outcome → State → Prop :=
  fun _ st oc t => oc = .returned none ∧ mP w M t.heap ∧ t.heap.size = sz + 1 ∧ (∃ cB : ClassId, va_P D bCl (bW (D, b, sz, cB) 0 (fun _ => 0)) t.heap ∧ va_K D bCl [(cB, .byte)] t) ∧ va_F (nA w sz b) st t
theorem nPre.blind {w : WD} {sz b : Nat} {D : va_G} {M : Mem} {av : List Value} : FrameBlind (nPre w sz b D M av) := fun v U g mk h =>
  ⟨h.1, h.2.1, h.2.2.1, ⟨h.2.2.2.1.1, h.2.2.2.1.2.1, va_K.moved (u := U) (U := U.calling g mk v) (Vm.Alike.refl U.vm) h.2.2.2.1.2.2.1, h.2.2.2.1.2.2.2.1.warm (s := U) (U := U.calling g mk v) (State.WarmedH.refl U), h.2.2.2.1.2.2.2.2.moved (u := U) (U := U.calling g mk v) (State.WarmedH.refl U)⟩, h.2.2.2.2.1, h.2.2.2.2.2.1, va_K.moved (u := U) (U := U.calling g mk v) (Vm.Alike.refl U.vm) h.2.2.2.2.2.2⟩
def nwI (w : WD) (s : State) (H : Heap) (locs : List Loc) (b : Nat) (D : va_G) (fs : List Value) (M : Mem) : Prop := mI w s (nA w s.heap.size b) H locs M ∧ va_at D bCl (b, .inr (0, fs)) H ∧ (∀ g i, mok g i → w.1 g i ≠ b) ∧ va_K D bCl [] s ∧ b < s.heap.size
theorem n_of {l : Launch} {y : MethodName} {cc : ByteArray} {maxL : Nat} {rm : Room} {w : WD} {sz b : Nat} {D : va_G} {M : Mem} {av : List Value} (hy : plainName y.cls = true) (ha : (lg_sl av).length ≤ maxL)
    (body : ∀ (p : Program) (e : Env) (s : State) (m : MethodId) (args : Array Value) (below : List Frame) (meth : Method) (c : Code), p.tables.exec = Jvm.exec → c.code = cc → meth.sig.returnType = none → c.maxLocals = maxL → s.vm.findClass y.cls = some m.cls → meth.locks = false →
      nwI w s s.heap [] b D [.null, .int 0, .int 0, .int 0] M → ∀ ls : Array Slot, lv_has ls maxL (lv_args 0 av) → W p l e rm s m args below meth c s.heap [] 0 0 (MQ below (nQ w s.heap.size b D M) args s 1 16 (nA w s.heap.size b)) (F0 m 0 ls [])) : Met l y [Cond.code y cc maxL none] rm (nPre w sz b D M av) (nQ w sz b D M) 1 16 (nA w sz b) := by
  refine Met.ofW (cc := cc) (maxL := maxL) (ret := none) hy rfl ?_
  intro p e s m args below meth c s₁ B hml hv
  obtain ⟨rfl, rfl, hlt, ⟨hP, hJ, hK, hT, hSt⟩, hat, hne, hKB⟩ := hv
  rw [lg_entry_eq]
  exact body p e s m _ below meth c B.exec B.bytes B.returns hml (findClass_of_methodNamed B.named) B.notSynchronized ⟨⟨hP, hJ, hK, hT, hSt, va_S.rf, fun q hq => Or.inl (Or.inr hq), fun g i hg => Or.inl (Or.inl ⟨g, i, hg, rfl⟩)⟩, hat, hne, hKB, hlt⟩ _ (lv_entry av ha)
section NROWS
variable {p : Program} {l : Launch} {e : Env} {R : Room} {s : State} {m : MethodId} {args : Array Value} {below : List Frame} {meth : Method} {c : Code} {H : Heap} {locs : List Loc} {cells slots : Nat} {Q : State → Prop}
variable {cc : ByteArray} {pc : Nat} {ls : Array Slot} {rest : List Value} {w : WD} {M : Mem} {b : Nat} {D : va_G} {fs : List Value}
theorem sb_put {own : String} {idx : Nat} {tys : List (ClassId × FieldType)} (hx : p.tables.exec = Jvm.exec) (hb : c.code = cc) (hown : s.vm.findClass own = some m.cls) (hT : mT s) (hK : va_K D bCl tys s) (hat : va_at D bCl (b, .inr (0, fs)) H) (k : Nat) (hk : k < 4) (hl : k < fs.length) (hfin : (TJ4 k).2.2.2 = false) (hlink : (Cond.fieldLink own idx RJ5 (TJ4 k).2.1 (TJ4 k).2.2.1).before args s = true) (hr : (TJ4 k).1 = RJ5) {v : Value} (hn : narrow (tyJ4 k) v = v) (hfit : fits (tyJ4 k) v = true) (hdg : decode cc pc = .ok (.putfield idx, 3))
    (kk : ∀ (H1 : Heap) (k1 : Nat), va_at D bCl (b, .inr (0, fs.set k v)) H1 → H1.size = H.size → (∀ q : Nat, q ≠ b → H1[q]? = H[q]?) → W p l e R s m args below meth c H1 (locs ++ [⟨b, k1⟩]) cells slots Q (F0 m (pc + 3) ls rest)) : W p l e R s m args below meth c H locs cells slots Q (F0 m pc ls (v :: .ref b :: rest)) := by
  have hts := wsJ4 (args := args) hT
  have hap := va_apart (own := own) hts (fun _ h => h) tyJ4 tyJ4_ok nmJ4 hK (ci := 0) rfl
  obtain ⟨r, h1, cell, q1, q2, q3, q4⟩ := hat
  have hr2 : r = (RJ4, TJ4, 4) := Option.some.inj (h1.symm.trans rfl)
  subst hr2
  obtain ⟨hS, hfc, kC, hkC, hkind⟩ := hK.1 0 _ rfl
  obtain ⟨cf, kf, fi, fd, hi, hsl⟩ := hS k hk
  have hlay := hts _ (u_in_lay hk)
  unfold u_lay at hlay
  rw [if_neg (by rw [hfin]; decide)] at hlay
  have hst := (u_facts hfc hkC (Or.inl hlay) hi).1
  have h6 := u_store hfc hkC hkind hlay hi (tyJ4_ok k hk) hn hfit
  refine W.putK hx hb (f := fd) ⟨hown, hlink, ⟨_, _, _, by rw [hr] at hi; exact hi⟩, hst⟩ (by rw [q2]; exact h6) q1 q3 (by rw [hsl]; exact k2_hasslot (q4 k hk)) rfl rfl hdg fun H' e1 e2 e3 => ?_
  rw [hsl] at e1 ⊢
  exact kk H' _ ⟨_, rfl, t_OB.to (V := updV (vp_V fs) k v) ⟨_, e1, q2, q3, t_set q4 hap hk _⟩ (fun j _ => vp_updV_set hl _ j)⟩ e2 e3
theorem nwI.w1 (hI : nwI w s H locs b D fs M) {fs1 : List Value} {k : Nat} {H1 : Heap} (hz : H1.size = H.size) (oq : ∀ q : Nat, q ≠ b → H1[q]? = H[q]?) (hat : va_at D bCl (b, .inr (0, fs1)) H1) : nwI w s H1 (locs ++ [⟨b, k⟩]) b D fs1 M := by
  obtain ⟨hm, h0, hne, hK, l1⟩ := hI
  refine ⟨hm.next (hm.P.kept fun k q hk => oq q.1 ?_) (hm.S.put hz oq (Or.inr rfl)), hat, hne, hK, l1⟩
  obtain ⟨g, hg, rfl⟩ := mW_of hk
  exact hne g.1 g.2 (List.mem_of_getElem? hg)
end NROWS
abbrev rmN1 : Room := { frames := 1, cells := 1, slots := 16, locals := 40 }
abbrev rmN2 : Room := { frames := 2, cells := 1, slots := 16, locals := 80 }
set_option maxRecDepth 100000 in
theorem c_asbInit (l : Launch) (w : WD) (sz b : Nat) (D : va_G) (M : Mem) : Met l yJ5_init_d00df [Cond.code yJ5_init_d00df cJ5_init_d00df 2 none] rmN1 (nPre w sz b D M [.ref b, .int 16]) (nQ w sz b D M) 1 16 (nA w sz b) := by
  refine n_of (by decide) (Nat.le_of_ble_eq_true rfl) ?_
  intro p e s m args below meth c hx hb hr hml hown hlk hI ls hl
  have hl : lv_has ls 2 [(0, .ref b), (1, .int 16)] := hl
  refine lv_aload_n hx hb dJ5_init_d00df_0 rfl (lv_at hl 0 rfl) ?_
  refine W.objInit hx hb hown (q975 hI.1.T) (q40 hI.1.T) (q41 hI.1.T) rfl (hl.1.trans hml.symm) rfl dJ5_init_d00df_1 (Nat.le_of_ble_eq_true rfl) (Nat.le_of_ble_eq_true rfl) ?_
  refine W.eq (g2 := F0 m 4 ls []) rfl ?_
  refine va_gets hx hb hI.1.Zcs hI.1.S hown (q976 hI.1.T) (fun _ h => h) dJ5_init_d00df_4 ?_
  refine lv_if_eq (tgt := 25) hx hb dJ5_init_d00df_7 (by decide) (fun c => absurd c (by decide)) (fun _ => ?_)
  refine lv_aload_n hx hb dJ5_init_d00df_10 rfl (lv_at hl 0 rfl) ?_
  refine lv_iload_n hx hb dJ5_init_d00df_11 rfl (lv_at hl 1 rfl) ?_
  refine va_newaK (atype := .byte) hx hb (q461 hI.1.T) rfl dJ5_init_d00df_12 rfl (n := 16) (by decide) (N := 16) (by decide) (by show 16 * 1 ≤ 536870912; omega) (Nat.le_of_ble_eq_true rfl) (Nat.le_of_ble_eq_true rfl) rfl fun H1 cB e1 z1 o1 hAr hNm => ?_
  have hI0 := hI
  obtain ⟨hm, hat, hne, hK, l1⟩ := hI
  have hlt : ∀ (k : Nat) q, (mW w M)[k]? = some q → q.1 < s.heap.size := fun k q hk => (hm.P k q hk).lt
  have hI1 : nwI w s H1 [] b D [.null, .int 0, .int 0, .int 0] M := ⟨hm.next (hm.P.kept fun k q hk => o1 q.1 (hlt k q hk)) ⟨by omega, fun q h1 h2 => o1 q h1, fun q hq => nomatch hq⟩, va_at.kept hat (o1 b l1), hne, hK, l1⟩
  refine W.eq (g2 := F0 m 14 ls [.ref s.heap.size, .ref b]) rfl ?_
  refine sb_put hx hb hown hI1.1.T hI1.2.2.2.1 hI1.2.1 0 (by decide) (by show 0 < 4; decide) rfl (q985 hI1.1.T) rfl (v := .ref s.heap.size) rfl rfl dJ5_init_d00df_14 (fun H2 k2 a2 z2 o2 => ?_)
  have hI2 := hI1.w1 (k := k2) z2 o2 a2
  refine lv_aload_n hx hb dJ5_init_d00df_17 rfl (lv_at hl 0 rfl) ?_
  refine lv_iconst (v := 0) hx hb dJ5_init_d00df_18 (by decide) ?_
  refine sb_put hx hb hown hI2.1.T hI2.2.2.2.1 hI2.2.1 1 (by decide) (by show 1 < 4; decide) rfl (q986 hI2.1.T) rfl (v := .int 0) rfl rfl dJ5_init_d00df_19 (fun H3 k3 a3 z3 o3 => ?_)
  have hI3 := hI2.w1 (k := k3) z3 o3 a3
  refine lv_goto (tgt := 38) hx hb dJ5_init_d00df_22 (by decide) ?_
  have hzz : H3.size = s.heap.size + 1 := by rw [z3, z2, z1]
  have hne2 : s.heap.size ≠ b := fun h => by omega
  have hcell : H3[s.heap.size]? = some (vp_cell cB (16, .inl fun _ => 0)) := by
    rw [o3 _ hne2, o2 _ hne2, e1, vp_cell_i]
    exact congrArg some (arrV_congr _ _ fun j _ => rfl)
  have a4 : va_at D bCl (b, .inr (0, [.ref s.heap.size, .int 0, .int 0, .int (Int32.ofNat 0)])) H3 := a3
  have hPB : va_P D bCl (bW (D, b, s.heap.size, cB) 0 (fun _ => 0)) H3 := fun k q hk => by
    rcases k with _ | _ | k
    · cases hk; exact a4
    · cases hk; exact hcell
    · cases hk
  have hKB : va_K D bCl [(cB, .byte)] s := ⟨hK.1, fun k q hk => by
    rcases k with _ | k
    · cases hk; exact ⟨hAr, hNm⟩
    · cases hk⟩
  have hPm := hI3.1.P
  have hSm := hI3.1.S
  refine W.vret hx hb hr (fun t ht hW => ⟨rfl, ?_, ?_, ⟨cB, ?_, va_K.moved hW.alike hKB⟩, hSm.F ht⟩) hSm.2.2 dJ5_init_d00df_38 hlk
  · rw [ht]; exact hPm
  · rw [ht]; exact hzz
  · rw [ht]; exact hPB
set_option maxRecDepth 100000 in
theorem c_sbInit (l : Launch) (w : WD) (sz b : Nat) (D : va_G) (M : Mem) : Met l yJ4_init_da8c8 [Cond.code yJ4_init_da8c8 cJ4_init_da8c8 1 none] rmN2 (nPre w sz b D M [.ref b]) (nQ w sz b D M) 1 16 (nA w sz b) := by
  refine n_of (by decide) (Nat.le_of_ble_eq_true rfl) ?_
  intro p e s m args below meth c hx hb hr hml hown hlk hI ls hl
  have hl : lv_has ls 1 [(0, .ref b)] := hl
  refine lv_aload_n hx hb dJ4_init_da8c8_0 rfl (lv_at hl 0 rfl) ?_
  refine lv_bipush (v := 16) hx hb dJ4_init_da8c8_1 (by decide) ?_
  have hpre : PreS s s.heap (nPre w s.heap.size b D M [.ref b, .int 16]) [.ref b, .int 16] := ⟨nPre.blind, fun U hU hWU => ⟨rfl, by rw [hU], hI.2.2.2.2, ⟨by rw [hU]; exact hI.1.P, hI.1.J, va_K.moved hWU.alike hI.1.K, hI.1.T.warm hWU, by rw [hU]; exact hI.1.St.moved hWU⟩, by rw [hU]; exact hI.2.1, hI.2.2.1, va_K.moved hWU.alike hI.2.2.2.1⟩⟩
  have hrun := va_runI (p := p) (l := l) (e := e) (s := s) (m := m) (args := args) (c := c) (H := s.heap) (R := rmN2) (below := below) (meth := meth) (locs := []) (cells := 0) (slots := 0) (g := F0 m 3 ls [.int 16, .ref b]) (Ts := []) (As := [.int 16]) (rest := []) ⟨hx, hb, hml, hown, fun _ h => nomatch h⟩ (c_asbInit l w s.heap.size b D M) ⟨m_callB (n := 1) (rm := rmN1) (R := rmN2) hI.1.T kc_J5_init_d00df ki_J5_init_d00df (q972 hI.1.T) (by decide +kernel) ⟨rfl, rfl, Nat.le_of_ble_eq_true rfl, Nat.le_of_ble_eq_true rfl⟩, rfl, q973 hI.1.T⟩ hpre rfl rfl hl.1 rfl (Nat.le_of_ble_eq_true rfl) dJ4_init_da8c8_3 ⟨Nat.le_of_ble_eq_true rfl, Nat.le_of_ble_eq_true rfl⟩
  intro T hT X
  obtain ⟨v1, st₀, t, T', Ls, h0, X', hL, e1, e2, ⟨hv, hP1, hz1, ⟨cB, hB, hKB⟩, hz, hk⟩, st⟩ := hrun T hT X
  cases hv
  rw [h0] at hz hk
  have key : W p l e rmN2 s m args below meth c T'.heap ([] ++ Ls) (0 + 1) (0 + 16) (MQ below (nQ w s.heap.size b D M) args s 1 16 (nA w s.heap.size b)) (F0 m 6 ls []) := by
    refine W.vret hx hb hr (fun t2 ht hW => ⟨rfl, by rw [ht, e1]; exact hP1, by rw [ht, e1]; exact hz1, ⟨cB, by rw [ht, e1]; exact hB, ?_⟩, ⟨by rw [ht, e1]; exact hz, fun q g1 g2 => by rw [ht, e1]; exact hk q g1 g2⟩⟩) (fun q hq => hL q hq) dJ4_init_da8c8_6 hlk
    have hK1 : va_K D bCl [(cB, .byte)] s := va_K.moved (u := t) (U := s) (by rw [← e2]; exact X'.warmed.alike.symm) hKB
    exact va_K.moved hW.alike hK1
  obtain ⟨t2, a1, b1⟩ := key T' rfl X'
  exact ⟨t2, st t2 a1, b1⟩
