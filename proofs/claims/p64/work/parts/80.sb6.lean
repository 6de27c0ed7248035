/-! new String(StringBuilder), toString -/
def sA (w : WD) (sz : Nat) (z : BX) (a : Nat) : Nat → Prop := fun q => bA w sz z q ∨ q = a
def sB (w : WD) (sz : Nat) (z : BX) (n : Nat) (f : Nat → Int32) (M : Mem) (a : Nat) (Ds : va_G) (U : State) : Prop :=
  U.heap.size = sz ∧ (z.2.1 < sz ∧ z.2.2.1 < sz ∧ a < sz) ∧ (mP w M U.heap ∧ mJ w ∧ va_K w.2.1 mCl (mTys w) U ∧ mT U ∧ mSt w (sA w sz z a) U U.heap) ∧ bF w z n f U U.heap ∧ va_at Ds sCl (a, .inr (0, [.null, .int 0, .int 0, .int 0])) U.heap ∧ (∀ g i, mok g i → w.1 g i ≠ a) ∧ (a ≠ z.2.1 ∧ a ≠ z.2.2.1) ∧ va_K Ds sCl [] U
def sPre (w : WD) (sz : Nat) (z : BX) (n : Nat) (f : Nat → Int32) (M : Mem) (a : Nat) (Ds : va_G) (av : List Value) : Array Value → State → Prop := va_Pc av (sB w sz z n f M a Ds)
def sQ (w : WD) (z : BX) (n : Nat) (f : Nat → Int32) (M : Mem) (a : Nat) (Ds : va_G) (sz : Nat) : Array Value → State → Outcome → State → Prop := fun _ st oc t =>
  oc = .returned none ∧ mP w M t.heap ∧ va_P z.1 bCl (bW z n f) t.heap ∧ (∃ (v : Nat) (cA : ClassId), sz ≤ v ∧ va_at Ds sCl (a, .inr (0, [.ref v, .int 0, .int 0, .int 0])) t.heap ∧ t.heap[v]? = some (arrV cA n (fun j => .int (f j))) ∧ ArrOfT t cA .byte) ∧ va_F (sA w sz z a) st t
theorem sPre.blind {w : WD} {sz : Nat} {z : BX} {n : Nat} {f : Nat → Int32} {M : Mem} {a : Nat} {Ds : va_G} {av : List Value} : FrameBlind (sPre w sz z n f M a Ds av) := fun v U g mk h =>
  ⟨h.1, h.2.1, h.2.2.1, ⟨h.2.2.2.1.1, h.2.2.2.1.2.1, va_K.moved (u := U) (U := U.calling g mk v) (Vm.Alike.refl U.vm) h.2.2.2.1.2.2.1, h.2.2.2.1.2.2.2.1.warm (s := U) (U := U.calling g mk v) (State.WarmedH.refl U), h.2.2.2.1.2.2.2.2.moved (u := U) (U := U.calling g mk v) (State.WarmedH.refl U)⟩, ⟨h.2.2.2.2.1.1, h.2.2.2.2.1.2.1, h.2.2.2.2.1.2.2.1, va_K.moved (u := U) (U := U.calling g mk v) (Vm.Alike.refl U.vm) h.2.2.2.2.1.2.2.2⟩, h.2.2.2.2.2.1, h.2.2.2.2.2.2.1, h.2.2.2.2.2.2.2.1, va_K.moved (u := U) (U := U.calling g mk v) (Vm.Alike.refl U.vm) h.2.2.2.2.2.2.2.2⟩
def sI (w : WD) (s : State) (H : Heap) (locs : List Loc) (z : BX) (n : Nat) (f : Nat → Int32) (M : Mem) (a : Nat) (Ds : va_G) (fs : List Value) : Prop :=
  mI w s (sA w s.heap.size z a) H locs M ∧ bF w z n f s H ∧ (z.2.1 < s.heap.size ∧ z.2.2.1 < s.heap.size ∧ a < s.heap.size) ∧ va_at Ds sCl (a, .inr (0, fs)) H ∧ (∀ g i, mok g i → w.1 g i ≠ a) ∧ (a ≠ z.2.1 ∧ a ≠ z.2.2.1) ∧ va_K Ds sCl [] s
theorem s_of {l : Launch} {y : MethodName} {cc : ByteArray} {maxL : Nat} {rm : Room} {w : WD} {sz a : Nat} {z : BX} {n : Nat} {f : Nat → Int32} {M : Mem} {Ds : va_G} {av : List Value} (hy : plainName y.cls = true) (hyn : y.name = "<init>") (ha : (lg_sl av).length ≤ maxL)
    (body : ∀ (p : Program) (e : Env) (s : State) (m : MethodId) (args : Array Value) (below : List Frame) (meth : Method) (c : Code), p.tables.exec = Jvm.exec → c.code = cc → meth.sig.returnType = none → meth.name = "<init>" → c.maxLocals = maxL → s.vm.findClass y.cls = some m.cls → meth.locks = false →
      sI w s s.heap [] z n f M a Ds [.null, .int 0, .int 0, .int 0] → ∀ ls : Array Slot, lv_has ls maxL (lv_args 0 av) → W p l e rm s m args below meth c s.heap [] 0 0 (MQ below (sQ w z n f M a Ds s.heap.size) args s 1 16 (sA w s.heap.size z a)) (F0 m 0 ls [])) : Met l y [Cond.code y cc maxL none] rm (sPre w sz z n f M a Ds av) (sQ w z n f M a Ds sz) 1 16 (sA w sz z a) := by
  refine Met.ofW (cc := cc) (maxL := maxL) (ret := none) hy rfl ?_
  intro p e s m args below meth c s₁ B hml hv
  obtain ⟨rfl, rfl, hlt, ⟨hP, hJ, hK, hT, hSt⟩, hF, hat, hne, hn2, hKS⟩ := hv
  rw [lg_entry_eq]
  have hnm : meth.name = "<init>" := (name_of_methodNamed B.named B.method).1.trans hyn
  exact body p e s m _ below meth c B.exec B.bytes B.returns hnm hml (findClass_of_methodNamed B.named) B.notSynchronized ⟨⟨hP, hJ, hK, hT, hSt, va_S.rf, fun q hq => Or.inl (Or.inl (Or.inr hq)), fun g i hg => Or.inl (Or.inl (Or.inl ⟨g, i, hg, rfl⟩))⟩, hF, hlt, hat, hne, hn2, hKS⟩ _ (lv_entry av ha)
section SROWS2
variable {p : Program} {l : Launch} {e : Env} {R : Room} {s : State} {m : MethodId} {args : Array Value} {below : List Frame} {meth : Method} {c : Code} {H : Heap} {locs : List Loc} {cells slots : Nat} {Q : State → Prop}
variable {cc : ByteArray} {pc : Nat} {ls : Array Slot} {rest : List Value} {w : WD} {M : Mem} {z : BX} {n a : Nat} {f : Nat → Int32} {Ds : va_G} {fs : List Value}
theorem sI.na (hI : sI w s H locs z n f M a Ds fs) : ¬ bA w H.size z a := by
  have hz := hI.1.S.1
  obtain ⟨-, -, l1, -, hne, hn2, -⟩ := hI
  rintro ((⟨g, i, hg, q⟩ | q) | q | q)
  · exact hne g i hg q.symm
  · omega
  · exact hn2.1 q
  · exact hn2.2 q
theorem sI.sub (hI : sI w s H locs z n f M a Ds fs) : ∀ q, bA w H.size z q → sA w s.heap.size z a q := fun q hq => by
  rcases hq with q1 | q1
  · exact hI.1.sub q q1
  · exact Or.inl (Or.inr q1)
theorem sI.pre (hI : sI w s H locs z n f M a Ds fs) {U : State} (hU : U.heap = H) (hW : s.WarmedH U.vm) : bB w H.size z n f M U := by
  have hz := hI.1.S.1
  have hsub := hI.sub
  obtain ⟨hm, ⟨hP, hne, hd, hK⟩, l1, -⟩ := hI
  exact ⟨by rw [hU], ⟨by omega, by omega⟩, ⟨by rw [hU]; exact hm.P, hm.J, va_K.moved hW.alike hm.K, hm.T.warm hW, by rw [hU]; exact ((hm.St.kept (fun a h1 h2 => hm.S.2.1 a h1 h2)).moved hW).narrow hsub⟩, by rw [hU]; exact hP, hne, hd, va_K.moved hW.alike hK⟩
theorem sI.next (hI : sI w s H locs z n f M a Ds fs) {H1 : Heap} {Ls : List Loc} (hP1 : mP w M H1) (hB1 : va_P z.1 bCl (bW z n f) H1) (hz : H.size ≤ H1.size) (hk : ∀ q : Nat, q < H.size → ¬ bA w H.size z q → H1[q]? = H[q]?) (hL : ∀ q ∈ Ls, bA w H.size z q.base) : sI w s H1 (locs ++ Ls) z n f M a Ds fs := by
  have hS := hI.1.S
  have hna := hI.na
  have hsub := hI.sub
  obtain ⟨hm, ⟨hP, hne, hd, hK⟩, l1, hat, r⟩ := hI
  have hle := hS.1
  exact ⟨hm.next hP1 ⟨Nat.le_trans hS.1 hz, fun q h1 h2 => by rw [hk q (Nat.lt_of_lt_of_le h1 hS.1) (fun z => h2 (hsub q z))]; exact hS.2.1 q h1 h2, fun q hq => by
      rcases List.mem_append.mp hq with h | h
      · exact hS.2.2 q h
      · exact hsub _ (hL q h)⟩, ⟨hB1, hne, hd, hK⟩, l1, hat.kept (hk a (by omega) hna), r⟩
theorem s_after {st0 : List Value} {ar : Array Value} {v : Option Value} (hr : va_Run p l e R s m args below meth c H locs cells slots 0 0 (F0 m pc ls st0) rest (bQ w H.size z v n f M ar) (bA w H.size z)) (hI : sI w s H locs z n f M a Ds fs)
    (kk : ∀ (H1 : Heap) (locs1 : List Loc), sI w s H1 locs1 z n f M a Ds fs → W p l e R s m args below meth c H1 locs1 cells slots Q (F0 m (pc + 3) ls (v.toList ++ rest))) : W p l e R s m args below meth c H locs cells slots Q (F0 m pc ls st0) := by
  intro T hT X
  obtain ⟨v1, st₀, t, T', Ls, h0, X', hL, e1, e2, ⟨hv, hP1, hB1, hz, hk⟩, st⟩ := hr T hT X
  cases hv
  rw [h0] at hz hk
  obtain ⟨t2, a1, b1⟩ := kk T'.heap (locs ++ Ls) (hI.next (by rw [e1]; exact hP1) (by rw [e1]; exact hB1) (by rw [e1]; exact hz) (fun q h1 h2 => by rw [e1]; exact hk q h1 h2) hL) T' rfl X'
  exact ⟨t2, st t2 a1, b1⟩
theorem sI.recv (hI : sI w s H locs z n f M a Ds fs) : ∃ cell : Cell, H[z.2.1]? = some cell ∧ cell.vm.isStatics = false ∧ s.vm.findClass RJ4 = some cell.cls := va_recv hI.2.1.2.2.2 hI.2.1.1 (show bCl[0]? = some (RJ4, TJ4, 4) from rfl) (show (bW z n f)[0]? = some (z.2.1, .inr (0, [.ref z.2.2.1, .int 0, .int 0, .int (Int32.ofNat n)])) from rfl)
theorem s_callV {y : MethodName} {bytes : ByteArray} {maxL nL idx : Nat} {ret : Option FieldType} {rm : Room} {own : String} {v : Option Value} (hx : p.tables.exec = Jvm.exec) (hb : c.code = cc) (hml : c.maxLocals = nL) (hown : s.vm.findClass own = some m.cls) (hI : sI w s H locs z n f M a Ds fs)
    (hM : bMet l y bytes maxL ret rm w H.size z n f M [.ref z.2.1] v n f) (hcb : CallB R s args own idx y bytes maxL ret [Cond.code y bytes maxL ret] rm 0 0 0) (hin : (Cond.instanceMethod y).before args s = true) (hse : (Cond.selects RJ4 y y).before args s = true)
    (hsize : ls.size = nL) (hW : (rest.map fun v => v.category).sum ≤ 8) (hdg : decode cc pc = .ok (.invokevirtual idx, 3)) (hf : cells ≤ R.cells ∧ slots ≤ R.slots)
    (kk : ∀ (H1 : Heap) (locs1 : List Loc), sI w s H1 locs1 z n f M a Ds fs → W p l e R s m args below meth c H1 locs1 cells slots Q (F0 m (pc + 3) ls (v.toList ++ rest))) : W p l e R s m args below meth c H locs cells slots Q (F0 m pc ls (.ref z.2.1 :: rest)) :=
  s_after (va_runV (g := F0 m pc ls (.ref z.2.1 :: rest)) (Ts := []) (As := []) (rest := rest) ⟨hx, hb, hml, hown, fun _ h => nomatch h⟩ hM ⟨hcb, hin, hse⟩ ⟨bPre.blind, hI.recv, fun U hU hW => ⟨rfl, hI.pre hU hW⟩⟩ rfl rfl hsize rfl (lv_room hW) hdg ⟨hf.1, hf.2⟩) hI kk
theorem s_putF {own : String} {idx : Nat} (hx : p.tables.exec = Jvm.exec) (hb : c.code = cc) (hown : s.vm.findClass own = some m.cls) (hI : sI w s H locs z n f M a Ds fs) (k : Nat) (hk : k < 4) (hl : k < fs.length) (hfin : (TJ0 k).2.2.2 = true) (hdecl : (TJ0 k).1 = own) (hin2 : meth.name = "<init>") (hlink : (Cond.fieldLink own idx (TJ0 k).1 (TJ0 k).2.1 (TJ0 k).2.2.1).before args s = true) {v : Value} (hn : narrow (tyJ0 k) v = v) (hfit : fits (tyJ0 k) v = true) (hdg : decode cc pc = .ok (.putfield idx, 3))
    (kk : ∀ (H1 : Heap) (locs1 : List Loc), sI w s H1 locs1 z n f M a Ds (fs.set k v) → (∀ q : Nat, q ≠ a → H1[q]? = H[q]?) → W p l e R s m args below meth c H1 locs1 cells slots Q (F0 m (pc + 3) ls rest)) : W p l e R s m args below meth c H locs cells slots Q (F0 m pc ls (v :: .ref a :: rest)) := by
  obtain ⟨hm, ⟨hP, hne, hd, hK⟩, l1, ⟨r, h1, cell, q1, q2, q3, q4⟩, hna, hn2, hKS⟩ := hI
  have hts := wsJ0 (args := args) hm.T
  have hap := va_apart (own := own) hts (fun _ h => h) tyJ0 tyJ0_ok nmJ0 hKS (ci := 0) rfl
  have hr2 : r = (RJ0, TJ0, 4) := Option.some.inj (h1.symm.trans rfl)
  subst hr2
  obtain ⟨hSl, hfc, kC, hkC, hkind⟩ := hKS.1 0 _ rfl
  obtain ⟨cf, kf, fi, fd, hi, hsl⟩ := hSl k hk
  have hlay := hts _ (u_in_lay hk)
  unfold u_lay at hlay
  rw [if_pos hfin] at hlay
  have hst := (u_facts hfc hkC (Or.inr hlay) hi).1
  have hcf : m.cls = cf := by
    obtain ⟨_, _, c', _, _, _, -, -, hf', -, -, -, hown2, -⟩ := Cond.laysFinal_spec hlay
    cases hi.symm.trans hf'
    rw [hdecl] at hown2
    exact (Option.some.inj (hown2.symm.trans hown)).symm
  have h6 := u_fits hfc hkC hkind (Or.inr hlay) hi (tyJ0_ok k hk) hn hfit
  refine W.putFinK hx hb hown hlink hi hst hcf hin2 (by rw [q2]; exact h6) q1 q3 (by rw [hsl]; exact k2_hasslot (q4 k hk)) rfl rfl hdg fun H' e1 e2 e3 => ?_
  rw [hsl] at e1 ⊢
  refine kk H' _ ⟨hm.next (hm.P.kept fun k q hk => e3 q.1 ?_) (hm.S.put e2 e3 (Or.inr rfl)), ⟨bW_P hP (e3 _ hn2.1.symm) (e3 _ hn2.2.symm), hne, hd, hK⟩, l1, ⟨_, rfl, t_OB.to (V := updV (vp_V fs) k v) ⟨_, e1, q2, q3, t_set q4 hap hk v⟩ (fun j _ => vp_updV_set hl v j)⟩, hna, hn2, hKS⟩ e3
  obtain ⟨g, hg, rfl⟩ := mW_of hk
  exact hna g.1 g.2 (List.mem_of_getElem? hg)
end SROWS2
abbrev rmC3 : Room := { frames := 4, cells := 1, slots := 16, locals := 160 }
abbrev rmC4 : Room := { frames := 5, cells := 1, slots := 16, locals := 200 }
set_option maxRecDepth 100000 in
theorem c_strI2 (l : Launch) (w : WD) (sz : Nat) (z : BX) (n : Nat) (f : Nat → Int32) (M : Mem) (a : Nat) (Ds : va_G) (hn : n ≤ 15) (hfit : ∀ j, j < n → fits .byte (.int (f j)) = true) : Met l yJ0_init_db425 [Cond.code yJ0_init_db425 cJ0_init_db425 5 none] rmC3 (sPre w sz z n f M a Ds [.ref a, .ref z.2.1, .null]) (sQ w z n f M a Ds sz) 1 16 (sA w sz z a) := by
  refine s_of (by decide) rfl (Nat.le_of_ble_eq_true rfl) ?_
  intro p e s m args below meth c hx hb hr hnm hml hown hlk hI ls hl
  have hl : lv_has ls 5 [(0, .ref a), (1, .ref z.2.1), (2, .null)] := hl
  refine lv_aload_n hx hb dJ0_init_db425_0 rfl (lv_at hl 0 rfl) ?_
  refine W.objInit hx hb hown (q1153 hI.1.T) (q40 hI.1.T) (q41 hI.1.T) rfl (hl.1.trans hml.symm) rfl dJ0_init_db425_1 (Nat.le_of_ble_eq_true rfl) (Nat.le_of_ble_eq_true rfl) ?_
  refine W.eq (g2 := F0 m 4 ls []) rfl ?_
  refine lv_aload_n hx hb dJ0_init_db425_4 rfl (lv_at hl 1 rfl) ?_
  refine s_callV (rest := []) hx hb hml hown hI (c_getValue l w s.heap.size z n f M) (m_callB (n := 0) hI.1.T kc_J5_getValue_6d5f1 ki_J5_getValue_6d5f1 (q1154 hI.1.T) (by decide +kernel) ⟨rfl, rfl, Nat.le_of_ble_eq_true rfl, Nat.le_of_ble_eq_true rfl⟩) (q1155 hI.1.T) (q1157 hI.1.T) hl.1 (Nat.le_of_ble_eq_true rfl) dJ0_init_db425_5 ⟨Nat.le_of_ble_eq_true rfl, Nat.le_of_ble_eq_true rfl⟩ (fun H locs hI => ?_)
  refine lv_astore_n (lv' := [(3, .ref z.2.2.1), (0, .ref a), (1, .ref z.2.1), (2, .null)]) hx hb dJ0_init_db425_8 rfl hl (by decide) rfl (fun ls hl => ?_)
  refine lv_aload_n hx hb dJ0_init_db425_9 rfl (lv_at hl 2 rfl) ?_
  have hlen : va_CU rmC3 s args "java/lang/String" RJ4 RJ5 549 yJ5_length_8abf5 yJ4_length_8abf5 cJ4_length_8abf5 1 (some .int) [Cond.code yJ4_length_8abf5 cJ4_length_8abf5 1 (some .int)] rmJ2 0 0 0 := ⟨⟨rfl, rfl, Nat.le_of_ble_eq_true rfl, Nat.le_of_ble_eq_true rfl, fun w hw a' U hW => by
      obtain rfl := List.mem_singleton.mp hw
      exact word_at hW (good_of_word rfl) (q1164 (a := args) hI.1.T), List.mem_cons_self⟩, q1164 hI.1.T, q23 hI.1.T, by decide, fun sig h => by
      have h2 : (parseMethodDescriptor yJ5_length_8abf5.desc).map (fun d => d.parameters.length) = some 0 := by decide +kernel
      rw [h] at h2
      exact (Option.some.inj h2).symm, q1159 hI.1.T, q1161 hI.1.T, va_Decl.of (args := args) (q1160 hI.1.T) (q1166 hI.1.T), q1162 hI.1.T, q1163 hI.1.T⟩
  refine s_after (va_runU (C := RJ4) (g := F0 m 10 ls [.ref z.2.1]) (Ts := []) (As := []) (rest := []) ⟨hx, hb, hml, hown, fun _ h => nomatch h⟩ (c_sbLen l w H.size z n f M) hlen ⟨bPre.blind, hI.recv, fun U hU hW => ⟨rfl, hI.pre hU hW⟩⟩ rfl rfl hl.1 rfl (Nat.le_of_ble_eq_true rfl) dJ0_init_db425_10 ⟨Nat.le_of_ble_eq_true rfl, Nat.le_of_ble_eq_true rfl⟩) hI (fun H locs hI => ?_)
  refine lv_istore (lv' := [(4, .int (Int32.ofNat n)), (3, .ref z.2.2.1), (0, .ref a), (1, .ref z.2.1), (2, .null)]) hx hb dJ0_init_db425_13 hl (by decide) rfl (fun ls hl => ?_)
  refine lv_aload_n hx hb dJ0_init_db425_15 rfl (lv_at hl 3 rfl) ?_
  refine s_callV (rest := []) hx hb hml hown hI (c_sbLat l w H.size z n f M) (m_callB (n := 0) hI.1.T kc_J5_isLatin1_aae02 ki_J5_isLatin1_aae02 (q1167 hI.1.T) (by decide +kernel) ⟨rfl, rfl, Nat.le_of_ble_eq_true rfl, Nat.le_of_ble_eq_true rfl⟩) (q1042 hI.1.T) (q1044 hI.1.T) hl.1 (Nat.le_of_ble_eq_true rfl) dJ0_init_db425_16 ⟨Nat.le_of_ble_eq_true rfl, Nat.le_of_ble_eq_true rfl⟩ (fun H locs hI => ?_)
  refine lv_if_eq (tgt := 41) hx hb dJ0_init_db425_19 (by decide) (fun c => absurd c (by decide)) (fun _ => ?_)
  refine lv_aload_n hx hb dJ0_init_db425_22 rfl (lv_at hl 2 rfl) ?_
  refine lv_iconst (v := 0) hx hb dJ0_init_db425_23 (by decide) ?_
  refine s_putF hx hb hown hI 1 (by decide) (by show 1 < 4; decide) rfl rfl hnm (q1199 hI.1.T) (v := .int 0) rfl rfl dJ0_init_db425_24 (fun H locs hI _ => ?_)
  refine lv_aload_n hx hb dJ0_init_db425_27 rfl (lv_at hl 2 rfl) ?_
  refine lv_aload_n hx hb dJ0_init_db425_28 rfl (lv_at hl 1 rfl) ?_
  refine lv_iconst (v := 0) hx hb dJ0_init_db425_29 (by decide) ?_
  refine lv_iload hx hb dJ0_init_db425_30 (lv_at hl 0 rfl) ?_
  have hrun := va_runS (p := p) (l := l) (e := e) (s := s) (m := m) (args := args) (c := c) (R := rmC3) (below := below) (meth := meth) (locs := locs) (cells := 0) (slots := 0) (g := F0 m 32 ls [.int (Int32.ofNat n), .int 0, .ref z.2.2.1, .ref a]) (Ts := []) (As := [.ref z.2.2.1, .int 0, .int (Int32.ofNat n)]) (rest := [.ref a]) ⟨hx, hb, hml, hown, fun _ h => nomatch h⟩ (c_corr l w H.size z n f M hn hfit) ⟨m_callB (n := 3) hI.1.T kc_J7_copyOfRange_39247 ki_J7_copyOfRange_39247 (q1168 hI.1.T) (by decide +kernel) ⟨rfl, rfl, Nat.le_of_ble_eq_true rfl, Nat.le_of_ble_eq_true rfl⟩, q1169 hI.1.T⟩ ⟨bPre.blind, fun U hU hW => ⟨rfl, hI.pre hU hW⟩⟩ rfl rfl hl.1 rfl (Nat.le_of_ble_eq_true rfl) dJ0_init_db425_32 ⟨Nat.le_of_ble_eq_true rfl, Nat.le_of_ble_eq_true rfl⟩
  intro T hT X
  obtain ⟨v1, st₀, t, T', Ls, h0, X', hL, e1, e2, ⟨v, cA, hv, hvz, hP1, hB1, hA1, hAr, hz, hk⟩, st⟩ := hrun T hT X
  cases hv
  rw [h0] at hz hk
  have hAs : ArrOfT s cA .byte := arrOfT_moved (u := t) (E := s) (by rw [← e2]; exact X'.warmed.alike.symm) hAr
  have hsz := hI.1.S.1
  have hI1 : sI w s T'.heap (locs ++ Ls) z n f M a Ds ([.null, .int 0, .int 0, .int 0] : List Value) := hI.next (by rw [e1]; exact hP1) (by rw [e1]; exact hB1) (by rw [e1]; exact hz) (fun q h1 h2 => by rw [e1]; exact hk q h1 h2) hL
  have hA1 : T'.heap[v]? = some (arrV cA n (fun j => .int (f j))) := by rw [e1]; exact hA1
  have hva : v ≠ a := fun h => by have := hI.2.2.1.2.2; omega
  have key : W p l e rmC3 s m args below meth c T'.heap (locs ++ Ls) (0 + 1) (0 + 16) (MQ below (sQ w z n f M a Ds s.heap.size) args s 1 16 (sA w s.heap.size z a)) (F0 m 35 ls [.ref v, .ref a]) := by
    refine s_putF hx hb hown hI1 0 (by decide) (by show 0 < 4; decide) rfl rfl hnm (q1198 hI1.1.T) (v := .ref v) rfl rfl dJ0_init_db425_35 (fun H2 locs2 hI2 o2 => ?_)
    refine lv_goto (tgt := 97) hx hb dJ0_init_db425_38 (by decide) ?_
    exact W.vret hx hb hr (fun t2 ht hW => ⟨rfl, by rw [ht]; exact hI2.1.P, by rw [ht]; exact hI2.2.1.1, ⟨v, cA, by omega, by rw [ht]; exact hI2.2.2.2.1, by rw [ht, o2 v hva]; exact hA1, arrOfT_moved hW.alike hAs⟩, hI2.1.S.F ht⟩) hI2.1.S.2.2 dJ0_init_db425_97 hlk
  obtain ⟨t2, a1, b1⟩ := key T' rfl X'
  exact ⟨t2, st t2 a1, b1⟩
