/-! STRINGBUILDER: its private methods, what writes its bytes -/
abbrev rmJ5 : Room := { frames := 5, cells := 0, slots := 0, locals := 200 }
abbrev rmJ6 : Room := { frames := 6, cells := 0, slots := 0, locals := 240 }
/-- an invokevirtual of a private method -/
theorem sel_priv {s : State} {args : Array Value} {C : String} {c : ClassId} {y : MethodName} (hc : s.vm.findClass C = some c) (h1 : (Cond.sameMethod y.cls y.cls y.name y.desc).before args s = true) (h2 : (Cond.privateMethod y).before args s = true) (h3 : (Cond.instanceMethod y).before args s = true) : (Cond.selects C y y).before args s = true := by
  obtain ⟨cy, ck, r, q1, q2, q3, q4, q5⟩ := Cond.sameMethod_found h1
  obtain ⟨m, meth, p1, p2, p3, p4⟩ := Cond.instanceMethod_spec h3
  have hpv := Cond.privateMethod_at h2
  have q5 : s.methodNamed? y = some r := q5
  cases q5.symm.trans p1
  have hs : selectMethod {} s.vm c r = .method r := selectMethod_private p2 (hpv r meth p1 p2)
  have hcl : s.vm.findClass y.cls = some r.cls := findClass_of_methodNamed p1
  cases hcl.symm.trans q1
  simp [Cond.before, Cond.holds, Cond.value, hc, q4, p1, hs, q2, q3]
section BROWS2
variable {p : Program} {l : Launch} {e : Env} {R : Room} {s : State} {m : MethodId} {args : Array Value} {below : List Frame} {meth : Method} {c : Code} {H : Heap} {locs : List Loc} {cells slots : Nat} {Q : State → Prop}
variable {cc : ByteArray} {pc : Nat} {ls : Array Slot} {rest : List Value} {w : WD} {M : Mem} {z : BX} {n n1 : Nat} {f f1 : Nat → Int32}
theorem bI.w1 (hI : bI w s H locs z n f M) {a k : Nat} (ha : a = z.2.1 ∨ a = z.2.2.1) {H1 : Heap} (hz : H1.size = H.size) (oq : ∀ q : Nat, q ≠ a → H1[q]? = H[q]?) (hP1 : va_P z.1 bCl (bW z n1 f1) H1) : bI w s H1 (locs ++ [⟨a, k⟩]) z n1 f1 M := by
  obtain ⟨hm, ⟨hP, hne, hd, hK⟩, l1, l2⟩ := hI
  refine ⟨hm.next (hm.P.kept fun k q hk => oq q.1 ?_) (hm.S.put hz oq (Or.inr ha)), ⟨hP1, hne, hd, hK⟩, l1, l2⟩
  obtain ⟨g, hg, rfl⟩ := mW_of hk
  have := hne g.1 g.2 (List.mem_of_getElem? hg)
  rcases ha with rfl | rfl
  · exact this.1
  · exact this.2
theorem b_iret (hx : p.tables.exec = Jvm.exec) (hb : c.code = cc) (hr : meth.sig.returnType = some .int) (hlk : meth.locks = false) (hI : bI w s H locs z n f M) {v : Int32} (hdg : decode cc pc = .ok (.ireturn, 1)) :
    W p l e R s m args below meth c H locs cells slots (MQ below (bQ w s.heap.size z (some (.int v)) n f M) args s cells slots (bA w s.heap.size z)) (F0 m pc ls [.int v]) :=
  W.iret hx hb hr (fun t ht hW => ⟨rfl, by rw [ht]; exact hI.1.P, by rw [ht]; exact hI.P, hI.1.S.F ht⟩) hI.1.S.2.2 hdg hlk
theorem b_zret (hx : p.tables.exec = Jvm.exec) (hb : c.code = cc) {ty : FieldType} (hr : meth.sig.returnType = some ty) (hlk : meth.locks = false) (hI : bI w s H locs z n f M) {v : Int32} (hn : narrow ty (.int v) = .int v) (hdg : decode cc pc = .ok (.ireturn, 1)) :
    W p l e R s m args below meth c H locs cells slots (MQ below (bQ w s.heap.size z (some (.int v)) n f M) args s cells slots (bA w s.heap.size z)) (F0 m pc ls [.int v]) :=
  W.zret hx hb hr hn (fun t ht hW => ⟨rfl, by rw [ht]; exact hI.1.P, by rw [ht]; exact hI.P, hI.1.S.F ht⟩) hI.1.S.2.2 hdg hlk
theorem b_vret (hx : p.tables.exec = Jvm.exec) (hb : c.code = cc) (hr : meth.sig.returnType = none) (hlk : meth.locks = false) (hI : bI w s H locs z n f M) (hdg : decode cc pc = .ok (.return_, 1)) :
    W p l e R s m args below meth c H locs cells slots (MQ below (bQ w s.heap.size z none n f M) args s cells slots (bA w s.heap.size z)) (F0 m pc ls []) :=
  W.vret hx hb hr (fun t ht hW => ⟨rfl, by rw [ht]; exact hI.1.P, by rw [ht]; exact hI.P, hI.1.S.F ht⟩) hI.1.S.2.2 hdg hlk
theorem b_aret (hx : p.tables.exec = Jvm.exec) (hb : c.code = cc) {rt : FieldType} (hr : meth.sig.returnType = some rt) (hrt : (∃ n, rt = .object n) ∨ ∃ t, rt = .array t) (hlk : meth.locks = false) (hI : bI w s H locs z n f M) {a : Nat} (hdg : decode cc pc = .ok (.areturn, 1)) :
    W p l e R s m args below meth c H locs cells slots (MQ below (bQ w s.heap.size z (some (.ref a)) n f M) args s cells slots (bA w s.heap.size z)) (F0 m pc ls [.ref a]) :=
  W.aret hx hb hr hrt (Or.inr ⟨_, rfl⟩) (fun t ht hW => ⟨rfl, by rw [ht]; exact hI.1.P, by rw [ht]; exact hI.P, hI.1.S.F ht⟩) hI.1.S.2.2 hdg hlk
theorem b_putn {own : String} {idx q : Nat} (hx : p.tables.exec = Jvm.exec) (hb : c.code = cc) (hown : s.vm.findClass own = some m.cls) (hI : bI w s H locs z n f M) (hlink : (Cond.fieldLink own idx RJ5 "count" "I").before args s = true) {v : Int32} (hv : v = Int32.ofNat q) (hdg : decode cc pc = .ok (.putfield idx, 3))
    (kk : ∀ (H1 : Heap) (locs1 : List Loc), bI w s H1 locs1 z q f M → W p l e R s m args below meth c H1 locs1 cells slots Q (F0 m (pc + 3) ls rest)) : W p l e R s m args below meth c H locs cells slots Q (F0 m pc ls (.int v :: .ref z.2.1 :: rest)) := by
  subst hv
  have hts := wsJ4 (args := args) hI.T
  have hap := va_apart (own := own) hts (fun _ h => h) tyJ4 tyJ4_ok nmJ4 hI.K (ci := 0) rfl
  obtain ⟨r, h1, cell, q1, q2, q3, q4⟩ := hI.P 0 _ rfl
  have hr : r = (RJ4, TJ4, 4) := Option.some.inj (h1.symm.trans rfl)
  subst hr
  obtain ⟨hS, hfc, kC, hkC, hkind⟩ := hI.K.1 0 _ rfl
  obtain ⟨cf, kf, fi, fd, hi, hsl⟩ := hS 3 (by decide)
  have hlay : (Cond.lays RJ4 (TJ4 3).1 (TJ4 3).2.1 (TJ4 3).2.2.1).before args s = true := hts _ (u_in_lay (k := 3) (by decide))
  have hst := (u_facts hfc hkC (Or.inl hlay) hi).1
  have h6 := u_store (v := .int (Int32.ofNat q)) (ty := .int) hfc hkC hkind hlay hi rfl rfl rfl
  refine W.putK hx hb (f := fd) ⟨hown, hlink, ⟨_, _, _, hi⟩, hst⟩ (by rw [q2]; exact h6) q1 q3 (by rw [hsl]; exact k2_hasslot (q4 3 (by decide))) rfl rfl hdg fun H' e1 e2 e3 => ?_
  rw [hsl] at e1 ⊢
  refine kk H' _ (hI.w1 (Or.inl rfl) e2 e3 fun k g hk => ?_)
  rcases k with _ | _ | k
  · cases hk
    exact ⟨_, rfl, t_OB.to (V := updV (vp_V [.ref z.2.2.1, .int 0, .int 0, .int (Int32.ofNat n)]) 3 (.int (Int32.ofNat q))) ⟨_, e1, q2, q3, t_set q4 hap (by decide) _⟩ (fun j _ => vp_updV_set (by show 3 < 4; decide) _ j)⟩
  · cases hk
    show H'[z.2.2.1]? = _
    rw [e3 _ (fun h => hI.2.1.2.2.1 h.symm)]
    exact hI.P 1 _ rfl
  · cases hk
theorem b_bast (hx : p.tables.exec = Jvm.exec) (hb : c.code = cc) (hI : bI w s H locs z n f M) {j x : Int32} (hin : vp_in j 16) {f1 : Nat → Int32} (hf1 : ∀ k, k < 16 → f1 k = if k = j.toNatClampNeg then x else f k) (hnar : narrow .byte (.int x) = .int x) (hdg : decode cc pc = .ok (.bastore, 1))
    (kk : ∀ (H1 : Heap) (locs1 : List Loc), bI w s H1 locs1 z n f1 M → W p l e R s m args below meth c H1 locs1 cells slots Q (F0 m (pc + 1) ls rest)) : W p l e R s m args below meth c H locs cells slots Q (F0 m pc ls (.int x :: .int j :: .ref z.2.2.1 :: rest)) := by
  have hA : H[z.2.2.1]? = some (arrV z.2.2.2 16 (fun j => .int (f j))) := by
    have h : H[z.2.2.1]? = some (vp_cell z.2.2.2 (16, .inl f)) := hI.P 1 _ rfl
    rw [vp_cell_i] at h
    exact h
  refine W.bast hx hb hA ((hI.K.2 0 _ rfl).1 16 (fun j => .int (f j))) (by intro q; cases q) (by show ¬ (j < 0 ∨ (arrV _ _ _).slots.size ≤ _); rw [arrV_size]; exact hin) rfl rfl hdg fun H1 e1 e2 e3 => ?_
  refine kk H1 _ (hI.w1 (Or.inr rfl) e2 e3 fun k g hk => ?_)
  rcases k with _ | _ | k
  · cases hk
    exact va_at.kept (hI.P 0 _ rfl) (e3 _ hI.2.1.2.2.1)
  · cases hk
    show H1[z.2.2.1]? = some (vp_cell _ _)
    rw [e1, vp_cell_i, hnar]
    show some ((arrV _ _ _).setSlot _ _) = _
    rw [arrV_store]
    exact congrArg some (arrV_congr _ _ fun i hi => by
      show (if i = j.toNatClampNeg then Value.int x else Value.int (f i)) = Value.int (f1 i)
      rw [hf1 i hi]
      split <;> rfl)
  · cases hk
end BROWS2
set_option maxRecDepth 100000 in
theorem c_sbLat (l : Launch) (w : WD) (sz : Nat) (z : BX) (n : Nat) (f : Nat → Int32) (M : Mem) : bMet l yJ5_isLatin1_aae02 cJ5_isLatin1_aae02 1 (some .boolean) rmJ1 w sz z n f M [.ref z.2.1] (some (.int 1)) n f := by
  refine b_of (by decide) (Nat.le_of_ble_eq_true rfl) ?_
  intro p e s m args below meth c hx hb hr hml hown hlk hI ls hl
  have hl : lv_has ls 1 [(0, .ref z.2.1)] := hl
  refine va_gets hx hb hI.1.Zcs hI.1.S hown (q976 hI.T) (fun _ h => h) dJ5_isLatin1_aae02_0 ?_
  refine lv_if_eq (tgt := 17) hx hb dJ5_isLatin1_aae02_3 (by decide) (fun c => absurd c (by decide)) (fun _ => ?_)
  refine lv_aload_n hx hb dJ5_isLatin1_aae02_6 rfl (lv_at hl 0 rfl) ?_
  refine b_get hx hb hown hI 1 (by decide) (q986 hI.T) rfl rfl dJ5_isLatin1_aae02_7 ?_
  refine lv_if_ne (tgt := 17) hx hb dJ5_isLatin1_aae02_10 (by decide) (fun c => absurd rfl c) (fun _ => ?_)
  refine lv_iconst (v := 1) hx hb dJ5_isLatin1_aae02_13 (by decide) ?_
  refine lv_goto (tgt := 18) hx hb dJ5_isLatin1_aae02_14 (by decide) ?_
  exact b_zret hx hb hr hlk hI rfl dJ5_isLatin1_aae02_18
set_option maxRecDepth 100000 in
theorem c_ensure (l : Launch) (w : WD) (sz : Nat) (z : BX) (n : Nat) (f : Nat → Int32) (M : Mem) (q : Nat) (hq : q ≤ 16) : bMet l yJ5_ensureCapacityInternal_d00df cJ5_ensureCapacityInternal_d00df 3 none rmJ1 w sz z n f M [.ref z.2.1, .int (Int32.ofNat q)] none n f := by
  refine b_of (by decide) (Nat.le_of_ble_eq_true rfl) ?_
  intro p e s m args below meth c hx hb hr hml hown hlk hI ls hl
  have hl : lv_has ls 3 [(0, .ref z.2.1), (1, .int (Int32.ofNat q))] := hl
  refine lv_aload_n hx hb dJ5_ensureCapacityInternal_d00df_0 rfl (lv_at hl 0 rfl) ?_
  refine b_get hx hb hown hI 0 (by decide) (q985 hI.T) rfl rfl dJ5_ensureCapacityInternal_d00df_1 ?_
  refine va_alen (ty := .byte) hx hb hI.K hI.P 1 0 rfl rfl rfl dJ5_ensureCapacityInternal_d00df_4 ?_
  refine lv_aload_n hx hb dJ5_ensureCapacityInternal_d00df_5 rfl (lv_at hl 0 rfl) ?_
  refine b_get hx hb hown hI 1 (by decide) (q986 hI.T) rfl rfl dJ5_ensureCapacityInternal_d00df_6 ?_
  refine lv_ishr hx hb dJ5_ensureCapacityInternal_d00df_9 ?_
  refine lv_istore_n (lv' := [(2, .int (Int32.ofNat 16 >>> ((0 : Int32) &&& 31))), (0, .ref z.2.1), (1, .int (Int32.ofNat q))]) hx hb dJ5_ensureCapacityInternal_d00df_10 rfl hl (by decide) rfl (fun ls hl => ?_)
  refine lv_iload_n hx hb dJ5_ensureCapacityInternal_d00df_11 rfl (lv_at hl 2 rfl) ?_
  refine lv_iload_n hx hb dJ5_ensureCapacityInternal_d00df_12 rfl (lv_at hl 0 rfl) ?_
  refine lv_isub hx hb dJ5_ensureCapacityInternal_d00df_13 ?_
  have h9 : ∀ q : Fin 17, Int32.ofNat q.val - (Int32.ofNat 16 >>> ((0 : Int32) &&& 31)) ≤ 0 := by decide
  refine lv_if_le (tgt := 38) hx hb dJ5_ensureCapacityInternal_d00df_14 (by decide) (fun _ => ?_) (fun c => absurd (h9 ⟨q, by omega⟩) c)
  exact b_vret hx hb hr hlk hI dJ5_ensureCapacityInternal_d00df_38
set_option maxRecDepth 100000 in
theorem c_inflate (l : Launch) (w : WD) (sz : Nat) (z : BX) (n : Nat) (f : Nat → Int32) (M : Mem) (ta tv tn : Nat) (tf : Nat → Int32) (hK : kSx w ta tv tn tf) : bMet l yJ5_inflateIfNeededFor_a7421 cJ5_inflateIfNeededFor_a7421 2 none rmJ2 w sz z n f M [.ref z.2.1, .ref ta] none n f := by
  refine b_of (by decide) (Nat.le_of_ble_eq_true rfl) ?_
  intro p e s m args below meth c hx hb hr hml hown hlk hI ls hl
  have hl : lv_has ls 2 [(0, .ref z.2.1), (1, .ref ta)] := hl
  refine va_gets hx hb hI.1.Zcs hI.1.S hown (q976 hI.T) (fun _ h => h) dJ5_inflateIfNeededFor_a7421_0 ?_
  refine lv_if_eq (tgt := 21) hx hb dJ5_inflateIfNeededFor_a7421_3 (by decide) (fun c => absurd c (by decide)) (fun _ => ?_)
  refine lv_aload_n hx hb dJ5_inflateIfNeededFor_a7421_6 rfl (lv_at hl 0 rfl) ?_
  refine b_get hx hb hown hI 1 (by decide) (q986 hI.T) rfl rfl dJ5_inflateIfNeededFor_a7421_7 ?_
  refine lv_aload_n hx hb dJ5_inflateIfNeededFor_a7421_10 rfl (lv_at hl 1 rfl) ?_
  refine b_callVm (As := []) (rest := [.int 0]) hx hb hml hown hI (c_coder l w s.heap.size ta tv tn tf hK M) (m_callB hI.T kc_J0_coder_7d493 ki_J0_coder_7d493 (q1089 hI.T) (by decide +kernel) ⟨rfl, rfl, Nat.le_of_ble_eq_true rfl, Nat.le_of_ble_eq_true rfl⟩) (q1077 hI.T) (q1078 hI.T) ((hK.1 _ _ _ hI.1.St).1.elim fun cell h => ⟨cell, h.1, h.2.1, h.2.2.1⟩) rfl hl.1 (Nat.le_of_ble_eq_true rfl) dJ5_inflateIfNeededFor_a7421_11 ⟨Nat.le_of_ble_eq_true rfl, Nat.le_of_ble_eq_true rfl⟩ (fun H locs hI => ?_)
  refine lv_icmp_eq (tgt := 21) hx hb dJ5_inflateIfNeededFor_a7421_14 (by decide) (fun _ => ?_) (fun c => absurd rfl c)
  exact b_vret hx hb hr hlk hI dJ5_inflateIfNeededFor_a7421_21
