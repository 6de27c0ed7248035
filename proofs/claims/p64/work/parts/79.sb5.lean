/-! StringBuilder.toString() -/
abbrev sCl : List vw_C := [(RJ0, TJ0, 4)]
set_option maxRecDepth 100000 in
theorem lyJ0 : ∀ w ∈ u_ws RJ0 TJ0 4, w ∈ lw_tbl ∧ mgood w = true := m_in _ [485, 487, 1200, 1202] rfl rfl
theorem wsJ0 {s : State} {args : Array Value} (h : mT s) : ∀ w ∈ u_ws RJ0 TJ0 4, w.before args s = true := fun w hw => h w (lyJ0 w hw).1 (lyJ0 w hw).2 args
section SROWS
variable {p : Program} {l : Launch} {e : Env} {R : Room} {s : State} {m : MethodId} {args : Array Value} {below : List Frame} {meth : Method} {c : Code} {H : Heap} {locs : List Loc} {cells slots : Nat} {Q : State → Prop}
variable {cc : ByteArray} {pc : Nat} {ls : Array Slot} {rest : List Value} {w : WD} {M : Mem}
/-- bytes are copied from the head of an array -/
theorem w_copy (hx : p.tables.exec = Jvm.exec) (hb : c.code = cc) (hml : c.maxLocals = ls.size) {own : String} {index : Nat} (hown : s.vm.findClass own = some m.cls) (hlink : (Cond.methodLink own index arraycopyName).before args s = true) (hnat : (Cond.native arraycopyName).before args s = true) (hstat : (Cond.static arraycopyName).before args s = true) (hini : (Cond.initialized "java/lang/System").before args s = true)
    {src dst nS nD cnt : Nat} {cS cD : ClassId} {tf g : Nat → Int32} (hs : H[src]? = some (arrV cS nS (fun j => .int (tf j)))) (hsa : s.isArrayOf (arrV cS nS (fun j => .int (tf j))) .byte) (hd : H[dst]? = some (arrV cD nD (fun j => .int (g j)))) (hda : s.isArrayOf (arrV cD nD (fun j => .int (g j))) .byte) (h1 : cnt ≤ nS) (h2 : cnt = nD) (h3 : nS ≤ 16) (hfit : ∀ j, j < cnt → fits .byte (.int (tf j)) = true) {ct : Int32} (hct : ct = Int32.ofNat cnt)
    (hframes : 1 ≤ R.frames) (hlocals : (rest.map fun v => v.category).sum + (nativeFrameWords "java/lang/System" "arraycopy" 5 + 11) ≤ R.locals) (hdg : decode cc pc = .ok (.invokestatic index, 3))
    (kk : ∀ (H1 : Heap) (locs1 : List Loc), H1[dst]? = some (arrV cD nD (fun j => .int (tf j))) → H1.size = H.size → (∀ q : Nat, q ≠ dst → H1[q]? = H[q]?) → (∀ q ∈ locs1, q ∈ locs ∨ q.base = dst) → W p l e R s m args below meth c H1 locs1 cells slots Q (F0 m (pc + 3) ls rest)) : W p l e R s m args below meth c H locs cells slots Q (F0 m pc ls (.int ct :: .int 0 :: .ref dst :: .int 0 :: .ref src :: rest)) := by
  subst hct
  have cc1 : (Int32.ofNat cnt).toNatClampNeg = cnt := nI_clamp (n := cnt) (by omega)
  have c0 : (0 : Int32).toNatClampNeg = 0 := by decide
  have nn : ∀ k : Fin 17, (Int32.ofNat k.val).toInt = (k.val : Int) ∧ ¬ Int32.ofNat k.val < 0 := by decide
  obtain ⟨nt1, nt2⟩ := nn ⟨cnt, by omega⟩
  have nt1 : (Int32.ofNat cnt).toInt = (cnt : Int) := nt1
  intro T hT X
  obtain ⟨hs6, k0, hk0, cm0, hkk0⟩ := hsa
  obtain ⟨-, k1, hk1, cm1, hkk1⟩ := hda
  obtain ⟨vm', X', step⟩ := X.arraycopy hx hown hlink hnat hstat hini (src := src) (dst := dst) (cs := arrV cS nS (fun j => .int (tf j))) (cd := arrV cD nD (fun j => .int (g j))) (srcPos := 0) (destPos := 0) (n := Int32.ofNat cnt) (by rw [hT]; exact hs) (by rw [hT]; exact hd)
    hs6 (fun _ h => by cases h) (fun h => by cases h) (fun h => by cases h) hk0 hk1 hkk0 hkk1 (by simp [refKind]) (by decide) (by decide) nt2
    (by rw [nt1, arrV_size]; show ¬ (0 : Int) + _ > _; omega)
    (by rw [nt1, arrV_size]; show ¬ (0 : Int) + _ > _; omega)
    (fun vm₁ _ j hj => by
      rw [cc1] at hj
      have e : (arrV cS nS (fun j => .int (tf j))).slots.getD ((0 : Int32).toNatClampNeg + j) .null = .int (tf j) := by
        rw [c0, Nat.zero_add, Array.getD_eq_getD_getElem?, arrV_read _ _ (by omega)]
        rfl
      refine ⟨?_, ?_⟩
      · rw [e]
        exact hfit j hj
      · rw [e]
        exact trivial)
    (g := F0 m pc ls (.int (Int32.ofNat cnt) :: .int 0 :: .ref dst :: .int 0 :: .ref src :: rest)) rfl (by rw [hml]) (rest := rest) rfl (by rw [hb]; exact hdg) hframes (by show 2 * 0 + _ + _ ≤ _; omega)
  have e1 : copied (arrV cS nS (fun j => .int (tf j))) (arrV cD nD (fun j => .int (g j))) 0 0 (Int32.ofNat cnt) = arrV cD nD (fun j => .int (tf j)) := by
    have h := va_copiedX (fun q => Value.int q) (arrV cS nS (fun j => .int (tf j))) cD (n1 := nD) (n0 := nS) (sp := 0) (dp := 0) (n := cnt) tf g (fun j hj => arrV_read _ _ hj) (by omega)
    unfold copied
    rw [cc1, c0]
    refine h.trans (arrV_congr _ _ fun j hj => ?_)
    show Value.int (va_cpy tf g 0 0 cnt j) = Value.int (tf j)
    unfold va_cpy
    simp
    intro hh
    omega
  rw [e1] at X' step
  have hl : dst < H.size := (Array.getElem?_eq_some_iff.mp hd).1
  have hheap : ((T.setVm vm').setCell dst (arrV cD nD (fun j => .int (tf j)))).heap = H.setIfInBounds dst (arrV cD nD (fun j => .int (tf j))) := by rw [← hT]; rfl
  obtain ⟨t, a1, b1⟩ := kk (H.setIfInBounds dst (arrV cD nD (fun j => .int (tf j)))) _ (by simp [Array.getElem?_setIfInBounds, hl]) (by simp) (fun q hq => by simp [Array.getElem?_setIfInBounds, Ne.symm hq]) (fun q hq => by
      rcases List.mem_append.mp hq with h | h
      · exact Or.inl h
      · obtain ⟨g2, -, hg⟩ := List.mem_map.mp h
        rw [← hg]
        exact Or.inr rfl) _ hheap X'
  exact ⟨t, step t a1, b1⟩
end SROWS
theorem b_ofQ {l : Launch} {y : MethodName} {cc : ByteArray} {maxL mc ms : Nat} {ret : Option FieldType} {rm : Room} {w : WD} {sz : Nat} {z : BX} {n : Nat} {f : Nat → Int32} {M : Mem} {av : List Value} {Qc : Nat → Array Value → State → Outcome → State → Prop} (hy : plainName y.cls = true) (ha : (lg_sl av).length ≤ maxL)
    (body : ∀ (p : Program) (e : Env) (s : State) (m : MethodId) (args : Array Value) (below : List Frame) (meth : Method) (c : Code), p.tables.exec = Jvm.exec → c.code = cc → meth.sig.returnType = ret → c.maxLocals = maxL → s.vm.findClass y.cls = some m.cls → meth.locks = false →
      bI w s s.heap [] z n f M → ∀ ls : Array Slot, lv_has ls maxL (lv_args 0 av) → W p l e rm s m args below meth c s.heap [] 0 0 (MQ below (Qc s.heap.size) args s mc ms (bA w s.heap.size z)) (F0 m 0 ls [])) : Met l y [Cond.code y cc maxL ret] rm (bPre w sz z n f M av) (Qc sz) mc ms (bA w sz z) := by
  refine Met.ofW (cc := cc) (maxL := maxL) (ret := ret) hy rfl ?_
  intro p e s m args below meth c s₁ B hml hv
  obtain ⟨rfl, rfl, hlt, ⟨hP, hJ, hK, hT, hSt⟩, hF⟩ := hv
  rw [lg_entry_eq]
  exact body p e s m _ below meth c B.exec B.bytes B.returns hml (findClass_of_methodNamed B.named) B.notSynchronized ⟨⟨hP, hJ, hK, hT, hSt, va_S.rf, fun q hq => Or.inl (Or.inr hq), fun g i hg => Or.inl (Or.inl ⟨g, i, hg, rfl⟩)⟩, hF, hlt⟩ _ (lv_entry av ha)
set_option maxRecDepth 100000 in
theorem c_getValue (l : Launch) (w : WD) (sz : Nat) (z : BX) (n : Nat) (f : Nat → Int32) (M : Mem) : bMet l yJ5_getValue_6d5f1 cJ5_getValue_6d5f1 1 (some (.array .byte)) rmJ1 w sz z n f M [.ref z.2.1] (some (.ref z.2.2.1)) n f := by
  refine b_of (by decide) (Nat.le_of_ble_eq_true rfl) ?_
  intro p e s m args below meth c hx hb hr hml hown hlk hI ls hl
  have hl : lv_has ls 1 [(0, .ref z.2.1)] := hl
  refine lv_aload_n hx hb dJ5_getValue_6d5f1_0 rfl (lv_at hl 0 rfl) ?_
  refine b_get hx hb hown hI 0 (by decide) (q985 hI.T) rfl rfl dJ5_getValue_6d5f1_1 ?_
  exact b_aret hx hb hr (Or.inr ⟨_, rfl⟩) hlk hI dJ5_getValue_6d5f1_4
set_option maxRecDepth 100000 in
theorem c_asbLen (l : Launch) (w : WD) (sz : Nat) (z : BX) (n : Nat) (f : Nat → Int32) (M : Mem) : bMet l yJ5_length_8abf5 cJ5_length_8abf5 1 (some .int) rmJ1 w sz z n f M [.ref z.2.1] (some (.int (Int32.ofNat n))) n f := by
  refine b_of (by decide) (Nat.le_of_ble_eq_true rfl) ?_
  intro p e s m args below meth c hx hb hr hml hown hlk hI ls hl
  have hl : lv_has ls 1 [(0, .ref z.2.1)] := hl
  refine lv_aload_n hx hb dJ5_length_8abf5_0 rfl (lv_at hl 0 rfl) ?_
  refine b_get hx hb hown hI 3 (by decide) (q988 hI.T) rfl rfl dJ5_length_8abf5_1 ?_
  exact b_iret hx hb hr hlk hI dJ5_length_8abf5_4
set_option maxRecDepth 100000 in
theorem c_sbLen (l : Launch) (w : WD) (sz : Nat) (z : BX) (n : Nat) (f : Nat → Int32) (M : Mem) : bMet l yJ4_length_8abf5 cJ4_length_8abf5 1 (some .int) rmJ2 w sz z n f M [.ref z.2.1] (some (.int (Int32.ofNat n))) n f := by
  refine b_of (by decide) (Nat.le_of_ble_eq_true rfl) ?_
  intro p e s m args below meth c hx hb hr hml hown hlk hI ls hl
  have hl : lv_has ls 1 [(0, .ref z.2.1)] := hl
  refine lv_aload_n hx hb dJ4_length_8abf5_0 rfl (lv_at hl 0 rfl) ?_
  refine b_callSU (As := []) (rest := []) hx hb hml hown hI (c_asbLen l w s.heap.size z n f M) ⟨⟨rfl, rfl, Nat.le_of_ble_eq_true rfl, Nat.le_of_ble_eq_true rfl, fun w hw a' U hW => ?_, List.mem_cons_self⟩, q1165 hI.T, q1161 hI.T, q997 hI.T, q1160 hI.T, q22 hI.T, q1166 hI.T, by decide, fun sig h => ?_⟩ rfl hl.1 (Nat.le_of_ble_eq_true rfl) dJ4_length_8abf5_1 ⟨Nat.le_of_ble_eq_true rfl, Nat.le_of_ble_eq_true rfl⟩ (fun H locs hI => ?_)
  · obtain rfl := List.mem_singleton.mp hw
    exact word_at hW (good_of_word rfl) (hI.T _ kc_J5_length_8abf5 rfl args)
  · have h2 : (parseMethodDescriptor yJ5_length_8abf5.desc).map (fun d => d.parameters.length) = some 0 := by decide +kernel
    rw [h] at h2
    exact (Option.some.inj h2).symm
  exact b_iret hx hb hr hlk hI dJ4_length_8abf5_4
set_option maxRecDepth 100000 in
theorem c_chkLen (l : Launch) (w : WD) (sz : Nat) (n : Nat) (hn : n ≤ 16) (M : Mem) : mMet l yJ7_checkLength_df160 cJ7_checkLength_df160 2 none rmJ1 w sz M [.int 0, .int (Int32.ofNat n)] none M := by
  refine m_of (by decide) (Nat.le_of_ble_eq_true rfl) ?_
  intro p e s m args below meth c hx hb hr hml hown hlk hI ls hl
  have hl : lv_has ls 2 [(0, .int 0), (1, .int (Int32.ofNat n))] := hl
  have h9 : ∀ n : Fin 17, 0 ≤ Int32.ofNat n.val := by decide
  refine lv_iload_n hx hb dJ7_checkLength_df160_0 rfl (lv_at hl 1 rfl) ?_
  refine lv_iload_n hx hb dJ7_checkLength_df160_1 rfl (lv_at hl 0 rfl) ?_
  refine lv_icmp_ge (tgt := 37) hx hb dJ7_checkLength_df160_2 (by decide) (fun _ => ?_) (fun c => absurd (h9 ⟨n, by omega⟩) c)
  exact m_vretp (r := ()) hx hb hr hlk hI rfl dJ7_checkLength_df160_37
/-- a new array of the builder's letters -/
def crQ (w : WD) (z : BX) (n : Nat) (f : Nat → Int32) (M : Mem) (sz : Nat) : Array Value → State → Outcome → State → Prop := fun _ st oc t =>
  ∃ (v : Nat) (cA : ClassId), oc = .returned (some (.ref v)) ∧ sz ≤ v ∧ mP w M t.heap ∧ va_P z.1 bCl (bW z n f) t.heap ∧ t.heap[v]? = some (arrV cA n (fun j => .int (f j))) ∧ ArrOfT t cA .byte ∧ va_F (bA w sz z) st t
abbrev rmC1 : Room := { frames := 2, cells := 1, slots := 16, locals := 80 }
abbrev rmC2 : Room := { frames := 3, cells := 1, slots := 16, locals := 120 }
set_option maxRecDepth 100000 in
theorem c_cor (l : Launch) (w : WD) (sz : Nat) (z : BX) (n : Nat) (f : Nat → Int32) (M : Mem) (hn : n ≤ 15) (hfit : ∀ j, j < n → fits .byte (.int (f j)) = true) : Met l yJ7_copyOfRangeByte_39247 [Cond.code yJ7_copyOfRangeByte_39247 cJ7_copyOfRangeByte_39247 5 (some (.array .byte))] rmC1 (bPre w sz z n f M [.ref z.2.2.1, .int 0, .int (Int32.ofNat n)]) (crQ w z n f M sz) 1 16 (bA w sz z) := by
  refine b_ofQ (Qc := crQ w z n f M) (by decide) (Nat.le_of_ble_eq_true rfl) ?_
  intro p e s m args below meth c hx hb hr hml hown hlk hI ls hl
  have hl : lv_has ls 5 [(0, .ref z.2.2.1), (1, .int 0), (2, .int (Int32.ofNat n))] := hl
  have h9 : ∀ n : Fin 16, Int32.ofNat n.val - 0 = Int32.ofNat n.val ∧ ¬ Int32.ofNat n.val < 0 ∧ (Int32.ofNat n.val).toNatClampNeg = n.val ∧ (if Int32.ofNat n.val < Int32.ofNat 16 - 0 then Int32.ofNat n.val else Int32.ofNat 16 - 0) = Int32.ofNat n.val := by decide
  obtain ⟨g1, g2, g3, g4⟩ := h9 ⟨n, by omega⟩
  have g1 : Int32.ofNat n - 0 = Int32.ofNat n := g1
  have g2 : ¬ Int32.ofNat n < 0 := g2
  have g3 : (Int32.ofNat n).toNatClampNeg = n := g3
  have g4 : (if Int32.ofNat n < Int32.ofNat 16 - 0 then Int32.ofNat n else Int32.ofNat 16 - 0) = Int32.ofNat n := g4
  refine lv_iload_n hx hb dJ7_copyOfRangeByte_39247_0 rfl (lv_at hl 1 rfl) ?_
  refine lv_iload_n hx hb dJ7_copyOfRangeByte_39247_1 rfl (lv_at hl 2 rfl) ?_
  refine b_callSm (As := [.int 0, .int (Int32.ofNat n)]) (rest := []) hx hb hml hown hI (c_chkLen l w s.heap.size n (by omega) M) (m_callB (n := 2) hI.T kc_J7_checkLength_df160 ki_J7_checkLength_df160 (q1174 hI.T) (by decide +kernel) ⟨rfl, rfl, Nat.le_of_ble_eq_true rfl, Nat.le_of_ble_eq_true rfl⟩) (q1175 hI.T) rfl hl.1 (Nat.le_of_ble_eq_true rfl) dJ7_copyOfRangeByte_39247_2 ⟨Nat.le_of_ble_eq_true rfl, Nat.le_of_ble_eq_true rfl⟩ (fun H locs hI => ?_)
  refine lv_iload_n hx hb dJ7_copyOfRangeByte_39247_5 rfl (lv_at hl 2 rfl) ?_
  refine lv_iload_n hx hb dJ7_copyOfRangeByte_39247_6 rfl (lv_at hl 1 rfl) ?_
  refine lv_isub hx hb dJ7_copyOfRangeByte_39247_7 ?_
  rw [g1]
  refine lv_istore_n (lv' := [(3, .int (Int32.ofNat n)), (0, .ref z.2.2.1), (1, .int 0), (2, .int (Int32.ofNat n))]) hx hb dJ7_copyOfRangeByte_39247_8 rfl hl (by decide) rfl (fun ls hl => ?_)
  refine lv_iload_n hx hb dJ7_copyOfRangeByte_39247_9 rfl (lv_at hl 0 rfl) ?_
  refine va_newaK (atype := .byte) hx hb (q461 hI.T) rfl dJ7_copyOfRangeByte_39247_10 rfl g2 (N := n) g3 (by show n * 1 ≤ 536870912; omega) (Nat.le_of_ble_eq_true rfl) (by show 0 + n ≤ 16; omega) rfl fun H1 cA e1 z1 o1 hAr hNm => ?_
  have hsz := hI.1.S.1
  have hlt : ∀ (k : Nat) q, (mW w M)[k]? = some q → q.1 < H.size := fun k q hk => (hI.1.P k q hk).lt
  have hI1 : bI w s H1 locs z n f M := ⟨hI.1.next (hI.1.P.kept fun k q hk => o1 q.1 (hlt k q hk)) ⟨by omega, fun q h1 h2 => (o1 q (by omega)).trans (hI.1.S.2.1 q h1 h2), hI.1.S.2.2⟩, ⟨bW_P hI.P (o1 _ (by have := hI.2.2.1; omega)) (o1 _ (by have := hI.2.2.2; omega)), hI.2.1.2⟩, hI.2.2⟩
  have hnz : H.size ≠ z.2.2.1 := fun h => by have := hI.2.2.2; omega
  refine W.eq (g2 := F0 m 12 ls [.ref H.size]) rfl ?_
  refine lv_astore (lv' := [(4, .ref H.size), (3, .int (Int32.ofNat n)), (0, .ref z.2.2.1), (1, .int 0), (2, .int (Int32.ofNat n))]) hx hb dJ7_copyOfRangeByte_39247_12 hl (by decide) rfl (fun ls hl => ?_)
  refine lv_aload_n hx hb dJ7_copyOfRangeByte_39247_14 rfl (lv_at hl 2 rfl) ?_
  refine lv_iload_n hx hb dJ7_copyOfRangeByte_39247_15 rfl (lv_at hl 3 rfl) ?_
  refine lv_aload hx hb dJ7_copyOfRangeByte_39247_16 (lv_at hl 0 rfl) ?_
  refine lv_iconst (v := 0) hx hb dJ7_copyOfRangeByte_39247_18 (by decide) ?_
  refine lv_aload_n hx hb dJ7_copyOfRangeByte_39247_19 rfl (lv_at hl 2 rfl) ?_
  refine va_alen (ty := .byte) hx hb hI1.K hI1.P 1 0 rfl rfl rfl dJ7_copyOfRangeByte_39247_20 ?_
  refine lv_iload_n hx hb dJ7_copyOfRangeByte_39247_21 rfl (lv_at hl 3 rfl) ?_
  refine lv_isub hx hb dJ7_copyOfRangeByte_39247_22 ?_
  refine lv_iload_n hx hb dJ7_copyOfRangeByte_39247_23 rfl (lv_at hl 1 rfl) ?_
  refine va_mmin hx hb (hml.trans hl.1.symm) hown (q1039 hI1.T) (q792 hI1.T) (q21 hI1.T) (q793 hI1.T) (Nat.le_of_ble_eq_true rfl) (Nat.le_of_ble_eq_true rfl) (Nat.le_of_ble_eq_true rfl) (by show 0 + n ≤ 16; omega) dJ7_copyOfRangeByte_39247_24 ?_
  have hda : H1[z.2.2.1]? = some (arrV z.2.2.2 16 (fun j => .int (f j))) := by
    have h : H1[z.2.2.1]? = some (vp_cell z.2.2.2 (16, .inl f)) := hI1.P 1 _ rfl
    rw [vp_cell_i] at h
    exact h
  have hnew : H1[H.size]? = some (arrV cA n (fun _ => .int 0)) := e1
  refine w_copy hx hb (hml.trans hl.1.symm) hown (q1040 hI1.T) (q620 hI1.T) (q619 hI1.T) (q19 hI1.T) (cnt := n) (g := fun _ => 0) hda ((hI1.K.2 0 _ rfl).1 16 _) hnew (hAr n _) (by omega) rfl (by decide) hfit g4 (Nat.le_of_ble_eq_true rfl) (by decide) dJ7_copyOfRangeByte_39247_27 (fun H2 locs2 d2 z2 o2 l2 => ?_)
  have hlt1 : ∀ (k : Nat) q, (mW w M)[k]? = some q → q.1 ≠ H.size := fun k q hk h => by have := hlt k q hk; omega
  have hP2 : mP w M H2 := hI1.1.P.kept fun k q hk => o2 q.1 (hlt1 k q hk)
  have hB2 : va_P z.1 bCl (bW z n f) H2 := bW_P hI1.P (o2 _ (fun h => by have := hI.2.2.1; omega)) (o2 _ hnz.symm)
  refine lv_aload hx hb dJ7_copyOfRangeByte_39247_30 (lv_at hl 0 rfl) ?_
  refine W.widen (k := 1) (n := 16) (Nat.le_of_ble_eq_true rfl) (by show 0 + n ≤ 16; omega) ?_
  refine W.aret hx hb hr (Or.inr ⟨_, rfl⟩) (Or.inr ⟨_, rfl⟩) (fun t ht hW => ⟨H.size, cA, rfl, hsz, by rw [ht]; exact hP2, by rw [ht]; exact hB2, by rw [ht]; exact d2, arrOfT_moved hW.alike hAr, ⟨by rw [ht]; omega, fun q h1 h2 => by rw [ht, o2 q (fun h => by omega)]; exact hI1.1.S.2.1 q h1 h2⟩⟩) (fun q hq => ?_) dJ7_copyOfRangeByte_39247_32 hlk
  rcases l2 q hq with h | h
  · exact hI1.1.S.2.2 q h
  · rw [h]; exact Or.inl (Or.inr hsz)
set_option maxRecDepth 100000 in
theorem c_corr (l : Launch) (w : WD) (sz : Nat) (z : BX) (n : Nat) (f : Nat → Int32) (M : Mem) (hn : n ≤ 15) (hfit : ∀ j, j < n → fits .byte (.int (f j)) = true) : Met l yJ7_copyOfRange_39247 [Cond.code yJ7_copyOfRange_39247 cJ7_copyOfRange_39247 3 (some (.array .byte))] rmC2 (bPre w sz z n f M [.ref z.2.2.1, .int 0, .int (Int32.ofNat n)]) (crQ w z n f M sz) 1 16 (bA w sz z) := by
  refine b_ofQ (Qc := crQ w z n f M) (by decide) (Nat.le_of_ble_eq_true rfl) ?_
  intro p e s m args below meth c hx hb hr hml hown hlk hI ls hl
  have hl : lv_has ls 3 [(0, .ref z.2.2.1), (1, .int 0), (2, .int (Int32.ofNat n))] := hl
  have h9 : ∀ n : Fin 16, ¬ Int32.ofNat n.val = Int32.ofNat 16 := by decide
  refine lv_iload_n hx hb dJ7_copyOfRange_39247_0 rfl (lv_at hl 1 rfl) ?_
  refine lv_if_ne (tgt := 10) hx hb dJ7_copyOfRange_39247_1 (by decide) (fun c => absurd rfl c) (fun _ => ?_)
  refine lv_iload_n hx hb dJ7_copyOfRange_39247_4 rfl (lv_at hl 2 rfl) ?_
  refine lv_aload_n hx hb dJ7_copyOfRange_39247_5 rfl (lv_at hl 0 rfl) ?_
  refine va_alen (ty := .byte) hx hb hI.K hI.P 1 0 rfl rfl rfl dJ7_copyOfRange_39247_6 ?_
  refine lv_icmp_eq (tgt := 17) hx hb dJ7_copyOfRange_39247_7 (by decide) (fun c => absurd c (h9 ⟨n, by omega⟩)) (fun _ => ?_)
  refine lv_aload_n hx hb dJ7_copyOfRange_39247_10 rfl (lv_at hl 0 rfl) ?_
  refine lv_iload_n hx hb dJ7_copyOfRange_39247_11 rfl (lv_at hl 1 rfl) ?_
  refine lv_iload_n hx hb dJ7_copyOfRange_39247_12 rfl (lv_at hl 2 rfl) ?_
  have hrun := va_runS (p := p) (l := l) (e := e) (s := s) (m := m) (args := args) (c := c) (R := rmC2) (below := below) (meth := meth) (locs := []) (cells := 0) (slots := 0) (g := F0 m 13 ls [.int (Int32.ofNat n), .int 0, .ref z.2.2.1]) (Ts := []) (As := [.ref z.2.2.1, .int 0, .int (Int32.ofNat n)]) (rest := []) ⟨hx, hb, hml, hown, fun _ h => nomatch h⟩ (c_cor l w s.heap.size z n f M hn hfit) ⟨m_callB (n := 3) hI.T kc_J7_copyOfRangeByte_39247 ki_J7_copyOfRangeByte_39247 (q1171 hI.T) (by decide +kernel) ⟨rfl, rfl, Nat.le_of_ble_eq_true rfl, Nat.le_of_ble_eq_true rfl⟩, q1172 hI.T⟩ ⟨bPre.blind, fun U hU hW => ⟨rfl, hI.pre hU hW⟩⟩ rfl rfl hl.1 rfl (Nat.le_of_ble_eq_true rfl) dJ7_copyOfRange_39247_13 ⟨Nat.le_of_ble_eq_true rfl, Nat.le_of_ble_eq_true rfl⟩
  intro T hT X
  obtain ⟨v1, st₀, t, T', Ls, h0, X', hL, e1, e2, ⟨v, cA, hv, hsz, hP1, hB1, hA1, hAr, hz, hk⟩, st⟩ := hrun T hT X
  cases hv
  rw [h0] at hz hk
  have hAs : ArrOfT s cA .byte := arrOfT_moved (u := t) (E := s) (by rw [← e2]; exact X'.warmed.alike.symm) hAr
  have key : W p l e rmC2 s m args below meth c T'.heap ([] ++ Ls) (0 + 1) (0 + 16) (MQ below (crQ w z n f M s.heap.size) args s 1 16 (bA w s.heap.size z)) (F0 m 16 ls [.ref v]) :=
    W.aret hx hb hr (Or.inr ⟨_, rfl⟩) (Or.inr ⟨_, rfl⟩) (fun t2 ht hW => ⟨v, cA, rfl, hsz, by rw [ht, e1]; exact hP1, by rw [ht, e1]; exact hB1, by rw [ht, e1]; exact hA1, arrOfT_moved hW.alike hAs, ⟨by rw [ht, e1]; exact hz, fun q g1 g2 => by rw [ht, e1]; exact hk q g1 g2⟩⟩) (fun q hq => hL q hq) dJ7_copyOfRange_39247_16 hlk
  obtain ⟨t2, a1, b1⟩ := key T' rfl X'
  exact ⟨t2, st t2 a1, b1⟩
