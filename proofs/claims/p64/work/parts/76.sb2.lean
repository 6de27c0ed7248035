/-! STRINGBUILDER.append(String) -/
section BROWS3
variable {p : Program} {l : Launch} {e : Env} {R : Room} {s : State} {m : MethodId} {args : Array Value} {below : List Frame} {meth : Method} {c : Code} {H : Heap} {locs : List Loc} {cells slots : Nat} {Q : State → Prop}
variable {cc : ByteArray} {pc : Nat} {ls : Array Slot} {rest : List Value} {w : WD} {M : Mem} {z : BX} {n n1 : Nat} {f f1 : Nat → Int32}
/-- a text's bytes are copied into the builder's -/
theorem b_copy (hx : p.tables.exec = Jvm.exec) (hb : c.code = cc) (hml : c.maxLocals = ls.size) {own : String} {index : Nat} (hown : s.vm.findClass own = some m.cls) (hlink : (Cond.methodLink own index arraycopyName).before args s = true) (hnat : (Cond.native arraycopyName).before args s = true) (hstat : (Cond.static arraycopyName).before args s = true) (hini : (Cond.initialized "java/lang/System").before args s = true)
    (hI : bI w s H locs z n f M) {tv tn i : Nat} {tf : Nat → Int32} (hX : va_T .byte tv tn (fun j => .int (tf j)) (bA w s.heap.size z) s s.heap) (hin : i + tn ≤ 16) (hfit : ∀ j, j < tn → fits .byte (.int (tf j)) = true) (hf1 : ∀ k, k < 16 → f1 k = if i ≤ k ∧ k < i + tn then tf (k - i) else f k) {dp : Int32} (hdp : dp = Int32.ofNat i)
    (hframes : 1 ≤ R.frames) (hlocals : (rest.map fun v => v.category).sum + (nativeFrameWords "java/lang/System" "arraycopy" 5 + 11) ≤ R.locals) (hdg : decode cc pc = .ok (.invokestatic index, 3))
    (kk : ∀ (H1 : Heap) (locs1 : List Loc), bI w s H1 locs1 z n f1 M → W p l e R s m args below meth c H1 locs1 cells slots Q (F0 m (pc + 3) ls rest)) : W p l e R s m args below meth c H locs cells slots Q (F0 m pc ls (.int (Int32.ofNat tn) :: .int dp :: .ref z.2.2.1 :: .int 0 :: .ref tv :: rest)) := by
  subst hdp
  have ci : (Int32.ofNat i).toNatClampNeg = i := nI_clamp (n := i) (by omega)
  have ct : (Int32.ofNat tn).toNatClampNeg = tn := nI_clamp (n := tn) (by omega)
  have c0 : (0 : Int32).toNatClampNeg = 0 := by decide
  have nn : ∀ k : Fin 17, (Int32.ofNat k.val).toInt = (k.val : Int) ∧ ¬ Int32.ofNat k.val < 0 := by decide
  obtain ⟨ni1, ni2⟩ := nn ⟨i, by omega⟩
  obtain ⟨nt1, nt2⟩ := nn ⟨tn, by omega⟩
  have ni1 : (Int32.ofNat i).toInt = (i : Int) := ni1
  have nt1 : (Int32.ofNat tn).toInt = (tn : Int) := nt1
  intro T hT X
  obtain ⟨scr, hs1, hs2, hs3, hs4, -, hs5, hbA⟩ := hX
  have hS := hI.1.S
  have hc0 : H[tv]? = some scr := by rw [hS.2.1 tv (Array.getElem?_eq_some_iff.mp hs1).1 hbA]; exact hs1
  have hc1 : H[z.2.2.1]? = some (arrV z.2.2.2 16 (fun j => .int (f j))) := by
    have h : H[z.2.2.1]? = some (vp_cell z.2.2.2 (16, .inl f)) := hI.P 1 _ rfl
    rw [vp_cell_i] at h
    exact h
  obtain ⟨hs6, k0, hk0, cm0, hkk0⟩ := hs2
  obtain ⟨-, k1, hk1, cm1, hkk1⟩ := (hI.K.2 0 _ rfl).1 16 (fun j => .int (f j))
  obtain ⟨vm', X', step⟩ := X.arraycopy hx hown hlink hnat hstat hini (src := tv) (dst := z.2.2.1) (cs := scr) (cd := arrV z.2.2.2 16 (fun j => .int (f j))) (srcPos := 0) (destPos := Int32.ofNat i) (n := Int32.ofNat tn) (by rw [hT]; exact hc0) (by rw [hT]; exact hc1)
    hs6 (fun _ h => by cases h) hs3 (fun h => by cases h) hk0 hk1 hkk0 hkk1 (by simp [refKind]) (by decide) ni2 nt2
    (by rw [nt1]; show ¬ (0 : Int) + _ > _; omega)
    (by rw [ni1, nt1]; show ¬ _ > ((arrV z.2.2.2 16 (fun j => .int (f j))).slots.size : Int); rw [arrV_size]; omega)
    (fun vm₁ _ j hj => by
      rw [ct] at hj
      have e : scr.slots.getD ((0 : Int32).toNatClampNeg + j) .null = .int (tf j) := by
        rw [c0, Nat.zero_add, Array.getD_eq_getD_getElem?, hs5 _ hj]
        rfl
      refine ⟨?_, ?_⟩
      · rw [e]
        exact hfit j hj
      · rw [e]
        exact trivial)
    (g := F0 m pc ls (.int (Int32.ofNat tn) :: .int (Int32.ofNat i) :: .ref z.2.2.1 :: .int 0 :: .ref tv :: rest)) rfl (by rw [hml]) (rest := rest) rfl (by rw [hb]; exact hdg) hframes (by show 2 * 0 + _ + _ ≤ _; omega)
  have e1 : copied scr (arrV z.2.2.2 16 (fun j => .int (f j))) 0 (Int32.ofNat i) (Int32.ofNat tn) = arrV z.2.2.2 16 (fun j => .int (f1 j)) := by
    have h := va_copiedX (fun q => Value.int q) scr z.2.2.2 (n1 := 16) (n0 := tn) (sp := 0) (dp := i) (n := tn) tf f hs5 (by omega)
    unfold copied
    rw [ci, ct, c0]
    refine h.trans (arrV_congr _ _ fun j hj => ?_)
    show Value.int (va_cpy tf f 0 i tn j) = Value.int (f1 j)
    rw [hf1 j hj]
    unfold va_cpy
    simp
  rw [e1] at X' step
  have hl : z.2.2.1 < H.size := (Array.getElem?_eq_some_iff.mp hc1).1
  have hheap : ((T.setVm vm').setCell z.2.2.1 (arrV z.2.2.2 16 (fun j => .int (f1 j)))).heap = H.setIfInBounds z.2.2.1 (arrV z.2.2.2 16 (fun j => .int (f1 j))) := by rw [← hT]; rfl
  have oq : ∀ q : Nat, q ≠ z.2.2.1 → (H.setIfInBounds z.2.2.1 (arrV z.2.2.2 16 (fun j => .int (f1 j))))[q]? = H[q]? := fun q hq => by simp [Array.getElem?_setIfInBounds, Ne.symm hq]
  have hat : (H.setIfInBounds z.2.2.1 (arrV z.2.2.2 16 (fun j => .int (f1 j))))[z.2.2.1]? = some (arrV z.2.2.2 16 (fun j => .int (f1 j))) := by simp [Array.getElem?_setIfInBounds, hl]
  have hP1 : va_P z.1 bCl (bW z n f1) (H.setIfInBounds z.2.2.1 (arrV z.2.2.2 16 (fun j => .int (f1 j)))) := fun k g hk => by
    rcases k with _ | _ | k
    · cases hk
      exact va_at.kept (hI.P 0 _ rfl) (oq _ hI.2.1.2.2.1)
    · cases hk
      show (H.setIfInBounds z.2.2.1 _)[z.2.2.1]? = some (vp_cell _ _)
      rw [vp_cell_i]
      exact hat
    · cases hk
  have hI1 := hI.w1 (k := 0) (n1 := n) (f1 := f1) (Or.inr rfl) (by simp) oq hP1
  obtain ⟨t, a1, b1⟩ := kk _ _ ⟨hI1.1.next hI1.1.P ⟨hI1.1.S.1, hI1.1.S.2.1, fun q hq => by
      rcases List.mem_append.mp hq with h | h
      · exact hS.2.2 q h
      · obtain ⟨g, -, hg⟩ := List.mem_map.mp h
        rw [← hg]
        exact Or.inr (Or.inr rfl)⟩, hI1.2⟩ _ hheap X'
  exact ⟨t, step t a1, b1⟩
end BROWS3
/-- what an append of a text leaves -/
def bCat (f : Nat → Int32) (i tn : Nat) (tf : Nat → Int32) : Nat → Int32 := fun k => if i ≤ k ∧ k < i + tn then tf (k - i) else f k
set_option maxRecDepth 100000 in
theorem c_getBytes (l : Launch) (w : WD) (sz : Nat) (z : BX) (n : Nat) (f : Nat → Int32) (M : Mem) (ta tv tn : Nat) (tf : Nat → Int32) (hK : kSx w ta tv tn tf) (i : Nat) (hin : i + tn ≤ 16) (hfit : ∀ j, j < tn → fits .byte (.int (tf j)) = true) : bMet l yJ0_getBytes_840e7 cJ0_getBytes_840e7 4 none rmJ2 w sz z n f M [.ref ta, .ref z.2.2.1, .int (Int32.ofNat i), .int 0] none n (bCat f i tn tf) := by
  refine b_of (by decide) (Nat.le_of_ble_eq_true rfl) ?_
  intro p e s m args below meth c hx hb hr hml hown hlk hI ls hl
  have hl : lv_has ls 4 [(0, .ref ta), (1, .ref z.2.2.1), (2, .int (Int32.ofNat i)), (3, .int 0)] := hl
  refine lv_aload_n hx hb dJ0_getBytes_840e7_0 rfl (lv_at hl 0 rfl) ?_
  refine b_callVm (As := []) (rest := []) hx hb hml hown hI (c_coder l w s.heap.size ta tv tn tf hK M) (m_callB hI.T kc_J0_coder_7d493 ki_J0_coder_7d493 (q1076 hI.T) (by decide +kernel) ⟨rfl, rfl, Nat.le_of_ble_eq_true rfl, Nat.le_of_ble_eq_true rfl⟩) (q1077 hI.T) (q1078 hI.T) ((hK.1 _ _ _ hI.1.St).1.elim fun cell h => ⟨cell, h.1, h.2.1, h.2.2.1⟩) rfl hl.1 (Nat.le_of_ble_eq_true rfl) dJ0_getBytes_840e7_1 ⟨Nat.le_of_ble_eq_true rfl, Nat.le_of_ble_eq_true rfl⟩ (fun H locs hI => ?_)
  refine lv_iload_n hx hb dJ0_getBytes_840e7_4 rfl (lv_at hl 3 rfl) ?_
  refine lv_icmp_ne (tgt := 28) hx hb dJ0_getBytes_840e7_5 (by decide) (fun c => absurd rfl c) (fun _ => ?_)
  refine lv_aload_n hx hb dJ0_getBytes_840e7_8 rfl (lv_at hl 0 rfl) ?_
  refine vk_getf hx hb (hK.1 _ _ _ hI.1.St).2.2.1 hI.1.S hown (q1198 hI.T) (fun _ h => h) dJ0_getBytes_840e7_9 ?_
  refine lv_iconst (v := 0) hx hb dJ0_getBytes_840e7_12 (by decide) ?_
  refine lv_aload_n hx hb dJ0_getBytes_840e7_13 rfl (lv_at hl 1 rfl) ?_
  refine lv_iload_n hx hb dJ0_getBytes_840e7_14 rfl (lv_at hl 2 rfl) ?_
  refine lv_iload_n hx hb dJ0_getBytes_840e7_15 rfl (lv_at hl 3 rfl) ?_
  refine lv_ishl hx hb dJ0_getBytes_840e7_16 ?_
  refine lv_aload_n hx hb dJ0_getBytes_840e7_17 rfl (lv_at hl 0 rfl) ?_
  refine vk_getf hx hb (hK.1 _ _ _ hI.1.St).2.2.1 hI.1.S hown (q1198 hI.T) (fun _ h => h) dJ0_getBytes_840e7_18 ?_
  refine va_tlen hx hb (hK.1 _ _ _ hI.1.St).2.2.2 hI.1.S rfl dJ0_getBytes_840e7_21 ?_
  refine b_copy hx hb (hml.trans hl.1.symm) hown (q1113 hI.T) (q620 hI.T) (q619 hI.T) (q19 hI.T) hI (hK.1 _ _ _ hI.1.St).2.2.2 hin hfit (fun k _ => rfl) (sb_shl0 _) (Nat.le_of_ble_eq_true rfl) (by decide) dJ0_getBytes_840e7_22 (fun H locs hI => ?_)
  refine lv_goto (tgt := 43) hx hb dJ0_getBytes_840e7_25 (by decide) ?_
  exact b_vret hx hb hr hlk hI dJ0_getBytes_840e7_43
set_option maxRecDepth 100000 in
theorem c_putStr (l : Launch) (w : WD) (sz : Nat) (z : BX) (n : Nat) (f : Nat → Int32) (M : Mem) (ta tv tn : Nat) (tf : Nat → Int32) (hK : kSx w ta tv tn tf) (i : Nat) (hin : i + tn ≤ 16) (hfit : ∀ j, j < tn → fits .byte (.int (tf j)) = true) : bMet l yJ5_putStringAt_47b60 cJ5_putStringAt_47b60 3 none rmJ3 w sz z n f M [.ref z.2.1, .int (Int32.ofNat i), .ref ta] none n (bCat f i tn tf) := by
  refine b_of (by decide) (Nat.le_of_ble_eq_true rfl) ?_
  intro p e s m args below meth c hx hb hr hml hown hlk hI ls hl
  have hl : lv_has ls 3 [(0, .ref z.2.1), (1, .int (Int32.ofNat i)), (2, .ref ta)] := hl
  refine lv_aload_n hx hb dJ5_putStringAt_47b60_0 rfl (lv_at hl 0 rfl) ?_
  refine lv_aload_n hx hb dJ5_putStringAt_47b60_1 rfl (lv_at hl 2 rfl) ?_
  refine b_callV (As := [.ref ta]) (rest := []) hx hb hml hown hI (c_inflate l w s.heap.size z n f M ta tv tn tf hK) (m_callB (n := 1) hI.T kc_J5_inflateIfNeededFor_a7421 ki_J5_inflateIfNeededFor_a7421 (q1085 hI.T) (by decide +kernel) ⟨rfl, rfl, Nat.le_of_ble_eq_true rfl, Nat.le_of_ble_eq_true rfl⟩) (q1087 hI.T) (sel_priv hI.at.1 (q1617 hI.T) (q1086 hI.T) (q1087 hI.T)) rfl hl.1 (Nat.le_of_ble_eq_true rfl) dJ5_putStringAt_47b60_2 ⟨Nat.le_of_ble_eq_true rfl, Nat.le_of_ble_eq_true rfl⟩ (fun H locs hI => ?_)
  refine lv_aload_n hx hb dJ5_putStringAt_47b60_5 rfl (lv_at hl 2 rfl) ?_
  refine lv_aload_n hx hb dJ5_putStringAt_47b60_6 rfl (lv_at hl 0 rfl) ?_
  refine b_get hx hb hown hI 0 (by decide) (q985 hI.T) rfl rfl dJ5_putStringAt_47b60_7 ?_
  refine lv_iload_n hx hb dJ5_putStringAt_47b60_10 rfl (lv_at hl 1 rfl) ?_
  refine lv_aload_n hx hb dJ5_putStringAt_47b60_11 rfl (lv_at hl 0 rfl) ?_
  refine b_get hx hb hown hI 1 (by decide) (q986 hI.T) rfl rfl dJ5_putStringAt_47b60_12 ?_
  refine b_callVs (As := [.ref z.2.2.1, .int (Int32.ofNat i), .int 0]) (rest := []) hx hb hml hown hI (c_getBytes l w H.size z n f M ta tv tn tf hK i hin hfit) (m_callB (n := 3) hI.T kc_J0_getBytes_840e7 ki_J0_getBytes_840e7 (q1109 hI.T) (by decide +kernel) ⟨rfl, rfl, Nat.le_of_ble_eq_true rfl, Nat.le_of_ble_eq_true rfl⟩) (q1110 hI.T) (q1111 hI.T) ((va_O.kept (hK.1 _ _ _ hI.1.St).1 hI.1.S.2.1).elim fun cell h => ⟨cell, h.1, h.2.1, h.2.2.1⟩) rfl hl.1 (Nat.le_of_ble_eq_true rfl) dJ5_putStringAt_47b60_15 ⟨Nat.le_of_ble_eq_true rfl, Nat.le_of_ble_eq_true rfl⟩ (fun H locs hI => ?_)
  exact b_vret hx hb hr hlk hI dJ5_putStringAt_47b60_18
set_option maxRecDepth 100000 in
theorem c_asbAppS (l : Launch) (w : WD) (sz : Nat) (z : BX) (n : Nat) (f : Nat → Int32) (M : Mem) (ta tv tn : Nat) (tf : Nat → Int32) (hK : kSx w ta tv tn tf) (hin : n + tn ≤ 16) (hfit : ∀ j, j < tn → fits .byte (.int (tf j)) = true) : bMet l yJ5_append_cf1ce cJ5_append_cf1ce 3 (some (.object "java/lang/AbstractStringBuilder")) rmJ4 w sz z n f M [.ref z.2.1, .ref ta] (some (.ref z.2.1)) (n + tn) (bCat f n tn tf) := by
  refine b_of (by decide) (Nat.le_of_ble_eq_true rfl) ?_
  intro p e s m args below meth c hx hb hr hml hown hlk hI ls hl
  have hl : lv_has ls 3 [(0, .ref z.2.1), (1, .ref ta)] := hl
  refine lv_aload_n hx hb dJ5_append_cf1ce_0 rfl (lv_at hl 1 rfl) ?_
  refine lv_ifnonnull (tgt := 9) hx hb dJ5_append_cf1ce_1 (by decide) ?_
  refine lv_aload_n hx hb dJ5_append_cf1ce_9 rfl (lv_at hl 1 rfl) ?_
  refine b_callVm (As := []) (rest := []) hx hb hml hown hI (c_length l w s.heap.size ta tv tn tf hK M) (m_callB hI.T kc_J0_length_8abf5 ki_J0_coder_7d493 (q1072 hI.T) (by decide +kernel) ⟨rfl, rfl, Nat.le_of_ble_eq_true rfl, Nat.le_of_ble_eq_true rfl⟩) (q1073 hI.T) (q1074 hI.T) ((hK.1 _ _ _ hI.1.St).1.elim fun cell h => ⟨cell, h.1, h.2.1, h.2.2.1⟩) rfl hl.1 (Nat.le_of_ble_eq_true rfl) dJ5_append_cf1ce_10 ⟨Nat.le_of_ble_eq_true rfl, Nat.le_of_ble_eq_true rfl⟩ (fun H locs hI => ?_)
  refine lv_istore_n (lv' := [(2, .int (Int32.ofNat tn)), (0, .ref z.2.1), (1, .ref ta)]) hx hb dJ5_append_cf1ce_13 rfl hl (by decide) rfl (fun ls hl => ?_)
  refine lv_aload_n hx hb dJ5_append_cf1ce_14 rfl (lv_at hl 1 rfl) ?_
  refine lv_aload_n hx hb dJ5_append_cf1ce_15 rfl (lv_at hl 1 rfl) ?_
  refine b_get hx hb hown hI 3 (by decide) (q988 hI.T) rfl rfl dJ5_append_cf1ce_16 ?_
  refine lv_iload_n hx hb dJ5_append_cf1ce_19 rfl (lv_at hl 0 rfl) ?_
  refine lv_iadd hx hb dJ5_append_cf1ce_20 ?_
  have ea : Int32.ofNat n + Int32.ofNat tn = Int32.ofNat (n + tn) := by
    apply Int32.toBitVec_inj.mp
    show BitVec.ofNat 32 n + BitVec.ofNat 32 tn = BitVec.ofNat 32 (n + tn)
    simp [BitVec.ofNat_add]
  rw [ea]
  refine b_callV (As := [.int (Int32.ofNat (n + tn))]) (rest := []) hx hb hml hown hI (c_ensure l w H.size z n f M (n + tn) hin) (m_callB (n := 1) hI.T kc_J5_ensureCapacityInternal_d00df ki_J5_ensureCapacityInternal_d00df (q1010 hI.T) (by decide +kernel) ⟨rfl, rfl, Nat.le_of_ble_eq_true rfl, Nat.le_of_ble_eq_true rfl⟩) (q1012 hI.T) (sel_priv hI.at.1 (q1614 hI.T) (q1011 hI.T) (q1012 hI.T)) rfl hl.1 (Nat.le_of_ble_eq_true rfl) dJ5_append_cf1ce_21 ⟨Nat.le_of_ble_eq_true rfl, Nat.le_of_ble_eq_true rfl⟩ (fun H locs hI => ?_)
  refine lv_aload_n hx hb dJ5_append_cf1ce_24 rfl (lv_at hl 1 rfl) ?_
  refine lv_aload_n hx hb dJ5_append_cf1ce_25 rfl (lv_at hl 1 rfl) ?_
  refine b_get hx hb hown hI 3 (by decide) (q988 hI.T) rfl rfl dJ5_append_cf1ce_26 ?_
  refine lv_aload_n hx hb dJ5_append_cf1ce_29 rfl (lv_at hl 2 rfl) ?_
  refine b_callV (As := [.int (Int32.ofNat n), .ref ta]) (rest := []) hx hb hml hown hI (c_putStr l w H.size z n f M ta tv tn tf hK n hin hfit) (m_callB (n := 2) hI.T kc_J5_putStringAt_47b60 ki_J5_putStringAt_47b60 (q1081 hI.T) (by decide +kernel) ⟨rfl, rfl, Nat.le_of_ble_eq_true rfl, Nat.le_of_ble_eq_true rfl⟩) (q1083 hI.T) (sel_priv hI.at.1 (q1616 hI.T) (q1082 hI.T) (q1083 hI.T)) rfl hl.1 (Nat.le_of_ble_eq_true rfl) dJ5_append_cf1ce_30 ⟨Nat.le_of_ble_eq_true rfl, Nat.le_of_ble_eq_true rfl⟩ (fun H locs hI => ?_)
  refine lv_aload_n hx hb dJ5_append_cf1ce_33 rfl (lv_at hl 1 rfl) ?_
  refine lv_dup hx hb dJ5_append_cf1ce_34 rfl ?_
  refine b_get hx hb hown hI 3 (by decide) (q988 hI.T) rfl rfl dJ5_append_cf1ce_35 ?_
  refine lv_iload_n hx hb dJ5_append_cf1ce_38 rfl (lv_at hl 0 rfl) ?_
  refine lv_iadd hx hb dJ5_append_cf1ce_39 ?_
  refine b_putn hx hb hown hI (q988 hI.T) ea dJ5_append_cf1ce_40 (fun H locs hI => ?_)
  refine lv_aload_n hx hb dJ5_append_cf1ce_43 rfl (lv_at hl 1 rfl) ?_
  exact b_aret hx hb hr (Or.inl ⟨_, rfl⟩) hlk hI dJ5_append_cf1ce_44
set_option maxRecDepth 100000 in
theorem c_sbAppS (l : Launch) (w : WD) (sz : Nat) (z : BX) (n : Nat) (f : Nat → Int32) (M : Mem) (ta tv tn : Nat) (tf : Nat → Int32) (hK : kSx w ta tv tn tf) (hin : n + tn ≤ 16) (hfit : ∀ j, j < tn → fits .byte (.int (tf j)) = true) : bMet l yJ4_append_15ec4 cJ4_append_15ec4 2 (some (.object "java/lang/StringBuilder")) rmJ5 w sz z n f M [.ref z.2.1, .ref ta] (some (.ref z.2.1)) (n + tn) (bCat f n tn tf) := by
  refine b_of (by decide) (Nat.le_of_ble_eq_true rfl) ?_
  intro p e s m args below meth c hx hb hr hml hown hlk hI ls hl
  have hl : lv_has ls 2 [(0, .ref z.2.1), (1, .ref ta)] := hl
  refine lv_aload_n hx hb dJ4_append_15ec4_0 rfl (lv_at hl 0 rfl) ?_
  refine lv_aload_n hx hb dJ4_append_15ec4_1 rfl (lv_at hl 1 rfl) ?_
  refine b_callSU (As := [.ref ta]) (rest := []) hx hb hml hown hI (c_asbAppS l w s.heap.size z n f M ta tv tn tf hK hin hfit) ⟨⟨rfl, rfl, Nat.le_of_ble_eq_true rfl, Nat.le_of_ble_eq_true rfl, fun w hw a' U hW => ?_, List.mem_cons_self⟩, q1003 hI.T, q1612 hI.T, q997 hI.T, q1004 hI.T, q22 hI.T, q1005 hI.T, by decide, fun sig h => ?_⟩ rfl hl.1 (Nat.le_of_ble_eq_true rfl) dJ4_append_15ec4_2 ⟨Nat.le_of_ble_eq_true rfl, Nat.le_of_ble_eq_true rfl⟩ (fun H locs hI => ?_)
  · obtain rfl := List.mem_singleton.mp hw
    exact word_at hW (good_of_word rfl) (hI.T _ kc_J5_append_cf1ce rfl args)
  · have h2 : (parseMethodDescriptor yJ5_append_cf1ce.desc).map (fun d => d.parameters.length) = some 1 := by decide +kernel
    rw [h] at h2
    exact (Option.some.inj h2).symm
  refine lv_pop hx hb dJ4_append_15ec4_5 rfl ?_
  refine lv_aload_n hx hb dJ4_append_15ec4_6 rfl (lv_at hl 0 rfl) ?_
  exact b_aret hx hb hr (Or.inl ⟨_, rfl⟩) hlk hI dJ4_append_15ec4_7
