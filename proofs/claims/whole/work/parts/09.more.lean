/-! texts, constants of Word, throws: rows that stand on single words -/
section MORE0
variable {s : State} {w : WD} {A : Nat → Prop} {H : Heap} {locs : List Loc} {M : Mem}
theorem mI.en (h : mI w s A H locs M) {k : Nat} (hk : k < 11) : va_O "ShareVault$Word" (w.2.2.2 0 k) A s s.heap ∧ va_OF "java/lang/Enum" "ordinal" "I" (.int (Int32.ofNat k)) (w.2.2.2 0 k) A s s.heap ∧
    va_OF "ShareVault$Word" "letters" "Ljava/lang/String;" (.ref (w.2.2.2 1 (mLt.getD k 0))) (w.2.2.2 0 k) A s s.heap ∧ va_OF "ShareVault$Word" "form" "Ljava/lang/String;" (.ref (w.2.2.2 1 (mFm.getD k 0))) (w.2.2.2 0 k) A s s.heap := h.St.2.2.2.2.1 k hk
theorem mI.sx (h : mI w s A H locs M) {i : Nat} (hi : i < 33) : va_O "java/lang/String" (w.2.2.2 1 i) A s s.heap ∧ va_OF "java/lang/String" "coder" "B" (.int 0) (w.2.2.2 1 i) A s s.heap ∧ va_OF "java/lang/String" "value" "[B" (.ref (w.2.2.2 2 i)) (w.2.2.2 1 i) A s s.heap ∧ va_T .byte (w.2.2.2 2 i) (mTl.getD i 0) (fun j => .int ((mTx.getD i []).getD j 0)) A s s.heap := h.St.2.2.2.2.2.1 i hi
theorem mI.Zcs (h : mI w s A H locs M) : va_Z "java/lang/String" "COMPACT_STRINGS" "Z" (.int 1) A s s.heap := h.St.2.2.2.2.2.2.1
theorem mI.nc (h : mI w s A H locs M) {i j : Nat} (h1 : 1 ≤ i) (h2 : i ≤ 6) (h3 : 1 ≤ j) (h4 : j ≤ 6) (h5 : i ≠ j) : va_Nc (mXn i) (mXn j) s := h.St.2.2.2.2.2.2.2.2.2.1 i j h1 h2 h3 h4 h5
theorem mI.Zsi (h : mI w s A H locs M) : va_Zq "jdk/internal/util/Preconditions" "SIOOBE_FORMATTER" "Ljava/util/function/BiFunction;" A s s.heap := h.St.2.2.2.2.2.2.2.2.2.2
end MORE0
abbrev rmJ1 : Room := { frames := 1, cells := 0, slots := 0, locals := 40 }
abbrev rmJ2 : Room := { frames := 2, cells := 0, slots := 0, locals := 80 }
abbrev rmJ3 : Room := { frames := 3, cells := 0, slots := 0, locals := 120 }
abbrev rmJ4 : Room := { frames := 4, cells := 0, slots := 0, locals := 160 }
theorem m_vpl {j : Int32} {n : Nat} (hn : n < 2 ^ 31) (h : vp_in j n) : ¬ j < 0 ∧ j < Int32.ofNat n := by
  refine ⟨fun q => h (Or.inl q), ?_⟩
  obtain ⟨k, hk, rfl⟩ := vp_in_of h hn
  exact nI_lt hk hn
set_option maxRecDepth 100000 in
theorem c_ord (l : Launch) (w : WD) (sz : Nat) (k : Nat) (hk : k < 11) (M : Mem) : mMet l yJx29ce0_ordinal_8abf5 cJx29ce0_ordinal_8abf5 1 (some .int) rmJ1 w sz M [.ref (w.2.2.2 0 k)] (some (.int (Int32.ofNat k))) M := by
  refine m_of (by decide) (Nat.le_of_ble_eq_true rfl) ?_
  intro p e s m args below meth c hx hb hr hml hown hlk hI ls hl
  have hl : lv_has ls 1 [(0, .ref (w.2.2.2 0 k))] := hl
  refine lv_aload_n hx hb dJx29ce0_ordinal_8abf5_0 rfl (lv_at hl 0 rfl) ?_
  refine vk_getf hx hb (hI.en hk).2.1 hI.S hown (q1997 hI.T) (fun _ h => h) dJx29ce0_ordinal_8abf5_1 ?_
  exact m_iretp hx hb hr hlk hI rfl dJx29ce0_ordinal_8abf5_4
set_option maxRecDepth 100000 in
theorem c_coder (l : Launch) (w : WD) (sz : Nat) (i : Nat) (hi : i < 33) (M : Mem) : mMet l yJ0_coder_7d493 cJ0_coder_7d493 1 (some .byte) rmJ1 w sz M [.ref (w.2.2.2 1 i)] (some (.int 0)) M := by
  refine m_of (by decide) (Nat.le_of_ble_eq_true rfl) ?_
  intro p e s m args below meth c hx hb hr hml hown hlk hI ls hl
  have hl : lv_has ls 1 [(0, .ref (w.2.2.2 1 i))] := hl
  refine va_gets hx hb hI.Zcs hI.S hown (q1274 hI.T) (fun _ h => h) dJ0_coder_7d493_0 ?_
  refine lv_if_eq (tgt := 13) hx hb dJ0_coder_7d493_3 (by decide) (fun c => absurd c (by decide)) (fun _ => ?_)
  refine lv_aload_n hx hb dJ0_coder_7d493_6 rfl (lv_at hl 0 rfl) ?_
  refine vk_getf hx hb (hI.sx hi).2.1 hI.S hown (q1995 hI.T) (fun _ h => h) dJ0_coder_7d493_7 ?_
  refine lv_goto (tgt := 14) hx hb dJ0_coder_7d493_10 (by decide) ?_
  exact m_zretp hx hb hr hlk hI rfl rfl dJ0_coder_7d493_14
set_option maxRecDepth 100000 in
theorem c_isLatin1 (l : Launch) (w : WD) (sz : Nat) (i : Nat) (hi : i < 33) (M : Mem) : mMet l yJ0_isLatin1_aae02 cJ0_isLatin1_aae02 1 (some .boolean) rmJ1 w sz M [.ref (w.2.2.2 1 i)] (some (.int 1)) M := by
  refine m_of (by decide) (Nat.le_of_ble_eq_true rfl) ?_
  intro p e s m args below meth c hx hb hr hml hown hlk hI ls hl
  have hl : lv_has ls 1 [(0, .ref (w.2.2.2 1 i))] := hl
  refine va_gets hx hb hI.Zcs hI.S hown (q1274 hI.T) (fun _ h => h) dJ0_isLatin1_aae02_0 ?_
  refine lv_if_eq (tgt := 17) hx hb dJ0_isLatin1_aae02_3 (by decide) (fun c => absurd c (by decide)) (fun _ => ?_)
  refine lv_aload_n hx hb dJ0_isLatin1_aae02_6 rfl (lv_at hl 0 rfl) ?_
  refine vk_getf hx hb (hI.sx hi).2.1 hI.S hown (q1995 hI.T) (fun _ h => h) dJ0_isLatin1_aae02_7 ?_
  refine lv_if_ne (tgt := 17) hx hb dJ0_isLatin1_aae02_10 (by decide) (fun c => absurd rfl c) (fun _ => ?_)
  refine lv_iconst (v := 1) hx hb dJ0_isLatin1_aae02_13 (by decide) ?_
  refine lv_goto (tgt := 18) hx hb dJ0_isLatin1_aae02_14 (by decide) ?_
  exact m_zretp hx hb hr hlk hI rfl rfl dJ0_isLatin1_aae02_18
set_option maxRecDepth 100000 in
theorem c_length (l : Launch) (w : WD) (sz : Nat) (i : Nat) (hi : i < 33) (M : Mem) : mMet l yJ0_length_8abf5 cJ0_length_8abf5 1 (some .int) rmJ2 w sz M [.ref (w.2.2.2 1 i)] (some (.int (Int32.ofNat (mTl.getD i 0)))) M := by
  refine m_of (by decide) (Nat.le_of_ble_eq_true rfl) ?_
  intro p e s m args below meth c hx hb hr hml hown hlk hI ls hl
  have hl : lv_has ls 1 [(0, .ref (w.2.2.2 1 i))] := hl
  refine lv_aload_n hx hb dJ0_length_8abf5_0 rfl (lv_at hl 0 rfl) ?_
  refine vk_getf hx hb (hI.sx hi).2.2.1 hI.S hown (q1994 hI.T) (fun _ h => h) dJ0_length_8abf5_1 ?_
  refine va_tlen hx hb (hI.sx hi).2.2.2 hI.S rfl dJ0_length_8abf5_4 ?_
  refine lv_aload_n hx hb dJ0_length_8abf5_5 rfl (lv_at hl 0 rfl) ?_
  refine m_callV (As := []) (rest := [.int (Int32.ofNat (mTl.getD i 0))]) hx hb hml hown hI (c_coder l w s.heap.size i hi M) (m_callB hI.T kc_J0_coder_7d493 ki_J0_coder_7d493 (q1270 hI.T) (by decide +kernel) ⟨rfl, rfl, Nat.le_of_ble_eq_true rfl, Nat.le_of_ble_eq_true rfl⟩) (q1271 hI.T) (q1272 hI.T) ((hI.sx hi).1.elim fun cell h => ⟨cell, h.1, h.2.1, h.2.2.1⟩) rfl hl.1 (Nat.le_of_ble_eq_true rfl) dJ0_length_8abf5_6 ⟨Nat.le_of_ble_eq_true rfl, Nat.le_of_ble_eq_true rfl⟩ (fun H locs hI => ?_)
  refine lv_ishr hx hb dJ0_length_8abf5_9 ?_
  have h9 : ∀ i : Nat, i < 33 → (Int32.ofNat (mTl.getD i 0) >>> ((0 : Int32) &&& 31)) = Int32.ofNat (mTl.getD i 0) := by decide +kernel
  exact m_iretp hx hb hr hlk hI (congrArg some (h9 i hi)) dJ0_length_8abf5_10
set_option maxRecDepth 100000 in
theorem c_chk3 (l : Launch) (w : WD) (sz : Nat) (a b : Int32) (u : Value) (hu : u = .null ∨ ∃ t, u = .ref t) (h0 : ¬ a < 0) (h1 : a < b) (M : Mem) : mMet l yJ3_checkIndex_8e157 cJ3_checkIndex_8e157 3 (some .int) rmJ1 w sz M [.int a, .int b, u] (some (.int a)) M := by
  have hlg : (lg_sl [.int a, .int b, u]).length ≤ 3 := by rcases hu with rfl | ⟨t, rfl⟩ <;> exact Nat.le_of_ble_eq_true rfl
  refine m_of (by decide) hlg ?_
  intro p e s m args below meth c hx hb hr hml hown hlk hI ls hl
  have hl : lv_has ls 3 [(0, .int a), (1, .int b), (2, u)] := hl
  refine lv_iload_n hx hb dJ3_checkIndex_8e157_0 rfl (lv_at hl 0 rfl) ?_
  refine lv_if_lt (tgt := 9) hx hb dJ3_checkIndex_8e157_1 (by decide) (fun c => absurd c h0) (fun _ => ?_)
  refine lv_iload_n hx hb dJ3_checkIndex_8e157_4 rfl (lv_at hl 0 rfl) ?_
  refine lv_iload_n hx hb dJ3_checkIndex_8e157_5 rfl (lv_at hl 1 rfl) ?_
  refine lv_icmp_lt (tgt := 16) hx hb dJ3_checkIndex_8e157_6 (by decide) (fun _ => ?_) (fun c => absurd h1 c)
  refine lv_iload_n hx hb dJ3_checkIndex_8e157_16 rfl (lv_at hl 0 rfl) ?_
  exact m_iretp hx hb hr hlk hI rfl dJ3_checkIndex_8e157_17
set_option maxRecDepth 100000 in
theorem c_chk2 (l : Launch) (w : WD) (sz : Nat) (a b : Int32) (h0 : ¬ a < 0) (h1 : a < b) (M : Mem) : mMet l yJ0_checkIndex_df160 cJ0_checkIndex_df160 2 none rmJ2 w sz M [.int a, .int b] none M := by
  refine m_of (by decide) (Nat.le_of_ble_eq_true rfl) ?_
  intro p e s m args below meth c hx hb hr hml hown hlk hI ls hl
  have hl : lv_has ls 2 [(0, .int a), (1, .int b)] := hl
  refine lv_iload_n hx hb dJ0_checkIndex_df160_0 rfl (lv_at hl 0 rfl) ?_
  refine lv_iload_n hx hb dJ0_checkIndex_df160_1 rfl (lv_at hl 1 rfl) ?_
  obtain ⟨u, hu, hZ⟩ : ∃ u : Value, (u = .null ∨ ∃ t, u = .ref t) ∧ va_Z "jdk/internal/util/Preconditions" "SIOOBE_FORMATTER" "Ljava/util/function/BiFunction;" u (mA w s.heap.size) s s.heap := by
    rcases hI.Zsi with h | ⟨t, h⟩
    · exact ⟨.null, Or.inl rfl, h⟩
    · exact ⟨.ref t, Or.inr ⟨t, rfl⟩, h⟩
  refine va_gets hx hb hZ hI.S hown (q1290 hI.T) (fun _ h => h) dJ0_checkIndex_df160_2 ?_
  refine m_callS (As := [.int a, .int b, u]) (rest := []) hx hb hml hown hI (c_chk3 l w s.heap.size a b u hu h0 h1 M) (m_callB (n := 3) hI.T kc_J3_checkIndex_8e157 ki_J3_checkIndex_8e157 (q1292 hI.T) (by decide +kernel) ⟨rfl, rfl, Nat.le_of_ble_eq_true rfl, Nat.le_of_ble_eq_true rfl⟩) (q1293 hI.T) rfl hl.1 (Nat.le_of_ble_eq_true rfl) dJ0_checkIndex_df160_5 ⟨Nat.le_of_ble_eq_true rfl, Nat.le_of_ble_eq_true rfl⟩ (fun H locs hI => ?_)
  refine lv_pop hx hb dJ0_checkIndex_df160_8 rfl ?_
  exact m_vretp (r := ()) hx hb hr hlk hI rfl dJ0_checkIndex_df160_9
theorem mTx_c {i j : Nat} (hi : i < 33) (hj : j < mTl.getD i 0) : ((((mTx.getD i []).getD j 0) &&& 255).toUInt32 % 65536).toInt32 = (mTx.getD i []).getD j 0 ∧ narrow .char (.int ((mTx.getD i []).getD j 0)) = .int ((mTx.getD i []).getD j 0) := by
  have h9 : ∀ i : Nat, i < 33 → ∀ j : Nat, j < mTl.getD i 0 → ((((mTx.getD i []).getD j 0) &&& 255).toUInt32 % 65536).toInt32 = (mTx.getD i []).getD j 0 ∧ narrow .char (.int ((mTx.getD i []).getD j 0)) = .int ((mTx.getD i []).getD j 0) := by decide +kernel
  exact h9 i hi j hj
theorem mTl_b {i : Nat} (hi : i < 33) : mTl.getD i 0 < 2 ^ 31 := by
  have h9 : ∀ i : Nat, i < 33 → mTl.getD i 0 < 2 ^ 31 := by decide +kernel
  exact h9 i hi
set_option maxRecDepth 100000 in
theorem c_lat (l : Launch) (w : WD) (sz : Nat) (i : Nat) (hi : i < 33) (j : Int32) (hj : vp_in j (mTl.getD i 0)) (M : Mem) : mMet l yJ1_charAt_3b067 cJ1_charAt_3b067 2 (some .char) rmJ3 w sz M [.ref (w.2.2.2 2 i), .int j] (some (.int ((mTx.getD i []).getD j.toNatClampNeg 0))) M := by
  refine m_of (by decide) (Nat.le_of_ble_eq_true rfl) ?_
  intro p e s m args below meth c hx hb hr hml hown hlk hI ls hl
  have hl : lv_has ls 2 [(0, .ref (w.2.2.2 2 i)), (1, .int j)] := hl
  refine lv_iload_n hx hb dJ1_charAt_3b067_0 rfl (lv_at hl 1 rfl) ?_
  refine lv_aload_n hx hb dJ1_charAt_3b067_1 rfl (lv_at hl 0 rfl) ?_
  refine va_tlen hx hb (hI.sx hi).2.2.2 hI.S rfl dJ1_charAt_3b067_2 ?_
  obtain ⟨h0, h1⟩ := m_vpl (mTl_b hi) hj
  refine m_callS (As := [.int j, .int (Int32.ofNat (mTl.getD i 0))]) (rest := []) hx hb hml hown hI (c_chk2 l w s.heap.size _ _ h0 h1 M) (m_callB (n := 2) hI.T kc_J0_checkIndex_df160 ki_J0_coder_7d493 (q1287 hI.T) (by decide +kernel) ⟨rfl, rfl, Nat.le_of_ble_eq_true rfl, Nat.le_of_ble_eq_true rfl⟩) (q1288 hI.T) rfl hl.1 (Nat.le_of_ble_eq_true rfl) dJ1_charAt_3b067_3 ⟨Nat.le_of_ble_eq_true rfl, Nat.le_of_ble_eq_true rfl⟩ (fun H locs hI => ?_)
  refine lv_aload_n hx hb dJ1_charAt_3b067_6 rfl (lv_at hl 0 rfl) ?_
  refine lv_iload_n hx hb dJ1_charAt_3b067_7 rfl (lv_at hl 1 rfl) ?_
  refine va_tb hx hb (hI.sx hi).2.2.2 hI.S hj rfl dJ1_charAt_3b067_8 ?_
  refine lv_sipush (v := 255) hx hb dJ1_charAt_3b067_9 (by decide) ?_
  refine lv_iand hx hb dJ1_charAt_3b067_12 ?_
  refine lv_i2c hx hb dJ1_charAt_3b067_13 (mTx_c hi (mix_lt hj)).1 ?_
  exact m_zretp hx hb hr hlk hI (mTx_c hi (mix_lt hj)).2 rfl dJ1_charAt_3b067_14
set_option maxRecDepth 100000 in
theorem c_charAt (l : Launch) (w : WD) (sz : Nat) (i : Nat) (hi : i < 33) (j : Int32) (hj : vp_in j (mTl.getD i 0)) (M : Mem) : mMet l yJ0_charAt_5068e cJ0_charAt_5068e 2 (some .char) rmJ4 w sz M [.ref (w.2.2.2 1 i), .int j] (some (.int ((mTx.getD i []).getD j.toNatClampNeg 0))) M := by
  refine m_of (by decide) (Nat.le_of_ble_eq_true rfl) ?_
  intro p e s m args below meth c hx hb hr hml hown hlk hI ls hl
  have hl : lv_has ls 2 [(0, .ref (w.2.2.2 1 i)), (1, .int j)] := hl
  refine lv_aload_n hx hb dJ0_charAt_5068e_0 rfl (lv_at hl 0 rfl) ?_
  refine m_callV (As := []) (rest := []) hx hb hml hown hI (c_isLatin1 l w s.heap.size i hi M) (m_callB hI.T kc_J0_isLatin1_aae02 ki_J0_coder_7d493 (q1280 hI.T) (by decide +kernel) ⟨rfl, rfl, Nat.le_of_ble_eq_true rfl, Nat.le_of_ble_eq_true rfl⟩) (q1281 hI.T) (q1282 hI.T) ((hI.sx hi).1.elim fun cell h => ⟨cell, h.1, h.2.1, h.2.2.1⟩) rfl hl.1 (Nat.le_of_ble_eq_true rfl) dJ0_charAt_5068e_1 ⟨Nat.le_of_ble_eq_true rfl, Nat.le_of_ble_eq_true rfl⟩ (fun H locs hI => ?_)
  refine lv_if_eq (tgt := 16) hx hb dJ0_charAt_5068e_4 (by decide) (fun c => absurd c (by decide)) (fun _ => ?_)
  refine lv_aload_n hx hb dJ0_charAt_5068e_7 rfl (lv_at hl 0 rfl) ?_
  refine vk_getf hx hb (hI.sx hi).2.2.1 hI.S hown (q1994 hI.T) (fun _ h => h) dJ0_charAt_5068e_8 ?_
  refine lv_iload_n hx hb dJ0_charAt_5068e_11 rfl (lv_at hl 1 rfl) ?_
  refine m_callS (As := [.ref (w.2.2.2 2 i), .int j]) (rest := []) hx hb hml hown hI (c_lat l w H.size i hi j hj M) (m_callB (n := 2) hI.T kc_J1_charAt_3b067 ki_J1_charAt_3b067 (q1284 hI.T) (by decide +kernel) ⟨rfl, rfl, Nat.le_of_ble_eq_true rfl, Nat.le_of_ble_eq_true rfl⟩) (q1285 hI.T) rfl hl.1 (Nat.le_of_ble_eq_true rfl) dJ0_charAt_5068e_12 ⟨Nat.le_of_ble_eq_true rfl, Nat.le_of_ble_eq_true rfl⟩ (fun H locs hI => ?_)
  exact m_zretp hx hb hr hlk hI (mTx_c hi (mix_lt hj)).2 rfl dJ0_charAt_5068e_15
section MORE
variable {p : Program} {l : Launch} {e : Env} {R : Room} {s : State} {m : MethodId} {args : Array Value} {below : List Frame} {meth : Method} {c : Code} {H : Heap} {locs : List Loc} {cells slots : Nat} {Q : State → Prop}
variable {cc : ByteArray} {pc : Nat} {ls : Array Slot} {rest : List Value} {A : Nat → Prop} {w : WD} {M M1 : Mem} {nL idx : Nat} {own : String}
theorem va_ldcSw (hexec : p.tables.exec = Jvm.exec) (hb : c.code = cc) {tx : String} {index q : Nat} (hown : s.vm.findClass own = some m.cls) (hZ : vk_R own index tx q s) (hdg : decode cc pc = .ok (.ldc_w index, 3))
    (k : W p l e R s m args below meth c H locs cells slots Q (F0 m (pc + 3) ls (.ref q :: rest))) : W p l e R s m args below meth c H locs cells slots Q (F0 m pc ls rest) := by
  intro T hT X
  obtain ⟨t, a1, b1⟩ := k T hT X
  exact ⟨t, X.ldcStringW hexec hown (text := tx) (a := q) hZ.1 hZ.2 (g := F0 m pc ls rest) rfl (by rw [hb]; exact hdg) t a1, b1⟩
theorem m_enletters (hx : p.tables.exec = Jvm.exec) (hb : c.code = cc) (hI : mI w s A H locs M) (hown : s.vm.findClass own = some m.cls) {k : Nat} (hk : k < 11) (hlink : (Cond.fieldLink own idx "ShareVault$Word" "letters" "Ljava/lang/String;").before args s = true) (hdg : decode cc pc = .ok (.getfield idx, 3))
    (kk : W p l e R s m args below meth c H locs cells slots Q (F0 m (pc + 3) ls (.ref (w.2.2.2 1 (mLt.getD k 0)) :: rest))) : W p l e R s m args below meth c H locs cells slots Q (F0 m pc ls (.ref (w.2.2.2 0 k) :: rest)) :=
  vk_getf hx hb (hI.en hk).2.2.1 hI.S hown hlink (fun _ h => h) hdg kk
theorem m_enform (hx : p.tables.exec = Jvm.exec) (hb : c.code = cc) (hI : mI w s A H locs M) (hown : s.vm.findClass own = some m.cls) {k : Nat} (hk : k < 11) (hlink : (Cond.fieldLink own idx "ShareVault$Word" "form" "Ljava/lang/String;").before args s = true) (hdg : decode cc pc = .ok (.getfield idx, 3))
    (kk : W p l e R s m args below meth c H locs cells slots Q (F0 m (pc + 3) ls (.ref (w.2.2.2 1 (mFm.getD k 0)) :: rest))) : W p l e R s m args below meth c H locs cells slots Q (F0 m pc ls (.ref (w.2.2.2 0 k) :: rest)) :=
  vk_getf hx hb (hI.en hk).2.2.2 hI.S hown hlink (fun _ h => h) hdg kk
theorem m_slen (hx : p.tables.exec = Jvm.exec) (hb : c.code = cc) (hml : c.maxLocals = nL) (hown : s.vm.findClass own = some m.cls) (hI : mI w s A H locs M) {i : Nat} (hi : i < 33) (hlink : (Cond.methodLink own idx yJ0_length_8abf5).before args s = true) (hsize : ls.size = nL) (hR1 : 3 ≤ R.frames) (hR2 : 100 ≤ R.locals) (hW : (rest.map fun v => v.category).sum ≤ 8) (hdg : decode cc pc = .ok (.invokevirtual idx, 3)) (hf : cells ≤ R.cells ∧ slots ≤ R.slots)
    (kk : ∀ (H1 : Heap) (locs1 : List Loc), mI w s A H1 locs1 M → W p l e R s m args below meth c H1 locs1 cells slots Q (F0 m (pc + 3) ls (.int (Int32.ofNat (mTl.getD i 0)) :: rest))) : W p l e R s m args below meth c H locs cells slots Q (F0 m pc ls (.ref (w.2.2.2 1 i) :: rest)) :=
  m_callV (As := []) (rest := rest) hx hb hml hown hI (c_length l w H.size i hi M) (m_callB hI.T kc_J0_length_8abf5 ki_J0_coder_7d493 hlink (by decide +kernel) ⟨rfl, rfl, hR1, hR2⟩) (q1267 hI.T) (q1268 hI.T) ((va_O.kept (hI.sx hi).1 hI.S.2.1).elim fun cell h => ⟨cell, h.1, h.2.1, h.2.2.1⟩) rfl hsize hW hdg hf kk
theorem m_sat (hx : p.tables.exec = Jvm.exec) (hb : c.code = cc) (hml : c.maxLocals = nL) (hown : s.vm.findClass own = some m.cls) (hI : mI w s A H locs M) {i : Nat} (hi : i < 33) {j : Int32} (hj : vp_in j (mTl.getD i 0)) (hlink : (Cond.methodLink own idx yJ0_charAt_5068e).before args s = true) (hsize : ls.size = nL) (hR1 : 5 ≤ R.frames) (hR2 : 181 ≤ R.locals) (hW : (rest.map fun v => v.category).sum ≤ 8) (hdg : decode cc pc = .ok (.invokevirtual idx, 3)) (hf : cells ≤ R.cells ∧ slots ≤ R.slots)
    (kk : ∀ (H1 : Heap) (locs1 : List Loc), mI w s A H1 locs1 M → W p l e R s m args below meth c H1 locs1 cells slots Q (F0 m (pc + 3) ls (.int ((mTx.getD i []).getD j.toNatClampNeg 0) :: rest))) : W p l e R s m args below meth c H locs cells slots Q (F0 m pc ls (.int j :: .ref (w.2.2.2 1 i) :: rest)) :=
  m_callV (As := [.int j]) (rest := rest) hx hb hml hown hI (c_charAt l w H.size i hi j hj M) (m_callB (n := 1) hI.T kc_J0_charAt_5068e ki_J0_coder_7d493 hlink (by decide +kernel) ⟨rfl, rfl, hR1, hR2⟩) (q1277 hI.T) (q1278 hI.T) ((va_O.kept (hI.sx hi).1 hI.S.2.1).elim fun cell h => ⟨cell, h.1, h.2.1, h.2.2.1⟩) rfl hsize hW hdg hf kk
theorem m_ord (hx : p.tables.exec = Jvm.exec) (hb : c.code = cc) (hml : c.maxLocals = nL) (hown : s.vm.findClass "ShareVault$State" = some m.cls) (hI : mI w s A H locs M) {k : Nat} (hk : k < 11) (hsize : ls.size = nL) (hR1 : 2 ≤ R.frames) (hR2 : 60 ≤ R.locals) (hW : (rest.map fun v => v.category).sum ≤ 8) (hdg : decode cc pc = .ok (.invokevirtual 179, 3)) (hf : cells ≤ R.cells ∧ slots ≤ R.slots)
    (kk : ∀ (H1 : Heap) (locs1 : List Loc), mI w s A H1 locs1 M → W p l e R s m args below meth c H1 locs1 cells slots Q (F0 m (pc + 3) ls (.int (Int32.ofNat k) :: rest))) : W p l e R s m args below meth c H locs cells slots Q (F0 m pc ls (.ref (w.2.2.2 0 k) :: rest)) := by
  sorry
theorem m_wast (hx : p.tables.exec = Jvm.exec) (hb : c.code = cc) (hI : mI w s A H locs M) {k : Nat} (hk : k < 11) {j : Int32} (hin : vp_in j 15) (hM : M1 = mup M 12 28 j.toNatClampNeg (Int32.ofNat k)) (hdg : decode cc pc = .ok (.aastore, 1))
    (kk : ∀ (H1 : Heap) (locs1 : List Loc), mI w s A H1 locs1 M1 → W p l e R s m args below meth c H1 locs1 cells slots Q (F0 m (pc + 1) ls rest)) : W p l e R s m args below meth c H locs cells slots Q (F0 m pc ls (.ref (w.2.2.2 0 k) :: .int j :: .ref (w.1 12 28) :: rest)) := by
  subst hM
  obtain ⟨q0, hq⟩ := mok_get (mokX (i := 28) (by decide) (by decide))
  have ha := mkeys_get (w := w) (M := M) hq
  have hlt : j.toNatClampNeg < 15 := Nat.not_le.mp fun q => hin (Or.inr q)
  have h0 : ¬ j < 0 := fun q => hin (Or.inl q)
  obtain ⟨cellV, g1, g2, g3, -⟩ := va_O.kept (hI.en hk).1 hI.S.2.1
  obtain ⟨kA, comp, k1, k2, k3, -⟩ := (hI.K.2 5 _ rfl).2
  obtain ⟨kE, hkE, -⟩ := Vm.findClass_spec k3
  cases k3.symm.trans g3
  have hasg : s.vm.assignable cellV.cls cellV.cls = true := va_asg _ _
  refine W.aast hx hb (hI.P q0 _ ha) (fun q h => by cases h) (fun h => by cases h) k1 k2 rfl hkE ⟨h0, by show _ < (arrV _ _ _).slots.size; rw [arrV_size]; exact hlt⟩ g1 (fun q h => by rw [h] at g2; cases g2) hkE hasg rfl rfl hdg fun H1 e z oq => ?_
  have hP1 := hI.P.set hI.D ha (e := menc w 12 28 (upd (M 12 28) j.toNatClampNeg (Int32.ofNat k))) (H1 := H1) ?_ oq
  · have e1 := mW_set (w := w) (M := M) (M1 := mup M 12 28 j.toNatClampNeg (Int32.ofNat k)) (e := menc w 12 28 (upd (M 12 28) j.toNatClampNeg (Int32.ofNat k))) hq (by rw [mup_self]) (fun a b h => mup_ne h)
    rw [e1] at hP1
    exact kk H1 _ (hI.next hP1 (hI.S.put z oq (hI.In _ _ (mokX (by decide) (by decide)))))
  · show H1[w.1 12 28]? = some (vp_cell _ _)
    rw [e]
    show some ((vp_cell _ _).setSlot _ _) = _
    rw [vp_cell_q, vp_cell_q, arrV_store]
    congr 2
    funext q
    have hne : ¬ Int32.ofNat k = -1 := by
      have h9 : ∀ k : Nat, k < 11 → ¬ Int32.ofNat k = -1 := by decide
      exact h9 k hk
    have hcl : (Int32.ofNat k).toNatClampNeg = k := nI_clamp (n := k) (by omega)
    by_cases hq : q = j.toNatClampNeg
    · subst hq
      simp [updV, upd, mwr, hne, hcl, va_rf]
    · simp [updV, upd, hq]
theorem m_astnull {cc : ByteArray} {k : Fin 4} {i : Nat} {lv lv' : List (Nat × Value)} (hexec : p.tables.exec = Jvm.exec) (hb : c.code = cc) (hdg : decode cc pc = .ok (.astore_n k, 1)) (hi : (k : Nat) = i) (h : lv_has ls nL lv) (hn : i < nL) (hl : (i, Value.null) :: lv.filter (fun q => !(q.1 == i) && !(q.1 + 1 == i && q.2.category == 2)) = lv')
    (kk : ∀ ls' : Array Slot, lv_has ls' nL lv' → W p l e R s m args below meth c H locs cells slots Q (F0 m (pc + 1) ls' rest)) : W p l e R s m args below meth c H locs cells slots Q (F0 m pc ls (.null :: rest)) := by
  subst hi
  obtain ⟨ls', e', h'⟩ := lv_store1 (v := .null) h hn rfl
  intro T hT X
  obtain ⟨t, a, b⟩ := kk ls' (hl ▸ h') T hT X
  refine ⟨t, ?_, b⟩
  jvm_step X.here [X.here.top, ↓top_set X.here.top, hexec, hb, hdg, e', Value.isRef]
  exact a
theorem m_aldnull {cc : ByteArray} {k : Fin 4} {i : Nat} (hexec : p.tables.exec = Jvm.exec) (hb : c.code = cc) (hdg : decode cc pc = .ok (.aload_n k, 1)) (hi : (k : Nat) = i) (hl : ls[i]? = some (.val .null))
    (kk : W p l e R s m args below meth c H locs cells slots Q (F0 m (pc + 1) ls (.null :: rest))) : W p l e R s m args below meth c H locs cells slots Q (F0 m pc ls rest) := by
  subst hi
  intro T hT X
  obtain ⟨t, a, b⟩ := kk T hT X
  refine ⟨t, ?_, b⟩
  jvm_step X.here [X.here.top, hexec, hb, hdg, hl, Value.isRef]
  exact a
end MORE
set_option maxRecDepth 100000 in
theorem thw_1 : ∀ w ∈ vx_atS "ShareVault" 378 "java/lang/IndexOutOfBoundsException" ["java/lang/RuntimeException", "java/lang/Exception"], w ∈ lw_tbl ∧ mgood w = true := by decide +kernel
theorem thg_1 : ∀ w ∈ Cond.classLink "ShareVault" 374 "java/lang/IndexOutOfBoundsException" :: Cond.initialized "java/lang/IndexOutOfBoundsException" :: vx_atS "ShareVault" 378 "java/lang/IndexOutOfBoundsException" ["java/lang/RuntimeException", "java/lang/Exception"], vx_ot w = true := by decide +kernel
theorem m_thw_1_X11_378 {w : WD} {s : State} {A : Nat → Prop} {H : Heap} {locs : List Loc} {M : Mem} {args : Array Value} (hI : mI w s A H locs M) : Bundle.fit (mXn 1) = true ∧ (∀ n ∈ ["java/lang/RuntimeException", "java/lang/Exception"], Bundle.fit n = true) ∧ (∀ w ∈ vx_atS "ShareVault" 378 (mXn 1) ["java/lang/RuntimeException", "java/lang/Exception"], w.before args s = true) ∧ ∀ w ∈ Cond.classLink "ShareVault" 374 (mXn 1) :: Cond.initialized (mXn 1) :: vx_atS "ShareVault" 378 (mXn 1) ["java/lang/RuntimeException", "java/lang/Exception"], vx_ot w = true := ⟨by decide +kernel, by decide +kernel, fun w hw => hI.T w (thw_1 w hw).1 (thw_1 w hw).2 args, thg_1⟩
set_option maxRecDepth 100000 in
theorem thw_2 : ∀ w ∈ vx_atS "ShareVault" 175 "java/lang/IllegalArgumentException" ["java/lang/RuntimeException", "java/lang/Exception"], w ∈ lw_tbl ∧ mgood w = true := by decide +kernel
theorem thg_2 : ∀ w ∈ Cond.classLink "ShareVault" 171 "java/lang/IllegalArgumentException" :: Cond.initialized "java/lang/IllegalArgumentException" :: vx_atS "ShareVault" 175 "java/lang/IllegalArgumentException" ["java/lang/RuntimeException", "java/lang/Exception"], vx_ot w = true := by decide +kernel
theorem m_thw_2_X11_175 {w : WD} {s : State} {A : Nat → Prop} {H : Heap} {locs : List Loc} {M : Mem} {args : Array Value} (hI : mI w s A H locs M) : Bundle.fit (mXn 2) = true ∧ (∀ n ∈ ["java/lang/RuntimeException", "java/lang/Exception"], Bundle.fit n = true) ∧ (∀ w ∈ vx_atS "ShareVault" 175 (mXn 2) ["java/lang/RuntimeException", "java/lang/Exception"], w.before args s = true) ∧ ∀ w ∈ Cond.classLink "ShareVault" 171 (mXn 2) :: Cond.initialized (mXn 2) :: vx_atS "ShareVault" 175 (mXn 2) ["java/lang/RuntimeException", "java/lang/Exception"], vx_ot w = true := ⟨by decide +kernel, by decide +kernel, fun w hw => hI.T w (thw_2 w hw).1 (thw_2 w hw).2 args, thg_2⟩
set_option maxRecDepth 100000 in
theorem thw_3 : ∀ w ∈ vx_atS "ShareVault" 353 "java/lang/UnsupportedOperationException" ["java/lang/RuntimeException", "java/lang/Exception"], w ∈ lw_tbl ∧ mgood w = true := by decide +kernel
theorem thg_3 : ∀ w ∈ Cond.classLink "ShareVault" 349 "java/lang/UnsupportedOperationException" :: Cond.initialized "java/lang/UnsupportedOperationException" :: vx_atS "ShareVault" 353 "java/lang/UnsupportedOperationException" ["java/lang/RuntimeException", "java/lang/Exception"], vx_ot w = true := by decide +kernel
theorem m_thw_3_X11_353 {w : WD} {s : State} {A : Nat → Prop} {H : Heap} {locs : List Loc} {M : Mem} {args : Array Value} (hI : mI w s A H locs M) : Bundle.fit (mXn 3) = true ∧ (∀ n ∈ ["java/lang/RuntimeException", "java/lang/Exception"], Bundle.fit n = true) ∧ (∀ w ∈ vx_atS "ShareVault" 353 (mXn 3) ["java/lang/RuntimeException", "java/lang/Exception"], w.before args s = true) ∧ ∀ w ∈ Cond.classLink "ShareVault" 349 (mXn 3) :: Cond.initialized (mXn 3) :: vx_atS "ShareVault" 353 (mXn 3) ["java/lang/RuntimeException", "java/lang/Exception"], vx_ot w = true := ⟨by decide +kernel, by decide +kernel, fun w hw => hI.T w (thw_3 w hw).1 (thw_3 w hw).2 args, thg_3⟩
set_option maxRecDepth 100000 in
theorem thw_4 : ∀ w ∈ vx_atS "ShareVault" 155 "java/util/NoSuchElementException" ["java/lang/RuntimeException", "java/lang/Exception"], w ∈ lw_tbl ∧ mgood w = true := sorry
theorem thg_4 : ∀ w ∈ Cond.classLink "ShareVault" 151 "java/util/NoSuchElementException" :: Cond.initialized "java/util/NoSuchElementException" :: vx_atS "ShareVault" 155 "java/util/NoSuchElementException" ["java/lang/RuntimeException", "java/lang/Exception"], vx_ot w = true := by decide +kernel
theorem m_thw_4_X11_155 {w : WD} {s : State} {A : Nat → Prop} {H : Heap} {locs : List Loc} {M : Mem} {args : Array Value} (hI : mI w s A H locs M) : Bundle.fit (mXn 4) = true ∧ (∀ n ∈ ["java/lang/RuntimeException", "java/lang/Exception"], Bundle.fit n = true) ∧ (∀ w ∈ vx_atS "ShareVault" 155 (mXn 4) ["java/lang/RuntimeException", "java/lang/Exception"], w.before args s = true) ∧ ∀ w ∈ Cond.classLink "ShareVault" 151 (mXn 4) :: Cond.initialized (mXn 4) :: vx_atS "ShareVault" 155 (mXn 4) ["java/lang/RuntimeException", "java/lang/Exception"], vx_ot w = true := ⟨by decide +kernel, by decide +kernel, fun w hw => hI.T w (thw_4 w hw).1 (thw_4 w hw).2 args, thg_4⟩
set_option maxRecDepth 100000 in
theorem thw_5 : ∀ w ∈ vx_atS "ShareVault" 313 "java/lang/IllegalStateException" ["java/lang/RuntimeException", "java/lang/Exception"], w ∈ lw_tbl ∧ mgood w = true := by decide +kernel
theorem thg_5 : ∀ w ∈ Cond.classLink "ShareVault" 309 "java/lang/IllegalStateException" :: Cond.initialized "java/lang/IllegalStateException" :: vx_atS "ShareVault" 313 "java/lang/IllegalStateException" ["java/lang/RuntimeException", "java/lang/Exception"], vx_ot w = true := by decide +kernel
theorem m_thw_5_X11_313 {w : WD} {s : State} {A : Nat → Prop} {H : Heap} {locs : List Loc} {M : Mem} {args : Array Value} (hI : mI w s A H locs M) : Bundle.fit (mXn 5) = true ∧ (∀ n ∈ ["java/lang/RuntimeException", "java/lang/Exception"], Bundle.fit n = true) ∧ (∀ w ∈ vx_atS "ShareVault" 313 (mXn 5) ["java/lang/RuntimeException", "java/lang/Exception"], w.before args s = true) ∧ ∀ w ∈ Cond.classLink "ShareVault" 309 (mXn 5) :: Cond.initialized (mXn 5) :: vx_atS "ShareVault" 313 (mXn 5) ["java/lang/RuntimeException", "java/lang/Exception"], vx_ot w = true := ⟨by decide +kernel, by decide +kernel, fun w hw => hI.T w (thw_5 w hw).1 (thw_5 w hw).2 args, thg_5⟩
set_option maxRecDepth 100000 in
theorem thw_6 : ∀ w ∈ vx_atS "ShareVault" 291 "java/lang/ArithmeticException" ["java/lang/RuntimeException", "java/lang/Exception"], w ∈ lw_tbl ∧ mgood w = true := by decide +kernel
theorem thg_6 : ∀ w ∈ Cond.classLink "ShareVault" 287 "java/lang/ArithmeticException" :: Cond.initialized "java/lang/ArithmeticException" :: vx_atS "ShareVault" 291 "java/lang/ArithmeticException" ["java/lang/RuntimeException", "java/lang/Exception"], vx_ot w = true := by decide +kernel
theorem m_thw_6_X11_291 {w : WD} {s : State} {A : Nat → Prop} {H : Heap} {locs : List Loc} {M : Mem} {args : Array Value} (hI : mI w s A H locs M) : Bundle.fit (mXn 6) = true ∧ (∀ n ∈ ["java/lang/RuntimeException", "java/lang/Exception"], Bundle.fit n = true) ∧ (∀ w ∈ vx_atS "ShareVault" 291 (mXn 6) ["java/lang/RuntimeException", "java/lang/Exception"], w.before args s = true) ∧ ∀ w ∈ Cond.classLink "ShareVault" 287 (mXn 6) :: Cond.initialized (mXn 6) :: vx_atS "ShareVault" 291 (mXn 6) ["java/lang/RuntimeException", "java/lang/Exception"], vx_ot w = true := ⟨by decide +kernel, by decide +kernel, fun w hw => hI.T w (thw_6 w hw).1 (thw_6 w hw).2 args, thg_6⟩
