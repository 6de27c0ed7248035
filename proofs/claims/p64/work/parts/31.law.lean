abbrev rmL_sum : Room := { frames := 11, cells := 120, slots := 720, locals := 204 }
theorem kb_L_sum {R : Room} {s : State} {args : Array Value} {own : String} {idx : Nat} (hT : mT s) (hlink : (Cond.methodLink own idx yL_sum).before args s = true) (h1 : rmL_sum.frames + 1 ≤ R.frames) (h2 : 8 + (4 + 11) + rmL_sum.locals ≤ R.locals) : CallB R s args own idx yL_sum cL_sum 4 (some .long) [Cond.code yL_sum cL_sum 4 (some .long)] rmL_sum 120 720 1 := m_callB hT kc_L_sum ki_L_sum hlink (by decide +kernel) ⟨rfl, rfl, h1, h2⟩
set_option maxHeartbeats 4000000 in
set_option maxRecDepth 100000 in
theorem c_L_sum (l : Launch) (w : WD) (hsf : l.stackTraces = false) (sz : Nat)  (M : Mem) (r : Int64) (hf : f_L_sum  M = some r) : kMet l yL_sum [Cond.code yL_sum cL_sum 4 (some .long)] rmL_sum w sz M [.ref (w.1 12 16)] (some (.long r)) M 120 720 := by
  refine k_of (by decide) (Nat.le_of_ble_eq_true rfl) ?_
  intro p e s m args below meth c hx hb hr hml hown hlk hI ls hl
  have hl : lv_has ls 4 [(0, .ref (w.1 12 16))] := hl
  unfold f_L_sum at hf
  refine lv_ldc2 (v := 1009) hx hb hown (q1361 hI.T) dL_sum_0 ?_
  refine lv_aload_n hx hb dL_sum_3 rfl (lv_at hl 0 rfl) ?_
  obtain ⟨r1, hc, hf⟩ := mbp_e hf
  refine m_callV (As := []) (rest := [.long (1009 : Int64)]) hx hb hml hown hI (c_X11_hour l w s.heap.size M _ hc) (kb_X11_hour hI.T (q331 hI.T) (Nat.le_of_ble_eq_true rfl) (Nat.le_of_ble_eq_true rfl)) (q332 hI.T) (q333 hI.T) (m_recv (g := 12) (i := 16) hI (mokX (by decide) (by decide)) rfl rfl) rfl hl.1 (Nat.le_of_ble_eq_true rfl) dL_sum_4 ⟨Nat.le_of_ble_eq_true rfl, Nat.le_of_ble_eq_true rfl⟩ (fun H locs hI => ?_)
  refine lv_i2l hx hb dL_sum_7 rfl ?_
  refine lv_lmul hx hb dL_sum_8 ?_
  refine lv_ldc2 (v := 101) hx hb hown (q1362 hI.T) dL_sum_9 ?_
  refine lv_aload_n hx hb dL_sum_12 rfl (lv_at hl 0 rfl) ?_
  obtain ⟨r2, hc, hf⟩ := mbp_e hf
  refine m_callV (As := []) (rest := [.long (101 : Int64), .long ((1009 : Int64) * r1.toInt64)]) hx hb hml hown hI (c_X11_alarmCount l w H.size M _ hc) (kb_X11_alarmCount hI.T (q355 hI.T) (Nat.le_of_ble_eq_true rfl) (Nat.le_of_ble_eq_true rfl)) (q356 hI.T) (q357 hI.T) (m_recv (g := 12) (i := 16) hI (mokX (by decide) (by decide)) rfl rfl) rfl hl.1 (Nat.le_of_ble_eq_true rfl) dL_sum_13 ⟨Nat.le_of_ble_eq_true rfl, Nat.le_of_ble_eq_true rfl⟩ (fun H locs hI => ?_)
  refine lv_i2l hx hb dL_sum_16 rfl ?_
  refine lv_lmul hx hb dL_sum_17 ?_
  refine lv_ladd hx hb dL_sum_18 ?_
  refine lv_ldc2 (v := 31) hx hb hown (q1363 hI.T) dL_sum_19 ?_
  refine lv_aload_n hx hb dL_sum_22 rfl (lv_at hl 0 rfl) ?_
  obtain ⟨r3, hc, hf⟩ := mbp_e hf
  refine m_callV (As := []) (rest := [.long (31 : Int64), .long (((1009 : Int64) * r1.toInt64) + ((101 : Int64) * r2.toInt64))]) hx hb hml hown hI (c_X11_openingCount l w H.size M _ hc) (kb_X11_openingCount hI.T (q359 hI.T) (Nat.le_of_ble_eq_true rfl) (Nat.le_of_ble_eq_true rfl)) (q360 hI.T) (q361 hI.T) (m_recv (g := 12) (i := 16) hI (mokX (by decide) (by decide)) rfl rfl) rfl hl.1 (Nat.le_of_ble_eq_true rfl) dL_sum_23 ⟨Nat.le_of_ble_eq_true rfl, Nat.le_of_ble_eq_true rfl⟩ (fun H locs hI => ?_)
  refine lv_i2l hx hb dL_sum_26 rfl ?_
  refine lv_lmul hx hb dL_sum_27 ?_
  refine lv_ladd hx hb dL_sum_28 ?_
  refine lv_ldc2 (v := 7) hx hb hown (q1364 hI.T) dL_sum_29 ?_
  refine lv_aload_n hx hb dL_sum_32 rfl (lv_at hl 0 rfl) ?_
  obtain ⟨r4, hc, hf⟩ := mbp_e hf
  refine m_callV (As := []) (rest := [.long (7 : Int64), .long ((((1009 : Int64) * r1.toInt64) + ((101 : Int64) * r2.toInt64)) + ((31 : Int64) * r3.toInt64))]) hx hb hml hown hI (c_X11_lockedHours l w H.size M _ hc) (kb_X11_lockedHours hI.T (q347 hI.T) (Nat.le_of_ble_eq_true rfl) (Nat.le_of_ble_eq_true rfl)) (q348 hI.T) (q349 hI.T) (m_recv (g := 12) (i := 16) hI (mokX (by decide) (by decide)) rfl rfl) rfl hl.1 (Nat.le_of_ble_eq_true rfl) dL_sum_33 ⟨Nat.le_of_ble_eq_true rfl, Nat.le_of_ble_eq_true rfl⟩ (fun H locs hI => ?_)
  refine lv_i2l hx hb dL_sum_36 rfl ?_
  refine lv_lmul hx hb dL_sum_37 ?_
  refine lv_ladd hx hb dL_sum_38 ?_
  refine lv_aload_n hx hb dL_sum_39 rfl (lv_at hl 0 rfl) ?_
  obtain ⟨r5, hc, hf⟩ := mbp_e hf
  refine m_callV (As := []) (rest := [.long (((((1009 : Int64) * r1.toInt64) + ((101 : Int64) * r2.toInt64)) + ((31 : Int64) * r3.toInt64)) + ((7 : Int64) * r4.toInt64))]) hx hb hml hown hI (c_X11_failedAttempts l w H.size M _ hc) (kb_X11_failedAttempts hI.T (q351 hI.T) (Nat.le_of_ble_eq_true rfl) (Nat.le_of_ble_eq_true rfl)) (q352 hI.T) (q353 hI.T) (m_recv (g := 12) (i := 16) hI (mokX (by decide) (by decide)) rfl rfl) rfl hl.1 (Nat.le_of_ble_eq_true rfl) dL_sum_40 ⟨Nat.le_of_ble_eq_true rfl, Nat.le_of_ble_eq_true rfl⟩ (fun H locs hI => ?_)
  refine lv_i2l hx hb dL_sum_43 rfl ?_
  refine lv_ladd hx hb dL_sum_44 ?_
  refine k_topl (fun x6 ex6 => ?_)
  have hf := mlet_s ex6 hf
  refine lv_lstore_n (lv' := [(1, .long x6), (0, .ref (w.1 12 16))]) hx hb dL_sum_45 rfl hl (by decide) rfl (fun ls hl => ?_)
  refine lv_ldc2 (v := 31) hx hb hown (q1363 hI.T) dL_sum_46 ?_
  refine lv_lload_n hx hb dL_sum_49 rfl (lv_at hl 0 rfl) ?_
  refine lv_lmul hx hb dL_sum_50 ?_
  refine lv_aload_n hx hb dL_sum_51 rfl (lv_at hl 1 rfl) ?_
  obtain ⟨r7, hc, hf⟩ := mbp_e hf
  refine k_callH (As := [.ref (w.1 12 16)]) (rest := [.long ((31 : Int64) * x6)]) hx hb hml hown hI (c_L_threshold l w hsf H.size M _ hc) (k_cw (n := 1) hI.T kc_L_threshold ki_L_threshold (q378 hI.T) (q379 hI.T) (by decide +kernel) ⟨rfl, rfl, Nat.le_of_ble_eq_true rfl, Nat.le_of_ble_eq_true rfl⟩) rfl hl.1 (Nat.le_of_ble_eq_true rfl) dL_sum_52 ⟨Nat.le_of_ble_eq_true rfl, Nat.le_of_ble_eq_true rfl⟩ (fun H locs hI => ?_)
  refine lv_i2l hx hb dL_sum_55 rfl ?_
  refine lv_ladd hx hb dL_sum_56 ?_
  refine lv_aload_n hx hb dL_sum_57 rfl (lv_at hl 1 rfl) ?_
  obtain ⟨r8, hc, hf⟩ := mbp_e hf
  refine m_callV (As := []) (rest := [.long (((31 : Int64) * x6) + r7.toInt64)]) hx hb hml hown hI (c_X11_isOpen l w H.size M _ hc) (kb_X11_isOpen hI.T (q343 hI.T) (Nat.le_of_ble_eq_true rfl) (Nat.le_of_ble_eq_true rfl)) (q344 hI.T) (q345 hI.T) (m_recv (g := 12) (i := 16) hI (mokX (by decide) (by decide)) rfl rfl) rfl hl.1 (Nat.le_of_ble_eq_true rfl) dL_sum_58 ⟨Nat.le_of_ble_eq_true rfl, Nat.le_of_ble_eq_true rfl⟩ (fun H locs hI => ?_)
  obtain ⟨k71_11, ek71_11, hf⟩ := mlet_e hf
  have hj71_11 : ∀ (x10 : Int64) (H : Heap) (locs : List Loc) (ls : Array Slot), k71_11 x10 = some r → mI w s (mA w s.heap.size) H locs M → lv_has ls 4 [(0, .ref (w.1 12 16))] → W p l e rmL_sum s m args below meth c H locs 1 6 (MQ below (mQ w s.heap.size (some (.long r)) M) args s 120 720 (mA w s.heap.size)) (F0 m 71 ls [.long x10, .long (((31 : Int64) * x6) + r7.toInt64)]) := by
    intro x10 H locs ls hf hI hl
    rw [ek71_11] at hf
    try dsimp only at hf
    refine lv_ladd hx hb dL_sum_71 ?_
    refine k_topl (fun x12 ex12 => ?_)
    have hf := mlet_s ex12 hf
    refine lv_lstore_n (lv' := [(1, .long x12), (0, .ref (w.1 12 16))]) hx hb dL_sum_72 rfl hl (by decide) rfl (fun ls hl => ?_)
    refine lv_iconst (v := 0) hx hb dL_sum_73 (by decide) ?_
    refine lv_istore_n (lv' := [(3, .int (0 : Int32)), (1, .long x12), (0, .ref (w.1 12 16))]) hx hb dL_sum_74 rfl hl (by decide) rfl (fun ls hl => ?_)
    have hL75 : ∀ (n : Nat) (x13 : Int64) (x14 : Int32) (kk : Int64 → Option Int64) (H : Heap) (locs : List Loc) (ls : Array Slot) (kc75 ks75 : Nat), kc75 + n * 5 ≤ 46 → ks75 + n * 30 ≤ 276 → f_L_sum_L75 M n x13 x14 kk = some r → mI w s (mA w s.heap.size) H locs M → lv_has ls 4 [(0, .ref (w.1 12 16)), (1, .long x13), (3, .int x14)] → (∀ (x13 : Int64) (H : Heap) (locs : List Loc) (ls : Array Slot), kk x13 = some r → mI w s (mA w s.heap.size) H locs M → lv_has ls 4 [(0, .ref (w.1 12 16)), (1, .long x13)] → W p l e rmL_sum s m args below meth c H locs 46 276 (MQ below (mQ w s.heap.size (some (.long r)) M) args s 120 720 (mA w s.heap.size)) (F0 m 124 ls [])) → W p l e rmL_sum s m args below meth c H locs kc75 ks75 (MQ below (mQ w s.heap.size (some (.long r)) M) args s 120 720 (mA w s.heap.size)) (F0 m 75 ls []) := by
      intro n
      induction n with
      | zero => intro x13 x14 kk H locs ls kc75 ks75 hkc hks hf hI hl hk; rw [f_L_sum_L75.eq_1] at hf; cases hf
      | succ n ih75 =>
        intro x13 x14 kk H locs ls kc75 ks75 hkc hks hf hI hl hk
        rw [f_L_sum_L75.eq_2] at hf
        refine lv_iload_n hx hb dL_sum_75 rfl (lv_at hl 2 rfl) ?_
        refine lv_aload_n hx hb dL_sum_76 rfl (lv_at hl 0 rfl) ?_
        obtain ⟨r15, hc, hf⟩ := mbp_e hf
        refine m_callV (As := []) (rest := [.int x14]) hx hb hml hown hI (c_X11_holderCount l w H.size M _ hc) (kb_X11_holderCount hI.T (q335 hI.T) (Nat.le_of_ble_eq_true rfl) (Nat.le_of_ble_eq_true rfl)) (q336 hI.T) (q337 hI.T) (m_recv (g := 12) (i := 16) hI (mokX (by decide) (by decide)) rfl rfl) rfl hl.1 (Nat.le_of_ble_eq_true rfl) dL_sum_77 ⟨Nat.le_trans (m := 46) (by omega) (Nat.le_of_ble_eq_true rfl), Nat.le_trans (m := 276) (by omega) (Nat.le_of_ble_eq_true rfl)⟩ (fun H locs hI => ?_)
        refine lv_icmp_ge (tgt := 124) hx hb dL_sum_80 (by decide) (fun c16 => ?_) (fun c16 => ?_)
        · have hf := (if_pos c16).symm.trans hf
          refine W.widen (k := 46) (n := 276) (by omega) (by omega) ?_
          exact hk x13 H _ _ hf hI (lv_sub hl [0, 1] rfl)
        · have hf := (if_neg c16).symm.trans hf
          refine lv_ldc2 (v := 31) hx hb hown (q1363 hI.T) dL_sum_83 ?_
          refine lv_lload_n hx hb dL_sum_86 rfl (lv_at hl 1 rfl) ?_
          refine lv_lmul hx hb dL_sum_87 ?_
          refine lv_ldc2 (v := 101) hx hb hown (q1362 hI.T) dL_sum_88 ?_
          refine lv_aload_n hx hb dL_sum_91 rfl (lv_at hl 0 rfl) ?_
          refine lv_iload_n hx hb dL_sum_92 rfl (lv_at hl 2 rfl) ?_
          obtain ⟨r17, hc, hf⟩ := mbp_e hf
          refine k_callH (As := [.ref (w.1 12 16), .int x14]) (rest := [.long (101 : Int64), .long ((31 : Int64) * x13)]) hx hb hml hown hI (c_L_share l w hsf H.size x14 M _ hc) (k_cw (n := 2) hI.T kc_L_share ki_L_share (q1365 hI.T) (q1366 hI.T) (by decide +kernel) ⟨rfl, rfl, Nat.le_of_ble_eq_true rfl, Nat.le_of_ble_eq_true rfl⟩) rfl hl.1 (Nat.le_of_ble_eq_true rfl) dL_sum_93 ⟨Nat.le_trans (m := 46) (by omega) (Nat.le_of_ble_eq_true rfl), Nat.le_trans (m := 276) (by omega) (Nat.le_of_ble_eq_true rfl)⟩ (fun H locs hI => ?_)
          refine lv_i2l hx hb dL_sum_96 rfl ?_
          refine lv_lmul hx hb dL_sum_97 ?_
          refine lv_ladd hx hb dL_sum_98 ?_
          refine lv_ldc2 (v := 7) hx hb hown (q1364 hI.T) dL_sum_99 ?_
          refine lv_aload_n hx hb dL_sum_102 rfl (lv_at hl 0 rfl) ?_
          refine lv_iload_n hx hb dL_sum_103 rfl (lv_at hl 2 rfl) ?_
          obtain ⟨r18, hc, hf⟩ := mbp_e hf
          refine k_callH (As := [.ref (w.1 12 16), .int x14]) (rest := [.long (7 : Int64), .long (((31 : Int64) * x13) + ((101 : Int64) * r17.toInt64))]) hx hb hml hown hI (c_L_isCorrect l w hsf H.size x14 M _ hc) (k_cw (n := 2) hI.T kc_L_isCorrect ki_L_isCorrect (q699 hI.T) (q700 hI.T) (by decide +kernel) ⟨rfl, rfl, Nat.le_of_ble_eq_true rfl, Nat.le_of_ble_eq_true rfl⟩) rfl hl.1 (Nat.le_of_ble_eq_true rfl) dL_sum_104 ⟨Nat.le_trans (m := 46) (by omega) (Nat.le_of_ble_eq_true rfl), Nat.le_trans (m := 276) (by omega) (Nat.le_of_ble_eq_true rfl)⟩ (fun H locs hI => ?_)
          refine lv_i2l hx hb dL_sum_107 rfl ?_
          refine lv_lmul hx hb dL_sum_108 ?_
          refine lv_ladd hx hb dL_sum_109 ?_
          refine lv_aload_n hx hb dL_sum_110 rfl (lv_at hl 0 rfl) ?_
          refine lv_iload_n hx hb dL_sum_111 rfl (lv_at hl 2 rfl) ?_
          obtain ⟨r19, hc, hf⟩ := mbp_e hf
          refine k_callH (As := [.ref (w.1 12 16), .int x14]) (rest := [.long ((((31 : Int64) * x13) + ((101 : Int64) * r17.toInt64)) + ((7 : Int64) * r18.toInt64))]) hx hb hml hown hI (c_L_isPresented l w hsf H.size x14 M _ hc) (k_cw (n := 2) hI.T kc_L_isPresented ki_L_isPresented (q462 hI.T) (q463 hI.T) (by decide +kernel) ⟨rfl, rfl, Nat.le_of_ble_eq_true rfl, Nat.le_of_ble_eq_true rfl⟩) rfl hl.1 (Nat.le_of_ble_eq_true rfl) dL_sum_112 ⟨Nat.le_trans (m := 46) (by omega) (Nat.le_of_ble_eq_true rfl), Nat.le_trans (m := 276) (by omega) (Nat.le_of_ble_eq_true rfl)⟩ (fun H locs hI => ?_)
          refine lv_i2l hx hb dL_sum_115 rfl ?_
          refine lv_ladd hx hb dL_sum_116 ?_
          refine k_topl (fun x20 ex20 => ?_)
          have hf := mlet_s ex20 hf
          refine lv_lstore_n (lv' := [(1, .long x20), (0, .ref (w.1 12 16)), (3, .int x14)]) hx hb dL_sum_117 rfl hl (by decide) rfl (fun ls hl => ?_)
          obtain ⟨x21, ex21, hf⟩ := mlet_e hf
          refine lv_iinc (v := x21) (lv' := [(3, .int x21), (1, .long x20), (0, .ref (w.1 12 16))]) hx hb dL_sum_118 hl (k := 2) rfl (by rw [ex21]; rfl) (by decide) rfl (fun ls hl => ?_)
          refine lv_goto (tgt := 75) hx hb dL_sum_121 (by decide) ?_
          exact ih75 x20 x21 kk H _ _ _ _ (by omega) (by omega) hf hI (lv_sub hl [2, 1, 0] rfl) hk
    refine hL75 9 x12 (0 : Int32) _ _ _ _ _ _ (Nat.le_of_ble_eq_true rfl) (Nat.le_of_ble_eq_true rfl) hf hI (lv_sub hl [2, 1, 0] rfl) ?_
    intro x22 H locs ls hf hI hl
    try dsimp only at hf
    refine lv_iconst (v := 0) hx hb dL_sum_124 (by decide) ?_
    refine lv_istore_n (lv' := [(3, .int (0 : Int32)), (0, .ref (w.1 12 16)), (1, .long x22)]) hx hb dL_sum_125 rfl hl (by decide) rfl (fun ls hl => ?_)
    have hL126 : ∀ (n : Nat) (x23 : Int64) (x24 : Int32) (kk : Int64 → Option Int64) (H : Heap) (locs : List Loc) (ls : Array Slot) (kc126 ks126 : Nat), kc126 + n * 1 ≤ 55 → ks126 + n * 6 ≤ 330 → f_L_sum_L126 M n x23 x24 kk = some r → mI w s (mA w s.heap.size) H locs M → lv_has ls 4 [(0, .ref (w.1 12 16)), (1, .long x23), (3, .int x24)] → (∀ (x23 : Int64) (H : Heap) (locs : List Loc) (ls : Array Slot), kk x23 = some r → mI w s (mA w s.heap.size) H locs M → lv_has ls 4 [(0, .ref (w.1 12 16)), (1, .long x23)] → W p l e rmL_sum s m args below meth c H locs 55 330 (MQ below (mQ w s.heap.size (some (.long r)) M) args s 120 720 (mA w s.heap.size)) (F0 m 153 ls [])) → W p l e rmL_sum s m args below meth c H locs kc126 ks126 (MQ below (mQ w s.heap.size (some (.long r)) M) args s 120 720 (mA w s.heap.size)) (F0 m 126 ls []) := by
      intro n
      induction n with
      | zero => intro x23 x24 kk H locs ls kc126 ks126 hkc hks hf hI hl hk; rw [f_L_sum_L126.eq_1] at hf; cases hf
      | succ n ih126 =>
        intro x23 x24 kk H locs ls kc126 ks126 hkc hks hf hI hl hk
        rw [f_L_sum_L126.eq_2] at hf
        refine lv_iload_n hx hb dL_sum_126 rfl (lv_at hl 2 rfl) ?_
        refine lv_aload_n hx hb dL_sum_127 rfl (lv_at hl 0 rfl) ?_
        obtain ⟨r25, hc, hf⟩ := mbp_e hf
        refine m_callV (As := []) (rest := [.int x24]) hx hb hml hown hI (c_X11_presentedCount l w H.size M _ hc) (kb_X11_presentedCount hI.T (q339 hI.T) (Nat.le_of_ble_eq_true rfl) (Nat.le_of_ble_eq_true rfl)) (q340 hI.T) (q341 hI.T) (m_recv (g := 12) (i := 16) hI (mokX (by decide) (by decide)) rfl rfl) rfl hl.1 (Nat.le_of_ble_eq_true rfl) dL_sum_128 ⟨Nat.le_trans (m := 55) (by omega) (Nat.le_of_ble_eq_true rfl), Nat.le_trans (m := 330) (by omega) (Nat.le_of_ble_eq_true rfl)⟩ (fun H locs hI => ?_)
        refine lv_icmp_ge (tgt := 153) hx hb dL_sum_131 (by decide) (fun c26 => ?_) (fun c26 => ?_)
        · have hf := (if_pos c26).symm.trans hf
          refine W.widen (k := 55) (n := 330) (by omega) (by omega) ?_
          exact hk x23 H _ _ hf hI (lv_sub hl [0, 1] rfl)
        · have hf := (if_neg c26).symm.trans hf
          refine lv_ldc2 (v := 31) hx hb hown (q1363 hI.T) dL_sum_134 ?_
          refine lv_lload_n hx hb dL_sum_137 rfl (lv_at hl 1 rfl) ?_
          refine lv_lmul hx hb dL_sum_138 ?_
          refine lv_aload_n hx hb dL_sum_139 rfl (lv_at hl 0 rfl) ?_
          refine lv_iload_n hx hb dL_sum_140 rfl (lv_at hl 2 rfl) ?_
          obtain ⟨r27, hc, hf⟩ := mbp_e hf
          refine k_callH (As := [.ref (w.1 12 16), .int x24]) (rest := [.long ((31 : Int64) * x23)]) hx hb hml hown hI (c_L_presentedAt l w hsf H.size x24 M _ hc) (k_cw (n := 2) hI.T kc_L_presentedAt ki_L_presentedAt (q518 hI.T) (q519 hI.T) (by decide +kernel) ⟨rfl, rfl, Nat.le_of_ble_eq_true rfl, Nat.le_of_ble_eq_true rfl⟩) rfl hl.1 (Nat.le_of_ble_eq_true rfl) dL_sum_141 ⟨Nat.le_trans (m := 55) (by omega) (Nat.le_of_ble_eq_true rfl), Nat.le_trans (m := 330) (by omega) (Nat.le_of_ble_eq_true rfl)⟩ (fun H locs hI => ?_)
          refine lv_i2l hx hb dL_sum_144 rfl ?_
          refine lv_ladd hx hb dL_sum_145 ?_
          refine k_topl (fun x28 ex28 => ?_)
          have hf := mlet_s ex28 hf
          refine lv_lstore_n (lv' := [(1, .long x28), (0, .ref (w.1 12 16)), (3, .int x24)]) hx hb dL_sum_146 rfl hl (by decide) rfl (fun ls hl => ?_)
          obtain ⟨x29, ex29, hf⟩ := mlet_e hf
          refine lv_iinc (v := x29) (lv' := [(3, .int x29), (1, .long x28), (0, .ref (w.1 12 16))]) hx hb dL_sum_147 hl (k := 2) rfl (by rw [ex29]; rfl) (by decide) rfl (fun ls hl => ?_)
          refine lv_goto (tgt := 126) hx hb dL_sum_150 (by decide) ?_
          exact ih126 x28 x29 kk H _ _ _ _ (by omega) (by omega) hf hI (lv_sub hl [2, 1, 0] rfl) hk
    refine hL126 9 x22 (0 : Int32) _ _ _ _ _ _ (Nat.le_of_ble_eq_true rfl) (Nat.le_of_ble_eq_true rfl) hf hI (lv_sub hl [1, 2, 0] rfl) ?_
    intro x30 H locs ls hf hI hl
    try dsimp only at hf
    refine lv_iconst (v := 0) hx hb dL_sum_153 (by decide) ?_
    refine lv_istore_n (lv' := [(3, .int (0 : Int32)), (0, .ref (w.1 12 16)), (1, .long x30)]) hx hb dL_sum_154 rfl hl (by decide) rfl (fun ls hl => ?_)
    have hL155 : ∀ (n : Nat) (x31 : Int64) (x32 : Int32) (kk : Int64 → Option Int64) (H : Heap) (locs : List Loc) (ls : Array Slot) (kc155 ks155 : Nat), kc155 + n * 2 ≤ 73 → ks155 + n * 12 ≤ 438 → f_L_sum_L155 M n x31 x32 kk = some r → mI w s (mA w s.heap.size) H locs M → lv_has ls 4 [(0, .ref (w.1 12 16)), (1, .long x31), (3, .int x32)] → (∀ (x31 : Int64) (H : Heap) (locs : List Loc) (ls : Array Slot), kk x31 = some r → mI w s (mA w s.heap.size) H locs M → lv_has ls 4 [(0, .ref (w.1 12 16)), (1, .long x31)] → W p l e rmL_sum s m args below meth c H locs 73 438 (MQ below (mQ w s.heap.size (some (.long r)) M) args s 120 720 (mA w s.heap.size)) (F0 m 191 ls [])) → W p l e rmL_sum s m args below meth c H locs kc155 ks155 (MQ below (mQ w s.heap.size (some (.long r)) M) args s 120 720 (mA w s.heap.size)) (F0 m 155 ls []) := by
      intro n
      induction n with
      | zero => intro x31 x32 kk H locs ls kc155 ks155 hkc hks hf hI hl hk; rw [f_L_sum_L155.eq_1] at hf; cases hf
      | succ n ih155 =>
        intro x31 x32 kk H locs ls kc155 ks155 hkc hks hf hI hl hk
        rw [f_L_sum_L155.eq_2] at hf
        refine lv_iload_n hx hb dL_sum_155 rfl (lv_at hl 2 rfl) ?_
        refine lv_bipush (v := 8) hx hb dL_sum_156 (by decide) ?_
        refine lv_icmp_ge (tgt := 191) hx hb dL_sum_158 (by decide) (fun c33 => ?_) (fun c33 => ?_)
        · have hf := (if_pos c33).symm.trans hf
          refine W.widen (k := 73) (n := 438) (by omega) (by omega) ?_
          exact hk x31 H _ _ hf hI (lv_sub hl [0, 1] rfl)
        · have hf := (if_neg c33).symm.trans hf
          refine lv_ldc2 (v := 31) hx hb hown (q1363 hI.T) dL_sum_161 ?_
          refine lv_lload_n hx hb dL_sum_164 rfl (lv_at hl 1 rfl) ?_
          refine lv_lmul hx hb dL_sum_165 ?_
          refine lv_ldc2 (v := 31) hx hb hown (q1363 hI.T) dL_sum_166 ?_
          refine lv_aload_n hx hb dL_sum_169 rfl (lv_at hl 0 rfl) ?_
          refine lv_iload_n hx hb dL_sum_170 rfl (lv_at hl 2 rfl) ?_
          obtain ⟨r34, hc, hf⟩ := mbp_e hf
          refine k_callH (As := [.ref (w.1 12 16), .int x32]) (rest := [.long (31 : Int64), .long ((31 : Int64) * x31)]) hx hb hml hown hI (c_L_noise l w hsf H.size x32 M _ hc) (k_cw (n := 2) hI.T kc_L_noise ki_L_noise (q1372 hI.T) (q1373 hI.T) (by decide +kernel) ⟨rfl, rfl, Nat.le_of_ble_eq_true rfl, Nat.le_of_ble_eq_true rfl⟩) rfl hl.1 (Nat.le_of_ble_eq_true rfl) dL_sum_171 ⟨Nat.le_trans (m := 73) (by omega) (Nat.le_of_ble_eq_true rfl), Nat.le_trans (m := 438) (by omega) (Nat.le_of_ble_eq_true rfl)⟩ (fun H locs hI => ?_)
          refine lv_i2l hx hb dL_sum_174 rfl ?_
          refine lv_lmul hx hb dL_sum_175 ?_
          refine lv_ladd hx hb dL_sum_176 ?_
          refine lv_aload_n hx hb dL_sum_177 rfl (lv_at hl 0 rfl) ?_
          refine lv_iload_n hx hb dL_sum_178 rfl (lv_at hl 2 rfl) ?_
          obtain ⟨r35, hc, hf⟩ := mbp_e hf
          refine k_callH (As := [.ref (w.1 12 16), .int x32]) (rest := [.long (((31 : Int64) * x31) + ((31 : Int64) * r34.toInt64))]) hx hb hml hown hI (c_L_alarmsOf l w hsf H.size x32 M _ hc) (k_cw (n := 2) hI.T kc_L_alarmsOf ki_L_alarmsOf (q1379 hI.T) (q1380 hI.T) (by decide +kernel) ⟨rfl, rfl, Nat.le_of_ble_eq_true rfl, Nat.le_of_ble_eq_true rfl⟩) rfl hl.1 (Nat.le_of_ble_eq_true rfl) dL_sum_179 ⟨Nat.le_trans (m := 73) (by omega) (Nat.le_of_ble_eq_true rfl), Nat.le_trans (m := 438) (by omega) (Nat.le_of_ble_eq_true rfl)⟩ (fun H locs hI => ?_)
          refine lv_i2l hx hb dL_sum_182 rfl ?_
          refine lv_ladd hx hb dL_sum_183 ?_
          refine k_topl (fun x36 ex36 => ?_)
          have hf := mlet_s ex36 hf
          refine lv_lstore_n (lv' := [(1, .long x36), (0, .ref (w.1 12 16)), (3, .int x32)]) hx hb dL_sum_184 rfl hl (by decide) rfl (fun ls hl => ?_)
          obtain ⟨x37, ex37, hf⟩ := mlet_e hf
          refine lv_iinc (v := x37) (lv' := [(3, .int x37), (1, .long x36), (0, .ref (w.1 12 16))]) hx hb dL_sum_185 hl (k := 2) rfl (by rw [ex37]; rfl) (by decide) rfl (fun ls hl => ?_)
          refine lv_goto (tgt := 155) hx hb dL_sum_188 (by decide) ?_
          exact ih155 x36 x37 kk H _ _ _ _ (by omega) (by omega) hf hI (lv_sub hl [2, 1, 0] rfl) hk
    refine hL155 9 x30 (0 : Int32) _ _ _ _ _ _ (Nat.le_of_ble_eq_true rfl) (Nat.le_of_ble_eq_true rfl) hf hI (lv_sub hl [1, 2, 0] rfl) ?_
    intro x38 H locs ls hf hI hl
    try dsimp only at hf
    refine lv_iconst (v := 0) hx hb dL_sum_191 (by decide) ?_
    refine lv_istore_n (lv' := [(3, .int (0 : Int32)), (0, .ref (w.1 12 16)), (1, .long x38)]) hx hb dL_sum_192 rfl hl (by decide) rfl (fun ls hl => ?_)
    have hL193 : ∀ (n : Nat) (x39 : Int64) (x40 : Int32) (kk : Int64 → Option Int64) (H : Heap) (locs : List Loc) (ls : Array Slot) (kc193 ks193 : Nat), kc193 + n * 2 ≤ 81 → ks193 + n * 12 ≤ 486 → f_L_sum_L193 M n x39 x40 kk = some r → mI w s (mA w s.heap.size) H locs M → lv_has ls 4 [(0, .ref (w.1 12 16)), (1, .long x39), (3, .int x40)] → (∀ (x39 : Int64) (H : Heap) (locs : List Loc) (ls : Array Slot), kk x39 = some r → mI w s (mA w s.heap.size) H locs M → lv_has ls 4 [(0, .ref (w.1 12 16)), (1, .long x39)] → W p l e rmL_sum s m args below meth c H locs 81 486 (MQ below (mQ w s.heap.size (some (.long r)) M) args s 120 720 (mA w s.heap.size)) (F0 m 231 ls [])) → W p l e rmL_sum s m args below meth c H locs kc193 ks193 (MQ below (mQ w s.heap.size (some (.long r)) M) args s 120 720 (mA w s.heap.size)) (F0 m 193 ls []) := by
      intro n
      induction n with
      | zero => intro x39 x40 kk H locs ls kc193 ks193 hkc hks hf hI hl hk; rw [f_L_sum_L193.eq_1] at hf; cases hf
      | succ n ih193 =>
        intro x39 x40 kk H locs ls kc193 ks193 hkc hks hf hI hl hk
        rw [f_L_sum_L193.eq_2] at hf
        refine lv_iload_n hx hb dL_sum_193 rfl (lv_at hl 2 rfl) ?_
        refine lv_aload_n hx hb dL_sum_194 rfl (lv_at hl 0 rfl) ?_
        obtain ⟨r41, hc, hf⟩ := mbp_e hf
        refine m_callV (As := []) (rest := [.int x40]) hx hb hml hown hI (c_X11_guardCount l w H.size M _ hc) (kb_X11_guardCount hI.T (q676 hI.T) (Nat.le_of_ble_eq_true rfl) (Nat.le_of_ble_eq_true rfl)) (q677 hI.T) (q678 hI.T) (m_recv (g := 12) (i := 16) hI (mokX (by decide) (by decide)) rfl rfl) rfl hl.1 (Nat.le_of_ble_eq_true rfl) dL_sum_195 ⟨Nat.le_trans (m := 81) (by omega) (Nat.le_of_ble_eq_true rfl), Nat.le_trans (m := 486) (by omega) (Nat.le_of_ble_eq_true rfl)⟩ (fun H locs hI => ?_)
        refine lv_icmp_ge (tgt := 231) hx hb dL_sum_198 (by decide) (fun c42 => ?_) (fun c42 => ?_)
        · have hf := (if_pos c42).symm.trans hf
          refine W.widen (k := 81) (n := 486) (by omega) (by omega) ?_
          exact hk x39 H _ _ hf hI (lv_sub hl [0, 1] rfl)
        · have hf := (if_neg c42).symm.trans hf
          refine lv_ldc2 (v := 31) hx hb hown (q1363 hI.T) dL_sum_201 ?_
          refine lv_lload_n hx hb dL_sum_204 rfl (lv_at hl 1 rfl) ?_
          refine lv_lmul hx hb dL_sum_205 ?_
          refine lv_ldc2 (v := 31) hx hb hown (q1363 hI.T) dL_sum_206 ?_
          refine lv_aload_n hx hb dL_sum_209 rfl (lv_at hl 0 rfl) ?_
          refine lv_iload_n hx hb dL_sum_210 rfl (lv_at hl 2 rfl) ?_
          obtain ⟨r43, hc, hf⟩ := mbp_e hf
          refine k_callH (As := [.ref (w.1 12 16), .int x40]) (rest := [.long (31 : Int64), .long ((31 : Int64) * x39)]) hx hb hml hown hI (c_L_zoneOf l w hsf H.size x40 M _ hc) (k_cw (n := 2) hI.T kc_L_zoneOf ki_L_zoneOf (q680 hI.T) (q681 hI.T) (by decide +kernel) ⟨rfl, rfl, Nat.le_of_ble_eq_true rfl, Nat.le_of_ble_eq_true rfl⟩) rfl hl.1 (Nat.le_of_ble_eq_true rfl) dL_sum_211 ⟨Nat.le_trans (m := 81) (by omega) (Nat.le_of_ble_eq_true rfl), Nat.le_trans (m := 486) (by omega) (Nat.le_of_ble_eq_true rfl)⟩ (fun H locs hI => ?_)
          refine lv_i2l hx hb dL_sum_214 rfl ?_
          refine lv_lmul hx hb dL_sum_215 ?_
          refine lv_ladd hx hb dL_sum_216 ?_
          refine lv_aload_n hx hb dL_sum_217 rfl (lv_at hl 0 rfl) ?_
          refine lv_iload_n hx hb dL_sum_218 rfl (lv_at hl 2 rfl) ?_
          obtain ⟨r44, hc, hf⟩ := mbp_e hf
          refine k_callH (As := [.ref (w.1 12 16), .int x40]) (rest := [.long (((31 : Int64) * x39) + ((31 : Int64) * r43.toInt64))]) hx hb hml hown hI (c_L_isForwards l w hsf H.size x40 M _ hc) (k_cw (n := 2) hI.T kc_L_isForwards ki_L_isForwards (q1386 hI.T) (q1387 hI.T) (by decide +kernel) ⟨rfl, rfl, Nat.le_of_ble_eq_true rfl, Nat.le_of_ble_eq_true rfl⟩) rfl hl.1 (Nat.le_of_ble_eq_true rfl) dL_sum_219 ⟨Nat.le_trans (m := 81) (by omega) (Nat.le_of_ble_eq_true rfl), Nat.le_trans (m := 486) (by omega) (Nat.le_of_ble_eq_true rfl)⟩ (fun H locs hI => ?_)
          refine lv_i2l hx hb dL_sum_222 rfl ?_
          refine lv_ladd hx hb dL_sum_223 ?_
          refine k_topl (fun x45 ex45 => ?_)
          have hf := mlet_s ex45 hf
          refine lv_lstore_n (lv' := [(1, .long x45), (0, .ref (w.1 12 16)), (3, .int x40)]) hx hb dL_sum_224 rfl hl (by decide) rfl (fun ls hl => ?_)
          obtain ⟨x46, ex46, hf⟩ := mlet_e hf
          refine lv_iinc (v := x46) (lv' := [(3, .int x46), (1, .long x45), (0, .ref (w.1 12 16))]) hx hb dL_sum_225 hl (k := 2) rfl (by rw [ex46]; rfl) (by decide) rfl (fun ls hl => ?_)
          refine lv_goto (tgt := 193) hx hb dL_sum_228 (by decide) ?_
          exact ih193 x45 x46 kk H _ _ _ _ (by omega) (by omega) hf hI (lv_sub hl [2, 1, 0] rfl) hk
    refine hL193 4 x38 (0 : Int32) _ _ _ _ _ _ (Nat.le_of_ble_eq_true rfl) (Nat.le_of_ble_eq_true rfl) hf hI (lv_sub hl [1, 2, 0] rfl) ?_
    intro x47 H locs ls hf hI hl
    try dsimp only at hf
    refine lv_iconst (v := 0) hx hb dL_sum_231 (by decide) ?_
    refine lv_istore_n (lv' := [(3, .int (0 : Int32)), (0, .ref (w.1 12 16)), (1, .long x47)]) hx hb dL_sum_232 rfl hl (by decide) rfl (fun ls hl => ?_)
    have hL233 : ∀ (n : Nat) (x48 : Int64) (x49 : Int32) (kk : Int64 → Option Int64) (H : Heap) (locs : List Loc) (ls : Array Slot) (kc233 ks233 : Nat), kc233 + n * 3 ≤ 120 → ks233 + n * 18 ≤ 720 → f_L_sum_L233 M n x48 x49 kk = some r → mI w s (mA w s.heap.size) H locs M → lv_has ls 4 [(0, .ref (w.1 12 16)), (1, .long x48), (3, .int x49)] → (∀ (x48 : Int64) (H : Heap) (locs : List Loc) (ls : Array Slot), kk x48 = some r → mI w s (mA w s.heap.size) H locs M → lv_has ls 4 [(0, .ref (w.1 12 16)), (1, .long x48)] → W p l e rmL_sum s m args below meth c H locs 120 720 (MQ below (mQ w s.heap.size (some (.long r)) M) args s 120 720 (mA w s.heap.size)) (F0 m 282 ls [])) → W p l e rmL_sum s m args below meth c H locs kc233 ks233 (MQ below (mQ w s.heap.size (some (.long r)) M) args s 120 720 (mA w s.heap.size)) (F0 m 233 ls []) := by
      intro n
      induction n with
      | zero => intro x48 x49 kk H locs ls kc233 ks233 hkc hks hf hI hl hk; rw [f_L_sum_L233.eq_1] at hf; cases hf
      | succ n ih233 =>
        intro x48 x49 kk H locs ls kc233 ks233 hkc hks hf hI hl hk
        rw [f_L_sum_L233.eq_2] at hf
        refine lv_iload_n hx hb dL_sum_233 rfl (lv_at hl 2 rfl) ?_
        refine lv_aload_n hx hb dL_sum_234 rfl (lv_at hl 0 rfl) ?_
        obtain ⟨r50, hc, hf⟩ := mbp_e hf
        refine m_callV (As := []) (rest := [.int x49]) hx hb hml hown hI (c_X11_logCount l w H.size M _ hc) (kb_X11_logCount hI.T (q363 hI.T) (Nat.le_of_ble_eq_true rfl) (Nat.le_of_ble_eq_true rfl)) (q364 hI.T) (q365 hI.T) (m_recv (g := 12) (i := 16) hI (mokX (by decide) (by decide)) rfl rfl) rfl hl.1 (Nat.le_of_ble_eq_true rfl) dL_sum_235 ⟨Nat.le_trans (m := 120) (by omega) (Nat.le_of_ble_eq_true rfl), Nat.le_trans (m := 720) (by omega) (Nat.le_of_ble_eq_true rfl)⟩ (fun H locs hI => ?_)
        refine lv_icmp_ge (tgt := 282) hx hb dL_sum_238 (by decide) (fun c51 => ?_) (fun c51 => ?_)
        · have hf := (if_pos c51).symm.trans hf
          refine W.widen (k := 120) (n := 720) (by omega) (by omega) ?_
          exact hk x48 H _ _ hf hI (lv_sub hl [0, 1] rfl)
        · have hf := (if_neg c51).symm.trans hf
          refine lv_ldc2 (v := 31) hx hb hown (q1363 hI.T) dL_sum_241 ?_
          refine lv_lload_n hx hb dL_sum_244 rfl (lv_at hl 1 rfl) ?_
          refine lv_lmul hx hb dL_sum_245 ?_
          refine lv_ldc2 (v := 1009) hx hb hown (q1361 hI.T) dL_sum_246 ?_
          refine lv_aload_n hx hb dL_sum_249 rfl (lv_at hl 0 rfl) ?_
          refine lv_iload_n hx hb dL_sum_250 rfl (lv_at hl 2 rfl) ?_
          obtain ⟨r52, hc, hf⟩ := mbp_e hf
          refine k_callH (As := [.ref (w.1 12 16), .int x49]) (rest := [.long (1009 : Int64), .long ((31 : Int64) * x48)]) hx hb hml hown hI (c_L_logHour l w hsf H.size x49 M _ hc) (k_cw (n := 2) hI.T kc_L_logHour ki_L_logHour (q647 hI.T) (q648 hI.T) (by decide +kernel) ⟨rfl, rfl, Nat.le_of_ble_eq_true rfl, Nat.le_of_ble_eq_true rfl⟩) rfl hl.1 (Nat.le_of_ble_eq_true rfl) dL_sum_251 ⟨Nat.le_trans (m := 120) (by omega) (Nat.le_of_ble_eq_true rfl), Nat.le_trans (m := 720) (by omega) (Nat.le_of_ble_eq_true rfl)⟩ (fun H locs hI => ?_)
          refine lv_i2l hx hb dL_sum_254 rfl ?_
          refine lv_lmul hx hb dL_sum_255 ?_
          refine lv_ladd hx hb dL_sum_256 ?_
          refine lv_ldc2 (v := 31) hx hb hown (q1363 hI.T) dL_sum_257 ?_
          refine lv_aload_n hx hb dL_sum_260 rfl (lv_at hl 0 rfl) ?_
          refine lv_iload_n hx hb dL_sum_261 rfl (lv_at hl 2 rfl) ?_
          obtain ⟨r53, hc, hf⟩ := mbp_e hf
          refine k_callH (As := [.ref (w.1 12 16), .int x49]) (rest := [.long (31 : Int64), .long (((31 : Int64) * x48) + ((1009 : Int64) * r52.toInt64))]) hx hb hml hown hI (c_L_logKind l w hsf H.size x49 M _ hc) (k_cw (n := 2) hI.T kc_L_logKind ki_L_logKind (q659 hI.T) (q660 hI.T) (by decide +kernel) ⟨rfl, rfl, Nat.le_of_ble_eq_true rfl, Nat.le_of_ble_eq_true rfl⟩) rfl hl.1 (Nat.le_of_ble_eq_true rfl) dL_sum_262 ⟨Nat.le_trans (m := 120) (by omega) (Nat.le_of_ble_eq_true rfl), Nat.le_trans (m := 720) (by omega) (Nat.le_of_ble_eq_true rfl)⟩ (fun H locs hI => ?_)
          refine lv_i2l hx hb dL_sum_265 rfl ?_
          refine lv_lmul hx hb dL_sum_266 ?_
          refine lv_ladd hx hb dL_sum_267 ?_
          refine lv_aload_n hx hb dL_sum_268 rfl (lv_at hl 0 rfl) ?_
          refine lv_iload_n hx hb dL_sum_269 rfl (lv_at hl 2 rfl) ?_
          obtain ⟨r54, hc, hf⟩ := mbp_e hf
          refine k_callH (As := [.ref (w.1 12 16), .int x49]) (rest := [.long ((((31 : Int64) * x48) + ((1009 : Int64) * r52.toInt64)) + ((31 : Int64) * r53.toInt64))]) hx hb hml hown hI (c_L_logDetail l w hsf H.size x49 M _ hc) (k_cw (n := 2) hI.T kc_L_logDetail ki_L_logDetail (q666 hI.T) (q667 hI.T) (by decide +kernel) ⟨rfl, rfl, Nat.le_of_ble_eq_true rfl, Nat.le_of_ble_eq_true rfl⟩) rfl hl.1 (Nat.le_of_ble_eq_true rfl) dL_sum_270 ⟨Nat.le_trans (m := 120) (by omega) (Nat.le_of_ble_eq_true rfl), Nat.le_trans (m := 720) (by omega) (Nat.le_of_ble_eq_true rfl)⟩ (fun H locs hI => ?_)
          refine lv_i2l hx hb dL_sum_273 rfl ?_
          refine lv_ladd hx hb dL_sum_274 ?_
          refine k_topl (fun x55 ex55 => ?_)
          have hf := mlet_s ex55 hf
          refine lv_lstore_n (lv' := [(1, .long x55), (0, .ref (w.1 12 16)), (3, .int x49)]) hx hb dL_sum_275 rfl hl (by decide) rfl (fun ls hl => ?_)
          obtain ⟨x56, ex56, hf⟩ := mlet_e hf
          refine lv_iinc (v := x56) (lv' := [(3, .int x56), (1, .long x55), (0, .ref (w.1 12 16))]) hx hb dL_sum_276 hl (k := 2) rfl (by rw [ex56]; rfl) (by decide) rfl (fun ls hl => ?_)
          refine lv_goto (tgt := 233) hx hb dL_sum_279 (by decide) ?_
          exact ih233 x55 x56 kk H _ _ _ _ (by omega) (by omega) hf hI (lv_sub hl [2, 1, 0] rfl) hk
    refine hL233 13 x47 (0 : Int32) _ _ _ _ _ _ (Nat.le_of_ble_eq_true rfl) (Nat.le_of_ble_eq_true rfl) hf hI (lv_sub hl [1, 2, 0] rfl) ?_
    intro x57 H locs ls hf hI hl
    try dsimp only at hf
    refine lv_ldc2 (v := 31) hx hb hown (q1363 hI.T) dL_sum_282 ?_
    refine lv_lload_n hx hb dL_sum_285 rfl (lv_at hl 1 rfl) ?_
    refine lv_lmul hx hb dL_sum_286 ?_
    refine lv_aload_n hx hb dL_sum_287 rfl (lv_at hl 0 rfl) ?_
    obtain ⟨r58, hc, hf⟩ := mbp_e hf
    refine m_callV (As := []) (rest := [.long ((31 : Int64) * x57)]) hx hb hml hown hI (c_X11_holderCount l w H.size M _ hc) (kb_X11_holderCount hI.T (q335 hI.T) (Nat.le_of_ble_eq_true rfl) (Nat.le_of_ble_eq_true rfl)) (q336 hI.T) (q337 hI.T) (m_recv (g := 12) (i := 16) hI (mokX (by decide) (by decide)) rfl rfl) rfl hl.1 (Nat.le_of_ble_eq_true rfl) dL_sum_288 ⟨Nat.le_of_ble_eq_true rfl, Nat.le_of_ble_eq_true rfl⟩ (fun H locs hI => ?_)
    refine lv_i2l hx hb dL_sum_291 rfl ?_
    refine lv_ladd hx hb dL_sum_292 ?_
    exact k_lretp hx hb hr hlk hI hf dL_sum_293 (Nat.le_of_ble_eq_true rfl) (Nat.le_of_ble_eq_true rfl)
  refine lv_if_eq (tgt := 70) hx hb dL_sum_61 (by decide) (fun c9 => ?_) (fun c9 => ?_)
  · have hf := (if_pos c9).symm.trans hf
    refine lv_lconst (v := 0) hx hb dL_sum_70 (by decide) ?_
    exact hj71_11 (0 : Int64) H _ _ hf hI (lv_sub hl [1] rfl)
  · have hf := (if_neg c9).symm.trans hf
    refine lv_ldc2 (v := 1009) hx hb hown (q1361 hI.T) dL_sum_64 ?_
    refine lv_goto (tgt := 71) hx hb dL_sum_67 (by decide) ?_
    exact hj71_11 (1009 : Int64) H _ _ hf hI (lv_sub hl [1] rfl)
abbrev rmL_areKeys : Room := { frames := 11, cells := 102, slots := 612, locals := 204 }
theorem kb_L_areKeys {R : Room} {s : State} {args : Array Value} {own : String} {idx : Nat} (hT : mT s) (hlink : (Cond.methodLink own idx yL_areKeys).before args s = true) (h1 : rmL_areKeys.frames + 1 ≤ R.frames) (h2 : 8 + (17 + 11) + rmL_areKeys.locals ≤ R.locals) : CallB R s args own idx yL_areKeys cL_areKeys 17 (some .boolean) [Cond.code yL_areKeys cL_areKeys 17 (some .boolean)] rmL_areKeys 102 612 3 := m_callB hT kc_L_areKeys ki_L_areKeys hlink (by decide +kernel) ⟨rfl, rfl, h1, h2⟩
set_option maxHeartbeats 4000000 in
set_option maxRecDepth 100000 in
theorem c_L_areKeys (l : Launch) (w : WD) (hsf : l.stackTraces = false) (sz : Nat) (a2 : Int32) (a3 : Int32) (M : Mem) (r : Int32) (M9 : Mem) (hf : f_L_areKeys a2 a3 M = some (r, M9)) : kMet l yL_areKeys [Cond.code yL_areKeys cL_areKeys 17 (some .boolean)] rmL_areKeys w sz M [.ref (w.1 12 16), .int a2, .int a3] (some (.int r)) M9 102 612 := by
  refine k_of (by decide) (Nat.le_of_ble_eq_true rfl) ?_
  intro p e s m args below meth c hx hb hr hml hown hlk hI ls hl
  have hl : lv_has ls 17 [(0, .ref (w.1 12 16)), (1, .int a2), (2, .int a3)] := hl
  unfold f_L_areKeys at hf
  refine lv_aload_n hx hb dL_areKeys_0 rfl (lv_at hl 0 rfl) ?_
  obtain ⟨r1, hc, hf⟩ := mbp_e hf
  refine m_callV (As := []) (rest := []) hx hb hml hown hI (c_X11_presentedCount l w s.heap.size M _ hc) (kb_X11_presentedCount hI.T (q339 hI.T) (Nat.le_of_ble_eq_true rfl) (Nat.le_of_ble_eq_true rfl)) (q340 hI.T) (q341 hI.T) (m_recv (g := 12) (i := 16) hI (mokX (by decide) (by decide)) rfl rfl) rfl hl.1 (Nat.le_of_ble_eq_true rfl) dL_areKeys_1 ⟨Nat.le_of_ble_eq_true rfl, Nat.le_of_ble_eq_true rfl⟩ (fun H locs hI => ?_)
  refine lv_istore_n (lv' := [(3, .int r1), (0, .ref (w.1 12 16)), (1, .int a2), (2, .int a3)]) hx hb dL_areKeys_4 rfl hl (by decide) rfl (fun ls hl => ?_)
  refine lv_aload_n hx hb dL_areKeys_5 rfl (lv_at hl 1 rfl) ?_
  obtain ⟨r2, hc, hf⟩ := mbp_e hf
  refine k_callH (As := [.ref (w.1 12 16)]) (rest := []) hx hb hml hown hI (c_L_threshold l w hsf H.size M _ hc) (k_cw (n := 1) hI.T kc_L_threshold ki_L_threshold (q378 hI.T) (q379 hI.T) (by decide +kernel) ⟨rfl, rfl, Nat.le_of_ble_eq_true rfl, Nat.le_of_ble_eq_true rfl⟩) rfl hl.1 (Nat.le_of_ble_eq_true rfl) dL_areKeys_6 ⟨Nat.le_of_ble_eq_true rfl, Nat.le_of_ble_eq_true rfl⟩ (fun H locs hI => ?_)
  refine lv_istore (lv' := [(4, .int r2), (3, .int r1), (0, .ref (w.1 12 16)), (1, .int a2), (2, .int a3)]) hx hb dL_areKeys_9 hl (by decide) rfl (fun ls hl => ?_)
  refine lv_iconst (v := 0) hx hb dL_areKeys_11 (by decide) ?_
  refine lv_istore (lv' := [(5, .int (0 : Int32)), (4, .int r2), (3, .int r1), (0, .ref (w.1 12 16)), (1, .int a2), (2, .int a3)]) hx hb dL_areKeys_12 hl (by decide) rfl (fun ls hl => ?_)
  refine lv_iconst (v := 0) hx hb dL_areKeys_14 (by decide) ?_
  refine lv_istore (lv' := [(6, .int (0 : Int32)), (5, .int (0 : Int32)), (4, .int r2), (3, .int r1), (0, .ref (w.1 12 16)), (1, .int a2), (2, .int a3)]) hx hb dL_areKeys_15 hl (by decide) rfl (fun ls hl => ?_)
  refine lv_iconst (v := 0) hx hb dL_areKeys_17 (by decide) ?_
  refine lv_istore (lv' := [(7, .int (0 : Int32)), (6, .int (0 : Int32)), (5, .int (0 : Int32)), (4, .int r2), (3, .int r1), (0, .ref (w.1 12 16)), (1, .int a2), (2, .int a3)]) hx hb dL_areKeys_18 hl (by decide) rfl (fun ls hl => ?_)
  have hL20 : ∀ (n : Nat) (x3 : Int32) (x4 : Int32) (x5 : Int32) (kk : Int32 → Int32 → Option (Int32 × Mem)) (H : Heap) (locs : List Loc) (ls : Array Slot) (kc20 ks20 : Nat), kc20 + n * 4 ≤ 37 → ks20 + n * 24 ≤ 222 → f_L_areKeys_L20 M r1 n x3 x4 x5 kk = some (r, M9) → mI w s (mA w s.heap.size) H locs M → lv_has ls 17 [(0, .ref (w.1 12 16)), (1, .int a2), (2, .int a3), (3, .int r1), (4, .int r2), (5, .int x3), (6, .int x4), (7, .int x5)] → (∀ (x3 : Int32) (x4 : Int32) (H : Heap) (locs : List Loc) (ls : Array Slot), kk x3 x4 = some (r, M9) → mI w s (mA w s.heap.size) H locs M → lv_has ls 17 [(0, .ref (w.1 12 16)), (1, .int a2), (2, .int a3), (3, .int r1), (4, .int r2), (5, .int x3), (6, .int x4)] → W p l e rmL_areKeys s m args below meth c H locs 37 222 (MQ below (mQ w s.heap.size (some (.int r)) M9) args s 102 612 (mA w s.heap.size)) (F0 m 72 ls [])) → W p l e rmL_areKeys s m args below meth c H locs kc20 ks20 (MQ below (mQ w s.heap.size (some (.int r)) M9) args s 102 612 (mA w s.heap.size)) (F0 m 20 ls []) := by
    intro n
    induction n with
    | zero => intro x3 x4 x5 kk H locs ls kc20 ks20 hkc hks hf hI hl hk; rw [f_L_areKeys_L20.eq_1] at hf; cases hf
    | succ n ih20 =>
      intro x3 x4 x5 kk H locs ls kc20 ks20 hkc hks hf hI hl hk
      rw [f_L_areKeys_L20.eq_2] at hf
      refine lv_iload hx hb dL_areKeys_20 (lv_at hl 7 rfl) ?_
      refine lv_iload_n hx hb dL_areKeys_22 rfl (lv_at hl 3 rfl) ?_
      refine lv_icmp_ge (tgt := 72) hx hb dL_areKeys_23 (by decide) (fun c6 => ?_) (fun c6 => ?_)
      · have hf := (if_pos c6).symm.trans hf
        refine W.widen (k := 37) (n := 222) (by omega) (by omega) ?_
        exact hk x3 x4 H _ _ hf hI (lv_sub hl [0, 1, 2, 3, 4, 5, 6] rfl)
      · have hf := (if_neg c6).symm.trans hf
        refine lv_aload_n hx hb dL_areKeys_26 rfl (lv_at hl 0 rfl) ?_
        refine lv_iload hx hb dL_areKeys_27 (lv_at hl 7 rfl) ?_
        obtain ⟨r7, hc, hf⟩ := mbp_e hf
        refine k_callH (As := [.ref (w.1 12 16), .int x5]) (rest := []) hx hb hml hown hI (c_L_presentedAt l w hsf H.size x5 M _ hc) (k_cw (n := 2) hI.T kc_L_presentedAt ki_L_presentedAt (q518 hI.T) (q519 hI.T) (by decide +kernel) ⟨rfl, rfl, Nat.le_of_ble_eq_true rfl, Nat.le_of_ble_eq_true rfl⟩) rfl hl.1 (Nat.le_of_ble_eq_true rfl) dL_areKeys_29 ⟨Nat.le_trans (m := 37) (by omega) (Nat.le_of_ble_eq_true rfl), Nat.le_trans (m := 222) (by omega) (Nat.le_of_ble_eq_true rfl)⟩ (fun H locs hI => ?_)
        refine lv_istore (lv' := [(8, .int r7), (0, .ref (w.1 12 16)), (1, .int a2), (2, .int a3), (3, .int r1), (4, .int r2), (5, .int x3), (6, .int x4), (7, .int x5)]) hx hb dL_areKeys_32 hl (by decide) rfl (fun ls hl => ?_)
        refine lv_iload hx hb dL_areKeys_34 (lv_at hl 6 rfl) ?_
        refine lv_iconst (v := 1) hx hb dL_areKeys_36 (by decide) ?_
        refine lv_iload hx hb dL_areKeys_37 (lv_at hl 0 rfl) ?_
        refine lv_ishl hx hb dL_areKeys_39 ?_
        refine lv_ior hx hb dL_areKeys_40 ?_
        refine lv_topi (fun x8 ex8 => ?_)
        have hf := mlet_s ex8 hf
        refine lv_istore (lv' := [(5, .int x8), (8, .int r7), (0, .ref (w.1 12 16)), (1, .int a2), (2, .int a3), (3, .int r1), (4, .int r2), (6, .int x4), (7, .int x5)]) hx hb dL_areKeys_41 hl (by decide) rfl (fun ls hl => ?_)
        refine lv_iload hx hb dL_areKeys_43 (lv_at hl 7 rfl) ?_
        refine lv_aload_n hx hb dL_areKeys_45 rfl (lv_at hl 2 rfl) ?_
        refine lv_iload hx hb dL_areKeys_46 (lv_at hl 1 rfl) ?_
        obtain ⟨r9, hc, hf⟩ := mbp_e hf
        refine k_callH (As := [.ref (w.1 12 16), .int r7]) (rest := [.int x4]) hx hb hml hown hI (c_L_isCorrect l w hsf H.size r7 M _ hc) (k_cw (n := 2) hI.T kc_L_isCorrect ki_L_isCorrect (q699 hI.T) (q700 hI.T) (by decide +kernel) ⟨rfl, rfl, Nat.le_of_ble_eq_true rfl, Nat.le_of_ble_eq_true rfl⟩) rfl hl.1 (Nat.le_of_ble_eq_true rfl) dL_areKeys_48 ⟨Nat.le_trans (m := 37) (by omega) (Nat.le_of_ble_eq_true rfl), Nat.le_trans (m := 222) (by omega) (Nat.le_of_ble_eq_true rfl)⟩ (fun H locs hI => ?_)
        refine lv_iadd hx hb dL_areKeys_51 ?_
        refine lv_topi (fun x10 ex10 => ?_)
        have hf := mlet_s ex10 hf
        refine lv_istore (lv' := [(6, .int x10), (5, .int x8), (8, .int r7), (0, .ref (w.1 12 16)), (1, .int a2), (2, .int a3), (3, .int r1), (4, .int r2), (7, .int x5)]) hx hb dL_areKeys_52 hl (by decide) rfl (fun ls hl => ?_)
        refine lv_aload_n hx hb dL_areKeys_54 rfl (lv_at hl 3 rfl) ?_
        refine lv_iload hx hb dL_areKeys_55 (lv_at hl 2 rfl) ?_
        obtain ⟨r11, hc, hf⟩ := mbp_e hf
        refine k_callH (As := [.ref (w.1 12 16), .int r7]) (rest := []) hx hb hml hown hI (c_L_isPresented l w hsf H.size r7 M _ hc) (k_cw (n := 2) hI.T kc_L_isPresented ki_L_isPresented (q462 hI.T) (q463 hI.T) (by decide +kernel) ⟨rfl, rfl, Nat.le_of_ble_eq_true rfl, Nat.le_of_ble_eq_true rfl⟩) rfl hl.1 (Nat.le_of_ble_eq_true rfl) dL_areKeys_57 ⟨Nat.le_trans (m := 37) (by omega) (Nat.le_of_ble_eq_true rfl), Nat.le_trans (m := 222) (by omega) (Nat.le_of_ble_eq_true rfl)⟩ (fun H locs hI => ?_)
        refine lv_iconst (v := 1) hx hb dL_areKeys_60 (by decide) ?_
        refine lv_icmp_eq (tgt := 66) hx hb dL_areKeys_61 (by decide) (fun c12 => ?_) (fun c12 => ?_)
        · have hf := (if_pos c12).symm.trans hf
          obtain ⟨x13, ex13, hf⟩ := mlet_e hf
          refine lv_iinc (v := x13) (lv' := [(7, .int x13), (6, .int x10), (5, .int x8), (8, .int r7), (0, .ref (w.1 12 16)), (1, .int a2), (2, .int a3), (3, .int r1), (4, .int r2)]) hx hb dL_areKeys_66 hl (k := 8) rfl (by rw [ex13]; rfl) (by decide) rfl (fun ls hl => ?_)
          refine lv_goto (tgt := 20) hx hb dL_areKeys_69 (by decide) ?_
          exact ih20 x8 x10 x13 kk H _ _ _ _ (by omega) (by omega) hf hI (lv_sub hl [4, 5, 6, 7, 8, 2, 1, 0] rfl) hk
        · have hf := (if_neg c12).symm.trans hf
          refine lv_iconst (v := 0) hx hb dL_areKeys_64 (by decide) ?_
          exact k_zretf hx hb hr hlk hI rfl hf dL_areKeys_65 (by omega) (by omega)
  refine hL20 9 (0 : Int32) (0 : Int32) (0 : Int32) _ _ _ _ _ _ (Nat.le_of_ble_eq_true rfl) (Nat.le_of_ble_eq_true rfl) hf hI (lv_sub hl [5, 6, 7, 4, 3, 2, 1, 0] rfl) ?_
  intro x14 x15 H locs ls hf hI hl
  try dsimp only at hf
  refine lv_iload hx hb dL_areKeys_72 (lv_at hl 5 rfl) ?_
  obtain ⟨r16, hc, hf⟩ := mbp_e hf
  refine m_callS (As := [.int x14]) (rest := []) hx hb hml hown hI (c_J6_bitCount_0f7a4 l w H.size x14 M _ hc) (kb_J6_bitCount_0f7a4 hI.T (q1403 hI.T) (Nat.le_of_ble_eq_true rfl) (Nat.le_of_ble_eq_true rfl)) (q1404 hI.T) rfl hl.1 (Nat.le_of_ble_eq_true rfl) dL_areKeys_74 ⟨Nat.le_of_ble_eq_true rfl, Nat.le_of_ble_eq_true rfl⟩ (fun H locs hI => ?_)
  refine lv_iload_n hx hb dL_areKeys_77 rfl (lv_at hl 3 rfl) ?_
  refine lv_icmp_ne (tgt := 91) hx hb dL_areKeys_78 (by decide) (fun c17 => ?_) (fun c17 => ?_)
  · have hf := (if_neg c17).symm.trans hf
    refine lv_iconst (v := 0) hx hb dL_areKeys_91 (by decide) ?_
    exact k_zretf hx hb hr hlk hI rfl hf dL_areKeys_92 (Nat.le_of_ble_eq_true rfl) (Nat.le_of_ble_eq_true rfl)
  · have hf := (if_pos c17).symm.trans hf
    refine lv_aload_n hx hb dL_areKeys_81 rfl (lv_at hl 0 rfl) ?_
    refine lv_iload_n hx hb dL_areKeys_82 rfl (lv_at hl 3 rfl) ?_
    obtain ⟨r18, hc, hf⟩ := mbp_e hf
    refine k_callH (As := [.ref (w.1 12 16), .int r1]) (rest := []) hx hb hml hown hI (c_L_presentedAt l w hsf H.size r1 M _ hc) (k_cw (n := 2) hI.T kc_L_presentedAt ki_L_presentedAt (q518 hI.T) (q519 hI.T) (by decide +kernel) ⟨rfl, rfl, Nat.le_of_ble_eq_true rfl, Nat.le_of_ble_eq_true rfl⟩) rfl hl.1 (Nat.le_of_ble_eq_true rfl) dL_areKeys_83 ⟨Nat.le_of_ble_eq_true rfl, Nat.le_of_ble_eq_true rfl⟩ (fun H locs hI => ?_)
    refine lv_bipush (v := (-75)) hx hb dL_areKeys_86 (by decide) ?_
    refine lv_icmp_eq (tgt := 93) hx hb dL_areKeys_88 (by decide) (fun c19 => ?_) (fun c19 => ?_)
    · have hf := (if_pos c19).symm.trans hf
      refine lv_iload hx hb dL_areKeys_93 (lv_at hl 4 rfl) ?_
      obtain ⟨k104_97, ek104_97, hf⟩ := mlet_e hf
      have hj104_97 : ∀ (_u : Unit) (H : Heap) (locs : List Loc) (ls : Array Slot), k104_97 _u = some (r, M9) → mI w s (mA w s.heap.size) H locs M → lv_has ls 17 [(0, .ref (w.1 12 16)), (1, .int a2)] → W p l e rmL_areKeys s m args below meth c H locs 38 228 (MQ below (mQ w s.heap.size (some (.int r)) M9) args s 102 612 (mA w s.heap.size)) (F0 m 104 ls []) := by
        intro _u H locs ls hf hI hl
        rw [ek104_97] at hf
        try dsimp only at hf
        refine lv_aload_n hx hb dL_areKeys_104 rfl (lv_at hl 0 rfl) ?_
        obtain ⟨r98, hc, hf⟩ := mbp_e hf
        refine k_callH (As := [.ref (w.1 12 16)]) (rest := []) hx hb hml hown hI (c_L_toldSecret l w hsf H.size M _ hc) (k_cw (n := 1) hI.T kc_L_toldSecret ki_L_toldSecret (q526 hI.T) (q527 hI.T) (by decide +kernel) ⟨rfl, rfl, Nat.le_of_ble_eq_true rfl, Nat.le_of_ble_eq_true rfl⟩) rfl hl.1 (Nat.le_of_ble_eq_true rfl) dL_areKeys_105 ⟨Nat.le_of_ble_eq_true rfl, Nat.le_of_ble_eq_true rfl⟩ (fun H locs hI => ?_)
        refine lv_bipush (v := (-75)) hx hb dL_areKeys_108 (by decide) ?_
        refine lv_icmp_ne (tgt := 163) hx hb dL_areKeys_110 (by decide) (fun c99 => ?_) (fun c99 => ?_)
        · have hf := (if_neg c99).symm.trans hf
          refine lv_iconst (v := 0) hx hb dL_areKeys_163 (by decide) ?_
          exact k_zretf hx hb hr hlk hI rfl hf dL_areKeys_164 (Nat.le_of_ble_eq_true rfl) (Nat.le_of_ble_eq_true rfl)
        · have hf := (if_pos c99).symm.trans hf
          refine lv_aload_n hx hb dL_areKeys_113 rfl (lv_at hl 0 rfl) ?_
          obtain ⟨r100, M101, hc, hf⟩ := mbnd_e hf
          refine k_callH (As := [.ref (w.1 12 16)]) (rest := []) hx hb hml hown hI (c_L_toldSecretByElimination l w hsf H.size M _ _ hc) (k_cw (n := 1) hI.T kc_L_toldSecretByElimination ki_L_toldSecretByElimination (q1409 hI.T) (q1410 hI.T) (by decide +kernel) ⟨rfl, rfl, Nat.le_of_ble_eq_true rfl, Nat.le_of_ble_eq_true rfl⟩) rfl hl.1 (Nat.le_of_ble_eq_true rfl) dL_areKeys_114 ⟨Nat.le_of_ble_eq_true rfl, Nat.le_of_ble_eq_true rfl⟩ (fun H locs hI => ?_)
          refine lv_bipush (v := (-75)) hx hb dL_areKeys_117 (by decide) ?_
          refine lv_icmp_ne (tgt := 163) hx hb dL_areKeys_119 (by decide) (fun c102 => ?_) (fun c102 => ?_)
          · have hf := (if_neg c102).symm.trans hf
            refine lv_iconst (v := 0) hx hb dL_areKeys_163 (by decide) ?_
            exact k_zretf hx hb hr hlk hI rfl hf dL_areKeys_164 (Nat.le_of_ble_eq_true rfl) (Nat.le_of_ble_eq_true rfl)
          · have hf := (if_pos c102).symm.trans hf
            refine lv_aload_n hx hb dL_areKeys_122 rfl (lv_at hl 0 rfl) ?_
            refine lv_iload_n hx hb dL_areKeys_123 rfl (lv_at hl 1 rfl) ?_
            obtain ⟨r103, hc, hf⟩ := mbp_e hf
            refine k_callH (As := [.ref (w.1 12 16), .int a2]) (rest := []) hx hb hml hown hI (c_L_toldValue l w hsf H.size a2 M101 _ hc) (k_cw (n := 2) hI.T kc_L_toldValue ki_L_toldValue (q1440 hI.T) (q1441 hI.T) (by decide +kernel) ⟨rfl, rfl, Nat.le_of_ble_eq_true rfl, Nat.le_of_ble_eq_true rfl⟩) rfl hl.1 (Nat.le_of_ble_eq_true rfl) dL_areKeys_124 ⟨Nat.le_of_ble_eq_true rfl, Nat.le_of_ble_eq_true rfl⟩ (fun H locs hI => ?_)
            refine lv_bipush (v := (-75)) hx hb dL_areKeys_127 (by decide) ?_
            refine lv_icmp_ne (tgt := 163) hx hb dL_areKeys_129 (by decide) (fun c104 => ?_) (fun c104 => ?_)
            · have hf := (if_neg c104).symm.trans hf
              refine lv_iconst (v := 0) hx hb dL_areKeys_163 (by decide) ?_
              exact k_zretf hx hb hr hlk hI rfl hf dL_areKeys_164 (Nat.le_of_ble_eq_true rfl) (Nat.le_of_ble_eq_true rfl)
            · have hf := (if_pos c104).symm.trans hf
              refine lv_aload_n hx hb dL_areKeys_132 rfl (lv_at hl 0 rfl) ?_
              obtain ⟨r105, hc, hf⟩ := mbp_e hf
              refine k_callH (As := [.ref (w.1 12 16)]) (rest := []) hx hb hml hown hI (c_L_doAgree l w hsf H.size M101 _ hc) (k_cw (n := 1) hI.T kc_L_doAgree ki_L_doAgree (q556 hI.T) (q557 hI.T) (by decide +kernel) ⟨rfl, rfl, Nat.le_of_ble_eq_true rfl, Nat.le_of_ble_eq_true rfl⟩) rfl hl.1 (Nat.le_of_ble_eq_true rfl) dL_areKeys_133 ⟨Nat.le_of_ble_eq_true rfl, Nat.le_of_ble_eq_true rfl⟩ (fun H locs hI => ?_)
              refine lv_bipush (v := (-75)) hx hb dL_areKeys_136 (by decide) ?_
              refine lv_icmp_ne (tgt := 163) hx hb dL_areKeys_138 (by decide) (fun c106 => ?_) (fun c106 => ?_)
              · have hf := (if_neg c106).symm.trans hf
                refine lv_iconst (v := 0) hx hb dL_areKeys_163 (by decide) ?_
                exact k_zretf hx hb hr hlk hI rfl hf dL_areKeys_164 (Nat.le_of_ble_eq_true rfl) (Nat.le_of_ble_eq_true rfl)
              · have hf := (if_pos c106).symm.trans hf
                refine lv_aload_n hx hb dL_areKeys_141 rfl (lv_at hl 0 rfl) ?_
                obtain ⟨r107, M108, hc, hf⟩ := mbnd_e hf
                refine k_callH (As := [.ref (w.1 12 16)]) (rest := []) hx hb hml hown hI (c_L_mostAgreeing l w hsf H.size M101 _ _ hc) (k_cw (n := 1) hI.T kc_L_mostAgreeing ki_L_mostAgreeing (q1448 hI.T) (q1449 hI.T) (by decide +kernel) ⟨rfl, rfl, Nat.le_of_ble_eq_true rfl, Nat.le_of_ble_eq_true rfl⟩) rfl hl.1 (Nat.le_of_ble_eq_true rfl) dL_areKeys_142 ⟨Nat.le_of_ble_eq_true rfl, Nat.le_of_ble_eq_true rfl⟩ (fun H locs hI => ?_)
                refine lv_bipush (v := (-75)) hx hb dL_areKeys_145 (by decide) ?_
                refine lv_icmp_ne (tgt := 163) hx hb dL_areKeys_147 (by decide) (fun c109 => ?_) (fun c109 => ?_)
                · have hf := (if_neg c109).symm.trans hf
                  refine lv_iconst (v := 0) hx hb dL_areKeys_163 (by decide) ?_
                  exact k_zretf hx hb hr hlk hI rfl hf dL_areKeys_164 (Nat.le_of_ble_eq_true rfl) (Nat.le_of_ble_eq_true rfl)
                · have hf := (if_pos c109).symm.trans hf
                  refine lv_aload_n hx hb dL_areKeys_150 rfl (lv_at hl 0 rfl) ?_
                  obtain ⟨r110, M111, hc, hf⟩ := mbnd_e hf
                  refine k_callH (As := [.ref (w.1 12 16)]) (rest := []) hx hb hml hown hI (c_L_mostAgreeingBySets l w hsf H.size M108 _ _ hc) (k_cw (n := 1) hI.T kc_L_mostAgreeingBySets ki_L_mostAgreeingBySets (q1470 hI.T) (q1471 hI.T) (by decide +kernel) ⟨rfl, rfl, Nat.le_of_ble_eq_true rfl, Nat.le_of_ble_eq_true rfl⟩) rfl hl.1 (Nat.le_of_ble_eq_true rfl) dL_areKeys_151 ⟨Nat.le_of_ble_eq_true rfl, Nat.le_of_ble_eq_true rfl⟩ (fun H locs hI => ?_)
                  refine lv_bipush (v := (-75)) hx hb dL_areKeys_154 (by decide) ?_
                  refine lv_icmp_ne (tgt := 163) hx hb dL_areKeys_156 (by decide) (fun c112 => ?_) (fun c112 => ?_)
                  · have hf := (if_neg c112).symm.trans hf
                    refine lv_iconst (v := 0) hx hb dL_areKeys_163 (by decide) ?_
                    exact k_zretf hx hb hr hlk hI rfl hf dL_areKeys_164 (Nat.le_of_ble_eq_true rfl) (Nat.le_of_ble_eq_true rfl)
                  · have hf := (if_pos c112).symm.trans hf
                    refine lv_iconst (v := 1) hx hb dL_areKeys_159 (by decide) ?_
                    refine lv_goto (tgt := 164) hx hb dL_areKeys_160 (by decide) ?_
                    exact k_zretf hx hb hr hlk hI rfl hf dL_areKeys_164 (Nat.le_of_ble_eq_true rfl) (Nat.le_of_ble_eq_true rfl)
      refine lv_if_lt (tgt := 104) hx hb dL_areKeys_95 (by decide) (fun c20 => ?_) (fun c20 => ?_)
      · have hf := (if_pos c20).symm.trans hf
        exact hj104_97 () H _ _ hf hI (lv_sub hl [0, 1] rfl)
      · have hf := (if_neg c20).symm.trans hf
        refine lv_iload_n hx hb dL_areKeys_98 rfl (lv_at hl 3 rfl) ?_
        refine lv_iload hx hb dL_areKeys_99 (lv_at hl 4 rfl) ?_
        refine lv_icmp_ge (tgt := 165) hx hb dL_areKeys_101 (by decide) (fun c21 => ?_) (fun c21 => ?_)
        · have hf := (if_pos c21).symm.trans hf
          refine lv_aload_n hx hb dL_areKeys_165 rfl (lv_at hl 0 rfl) ?_
          obtain ⟨r22, hc, hf⟩ := mbp_e hf
          refine k_callH (As := [.ref (w.1 12 16)]) (rest := []) hx hb hml hown hI (c_L_toldSecret l w hsf H.size M _ hc) (k_cw (n := 1) hI.T kc_L_toldSecret ki_L_toldSecret (q526 hI.T) (q527 hI.T) (by decide +kernel) ⟨rfl, rfl, Nat.le_of_ble_eq_true rfl, Nat.le_of_ble_eq_true rfl⟩) rfl hl.1 (Nat.le_of_ble_eq_true rfl) dL_areKeys_166 ⟨Nat.le_of_ble_eq_true rfl, Nat.le_of_ble_eq_true rfl⟩ (fun H locs hI => ?_)
          refine lv_istore (lv' := [(7, .int r22), (0, .ref (w.1 12 16)), (1, .int a2), (2, .int a3), (3, .int r1), (4, .int r2), (5, .int x14), (6, .int x15)]) hx hb dL_areKeys_169 hl (by decide) rfl (fun ls hl => ?_)
          refine lv_iconst (v := 0) hx hb dL_areKeys_171 (by decide) ?_
          refine lv_istore (lv' := [(8, .int (0 : Int32)), (7, .int r22), (0, .ref (w.1 12 16)), (1, .int a2), (2, .int a3), (3, .int r1), (4, .int r2), (5, .int x14), (6, .int x15)]) hx hb dL_areKeys_172 hl (by decide) rfl (fun ls hl => ?_)
          refine lv_iconst (v := 0) hx hb dL_areKeys_174 (by decide) ?_
          refine lv_istore (lv' := [(9, .int (0 : Int32)), (8, .int (0 : Int32)), (7, .int r22), (0, .ref (w.1 12 16)), (1, .int a2), (2, .int a3), (3, .int r1), (4, .int r2), (5, .int x14), (6, .int x15)]) hx hb dL_areKeys_175 hl (by decide) rfl (fun ls hl => ?_)
          refine lv_iconst (v := 0) hx hb dL_areKeys_177 (by decide) ?_
          refine lv_istore (lv' := [(10, .int (0 : Int32)), (9, .int (0 : Int32)), (8, .int (0 : Int32)), (7, .int r22), (0, .ref (w.1 12 16)), (1, .int a2), (2, .int a3), (3, .int r1), (4, .int r2), (5, .int x14), (6, .int x15)]) hx hb dL_areKeys_178 hl (by decide) rfl (fun ls hl => ?_)
          have hL180 : ∀ (n : Nat) (x23 : Int32) (x24 : Int32) (x25 : Int32) (kk : Int32 → Int32 → Option (Int32 × Mem)) (H : Heap) (locs : List Loc) (ls : Array Slot) (kc180 ks180 : Nat), kc180 + n * 6 ≤ 93 → ks180 + n * 36 ≤ 558 → f_L_areKeys_L180 M r1 r2 n x23 x24 x25 kk = some (r, M9) → mI w s (mA w s.heap.size) H locs M → lv_has ls 17 [(0, .ref (w.1 12 16)), (1, .int a2), (2, .int a3), (3, .int r1), (4, .int r2), (6, .int x15), (7, .int r22), (8, .int x23), (9, .int x24), (10, .int x25)] → (∀ (x23 : Int32) (x24 : Int32) (H : Heap) (locs : List Loc) (ls : Array Slot), kk x23 x24 = some (r, M9) → mI w s (mA w s.heap.size) H locs M → lv_has ls 17 [(0, .ref (w.1 12 16)), (1, .int a2), (2, .int a3), (3, .int r1), (4, .int r2), (6, .int x15), (7, .int r22), (8, .int x23), (9, .int x24)] → W p l e rmL_areKeys s m args below meth c H locs 93 558 (MQ below (mQ w s.heap.size (some (.int r)) M9) args s 102 612 (mA w s.heap.size)) (F0 m 275 ls [])) → W p l e rmL_areKeys s m args below meth c H locs kc180 ks180 (MQ below (mQ w s.heap.size (some (.int r)) M9) args s 102 612 (mA w s.heap.size)) (F0 m 180 ls []) := by
            intro n
            induction n with
            | zero => intro x23 x24 x25 kk H locs ls kc180 ks180 hkc hks hf hI hl hk; rw [f_L_areKeys_L180.eq_1] at hf; cases hf
            | succ n ih180 =>
              intro x23 x24 x25 kk H locs ls kc180 ks180 hkc hks hf hI hl hk
              rw [f_L_areKeys_L180.eq_2] at hf
              refine lv_iload hx hb dL_areKeys_180 (lv_at hl 9 rfl) ?_
              refine lv_iload_n hx hb dL_areKeys_182 rfl (lv_at hl 3 rfl) ?_
              refine lv_icmp_ge (tgt := 275) hx hb dL_areKeys_183 (by decide) (fun c26 => ?_) (fun c26 => ?_)
              · have hf := (if_pos c26).symm.trans hf
                refine W.widen (k := 93) (n := 558) (by omega) (by omega) ?_
                exact hk x23 x24 H _ _ hf hI (lv_sub hl [0, 1, 2, 3, 4, 5, 6, 7, 8] rfl)
              · have hf := (if_neg c26).symm.trans hf
                refine lv_aload_n hx hb dL_areKeys_186 rfl (lv_at hl 0 rfl) ?_
                refine lv_iload hx hb dL_areKeys_187 (lv_at hl 9 rfl) ?_
                obtain ⟨r27, hc, hf⟩ := mbp_e hf
                refine k_callH (As := [.ref (w.1 12 16), .int x25]) (rest := []) hx hb hml hown hI (c_L_presentedAt l w hsf H.size x25 M _ hc) (k_cw (n := 2) hI.T kc_L_presentedAt ki_L_presentedAt (q518 hI.T) (q519 hI.T) (by decide +kernel) ⟨rfl, rfl, Nat.le_of_ble_eq_true rfl, Nat.le_of_ble_eq_true rfl⟩) rfl hl.1 (Nat.le_of_ble_eq_true rfl) dL_areKeys_189 ⟨Nat.le_trans (m := 93) (by omega) (Nat.le_of_ble_eq_true rfl), Nat.le_trans (m := 558) (by omega) (Nat.le_of_ble_eq_true rfl)⟩ (fun H locs hI => ?_)
                refine lv_istore (lv' := [(11, .int r27), (0, .ref (w.1 12 16)), (1, .int a2), (2, .int a3), (3, .int r1), (4, .int r2), (6, .int x15), (7, .int r22), (8, .int x23), (9, .int x24), (10, .int x25)]) hx hb dL_areKeys_192 hl (by decide) rfl (fun ls hl => ?_)
                refine lv_aload_n hx hb dL_areKeys_194 rfl (lv_at hl 1 rfl) ?_
                refine lv_iload hx hb dL_areKeys_195 (lv_at hl 0 rfl) ?_
                refine lv_iconst (v := 1) hx hb dL_areKeys_197 (by decide) ?_
                refine lv_iadd hx hb dL_areKeys_198 ?_
                obtain ⟨r28, hc, hf⟩ := mbp_e hf
                refine k_callH (As := [.ref (w.1 12 16), .int (r27 + (1 : Int32))]) (rest := []) hx hb hml hown hI (c_L_toldValue l w hsf H.size (r27 + (1 : Int32)) M _ hc) (k_cw (n := 2) hI.T kc_L_toldValue ki_L_toldValue (q1440 hI.T) (q1441 hI.T) (by decide +kernel) ⟨rfl, rfl, Nat.le_of_ble_eq_true rfl, Nat.le_of_ble_eq_true rfl⟩) rfl hl.1 (Nat.le_of_ble_eq_true rfl) dL_areKeys_199 ⟨Nat.le_trans (m := 93) (by omega) (Nat.le_of_ble_eq_true rfl), Nat.le_trans (m := 558) (by omega) (Nat.le_of_ble_eq_true rfl)⟩ (fun H locs hI => ?_)
                refine lv_aload_n hx hb dL_areKeys_202 rfl (lv_at hl 1 rfl) ?_
                refine lv_iload hx hb dL_areKeys_203 (lv_at hl 0 rfl) ?_
                obtain ⟨r29, hc, hf⟩ := mbp_e hf
                refine k_callH (As := [.ref (w.1 12 16), .int r27]) (rest := [.int r28]) hx hb hml hown hI (c_L_share l w hsf H.size r27 M _ hc) (k_cw (n := 2) hI.T kc_L_share ki_L_share (q1365 hI.T) (q1366 hI.T) (by decide +kernel) ⟨rfl, rfl, Nat.le_of_ble_eq_true rfl, Nat.le_of_ble_eq_true rfl⟩) rfl hl.1 (Nat.le_of_ble_eq_true rfl) dL_areKeys_205 ⟨Nat.le_trans (m := 93) (by omega) (Nat.le_of_ble_eq_true rfl), Nat.le_trans (m := 558) (by omega) (Nat.le_of_ble_eq_true rfl)⟩ (fun H locs hI => ?_)
                obtain ⟨k216_32, ek216_32, hf⟩ := mlet_e hf
                have hj216_32 : ∀ (x31 : Int32) (H : Heap) (locs : List Loc) (ls : Array Slot), k216_32 x31 = some (r, M9) → mI w s (mA w s.heap.size) H locs M → lv_has ls 17 [(0, .ref (w.1 12 16)), (1, .int a2), (2, .int a3), (3, .int r1), (4, .int r2), (6, .int x15), (7, .int r22), (8, .int x23), (9, .int x24), (10, .int x25), (11, .int r27)] → W p l e rmL_areKeys s m args below meth c H locs (kc180 + 4) (ks180 + 24) (MQ below (mQ w s.heap.size (some (.int r)) M9) args s 102 612 (mA w s.heap.size)) (F0 m 216 ls [.int x31]) := by
                  intro x31 H locs ls hf hI hl
                  rw [ek216_32] at hf
                  try dsimp only at hf
                  refine lv_istore (lv' := [(12, .int x31), (0, .ref (w.1 12 16)), (1, .int a2), (2, .int a3), (3, .int r1), (4, .int r2), (6, .int x15), (7, .int r22), (8, .int x23), (9, .int x24), (10, .int x25), (11, .int r27)]) hx hb dL_areKeys_216 hl (by decide) rfl (fun ls hl => ?_)
                  refine lv_iload hx hb dL_areKeys_218 (lv_at hl 8 rfl) ?_
                  refine lv_iload hx hb dL_areKeys_220 (lv_at hl 0 rfl) ?_
                  obtain ⟨k230_35, ek230_35, hf⟩ := mlet_e hf
                  have hj230_35 : ∀ (x34 : Int32) (H : Heap) (locs : List Loc) (ls : Array Slot), k230_35 x34 = some (r, M9) → mI w s (mA w s.heap.size) H locs M → lv_has ls 17 [(0, .ref (w.1 12 16)), (1, .int a2), (2, .int a3), (3, .int r1), (4, .int r2), (6, .int x15), (7, .int r22), (9, .int x24), (10, .int x25), (11, .int r27), (12, .int x31)] → W p l e rmL_areKeys s m args below meth c H locs (kc180 + 4) (ks180 + 24) (MQ below (mQ w s.heap.size (some (.int r)) M9) args s 102 612 (mA w s.heap.size)) (F0 m 230 ls [.int x34, .int x23]) := by
                    intro x34 H locs ls hf hI hl
                    rw [ek230_35] at hf
                    try dsimp only at hf
                    refine lv_iadd hx hb dL_areKeys_230 ?_
                    refine lv_topi (fun x36 ex36 => ?_)
                    have hf := mlet_s ex36 hf
                    refine lv_istore (lv' := [(8, .int x36), (0, .ref (w.1 12 16)), (1, .int a2), (2, .int a3), (3, .int r1), (4, .int r2), (6, .int x15), (7, .int r22), (9, .int x24), (10, .int x25), (11, .int r27), (12, .int x31)]) hx hb dL_areKeys_231 hl (by decide) rfl (fun ls hl => ?_)
                    refine lv_iload hx hb dL_areKeys_233 (lv_at hl 8 rfl) ?_
                    refine lv_iload hx hb dL_areKeys_235 (lv_at hl 9 rfl) ?_
                    refine lv_iload hx hb dL_areKeys_237 (lv_at hl 5 rfl) ?_
                    obtain ⟨k252_40, ek252_40, hf⟩ := mlet_e hf
                    have hj252_40 : ∀ (x39 : Int32) (H : Heap) (locs : List Loc) (ls : Array Slot), k252_40 x39 = some (r, M9) → mI w s (mA w s.heap.size) H locs M → lv_has ls 17 [(0, .ref (w.1 12 16)), (1, .int a2), (2, .int a3), (3, .int r1), (4, .int r2), (6, .int x15), (7, .int r22), (8, .int x36), (10, .int x25), (12, .int x31)] → W p l e rmL_areKeys s m args below meth c H locs (kc180 + 6) (ks180 + 36) (MQ below (mQ w s.heap.size (some (.int r)) M9) args s 102 612 (mA w s.heap.size)) (F0 m 252 ls [.int x39, .int x24]) := by
                      intro x39 H locs ls hf hI hl
                      rw [ek252_40] at hf
                      try dsimp only at hf
                      refine lv_iadd hx hb dL_areKeys_252 ?_
                      refine lv_topi (fun x41 ex41 => ?_)
                      have hf := mlet_s ex41 hf
                      refine lv_istore (lv' := [(9, .int x41), (0, .ref (w.1 12 16)), (1, .int a2), (2, .int a3), (3, .int r1), (4, .int r2), (6, .int x15), (7, .int r22), (8, .int x36), (10, .int x25), (12, .int x31)]) hx hb dL_areKeys_253 hl (by decide) rfl (fun ls hl => ?_)
                      refine lv_iload hx hb dL_areKeys_255 (lv_at hl 9 rfl) ?_
                      refine lv_iload hx hb dL_areKeys_257 (lv_at hl 5 rfl) ?_
                      obtain ⟨k269_44, ek269_44, hf⟩ := mlet_e hf
                      have hj269_44 : ∀ (_u : Unit) (H : Heap) (locs : List Loc) (ls : Array Slot), k269_44 _u = some (r, M9) → mI w s (mA w s.heap.size) H locs M → lv_has ls 17 [(0, .ref (w.1 12 16)), (1, .int a2), (2, .int a3), (3, .int r1), (4, .int r2), (6, .int x15), (7, .int r22), (8, .int x36), (9, .int x41), (10, .int x25)] → W p l e rmL_areKeys s m args below meth c H locs (kc180 + 6) (ks180 + 36) (MQ below (mQ w s.heap.size (some (.int r)) M9) args s 102 612 (mA w s.heap.size)) (F0 m 269 ls []) := by
                        intro _u H locs ls hf hI hl
                        rw [ek269_44] at hf
                        try dsimp only at hf
                        obtain ⟨x45, ex45, hf⟩ := mlet_e hf
                        refine lv_iinc (v := x45) (lv' := [(10, .int x45), (0, .ref (w.1 12 16)), (1, .int a2), (2, .int a3), (3, .int r1), (4, .int r2), (6, .int x15), (7, .int r22), (8, .int x36), (9, .int x41)]) hx hb dL_areKeys_269 hl (k := 9) rfl (by rw [ex45]; rfl) (by decide) rfl (fun ls hl => ?_)
                        refine lv_goto (tgt := 180) hx hb dL_areKeys_272 (by decide) ?_
                        exact ih180 x36 x41 x45 kk H _ _ _ _ (by omega) (by omega) hf hI (lv_sub hl [1, 2, 3, 4, 5, 6, 7, 8, 9, 0] rfl) hk
                      refine lv_icmp_ge (tgt := 269) hx hb dL_areKeys_259 (by decide) (fun c42 => ?_) (fun c42 => ?_)
                      · have hf := (if_pos c42).symm.trans hf
                        exact hj269_44 () H _ _ hf hI (lv_sub hl [1, 2, 3, 4, 5, 6, 7, 8, 0, 9] rfl)
                      · have hf := (if_neg c42).symm.trans hf
                        refine lv_iload hx hb dL_areKeys_262 (lv_at hl 10 rfl) ?_
                        refine lv_if_ne (tgt := 269) hx hb dL_areKeys_264 (by decide) (fun c43 => ?_) (fun c43 => ?_)
                        · have hf := (if_neg c43).symm.trans hf
                          exact hj269_44 () H _ _ hf hI (lv_sub hl [1, 2, 3, 4, 5, 6, 7, 8, 0, 9] rfl)
                        · have hf := (if_pos c43).symm.trans hf
                          refine lv_iconst (v := 0) hx hb dL_areKeys_267 (by decide) ?_
                          exact k_zretf hx hb hr hlk hI rfl hf dL_areKeys_268 (by omega) (by omega)
                    refine lv_icmp_ge (tgt := 251) hx hb dL_areKeys_239 (by decide) (fun c37 => ?_) (fun c37 => ?_)
                    · have hf := (if_pos c37).symm.trans hf
                      refine lv_iconst (v := 0) hx hb dL_areKeys_251 (by decide) ?_
                      refine W.widen (k := (kc180 + 6)) (n := (ks180 + 36)) (by omega) (by omega) ?_
                      exact hj252_40 (0 : Int32) H _ _ hf hI (lv_sub hl [1, 2, 3, 4, 5, 6, 7, 0, 9, 11] rfl)
                    · have hf := (if_neg c37).symm.trans hf
                      refine lv_aload_n hx hb dL_areKeys_242 rfl (lv_at hl 1 rfl) ?_
                      refine lv_iload hx hb dL_areKeys_243 (lv_at hl 10 rfl) ?_
                      obtain ⟨r38, hc, hf⟩ := mbp_e hf
                      refine k_callH (As := [.ref (w.1 12 16), .int r27]) (rest := [.int x24]) hx hb hml hown hI (c_L_isCorrect l w hsf H.size r27 M _ hc) (k_cw (n := 2) hI.T kc_L_isCorrect ki_L_isCorrect (q699 hI.T) (q700 hI.T) (by decide +kernel) ⟨rfl, rfl, Nat.le_of_ble_eq_true rfl, Nat.le_of_ble_eq_true rfl⟩) rfl hl.1 (Nat.le_of_ble_eq_true rfl) dL_areKeys_245 ⟨Nat.le_trans (m := 93) (by omega) (Nat.le_of_ble_eq_true rfl), Nat.le_trans (m := 558) (by omega) (Nat.le_of_ble_eq_true rfl)⟩ (fun H locs hI => ?_)
                      refine lv_goto (tgt := 252) hx hb dL_areKeys_248 (by decide) ?_
                      exact hj252_40 r38 H _ _ hf hI (lv_sub hl [1, 2, 3, 4, 5, 6, 7, 0, 9, 11] rfl)
                  refine lv_if_eq (tgt := 229) hx hb dL_areKeys_222 (by decide) (fun c33 => ?_) (fun c33 => ?_)
                  · have hf := (if_pos c33).symm.trans hf
                    refine lv_iconst (v := 0) hx hb dL_areKeys_229 (by decide) ?_
                    exact hj230_35 (0 : Int32) H _ _ hf hI (lv_sub hl [1, 2, 3, 4, 5, 6, 7, 9, 10, 11, 0] rfl)
                  · have hf := (if_neg c33).symm.trans hf
                    refine lv_iconst (v := 1) hx hb dL_areKeys_225 (by decide) ?_
                    refine lv_goto (tgt := 230) hx hb dL_areKeys_226 (by decide) ?_
                    exact hj230_35 (1 : Int32) H _ _ hf hI (lv_sub hl [1, 2, 3, 4, 5, 6, 7, 9, 10, 11, 0] rfl)
                refine lv_icmp_ne (tgt := 215) hx hb dL_areKeys_208 (by decide) (fun c30 => ?_) (fun c30 => ?_)
                · have hf := (if_neg c30).symm.trans hf
                  refine lv_iconst (v := 0) hx hb dL_areKeys_215 (by decide) ?_
                  exact hj216_32 (0 : Int32) H _ _ hf hI (lv_sub hl [1, 2, 3, 4, 5, 6, 7, 8, 9, 10, 0] rfl)
                · have hf := (if_pos c30).symm.trans hf
                  refine lv_iconst (v := 1) hx hb dL_areKeys_211 (by decide) ?_
                  refine lv_goto (tgt := 216) hx hb dL_areKeys_212 (by decide) ?_
                  exact hj216_32 (1 : Int32) H _ _ hf hI (lv_sub hl [1, 2, 3, 4, 5, 6, 7, 8, 9, 10, 0] rfl)
          refine hL180 9 (0 : Int32) (0 : Int32) (0 : Int32) _ _ _ _ _ _ (Nat.le_of_ble_eq_true rfl) (Nat.le_of_ble_eq_true rfl) hf hI (lv_sub hl [4, 5, 6, 7, 8, 10, 3, 2, 1, 0] rfl) ?_
          intro x46 x47 H locs ls hf hI hl
          try dsimp only at hf
          refine lv_aload_n hx hb dL_areKeys_275 rfl (lv_at hl 0 rfl) ?_
          obtain ⟨r48, M49, hc, hf⟩ := mbnd_e hf
          refine k_callH (As := [.ref (w.1 12 16)]) (rest := []) hx hb hml hown hI (c_L_mostAgreeing l w hsf H.size M _ _ hc) (k_cw (n := 1) hI.T kc_L_mostAgreeing ki_L_mostAgreeing (q1448 hI.T) (q1449 hI.T) (by decide +kernel) ⟨rfl, rfl, Nat.le_of_ble_eq_true rfl, Nat.le_of_ble_eq_true rfl⟩) rfl hl.1 (Nat.le_of_ble_eq_true rfl) dL_areKeys_276 ⟨Nat.le_of_ble_eq_true rfl, Nat.le_of_ble_eq_true rfl⟩ (fun H locs hI => ?_)
          refine lv_istore (lv' := [(10, .int r48), (0, .ref (w.1 12 16)), (1, .int a2), (2, .int a3), (3, .int r1), (4, .int r2), (6, .int x15), (7, .int r22), (8, .int x46), (9, .int x47)]) hx hb dL_areKeys_279 hl (by decide) rfl (fun ls hl => ?_)
          refine lv_iload hx hb dL_areKeys_281 (lv_at hl 7 rfl) ?_
          obtain ⟨k382_79, ek382_79, hf⟩ := mlet_e hf
          have hj382_79 : ∀ (x77 : Int32) (M78 : Mem) (H : Heap) (locs : List Loc) (ls : Array Slot), k382_79 x77 M78 = some (r, M9) → mI w s (mA w s.heap.size) H locs M78 → lv_has ls 17 [(0, .ref (w.1 12 16)), (1, .int a2), (3, .int r1), (4, .int r2), (6, .int x15), (8, .int x46), (10, .int r48)] → W p l e rmL_areKeys s m args below meth c H locs 97 582 (MQ below (mQ w s.heap.size (some (.int r)) M9) args s 102 612 (mA w s.heap.size)) (F0 m 382 ls [.int x77]) := by
            intro x77 M78 H locs ls hf hI hl
            rw [ek382_79] at hf
            try dsimp only at hf
            refine lv_istore (lv' := [(11, .int x77), (0, .ref (w.1 12 16)), (1, .int a2), (3, .int r1), (4, .int r2), (6, .int x15), (8, .int x46), (10, .int r48)]) hx hb dL_areKeys_382 hl (by decide) rfl (fun ls hl => ?_)
            refine lv_aload_n hx hb dL_areKeys_384 rfl (lv_at hl 1 rfl) ?_
            refine lv_iload_n hx hb dL_areKeys_385 rfl (lv_at hl 2 rfl) ?_
            obtain ⟨r80, hc, hf⟩ := mbp_e hf
            refine k_callH (As := [.ref (w.1 12 16), .int a2]) (rest := []) hx hb hml hown hI (c_L_toldValue l w hsf H.size a2 M78 _ hc) (k_cw (n := 2) hI.T kc_L_toldValue ki_L_toldValue (q1440 hI.T) (q1441 hI.T) (by decide +kernel) ⟨rfl, rfl, Nat.le_of_ble_eq_true rfl, Nat.le_of_ble_eq_true rfl⟩) rfl hl.1 (Nat.le_of_ble_eq_true rfl) dL_areKeys_386 ⟨Nat.le_of_ble_eq_true rfl, Nat.le_of_ble_eq_true rfl⟩ (fun H locs hI => ?_)
            refine lv_istore (lv' := [(12, .int r80), (11, .int x77), (0, .ref (w.1 12 16)), (1, .int a2), (3, .int r1), (4, .int r2), (6, .int x15), (8, .int x46), (10, .int r48)]) hx hb dL_areKeys_389 hl (by decide) rfl (fun ls hl => ?_)
            refine lv_aload_n hx hb dL_areKeys_391 rfl (lv_at hl 2 rfl) ?_
            refine lv_iload_n hx hb dL_areKeys_392 rfl (lv_at hl 3 rfl) ?_
            refine lv_iconst (v := 1) hx hb dL_areKeys_393 (by decide) ?_
            refine lv_iadd hx hb dL_areKeys_394 ?_
            refine lv_bipush (v := 97) hx hb dL_areKeys_395 (by decide) ?_
            refine lv_irem hx hb dL_areKeys_397 (by decide) ?_
            obtain ⟨r81, hc, hf⟩ := mbp_e hf
            refine k_callH (As := [.ref (w.1 12 16), .int (mrem (a2 + (1 : Int32)) (97 : Int32))]) (rest := []) hx hb hml hown hI (c_L_toldValue l w hsf H.size (mrem (a2 + (1 : Int32)) (97 : Int32)) M78 _ hc) (k_cw (n := 2) hI.T kc_L_toldValue ki_L_toldValue (q1440 hI.T) (q1441 hI.T) (by decide +kernel) ⟨rfl, rfl, Nat.le_of_ble_eq_true rfl, Nat.le_of_ble_eq_true rfl⟩) rfl hl.1 (Nat.le_of_ble_eq_true rfl) dL_areKeys_398 ⟨Nat.le_of_ble_eq_true rfl, Nat.le_of_ble_eq_true rfl⟩ (fun H locs hI => ?_)
            refine lv_istore (lv' := [(13, .int r81), (12, .int r80), (11, .int x77), (0, .ref (w.1 12 16)), (1, .int a2), (3, .int r1), (4, .int r2), (6, .int x15), (8, .int x46), (10, .int r48)]) hx hb dL_areKeys_401 hl (by decide) rfl (fun ls hl => ?_)
            refine lv_aload_n hx hb dL_areKeys_403 rfl (lv_at hl 3 rfl) ?_
            refine lv_iload_n hx hb dL_areKeys_404 rfl (lv_at hl 4 rfl) ?_
            refine lv_iconst (v := 2) hx hb dL_areKeys_405 (by decide) ?_
            refine lv_iadd hx hb dL_areKeys_406 ?_
            refine lv_bipush (v := 97) hx hb dL_areKeys_407 (by decide) ?_
            refine lv_irem hx hb dL_areKeys_409 (by decide) ?_
            obtain ⟨r82, hc, hf⟩ := mbp_e hf
            refine k_callH (As := [.ref (w.1 12 16), .int (mrem (a2 + (2 : Int32)) (97 : Int32))]) (rest := []) hx hb hml hown hI (c_L_toldValue l w hsf H.size (mrem (a2 + (2 : Int32)) (97 : Int32)) M78 _ hc) (k_cw (n := 2) hI.T kc_L_toldValue ki_L_toldValue (q1440 hI.T) (q1441 hI.T) (by decide +kernel) ⟨rfl, rfl, Nat.le_of_ble_eq_true rfl, Nat.le_of_ble_eq_true rfl⟩) rfl hl.1 (Nat.le_of_ble_eq_true rfl) dL_areKeys_410 ⟨Nat.le_of_ble_eq_true rfl, Nat.le_of_ble_eq_true rfl⟩ (fun H locs hI => ?_)
            refine lv_istore (lv' := [(14, .int r82), (13, .int r81), (12, .int r80), (11, .int x77), (0, .ref (w.1 12 16)), (1, .int a2), (3, .int r1), (4, .int r2), (6, .int x15), (8, .int x46), (10, .int r48)]) hx hb dL_areKeys_413 hl (by decide) rfl (fun ls hl => ?_)
            refine lv_aload_n hx hb dL_areKeys_415 rfl (lv_at hl 4 rfl) ?_
            refine lv_iload_n hx hb dL_areKeys_416 rfl (lv_at hl 5 rfl) ?_
            refine lv_iconst (v := 3) hx hb dL_areKeys_417 (by decide) ?_
            refine lv_iadd hx hb dL_areKeys_418 ?_
            refine lv_bipush (v := 97) hx hb dL_areKeys_419 (by decide) ?_
            refine lv_irem hx hb dL_areKeys_421 (by decide) ?_
            obtain ⟨r83, hc, hf⟩ := mbp_e hf
            refine k_callH (As := [.ref (w.1 12 16), .int (mrem (a2 + (3 : Int32)) (97 : Int32))]) (rest := []) hx hb hml hown hI (c_L_toldValue l w hsf H.size (mrem (a2 + (3 : Int32)) (97 : Int32)) M78 _ hc) (k_cw (n := 2) hI.T kc_L_toldValue ki_L_toldValue (q1440 hI.T) (q1441 hI.T) (by decide +kernel) ⟨rfl, rfl, Nat.le_of_ble_eq_true rfl, Nat.le_of_ble_eq_true rfl⟩) rfl hl.1 (Nat.le_of_ble_eq_true rfl) dL_areKeys_422 ⟨Nat.le_of_ble_eq_true rfl, Nat.le_of_ble_eq_true rfl⟩ (fun H locs hI => ?_)
            refine lv_istore (lv' := [(15, .int r83), (14, .int r82), (13, .int r81), (12, .int r80), (11, .int x77), (0, .ref (w.1 12 16)), (1, .int a2), (3, .int r1), (4, .int r2), (6, .int x15), (8, .int x46), (10, .int r48)]) hx hb dL_areKeys_425 hl (by decide) rfl (fun ls hl => ?_)
            refine lv_iload hx hb dL_areKeys_427 (lv_at hl 8 rfl) ?_
            refine lv_iconst (v := 1) hx hb dL_areKeys_429 (by decide) ?_
            obtain ⟨k475_87, ek475_87, hf⟩ := mlet_e hf
            have hj475_87 : ∀ (x86 : Int32) (H : Heap) (locs : List Loc) (ls : Array Slot), k475_87 x86 = some (r, M9) → mI w s (mA w s.heap.size) H locs M78 → lv_has ls 17 [(0, .ref (w.1 12 16)), (3, .int r1), (4, .int r2), (6, .int x15), (8, .int x46), (10, .int r48), (11, .int x77)] → W p l e rmL_areKeys s m args below meth c H locs 101 606 (MQ below (mQ w s.heap.size (some (.int r)) M9) args s 102 612 (mA w s.heap.size)) (F0 m 475 ls [.int x86]) := by
              intro x86 H locs ls hf hI hl
              rw [ek475_87] at hf
              try dsimp only at hf
              refine lv_istore (lv' := [(16, .int x86), (0, .ref (w.1 12 16)), (3, .int r1), (4, .int r2), (6, .int x15), (8, .int x46), (10, .int r48), (11, .int x77)]) hx hb dL_areKeys_475 hl (by decide) rfl (fun ls hl => ?_)
              refine lv_iload hx hb dL_areKeys_477 (lv_at hl 7 rfl) ?_
              refine lv_if_eq (tgt := 530) hx hb dL_areKeys_479 (by decide) (fun c88 => ?_) (fun c88 => ?_)
              · have hf := (if_pos c88).symm.trans hf
                refine lv_iconst (v := 0) hx hb dL_areKeys_530 (by decide) ?_
                exact k_zretf hx hb hr hlk hI rfl hf dL_areKeys_531 (Nat.le_of_ble_eq_true rfl) (Nat.le_of_ble_eq_true rfl)
              · have hf := (if_neg c88).symm.trans hf
                refine lv_iload hx hb dL_areKeys_482 (lv_at hl 0 rfl) ?_
                refine lv_bipush (v := 97) hx hb dL_areKeys_484 (by decide) ?_
                refine lv_irem hx hb dL_areKeys_486 (by decide) ?_
                refine lv_if_ne (tgt := 530) hx hb dL_areKeys_487 (by decide) (fun c89 => ?_) (fun c89 => ?_)
                · have hf := (if_neg c89).symm.trans hf
                  refine lv_iconst (v := 0) hx hb dL_areKeys_530 (by decide) ?_
                  exact k_zretf hx hb hr hlk hI rfl hf dL_areKeys_531 (Nat.le_of_ble_eq_true rfl) (Nat.le_of_ble_eq_true rfl)
                · have hf := (if_pos c89).symm.trans hf
                  refine lv_aload_n hx hb dL_areKeys_490 rfl (lv_at hl 1 rfl) ?_
                  obtain ⟨r90, M91, hc, hf⟩ := mbnd_e hf
                  refine k_callH (As := [.ref (w.1 12 16)]) (rest := []) hx hb hml hown hI (c_L_mostAgreeingBySets l w hsf H.size M78 _ _ hc) (k_cw (n := 1) hI.T kc_L_mostAgreeingBySets ki_L_mostAgreeingBySets (q1470 hI.T) (q1471 hI.T) (by decide +kernel) ⟨rfl, rfl, Nat.le_of_ble_eq_true rfl, Nat.le_of_ble_eq_true rfl⟩) rfl hl.1 (Nat.le_of_ble_eq_true rfl) dL_areKeys_491 ⟨Nat.le_of_ble_eq_true rfl, Nat.le_of_ble_eq_true rfl⟩ (fun H locs hI => ?_)
                  refine lv_iload hx hb dL_areKeys_494 (lv_at hl 6 rfl) ?_
                  refine lv_icmp_ne (tgt := 530) hx hb dL_areKeys_496 (by decide) (fun c92 => ?_) (fun c92 => ?_)
                  · have hf := (if_neg c92).symm.trans hf
                    refine lv_iconst (v := 0) hx hb dL_areKeys_530 (by decide) ?_
                    exact k_zretf hx hb hr hlk hI rfl hf dL_areKeys_531 (Nat.le_of_ble_eq_true rfl) (Nat.le_of_ble_eq_true rfl)
                  · have hf := (if_pos c92).symm.trans hf
                    refine lv_iload hx hb dL_areKeys_499 (lv_at hl 6 rfl) ?_
                    refine lv_iload hx hb dL_areKeys_501 (lv_at hl 3 rfl) ?_
                    refine lv_icmp_lt (tgt := 530) hx hb dL_areKeys_503 (by decide) (fun c93 => ?_) (fun c93 => ?_)
                    · have hf := (if_pos c93).symm.trans hf
                      refine lv_iconst (v := 0) hx hb dL_areKeys_530 (by decide) ?_
                      exact k_zretf hx hb hr hlk hI rfl hf dL_areKeys_531 (Nat.le_of_ble_eq_true rfl) (Nat.le_of_ble_eq_true rfl)
                    · have hf := (if_neg c93).symm.trans hf
                      refine lv_iload hx hb dL_areKeys_506 (lv_at hl 6 rfl) ?_
                      refine lv_iload hx hb dL_areKeys_508 (lv_at hl 5 rfl) ?_
                      refine lv_icmp_lt (tgt := 530) hx hb dL_areKeys_510 (by decide) (fun c94 => ?_) (fun c94 => ?_)
                      · have hf := (if_pos c94).symm.trans hf
                        refine lv_iconst (v := 0) hx hb dL_areKeys_530 (by decide) ?_
                        exact k_zretf hx hb hr hlk hI rfl hf dL_areKeys_531 (Nat.le_of_ble_eq_true rfl) (Nat.le_of_ble_eq_true rfl)
                      · have hf := (if_neg c94).symm.trans hf
                        refine lv_iload hx hb dL_areKeys_513 (lv_at hl 6 rfl) ?_
                        refine lv_iload hx hb dL_areKeys_515 (lv_at hl 4 rfl) ?_
                        refine lv_icmp_lt (tgt := 530) hx hb dL_areKeys_517 (by decide) (fun c95 => ?_) (fun c95 => ?_)
                        · have hf := (if_pos c95).symm.trans hf
                          refine lv_iconst (v := 0) hx hb dL_areKeys_530 (by decide) ?_
                          exact k_zretf hx hb hr hlk hI rfl hf dL_areKeys_531 (Nat.le_of_ble_eq_true rfl) (Nat.le_of_ble_eq_true rfl)
                        · have hf := (if_neg c95).symm.trans hf
                          refine lv_iload hx hb dL_areKeys_520 (lv_at hl 6 rfl) ?_
                          refine lv_iload_n hx hb dL_areKeys_522 rfl (lv_at hl 2 rfl) ?_
                          refine lv_icmp_gt (tgt := 530) hx hb dL_areKeys_523 (by decide) (fun c96 => ?_) (fun c96 => ?_)
                          · have hf := (if_pos c96).symm.trans hf
                            refine lv_iconst (v := 0) hx hb dL_areKeys_530 (by decide) ?_
                            exact k_zretf hx hb hr hlk hI rfl hf dL_areKeys_531 (Nat.le_of_ble_eq_true rfl) (Nat.le_of_ble_eq_true rfl)
                          · have hf := (if_neg c96).symm.trans hf
                            refine lv_iconst (v := 1) hx hb dL_areKeys_526 (by decide) ?_
                            refine lv_goto (tgt := 531) hx hb dL_areKeys_527 (by decide) ?_
                            exact k_zretf hx hb hr hlk hI rfl hf dL_areKeys_531 (Nat.le_of_ble_eq_true rfl) (Nat.le_of_ble_eq_true rfl)
            refine lv_icmp_ne (tgt := 441) hx hb dL_areKeys_430 (by decide) (fun c84 => ?_) (fun c84 => ?_)
            · have hf := (if_neg c84).symm.trans hf
              refine lv_iload hx hb dL_areKeys_441 (lv_at hl 8 rfl) ?_
              refine lv_iconst (v := 2) hx hb dL_areKeys_443 (by decide) ?_
              refine lv_icmp_ne (tgt := 460) hx hb dL_areKeys_444 (by decide) (fun c85 => ?_) (fun c85 => ?_)
              · have hf := (if_neg c85).symm.trans hf
                refine lv_iload hx hb dL_areKeys_460 (lv_at hl 0 rfl) ?_
                refine lv_iconst (v := 3) hx hb dL_areKeys_462 (by decide) ?_
                refine lv_iload hx hb dL_areKeys_463 (lv_at hl 1 rfl) ?_
                refine lv_imul hx hb dL_areKeys_465 ?_
                refine lv_isub hx hb dL_areKeys_466 ?_
                refine lv_iconst (v := 3) hx hb dL_areKeys_467 (by decide) ?_
                refine lv_iload hx hb dL_areKeys_468 (lv_at hl 2 rfl) ?_
                refine lv_imul hx hb dL_areKeys_470 ?_
                refine lv_iadd hx hb dL_areKeys_471 ?_
                refine lv_iload hx hb dL_areKeys_472 (lv_at hl 3 rfl) ?_
                refine lv_isub hx hb dL_areKeys_474 ?_
                exact hj475_87 (((r83 - ((3 : Int32) * r82)) + ((3 : Int32) * r81)) - r80) H _ _ hf hI (lv_sub hl [5, 7, 8, 9, 10, 11, 4] rfl)
              · have hf := (if_pos c85).symm.trans hf
                refine lv_iload hx hb dL_areKeys_447 (lv_at hl 1 rfl) ?_
                refine lv_iconst (v := 2) hx hb dL_areKeys_449 (by decide) ?_
                refine lv_iload hx hb dL_areKeys_450 (lv_at hl 2 rfl) ?_
                refine lv_imul hx hb dL_areKeys_452 ?_
                refine lv_isub hx hb dL_areKeys_453 ?_
                refine lv_iload hx hb dL_areKeys_454 (lv_at hl 3 rfl) ?_
                refine lv_iadd hx hb dL_areKeys_456 ?_
                refine lv_goto (tgt := 475) hx hb dL_areKeys_457 (by decide) ?_
                exact hj475_87 ((r82 - ((2 : Int32) * r81)) + r80) H _ _ hf hI (lv_sub hl [5, 7, 8, 9, 10, 11, 4] rfl)
            · have hf := (if_pos c84).symm.trans hf
              refine lv_iload hx hb dL_areKeys_433 (lv_at hl 2 rfl) ?_
              refine lv_iload hx hb dL_areKeys_435 (lv_at hl 3 rfl) ?_
              refine lv_isub hx hb dL_areKeys_437 ?_
              refine lv_goto (tgt := 475) hx hb dL_areKeys_438 (by decide) ?_
              exact hj475_87 (r81 - r80) H _ _ hf hI (lv_sub hl [5, 7, 8, 9, 10, 11, 4] rfl)
          obtain ⟨k381_76, ek381_76, hf⟩ := mlet_e hf
          have hj381_76 : ∀ (M75 : Mem) (H : Heap) (locs : List Loc) (ls : Array Slot), k381_76 M75 = some (r, M9) → mI w s (mA w s.heap.size) H locs M75 → lv_has ls 17 [(0, .ref (w.1 12 16)), (1, .int a2), (3, .int r1), (4, .int r2), (6, .int x15), (8, .int x46), (10, .int r48)] → W p l e rmL_areKeys s m args below meth c H locs 97 582 (MQ below (mQ w s.heap.size (some (.int r)) M9) args s 102 612 (mA w s.heap.size)) (F0 m 381 ls []) := by
            intro M75 H locs ls hf hI hl
            rw [ek381_76] at hf
            try dsimp only at hf
            refine lv_iconst (v := 0) hx hb dL_areKeys_381 (by decide) ?_
            exact hj382_79 (0 : Int32) M75 H _ _ hf hI (lv_sub hl [0, 1, 2, 3, 4, 5, 6] rfl)
          refine lv_if_lt (tgt := 381) hx hb dL_areKeys_283 (by decide) (fun c50 => ?_) (fun c50 => ?_)
          · have hf := (if_pos c50).symm.trans hf
            refine W.widen (k := 97) (n := 582) (Nat.le_of_ble_eq_true rfl) (Nat.le_of_ble_eq_true rfl) ?_
            exact hj381_76 M49 H _ _ hf hI (lv_sub hl [1, 2, 4, 5, 6, 8, 0] rfl)
          · have hf := (if_neg c50).symm.trans hf
            refine lv_iload hx hb dL_areKeys_286 (lv_at hl 7 rfl) ?_
            refine lv_bipush (v := 97) hx hb dL_areKeys_288 (by decide) ?_
            refine lv_icmp_ge (tgt := 381) hx hb dL_areKeys_290 (by decide) (fun c51 => ?_) (fun c51 => ?_)
            · have hf := (if_pos c51).symm.trans hf
              refine W.widen (k := 97) (n := 582) (Nat.le_of_ble_eq_true rfl) (Nat.le_of_ble_eq_true rfl) ?_
              exact hj381_76 M49 H _ _ hf hI (lv_sub hl [1, 2, 4, 5, 6, 8, 0] rfl)
            · have hf := (if_neg c51).symm.trans hf
              refine lv_aload_n hx hb dL_areKeys_293 rfl (lv_at hl 1 rfl) ?_
              obtain ⟨r52, M53, hc, hf⟩ := mbnd_e hf
              refine k_callH (As := [.ref (w.1 12 16)]) (rest := []) hx hb hml hown hI (c_L_toldSecretByElimination l w hsf H.size M49 _ _ hc) (k_cw (n := 1) hI.T kc_L_toldSecretByElimination ki_L_toldSecretByElimination (q1409 hI.T) (q1410 hI.T) (by decide +kernel) ⟨rfl, rfl, Nat.le_of_ble_eq_true rfl, Nat.le_of_ble_eq_true rfl⟩) rfl hl.1 (Nat.le_of_ble_eq_true rfl) dL_areKeys_294 ⟨Nat.le_of_ble_eq_true rfl, Nat.le_of_ble_eq_true rfl⟩ (fun H locs hI => ?_)
              refine lv_iload hx hb dL_areKeys_297 (lv_at hl 7 rfl) ?_
              refine lv_icmp_ne (tgt := 381) hx hb dL_areKeys_299 (by decide) (fun c54 => ?_) (fun c54 => ?_)
              · have hf := (if_neg c54).symm.trans hf
                refine W.widen (k := 97) (n := 582) (Nat.le_of_ble_eq_true rfl) (Nat.le_of_ble_eq_true rfl) ?_
                exact hj381_76 M53 H _ _ hf hI (lv_sub hl [1, 2, 4, 5, 6, 8, 0] rfl)
              · have hf := (if_pos c54).symm.trans hf
                refine lv_aload_n hx hb dL_areKeys_302 rfl (lv_at hl 1 rfl) ?_
                refine lv_iconst (v := 0) hx hb dL_areKeys_303 (by decide) ?_
                obtain ⟨r55, hc, hf⟩ := mbp_e hf
                refine k_callH (As := [.ref (w.1 12 16), .int (0 : Int32)]) (rest := []) hx hb hml hown hI (c_L_toldValue l w hsf H.size (0 : Int32) M53 _ hc) (k_cw (n := 2) hI.T kc_L_toldValue ki_L_toldValue (q1440 hI.T) (q1441 hI.T) (by decide +kernel) ⟨rfl, rfl, Nat.le_of_ble_eq_true rfl, Nat.le_of_ble_eq_true rfl⟩) rfl hl.1 (Nat.le_of_ble_eq_true rfl) dL_areKeys_304 ⟨Nat.le_of_ble_eq_true rfl, Nat.le_of_ble_eq_true rfl⟩ (fun H locs hI => ?_)
                refine lv_iload hx hb dL_areKeys_307 (lv_at hl 7 rfl) ?_
                refine lv_icmp_ne (tgt := 381) hx hb dL_areKeys_309 (by decide) (fun c56 => ?_) (fun c56 => ?_)
                · have hf := (if_neg c56).symm.trans hf
                  refine W.widen (k := 97) (n := 582) (Nat.le_of_ble_eq_true rfl) (Nat.le_of_ble_eq_true rfl) ?_
                  exact hj381_76 M53 H _ _ hf hI (lv_sub hl [1, 2, 4, 5, 6, 8, 0] rfl)
                · have hf := (if_pos c56).symm.trans hf
                  refine lv_iload hx hb dL_areKeys_312 (lv_at hl 9 rfl) ?_
                  refine lv_iload hx hb dL_areKeys_314 (lv_at hl 5 rfl) ?_
                  obtain ⟨k325_59, ek325_59, hf⟩ := mlet_e hf
                  have hj325_59 : ∀ (_u : Unit) (H : Heap) (locs : List Loc) (ls : Array Slot), k325_59 _u = some (r, M9) → mI w s (mA w s.heap.size) H locs M53 → lv_has ls 17 [(0, .ref (w.1 12 16)), (1, .int a2), (3, .int r1), (4, .int r2), (6, .int x15), (8, .int x46), (10, .int r48)] → W p l e rmL_areKeys s m args below meth c H locs 96 576 (MQ below (mQ w s.heap.size (some (.int r)) M9) args s 102 612 (mA w s.heap.size)) (F0 m 325 ls []) := by
                    intro _u H locs ls hf hI hl
                    rw [ek325_59] at hf
                    try dsimp only at hf
                    refine lv_aload_n hx hb dL_areKeys_325 rfl (lv_at hl 0 rfl) ?_
                    obtain ⟨r60, hc, hf⟩ := mbp_e hf
                    refine k_callH (As := [.ref (w.1 12 16)]) (rest := []) hx hb hml hown hI (c_L_doAgree l w hsf H.size M53 _ hc) (k_cw (n := 1) hI.T kc_L_doAgree ki_L_doAgree (q556 hI.T) (q557 hI.T) (by decide +kernel) ⟨rfl, rfl, Nat.le_of_ble_eq_true rfl, Nat.le_of_ble_eq_true rfl⟩) rfl hl.1 (Nat.le_of_ble_eq_true rfl) dL_areKeys_326 ⟨Nat.le_of_ble_eq_true rfl, Nat.le_of_ble_eq_true rfl⟩ (fun H locs hI => ?_)
                    refine lv_iconst (v := 1) hx hb dL_areKeys_329 (by decide) ?_
                    obtain ⟨k338_63, ek338_63, hf⟩ := mlet_e hf
                    have hj338_63 : ∀ (x62 : Int32) (H : Heap) (locs : List Loc) (ls : Array Slot), k338_63 x62 = some (r, M9) → mI w s (mA w s.heap.size) H locs M53 → lv_has ls 17 [(0, .ref (w.1 12 16)), (1, .int a2), (3, .int r1), (4, .int r2), (6, .int x15), (8, .int x46), (10, .int r48)] → W p l e rmL_areKeys s m args below meth c H locs 97 582 (MQ below (mQ w s.heap.size (some (.int r)) M9) args s 102 612 (mA w s.heap.size)) (F0 m 338 ls [.int x62]) := by
                      intro x62 H locs ls hf hI hl
                      rw [ek338_63] at hf
                      try dsimp only at hf
                      refine lv_iload hx hb dL_areKeys_338 (lv_at hl 5 rfl) ?_
                      refine lv_iload_n hx hb dL_areKeys_340 rfl (lv_at hl 2 rfl) ?_
                      obtain ⟨k349_66, ek349_66, hf⟩ := mlet_e hf
                      have hj349_66 : ∀ (x65 : Int32) (H : Heap) (locs : List Loc) (ls : Array Slot), k349_66 x65 = some (r, M9) → mI w s (mA w s.heap.size) H locs M53 → lv_has ls 17 [(0, .ref (w.1 12 16)), (1, .int a2), (3, .int r1), (4, .int r2), (6, .int x15), (8, .int x46), (10, .int r48)] → W p l e rmL_areKeys s m args below meth c H locs 97 582 (MQ below (mQ w s.heap.size (some (.int r)) M9) args s 102 612 (mA w s.heap.size)) (F0 m 349 ls [.int x65, .int x62]) := by
                        intro x65 H locs ls hf hI hl
                        rw [ek349_66] at hf
                        try dsimp only at hf
                        refine lv_icmp_ne (tgt := 381) hx hb dL_areKeys_349 (by decide) (fun c67 => ?_) (fun c67 => ?_)
                        · have hf := (if_neg c67).symm.trans hf
                          exact hj381_76 M53 H _ _ hf hI (lv_sub hl [0, 1, 2, 3, 4, 5, 6] rfl)
                        · have hf := (if_pos c67).symm.trans hf
                          refine lv_iload hx hb dL_areKeys_352 (lv_at hl 6 rfl) ?_
                          refine lv_iload_n hx hb dL_areKeys_354 rfl (lv_at hl 2 rfl) ?_
                          obtain ⟨k363_70, ek363_70, hf⟩ := mlet_e hf
                          have hj363_70 : ∀ (x69 : Int32) (H : Heap) (locs : List Loc) (ls : Array Slot), k363_70 x69 = some (r, M9) → mI w s (mA w s.heap.size) H locs M53 → lv_has ls 17 [(0, .ref (w.1 12 16)), (1, .int a2), (3, .int r1), (4, .int r2), (6, .int x15), (8, .int x46), (10, .int r48)] → W p l e rmL_areKeys s m args below meth c H locs 97 582 (MQ below (mQ w s.heap.size (some (.int r)) M9) args s 102 612 (mA w s.heap.size)) (F0 m 363 ls [.int x69]) := by
                            intro x69 H locs ls hf hI hl
                            rw [ek363_70] at hf
                            try dsimp only at hf
                            refine lv_iload hx hb dL_areKeys_363 (lv_at hl 5 rfl) ?_
                            refine lv_iload_n hx hb dL_areKeys_365 rfl (lv_at hl 2 rfl) ?_
                            obtain ⟨k374_73, ek374_73, hf⟩ := mlet_e hf
                            have hj374_73 : ∀ (x72 : Int32) (H : Heap) (locs : List Loc) (ls : Array Slot), k374_73 x72 = some (r, M9) → mI w s (mA w s.heap.size) H locs M53 → lv_has ls 17 [(0, .ref (w.1 12 16)), (1, .int a2), (3, .int r1), (4, .int r2), (6, .int x15), (8, .int x46), (10, .int r48)] → W p l e rmL_areKeys s m args below meth c H locs 97 582 (MQ below (mQ w s.heap.size (some (.int r)) M9) args s 102 612 (mA w s.heap.size)) (F0 m 374 ls [.int x72, .int x69]) := by
                              intro x72 H locs ls hf hI hl
                              rw [ek374_73] at hf
                              try dsimp only at hf
                              refine lv_icmp_ne (tgt := 381) hx hb dL_areKeys_374 (by decide) (fun c74 => ?_) (fun c74 => ?_)
                              · have hf := (if_neg c74).symm.trans hf
                                exact hj381_76 M53 H _ _ hf hI (lv_sub hl [0, 1, 2, 3, 4, 5, 6] rfl)
                              · have hf := (if_pos c74).symm.trans hf
                                refine lv_iconst (v := 1) hx hb dL_areKeys_377 (by decide) ?_
                                refine lv_goto (tgt := 382) hx hb dL_areKeys_378 (by decide) ?_
                                exact hj382_79 (1 : Int32) M53 H _ _ hf hI (lv_sub hl [0, 1, 2, 3, 4, 5, 6] rfl)
                            refine lv_icmp_ne (tgt := 373) hx hb dL_areKeys_366 (by decide) (fun c71 => ?_) (fun c71 => ?_)
                            · have hf := (if_neg c71).symm.trans hf
                              refine lv_iconst (v := 0) hx hb dL_areKeys_373 (by decide) ?_
                              exact hj374_73 (0 : Int32) H _ _ hf hI (lv_sub hl [0, 1, 2, 3, 4, 5, 6] rfl)
                            · have hf := (if_pos c71).symm.trans hf
                              refine lv_iconst (v := 1) hx hb dL_areKeys_369 (by decide) ?_
                              refine lv_goto (tgt := 374) hx hb dL_areKeys_370 (by decide) ?_
                              exact hj374_73 (1 : Int32) H _ _ hf hI (lv_sub hl [0, 1, 2, 3, 4, 5, 6] rfl)
                          refine lv_icmp_ne (tgt := 362) hx hb dL_areKeys_355 (by decide) (fun c68 => ?_) (fun c68 => ?_)
                          · have hf := (if_neg c68).symm.trans hf
                            refine lv_iconst (v := 0) hx hb dL_areKeys_362 (by decide) ?_
                            exact hj363_70 (0 : Int32) H _ _ hf hI (lv_sub hl [0, 1, 2, 3, 4, 5, 6] rfl)
                          · have hf := (if_pos c68).symm.trans hf
                            refine lv_iconst (v := 1) hx hb dL_areKeys_358 (by decide) ?_
                            refine lv_goto (tgt := 363) hx hb dL_areKeys_359 (by decide) ?_
                            exact hj363_70 (1 : Int32) H _ _ hf hI (lv_sub hl [0, 1, 2, 3, 4, 5, 6] rfl)
                      refine lv_icmp_ne (tgt := 348) hx hb dL_areKeys_341 (by decide) (fun c64 => ?_) (fun c64 => ?_)
                      · have hf := (if_neg c64).symm.trans hf
                        refine lv_iconst (v := 0) hx hb dL_areKeys_348 (by decide) ?_
                        exact hj349_66 (0 : Int32) H _ _ hf hI (lv_sub hl [0, 1, 2, 3, 4, 5, 6] rfl)
                      · have hf := (if_pos c64).symm.trans hf
                        refine lv_iconst (v := 1) hx hb dL_areKeys_344 (by decide) ?_
                        refine lv_goto (tgt := 349) hx hb dL_areKeys_345 (by decide) ?_
                        exact hj349_66 (1 : Int32) H _ _ hf hI (lv_sub hl [0, 1, 2, 3, 4, 5, 6] rfl)
                    refine lv_icmp_ne (tgt := 337) hx hb dL_areKeys_330 (by decide) (fun c61 => ?_) (fun c61 => ?_)
                    · have hf := (if_neg c61).symm.trans hf
                      refine lv_iconst (v := 0) hx hb dL_areKeys_337 (by decide) ?_
                      exact hj338_63 (0 : Int32) H _ _ hf hI (lv_sub hl [0, 1, 2, 3, 4, 5, 6] rfl)
                    · have hf := (if_pos c61).symm.trans hf
                      refine lv_iconst (v := 1) hx hb dL_areKeys_333 (by decide) ?_
                      refine lv_goto (tgt := 338) hx hb dL_areKeys_334 (by decide) ?_
                      exact hj338_63 (1 : Int32) H _ _ hf hI (lv_sub hl [0, 1, 2, 3, 4, 5, 6] rfl)
                  refine lv_icmp_lt (tgt := 325) hx hb dL_areKeys_316 (by decide) (fun c57 => ?_) (fun c57 => ?_)
                  · have hf := (if_pos c57).symm.trans hf
                    exact hj325_59 () H _ _ hf hI (lv_sub hl [1, 2, 4, 5, 6, 8, 0] rfl)
                  · have hf := (if_neg c57).symm.trans hf
                    refine lv_iload hx hb dL_areKeys_319 (lv_at hl 7 rfl) ?_
                    refine lv_iload_n hx hb dL_areKeys_321 rfl (lv_at hl 3 rfl) ?_
                    refine lv_icmp_ne (tgt := 381) hx hb dL_areKeys_322 (by decide) (fun c58 => ?_) (fun c58 => ?_)
                    · have hf := (if_neg c58).symm.trans hf
                      refine W.widen (k := 97) (n := 582) (Nat.le_of_ble_eq_true rfl) (Nat.le_of_ble_eq_true rfl) ?_
                      exact hj381_76 M53 H _ _ hf hI (lv_sub hl [1, 2, 4, 5, 6, 8, 0] rfl)
                    · have hf := (if_pos c58).symm.trans hf
                      exact hj325_59 () H _ _ hf hI (lv_sub hl [1, 2, 4, 5, 6, 8, 0] rfl)
        · have hf := (if_neg c21).symm.trans hf
          exact hj104_97 () H _ _ hf hI (lv_sub hl [0, 1] rfl)
    · have hf := (if_neg c19).symm.trans hf
      refine lv_iconst (v := 0) hx hb dL_areKeys_91 (by decide) ?_
      exact k_zretf hx hb hr hlk hI rfl hf dL_areKeys_92 (Nat.le_of_ble_eq_true rfl) (Nat.le_of_ble_eq_true rfl)
