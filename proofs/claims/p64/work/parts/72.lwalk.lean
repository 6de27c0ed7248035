/-! THE LAW'S BODY, from 13 on -/
set_option maxHeartbeats 8000000 in
set_option maxRecDepth 100000 in
theorem law_walk {p : Program} {l : Launch} {e : Env} {R : Room} {s : State} {m : MethodId} {args : Array Value} {below : List Frame} {meth : Method} {c : Code} {Q : State → Prop} {w : WD} {xa xl : Nat} {xs : Nat → Int32} {so : Nat} {cL : ClassId}
    (c_L_does : ∀ (l : Launch) (w : WD) (hsf : l.stackTraces = false) (sz : Nat) (xa xl : Nat) (xs : Nat → Int32) (hX : ∀ A U H, mSt w A U H → va_T .int xa xl (fun k => .int (xs k)) A U H) (a2 : Int32) (a3 : Int32) (a5 : Int32) (a6 : Int32) (M : Mem) (r : Int32) (M9 : Mem) (hf : f_L_does xl xs a2 a3 a5 a6 M = some (r, M9)), kMet l yL_does [Cond.code yL_does cL_does 9 (some .int)] rmL_does w sz M [.ref xa, .int a2, .int a3, .ref (w.1 12 16), .int a5, .int a6] (some (.int r)) M9 40 400)
    (hsf : l.stackTraces = false) (hx : p.tables.exec = Jvm.exec) (hb : c.code = cL_law) (hml : c.maxLocals = 33) (hown : s.vm.findClass "ShareVaultLaw" = some m.cls) (hX : ∀ A U H, mSt w A U H → va_T .int xa xl (fun k => .int (xs k)) A U H)
    (hRf : 14 ≤ R.frames) (hRl : 385 ≤ R.locals) (hRc : 45931 ≤ R.cells) (hRs : 284805 ≤ R.slots) (kEnd : ∀ (H : Heap) (locs : List Loc) (N : MemY) {ls : Array Slot}, rI w s H locs so cL N → W p l e R s m args below meth c H locs 45931 284805 Q (F0 m 1034 ls [.int 1]))
    (N : MemY) (hf : f_L_law xl xs N = some 1) (H : Heap) (locs : List Loc) (ls : Array Slot) (hI : rI w s H locs so cL N) (hl : lv_has ls 33 [(0, .ref xa), (1, .ref (w.1 12 16)), (2, .ref so)]) : W p l e R s m args below meth c H locs 214 1703 Q (F0 m 13 ls []) := by
  unfold f_L_law at hf
  refine lv_iconst (v := 0) hx hb dL_law_13 (by decide) ?_
  refine lv_istore_n (lv' := [(3, .int (0 : Int32)), (0, .ref xa), (1, .ref (w.1 12 16)), (2, .ref so)]) hx hb dL_law_14 rfl hl (by decide) rfl (fun ls hl => ?_)
  refine lv_aload_n hx hb dL_law_15 rfl (lv_at hl 3 rfl) ?_
  refine lv_iload_n hx hb dL_law_16 rfl (lv_at hl 0 rfl) ?_
  refine lv_aload_n hx hb dL_law_17 rfl (lv_at hl 2 rfl) ?_
  obtain ⟨r1, hc, hf⟩ := mbp_e hf
  refine r_callS (As := [.ref (w.1 12 16)]) (rest := [.int (0 : Int32), .ref so]) hx hb hml hown hI (c_L_sum l w hsf H.size N.1 _ hc) (kb_L_sum hI.T (q1358 hI.T) (Nat.le_trans (Nat.le_of_ble_eq_true rfl) hRf) (Nat.le_trans (Nat.le_of_ble_eq_true rfl) hRl)) (q1359 hI.T) rfl hl.1 (Nat.le_of_ble_eq_true rfl) dL_law_18 ⟨Nat.le_trans (Nat.le_of_ble_eq_true rfl) hRc, Nat.le_trans (Nat.le_of_ble_eq_true rfl) hRs⟩ (fun H locs hI => ?_)
  obtain ⟨hi, hf⟩ := mix_e hf
  obtain ⟨M2, eM2, hf⟩ := mlet_e hf
  refine r_last (N1 := M2) hx hb hI hi eM2 dL_law_21 (fun H locs hI => ?_)
  refine lv_iconst (v := 0) hx hb dL_law_22 (by decide) ?_
  refine lv_istore (lv' := [(4, .int (0 : Int32)), (3, .int (0 : Int32)), (0, .ref xa), (1, .ref (w.1 12 16)), (2, .ref so)]) hx hb dL_law_23 hl (by decide) rfl (fun ls hl => ?_)
  refine lv_iconst (v := (-1)) hx hb dL_law_25 (by decide) ?_
  refine lv_istore (lv' := [(5, .int (-1 : Int32)), (4, .int (0 : Int32)), (3, .int (0 : Int32)), (0, .ref xa), (1, .ref (w.1 12 16)), (2, .ref so)]) hx hb dL_law_26 hl (by decide) rfl (fun ls hl => ?_)
  refine lv_iconst (v := 0) hx hb dL_law_28 (by decide) ?_
  refine lv_istore (lv' := [(6, .int (0 : Int32)), (5, .int (-1 : Int32)), (4, .int (0 : Int32)), (3, .int (0 : Int32)), (0, .ref xa), (1, .ref (w.1 12 16)), (2, .ref so)]) hx hb dL_law_29 hl (by decide) rfl (fun ls hl => ?_)
  have hL31 : ∀ (n : Nat) (x3 : Int32) (x4 : Int32) (x5 : Int32) (x6 : Int32) (M7 : MemY) (kk : Int32 → MemY → Option Int32) (H : Heap) (locs : List Loc) (ls : Array Slot) (kc31 ks31 : Nat), kc31 + n * 807 ≤ 44719 → ks31 + n * 5002 ≤ 277533 → f_L_law_L31 xl xs n x3 x4 x5 x6 M7 kk = some (1 : Int32) → rI w s H locs so cL M7 → lv_has ls 33 [(0, .ref xa), (1, .ref (w.1 12 16)), (2, .ref so), (3, .int x3), (4, .int x4), (5, .int x5), (6, .int x6)] → (∀ (x3 : Int32) (M7 : MemY) (H : Heap) (locs : List Loc) (ls : Array Slot), kk x3 M7 = some (1 : Int32) → rI w s H locs so cL M7 → lv_has ls 33 [(1, .ref (w.1 12 16)), (2, .ref so), (3, .int x3)] → W p l e R s m args below meth c H locs 44719 277533 Q (F0 m 1028 ls [])) → W p l e R s m args below meth c H locs kc31 ks31 Q (F0 m 31 ls []) := by
    intro n
    induction n with
    | zero => intro x3 x4 x5 x6 M7 kk H locs ls kc31 ks31 hkc hks hf hI hl hk; rw [f_L_law_L31.eq_1] at hf; cases hf
    | succ n ih31 =>
      intro x3 x4 x5 x6 M7 kk H locs ls kc31 ks31 hkc hks hf hI hl hk
      rw [f_L_law_L31.eq_2] at hf
      refine lv_iload hx hb dL_law_31 (lv_at hl 6 rfl) ?_
      refine lv_bipush (v := 54) hx hb dL_law_33 (by decide) ?_
      refine lv_icmp_ge (tgt := 1028) hx hb dL_law_35 (by decide) (fun c8 => ?_) (fun c8 => ?_)
      · have hf := (if_pos c8).symm.trans hf
        refine W.widen (k := 44719) (n := 277533) (by omega) (by omega) ?_
        exact hk x3 M7 H _ _ hf hI (lv_sub hl [1, 2, 3] rfl)
      · have hf := (if_neg c8).symm.trans hf
        refine lv_aload_n hx hb dL_law_38 rfl (lv_at hl 1 rfl) ?_
        obtain ⟨r9, hc, hf⟩ := mbp_e hf
        refine r_callS (As := [.ref (w.1 12 16)]) (rest := []) hx hb hml hown hI (c_L_sum l w hsf H.size M7.1 _ hc) (kb_L_sum hI.T (q1358 hI.T) (Nat.le_trans (Nat.le_of_ble_eq_true rfl) hRf) (Nat.le_trans (Nat.le_of_ble_eq_true rfl) hRl)) (q1359 hI.T) rfl hl.1 (Nat.le_of_ble_eq_true rfl) dL_law_39 ⟨Nat.le_trans (m := 44719) (by omega) (Nat.le_trans (Nat.le_of_ble_eq_true rfl) hRc), Nat.le_trans (m := 277533) (by omega) (Nat.le_trans (Nat.le_of_ble_eq_true rfl) hRs)⟩ (fun H locs hI => ?_)
        refine lv_lstore (lv' := [(7, .long r9), (0, .ref xa), (1, .ref (w.1 12 16)), (2, .ref so), (3, .int x3), (4, .int x4), (5, .int x5), (6, .int x6)]) hx hb dL_law_42 hl (by decide) rfl (fun ls hl => ?_)
        refine lv_aload_n hx hb dL_law_44 rfl (lv_at hl 2 rfl) ?_
        obtain ⟨r10, hc, hf⟩ := mbp_e hf
        refine r_callV (As := []) (rest := []) hx hb hml hown hI (c_X11_undoCount l w H.size M7.1 _ hc) (kb_X11_undoCount hI.T (q367 hI.T) (Nat.le_trans (Nat.le_of_ble_eq_true rfl) hRf) (Nat.le_trans (Nat.le_of_ble_eq_true rfl) hRl)) (q368 hI.T) (q369 hI.T) (m_recv (g := 12) (i := 16) hI.1 (mokX (by decide) (by decide)) rfl rfl) rfl hl.1 (Nat.le_of_ble_eq_true rfl) dL_law_45 ⟨Nat.le_trans (m := 44719) (by omega) (Nat.le_trans (Nat.le_of_ble_eq_true rfl) hRc), Nat.le_trans (m := 277533) (by omega) (Nat.le_trans (Nat.le_of_ble_eq_true rfl) hRs)⟩ (fun H locs hI => ?_)
        refine lv_istore (lv' := [(9, .int r10), (7, .long r9), (0, .ref xa), (1, .ref (w.1 12 16)), (2, .ref so), (3, .int x3), (4, .int x4), (5, .int x5), (6, .int x6)]) hx hb dL_law_48 hl (by decide) rfl (fun ls hl => ?_)
        refine lv_iload hx hb dL_law_50 (lv_at hl 8 rfl) ?_
        refine lv_iconst (v := 5) hx hb dL_law_52 (by decide) ?_
        obtain ⟨k102_17, ek102_17, hf⟩ := mlet_e hf
        have hj102_17 : ∀ (x16 : Int32) (H : Heap) (locs : List Loc) (ls : Array Slot), k102_17 x16 = some (1 : Int32) → rI w s H locs so cL M7 → lv_has ls 33 [(0, .ref xa), (1, .ref (w.1 12 16)), (2, .ref so), (3, .int x3), (4, .int x4), (5, .int x5), (6, .int x6), (7, .long r9), (9, .int r10)] → W p l e R s m args below meth c H locs (kc31 + 120) (ks31 + 720) Q (F0 m 102 ls [.int x16]) := by
          intro x16 H locs ls hf hI hl
          rw [ek102_17] at hf
          try dsimp only at hf
          refine lv_istore (lv' := [(10, .int x16), (0, .ref xa), (1, .ref (w.1 12 16)), (2, .ref so), (3, .int x3), (4, .int x4), (5, .int x5), (6, .int x6), (7, .long r9), (9, .int r10)]) hx hb dL_law_102 hl (by decide) rfl (fun ls hl => ?_)
          refine lv_aload_n hx hb dL_law_104 rfl (lv_at hl 2 rfl) ?_
          obtain ⟨r18, hc, hf⟩ := mbp_e hf
          refine r_callV (As := []) (rest := []) hx hb hml hown hI (c_X11_holderCount l w H.size M7.1 _ hc) (kb_X11_holderCount hI.T (q335 hI.T) (Nat.le_trans (Nat.le_of_ble_eq_true rfl) hRf) (Nat.le_trans (Nat.le_of_ble_eq_true rfl) hRl)) (q336 hI.T) (q337 hI.T) (m_recv (g := 12) (i := 16) hI.1 (mokX (by decide) (by decide)) rfl rfl) rfl hl.1 (Nat.le_of_ble_eq_true rfl) dL_law_105 ⟨Nat.le_trans (m := 44719) (by omega) (Nat.le_trans (Nat.le_of_ble_eq_true rfl) hRc), Nat.le_trans (m := 277533) (by omega) (Nat.le_trans (Nat.le_of_ble_eq_true rfl) hRs)⟩ (fun H locs hI => ?_)
          refine lv_istore (lv' := [(11, .int r18), (10, .int x16), (0, .ref xa), (1, .ref (w.1 12 16)), (2, .ref so), (3, .int x3), (4, .int x4), (5, .int x5), (6, .int x6), (7, .long r9), (9, .int r10)]) hx hb dL_law_108 hl (by decide) rfl (fun ls hl => ?_)
          refine lv_aload_n hx hb dL_law_110 rfl (lv_at hl 2 rfl) ?_
          refine lv_iload hx hb dL_law_111 (lv_at hl 6 rfl) ?_
          refine lv_iconst (v := 1) hx hb dL_law_113 (by decide) ?_
          refine lv_iadd hx hb dL_law_114 ?_
          refine lv_iload hx hb dL_law_115 (lv_at hl 0 rfl) ?_
          refine lv_iload hx hb dL_law_117 (lv_at hl 8 rfl) ?_
          refine lv_bipush (v := 13) hx hb dL_law_119 (by decide) ?_
          refine lv_irem hx hb dL_law_121 (by decide) ?_
          refine lv_bipush (v := 12) hx hb dL_law_122 (by decide) ?_
          obtain ⟨k137_23, ek137_23, hf⟩ := mlet_e hf
          have hj137_23 : ∀ (x22 : Int32) (H : Heap) (locs : List Loc) (ls : Array Slot), k137_23 x22 = some (1 : Int32) → rI w s H locs so cL M7 → lv_has ls 33 [(0, .ref xa), (1, .ref (w.1 12 16)), (2, .ref so), (3, .int x3), (4, .int x4), (5, .int x5), (6, .int x6), (7, .long r9), (9, .int r10), (10, .int x16)] → W p l e R s m args below meth c H locs (kc31 + 120) (ks31 + 720) Q (F0 m 137 ls [.int x22, .int r18, .int (x4 + (1 : Int32)), .ref xa]) := by
            intro x22 H locs ls hf hI hl
            rw [ek137_23] at hf
            try dsimp only at hf
            refine lv_iadd hx hb dL_law_137 ?_
            obtain ⟨r24, hc, hf⟩ := mbp_e hf
            refine r_callS (As := [.ref xa, .int (x4 + (1 : Int32)), .int (r18 + x22)]) (rest := []) hx hb hml hown hI (c_L_pick l w hsf H.size xa xl xs hX (x4 + (1 : Int32)) (r18 + x22) M7.1 _ hc) (kb_L_pick hI.T (q371 hI.T) (Nat.le_trans (Nat.le_of_ble_eq_true rfl) hRf) (Nat.le_trans (Nat.le_of_ble_eq_true rfl) hRl)) (q372 hI.T) rfl hl.1 (Nat.le_of_ble_eq_true rfl) dL_law_138 ⟨Nat.le_trans (m := 44719) (by omega) (Nat.le_trans (Nat.le_of_ble_eq_true rfl) hRc), Nat.le_trans (m := 277533) (by omega) (Nat.le_trans (Nat.le_of_ble_eq_true rfl) hRs)⟩ (fun H locs hI => ?_)
            refine lv_istore (lv' := [(12, .int r24), (0, .ref xa), (1, .ref (w.1 12 16)), (2, .ref so), (3, .int x3), (4, .int x4), (5, .int x5), (6, .int x6), (7, .long r9), (9, .int r10), (10, .int x16)]) hx hb dL_law_141 hl (by decide) rfl (fun ls hl => ?_)
            refine lv_aload_n hx hb dL_law_143 rfl (lv_at hl 2 rfl) ?_
            obtain ⟨r25, hc, hf⟩ := mbp_e hf
            refine r_callV (As := []) (rest := []) hx hb hml hown hI (c_X11_presentedCount l w H.size M7.1 _ hc) (kb_X11_presentedCount hI.T (q339 hI.T) (Nat.le_trans (Nat.le_of_ble_eq_true rfl) hRf) (Nat.le_trans (Nat.le_of_ble_eq_true rfl) hRl)) (q340 hI.T) (q341 hI.T) (m_recv (g := 12) (i := 16) hI.1 (mokX (by decide) (by decide)) rfl rfl) rfl hl.1 (Nat.le_of_ble_eq_true rfl) dL_law_144 ⟨Nat.le_trans (m := 44719) (by omega) (Nat.le_trans (Nat.le_of_ble_eq_true rfl) hRc), Nat.le_trans (m := 277533) (by omega) (Nat.le_trans (Nat.le_of_ble_eq_true rfl) hRs)⟩ (fun H locs hI => ?_)
            refine lv_istore (lv' := [(13, .int r25), (12, .int r24), (0, .ref xa), (1, .ref (w.1 12 16)), (2, .ref so), (3, .int x3), (4, .int x4), (5, .int x5), (6, .int x6), (7, .long r9), (9, .int r10), (10, .int x16)]) hx hb dL_law_147 hl (by decide) rfl (fun ls hl => ?_)
            refine lv_aload_n hx hb dL_law_149 rfl (lv_at hl 3 rfl) ?_
            obtain ⟨r26, hc, hf⟩ := mbp_e hf
            refine r_callV (As := []) (rest := []) hx hb hml hown hI (c_X11_lockedHours l w H.size M7.1 _ hc) (kb_X11_lockedHours hI.T (q347 hI.T) (Nat.le_trans (Nat.le_of_ble_eq_true rfl) hRf) (Nat.le_trans (Nat.le_of_ble_eq_true rfl) hRl)) (q348 hI.T) (q349 hI.T) (m_recv (g := 12) (i := 16) hI.1 (mokX (by decide) (by decide)) rfl rfl) rfl hl.1 (Nat.le_of_ble_eq_true rfl) dL_law_150 ⟨Nat.le_trans (m := 44719) (by omega) (Nat.le_trans (Nat.le_of_ble_eq_true rfl) hRc), Nat.le_trans (m := 277533) (by omega) (Nat.le_trans (Nat.le_of_ble_eq_true rfl) hRs)⟩ (fun H locs hI => ?_)
            refine lv_istore (lv' := [(14, .int r26), (13, .int r25), (12, .int r24), (0, .ref xa), (1, .ref (w.1 12 16)), (2, .ref so), (3, .int x3), (4, .int x4), (5, .int x5), (6, .int x6), (7, .long r9), (9, .int r10), (10, .int x16)]) hx hb dL_law_153 hl (by decide) rfl (fun ls hl => ?_)
            refine lv_aload_n hx hb dL_law_155 rfl (lv_at hl 4 rfl) ?_
            obtain ⟨r27, hc, hf⟩ := mbp_e hf
            refine r_callV (As := []) (rest := []) hx hb hml hown hI (c_X11_failedAttempts l w H.size M7.1 _ hc) (kb_X11_failedAttempts hI.T (q351 hI.T) (Nat.le_trans (Nat.le_of_ble_eq_true rfl) hRf) (Nat.le_trans (Nat.le_of_ble_eq_true rfl) hRl)) (q352 hI.T) (q353 hI.T) (m_recv (g := 12) (i := 16) hI.1 (mokX (by decide) (by decide)) rfl rfl) rfl hl.1 (Nat.le_of_ble_eq_true rfl) dL_law_156 ⟨Nat.le_trans (m := 44719) (by omega) (Nat.le_trans (Nat.le_of_ble_eq_true rfl) hRc), Nat.le_trans (m := 277533) (by omega) (Nat.le_trans (Nat.le_of_ble_eq_true rfl) hRs)⟩ (fun H locs hI => ?_)
            refine lv_istore (lv' := [(15, .int r27), (14, .int r26), (13, .int r25), (12, .int r24), (0, .ref xa), (1, .ref (w.1 12 16)), (2, .ref so), (3, .int x3), (4, .int x4), (5, .int x5), (6, .int x6), (7, .long r9), (9, .int r10), (10, .int x16)]) hx hb dL_law_159 hl (by decide) rfl (fun ls hl => ?_)
            refine lv_aload_n hx hb dL_law_161 rfl (lv_at hl 5 rfl) ?_
            obtain ⟨r28, hc, hf⟩ := mbp_e hf
            refine r_callV (As := []) (rest := []) hx hb hml hown hI (c_X11_isOpen l w H.size M7.1 _ hc) (kb_X11_isOpen hI.T (q343 hI.T) (Nat.le_trans (Nat.le_of_ble_eq_true rfl) hRf) (Nat.le_trans (Nat.le_of_ble_eq_true rfl) hRl)) (q344 hI.T) (q345 hI.T) (m_recv (g := 12) (i := 16) hI.1 (mokX (by decide) (by decide)) rfl rfl) rfl hl.1 (Nat.le_of_ble_eq_true rfl) dL_law_162 ⟨Nat.le_trans (m := 44719) (by omega) (Nat.le_trans (Nat.le_of_ble_eq_true rfl) hRc), Nat.le_trans (m := 277533) (by omega) (Nat.le_trans (Nat.le_of_ble_eq_true rfl) hRs)⟩ (fun H locs hI => ?_)
            refine lv_istore (lv' := [(16, .int r28), (15, .int r27), (14, .int r26), (13, .int r25), (12, .int r24), (0, .ref xa), (1, .ref (w.1 12 16)), (2, .ref so), (3, .int x3), (4, .int x4), (5, .int x5), (6, .int x6), (7, .long r9), (9, .int r10), (10, .int x16)]) hx hb dL_law_165 hl (by decide) rfl (fun ls hl => ?_)
            refine lv_aload_n hx hb dL_law_167 rfl (lv_at hl 6 rfl) ?_
            obtain ⟨r29, hc, hf⟩ := mbp_e hf
            refine r_callH (As := [.ref (w.1 12 16)]) (rest := []) hx hb hml hown hI (c_L_threshold l w hsf H.size M7.1 _ hc) (k_cw (n := 1) hI.T kc_L_threshold ki_L_threshold (q378 hI.T) (q379 hI.T) (by decide +kernel) ⟨rfl, rfl, (Nat.le_trans (Nat.le_of_ble_eq_true rfl) hRf), (Nat.le_trans (Nat.le_of_ble_eq_true rfl) hRl)⟩) rfl hl.1 (Nat.le_of_ble_eq_true rfl) dL_law_168 ⟨Nat.le_trans (m := 44719) (by omega) (Nat.le_trans (Nat.le_of_ble_eq_true rfl) hRc), Nat.le_trans (m := 277533) (by omega) (Nat.le_trans (Nat.le_of_ble_eq_true rfl) hRs)⟩ (fun H locs hI => ?_)
            refine lv_istore (lv' := [(17, .int r29), (16, .int r28), (15, .int r27), (14, .int r26), (13, .int r25), (12, .int r24), (0, .ref xa), (1, .ref (w.1 12 16)), (2, .ref so), (3, .int x3), (4, .int x4), (5, .int x5), (6, .int x6), (7, .long r9), (9, .int r10), (10, .int x16)]) hx hb dL_law_171 hl (by decide) rfl (fun ls hl => ?_)
            refine lv_aload_n hx hb dL_law_173 rfl (lv_at hl 7 rfl) ?_
            obtain ⟨r30, hc, hf⟩ := mbp_e hf
            refine r_callH (As := [.ref (w.1 12 16)]) (rest := []) hx hb hml hown hI (c_L_doAgree l w hsf H.size M7.1 _ hc) (k_cw (n := 1) hI.T kc_L_doAgree ki_L_doAgree (q556 hI.T) (q557 hI.T) (by decide +kernel) ⟨rfl, rfl, (Nat.le_trans (Nat.le_of_ble_eq_true rfl) hRf), (Nat.le_trans (Nat.le_of_ble_eq_true rfl) hRl)⟩) rfl hl.1 (Nat.le_of_ble_eq_true rfl) dL_law_174 ⟨Nat.le_trans (m := 44719) (by omega) (Nat.le_trans (Nat.le_of_ble_eq_true rfl) hRc), Nat.le_trans (m := 277533) (by omega) (Nat.le_trans (Nat.le_of_ble_eq_true rfl) hRs)⟩ (fun H locs hI => ?_)
            refine lv_istore (lv' := [(18, .int r30), (17, .int r29), (16, .int r28), (15, .int r27), (14, .int r26), (13, .int r25), (12, .int r24), (0, .ref xa), (1, .ref (w.1 12 16)), (2, .ref so), (3, .int x3), (4, .int x4), (5, .int x5), (6, .int x6), (7, .long r9), (9, .int r10), (10, .int x16)]) hx hb dL_law_177 hl (by decide) rfl (fun ls hl => ?_)
            refine lv_aload_n hx hb dL_law_179 rfl (lv_at hl 8 rfl) ?_
            obtain ⟨r31, hc, hf⟩ := mbp_e hf
            refine r_callH (As := [.ref (w.1 12 16)]) (rest := []) hx hb hml hown hI (c_L_toldSecret l w hsf H.size M7.1 _ hc) (k_cw (n := 1) hI.T kc_L_toldSecret ki_L_toldSecret (q526 hI.T) (q527 hI.T) (by decide +kernel) ⟨rfl, rfl, (Nat.le_trans (Nat.le_of_ble_eq_true rfl) hRf), (Nat.le_trans (Nat.le_of_ble_eq_true rfl) hRl)⟩) rfl hl.1 (Nat.le_of_ble_eq_true rfl) dL_law_180 ⟨Nat.le_trans (m := 44719) (by omega) (Nat.le_trans (Nat.le_of_ble_eq_true rfl) hRc), Nat.le_trans (m := 277533) (by omega) (Nat.le_trans (Nat.le_of_ble_eq_true rfl) hRs)⟩ (fun H locs hI => ?_)
            refine lv_istore (lv' := [(19, .int r31), (18, .int r30), (17, .int r29), (16, .int r28), (15, .int r27), (14, .int r26), (13, .int r25), (12, .int r24), (0, .ref xa), (1, .ref (w.1 12 16)), (2, .ref so), (3, .int x3), (4, .int x4), (5, .int x5), (6, .int x6), (7, .long r9), (9, .int r10), (10, .int x16)]) hx hb dL_law_183 hl (by decide) rfl (fun ls hl => ?_)
            refine lv_iconst (v := 1) hx hb dL_law_185 (by decide) ?_
            refine lv_aload_n hx hb dL_law_186 rfl (lv_at hl 8 rfl) ?_
            refine lv_iload hx hb dL_law_187 (lv_at hl 12 rfl) ?_
            refine lv_iconst (v := 2) hx hb dL_law_189 (by decide) ?_
            refine lv_iadd hx hb dL_law_190 ?_
            refine lv_bipush (v := 8) hx hb dL_law_191 (by decide) ?_
            obtain ⟨r32, hc, hf⟩ := mbp_e hf
            refine r_callS (As := [.ref xa, .int (x4 + (2 : Int32)), .int (8 : Int32)]) (rest := [.int (1 : Int32)]) hx hb hml hown hI (c_L_pick l w hsf H.size xa xl xs hX (x4 + (2 : Int32)) (8 : Int32) M7.1 _ hc) (kb_L_pick hI.T (q371 hI.T) (Nat.le_trans (Nat.le_of_ble_eq_true rfl) hRf) (Nat.le_trans (Nat.le_of_ble_eq_true rfl) hRl)) (q372 hI.T) rfl hl.1 (Nat.le_of_ble_eq_true rfl) dL_law_193 ⟨Nat.le_trans (m := 44719) (by omega) (Nat.le_trans (Nat.le_of_ble_eq_true rfl) hRc), Nat.le_trans (m := 277533) (by omega) (Nat.le_trans (Nat.le_of_ble_eq_true rfl) hRs)⟩ (fun H locs hI => ?_)
            refine lv_iadd hx hb dL_law_196 ?_
            refine lv_topi (fun x33 ex33 => ?_)
            have hf := mlet_s ex33 hf
            refine lv_istore (lv' := [(20, .int x33), (19, .int r31), (18, .int r30), (17, .int r29), (16, .int r28), (15, .int r27), (14, .int r26), (13, .int r25), (12, .int r24), (0, .ref xa), (1, .ref (w.1 12 16)), (2, .ref so), (3, .int x3), (4, .int x4), (5, .int x5), (6, .int x6), (7, .long r9), (9, .int r10), (10, .int x16)]) hx hb dL_law_197 hl (by decide) rfl (fun ls hl => ?_)
            refine lv_aload_n hx hb dL_law_199 rfl (lv_at hl 10 rfl) ?_
            refine lv_iload hx hb dL_law_200 (lv_at hl 0 rfl) ?_
            obtain ⟨r34, M35, hc, hf⟩ := mbnd_e hf
            refine r_callH (As := [.ref (w.1 12 16), .int x33]) (rest := []) hx hb hml hown hI (c_L_alarmsIn l w hsf H.size x33 M7.1 _ _ hc) (k_cw (n := 2) hI.T kc_L_alarmsIn ki_L_alarmsIn (q629 hI.T) (q630 hI.T) (by decide +kernel) ⟨rfl, rfl, (Nat.le_trans (Nat.le_of_ble_eq_true rfl) hRf), (Nat.le_trans (Nat.le_of_ble_eq_true rfl) hRl)⟩) rfl hl.1 (Nat.le_of_ble_eq_true rfl) dL_law_202 ⟨Nat.le_trans (m := 44719) (by omega) (Nat.le_trans (Nat.le_of_ble_eq_true rfl) hRc), Nat.le_trans (m := 277533) (by omega) (Nat.le_trans (Nat.le_of_ble_eq_true rfl) hRs)⟩ (fun H locs hI => ?_)
            refine lv_istore (lv' := [(21, .int r34), (20, .int x33), (19, .int r31), (18, .int r30), (17, .int r29), (16, .int r28), (15, .int r27), (14, .int r26), (13, .int r25), (12, .int r24), (0, .ref xa), (1, .ref (w.1 12 16)), (2, .ref so), (3, .int x3), (4, .int x4), (5, .int x5), (6, .int x6), (7, .long r9), (9, .int r10), (10, .int x16)]) hx hb dL_law_205 hl (by decide) rfl (fun ls hl => ?_)
            refine lv_aload_n hx hb dL_law_207 rfl (lv_at hl 10 rfl) ?_
            refine lv_iload hx hb dL_law_208 (lv_at hl 14 rfl) ?_
            refine lv_iconst (v := 3) hx hb dL_law_210 (by decide) ?_
            refine lv_iadd hx hb dL_law_211 ?_
            refine lv_bipush (v := 8) hx hb dL_law_212 (by decide) ?_
            obtain ⟨r36, hc, hf⟩ := mbp_e hf
            refine r_callS (As := [.ref xa, .int (x4 + (3 : Int32)), .int (8 : Int32)]) (rest := []) hx hb hml hown hI (c_L_pick l w hsf H.size xa xl xs hX (x4 + (3 : Int32)) (8 : Int32) M35 _ hc) (kb_L_pick hI.T (q371 hI.T) (Nat.le_trans (Nat.le_of_ble_eq_true rfl) hRf) (Nat.le_trans (Nat.le_of_ble_eq_true rfl) hRl)) (q372 hI.T) rfl hl.1 (Nat.le_of_ble_eq_true rfl) dL_law_214 ⟨Nat.le_trans (m := 44719) (by omega) (Nat.le_trans (Nat.le_of_ble_eq_true rfl) hRc), Nat.le_trans (m := 277533) (by omega) (Nat.le_trans (Nat.le_of_ble_eq_true rfl) hRs)⟩ (fun H locs hI => ?_)
            refine lv_istore (lv' := [(22, .int r36), (21, .int r34), (20, .int x33), (19, .int r31), (18, .int r30), (17, .int r29), (16, .int r28), (15, .int r27), (14, .int r26), (13, .int r25), (12, .int r24), (0, .ref xa), (1, .ref (w.1 12 16)), (2, .ref so), (3, .int x3), (4, .int x4), (5, .int x5), (6, .int x6), (7, .long r9), (9, .int r10), (10, .int x16)]) hx hb dL_law_217 hl (by decide) rfl (fun ls hl => ?_)
            refine lv_aload_n hx hb dL_law_219 rfl (lv_at hl 12 rfl) ?_
            refine lv_iload hx hb dL_law_220 (lv_at hl 0 rfl) ?_
            obtain ⟨r37, M38, hc, hf⟩ := mbnd_e hf
            refine r_callH (As := [.ref (w.1 12 16), .int r36]) (rest := []) hx hb hml hown hI (c_L_hoursUntilVisit l w hsf H.size r36 M35 _ _ hc) (k_cw (n := 2) hI.T kc_L_hoursUntilVisit ki_L_hoursUntilVisit (q574 hI.T) (q575 hI.T) (by decide +kernel) ⟨rfl, rfl, (Nat.le_trans (Nat.le_of_ble_eq_true rfl) hRf), (Nat.le_trans (Nat.le_of_ble_eq_true rfl) hRl)⟩) rfl hl.1 (Nat.le_of_ble_eq_true rfl) dL_law_222 ⟨Nat.le_trans (m := 44719) (by omega) (Nat.le_trans (Nat.le_of_ble_eq_true rfl) hRc), Nat.le_trans (m := 277533) (by omega) (Nat.le_trans (Nat.le_of_ble_eq_true rfl) hRs)⟩ (fun H locs hI => ?_)
            refine lv_istore (lv' := [(23, .int r37), (22, .int r36), (21, .int r34), (20, .int x33), (19, .int r31), (18, .int r30), (17, .int r29), (16, .int r28), (15, .int r27), (14, .int r26), (13, .int r25), (12, .int r24), (0, .ref xa), (1, .ref (w.1 12 16)), (2, .ref so), (3, .int x3), (4, .int x4), (5, .int x5), (6, .int x6), (7, .long r9), (9, .int r10), (10, .int x16)]) hx hb dL_law_225 hl (by decide) rfl (fun ls hl => ?_)
            refine lv_aload_n hx hb dL_law_227 rfl (lv_at hl 13 rfl) ?_
            obtain ⟨r39, hc, hf⟩ := mbp_e hf
            refine r_callV (As := []) (rest := []) hx hb hml hown hI (c_X11_alarmCount l w H.size M38 _ hc) (kb_X11_alarmCount hI.T (q355 hI.T) (Nat.le_trans (Nat.le_of_ble_eq_true rfl) hRf) (Nat.le_trans (Nat.le_of_ble_eq_true rfl) hRl)) (q356 hI.T) (q357 hI.T) (m_recv (g := 12) (i := 16) hI.1 (mokX (by decide) (by decide)) rfl rfl) rfl hl.1 (Nat.le_of_ble_eq_true rfl) dL_law_228 ⟨Nat.le_trans (m := 44719) (by omega) (Nat.le_trans (Nat.le_of_ble_eq_true rfl) hRc), Nat.le_trans (m := 277533) (by omega) (Nat.le_trans (Nat.le_of_ble_eq_true rfl) hRs)⟩ (fun H locs hI => ?_)
            refine lv_istore (lv' := [(24, .int r39), (23, .int r37), (22, .int r36), (21, .int r34), (20, .int x33), (19, .int r31), (18, .int r30), (17, .int r29), (16, .int r28), (15, .int r27), (14, .int r26), (13, .int r25), (12, .int r24), (0, .ref xa), (1, .ref (w.1 12 16)), (2, .ref so), (3, .int x3), (4, .int x4), (5, .int x5), (6, .int x6), (7, .long r9), (9, .int r10), (10, .int x16)]) hx hb dL_law_231 hl (by decide) rfl (fun ls hl => ?_)
            refine lv_aload_n hx hb dL_law_233 rfl (lv_at hl 14 rfl) ?_
            obtain ⟨r40, hc, hf⟩ := mbp_e hf
            refine r_callV (As := []) (rest := []) hx hb hml hown hI (c_X11_hour l w H.size M38 _ hc) (kb_X11_hour hI.T (q331 hI.T) (Nat.le_trans (Nat.le_of_ble_eq_true rfl) hRf) (Nat.le_trans (Nat.le_of_ble_eq_true rfl) hRl)) (q332 hI.T) (q333 hI.T) (m_recv (g := 12) (i := 16) hI.1 (mokX (by decide) (by decide)) rfl rfl) rfl hl.1 (Nat.le_of_ble_eq_true rfl) dL_law_234 ⟨Nat.le_trans (m := 44719) (by omega) (Nat.le_trans (Nat.le_of_ble_eq_true rfl) hRc), Nat.le_trans (m := 277533) (by omega) (Nat.le_trans (Nat.le_of_ble_eq_true rfl) hRs)⟩ (fun H locs hI => ?_)
            refine lv_istore (lv' := [(25, .int r40), (24, .int r39), (23, .int r37), (22, .int r36), (21, .int r34), (20, .int x33), (19, .int r31), (18, .int r30), (17, .int r29), (16, .int r28), (15, .int r27), (14, .int r26), (13, .int r25), (12, .int r24), (0, .ref xa), (1, .ref (w.1 12 16)), (2, .ref so), (3, .int x3), (4, .int x4), (5, .int x5), (6, .int x6), (7, .long r9), (9, .int r10), (10, .int x16)]) hx hb dL_law_237 hl (by decide) rfl (fun ls hl => ?_)
            refine lv_aload_n hx hb dL_law_239 rfl (lv_at hl 15 rfl) ?_
            obtain ⟨r41, hc, hf⟩ := mbp_e hf
            refine r_callV (As := []) (rest := []) hx hb hml hown hI (c_X11_openingCount l w H.size M38 _ hc) (kb_X11_openingCount hI.T (q359 hI.T) (Nat.le_trans (Nat.le_of_ble_eq_true rfl) hRf) (Nat.le_trans (Nat.le_of_ble_eq_true rfl) hRl)) (q360 hI.T) (q361 hI.T) (m_recv (g := 12) (i := 16) hI.1 (mokX (by decide) (by decide)) rfl rfl) rfl hl.1 (Nat.le_of_ble_eq_true rfl) dL_law_240 ⟨Nat.le_trans (m := 44719) (by omega) (Nat.le_trans (Nat.le_of_ble_eq_true rfl) hRc), Nat.le_trans (m := 277533) (by omega) (Nat.le_trans (Nat.le_of_ble_eq_true rfl) hRs)⟩ (fun H locs hI => ?_)
            refine lv_istore (lv' := [(26, .int r41), (25, .int r40), (24, .int r39), (23, .int r37), (22, .int r36), (21, .int r34), (20, .int x33), (19, .int r31), (18, .int r30), (17, .int r29), (16, .int r28), (15, .int r27), (14, .int r26), (13, .int r25), (12, .int r24), (0, .ref xa), (1, .ref (w.1 12 16)), (2, .ref so), (3, .int x3), (4, .int x4), (5, .int x5), (6, .int x6), (7, .long r9), (9, .int r10), (10, .int x16)]) hx hb dL_law_243 hl (by decide) rfl (fun ls hl => ?_)
            refine lv_aload_n hx hb dL_law_245 rfl (lv_at hl 16 rfl) ?_
            refine lv_iconst (v := 0) hx hb dL_law_246 (by decide) ?_
            obtain ⟨r42, hc, hf⟩ := mbp_e hf
            refine r_callS (As := [.ref (w.1 12 16), .int (0 : Int32)]) (rest := []) hx hb hml hown hI (c_L_visit l w hsf H.size (0 : Int32) M38 _ hc) (kb_L_visit hI.T (q673 hI.T) (Nat.le_trans (Nat.le_of_ble_eq_true rfl) hRf) (Nat.le_trans (Nat.le_of_ble_eq_true rfl) hRl)) (q674 hI.T) rfl hl.1 (Nat.le_of_ble_eq_true rfl) dL_law_247 ⟨Nat.le_trans (m := 44719) (by omega) (Nat.le_trans (Nat.le_of_ble_eq_true rfl) hRc), Nat.le_trans (m := 277533) (by omega) (Nat.le_trans (Nat.le_of_ble_eq_true rfl) hRs)⟩ (fun H locs hI => ?_)
            refine lv_istore (lv' := [(27, .int r42), (26, .int r41), (25, .int r40), (24, .int r39), (23, .int r37), (22, .int r36), (21, .int r34), (20, .int x33), (19, .int r31), (18, .int r30), (17, .int r29), (16, .int r28), (15, .int r27), (14, .int r26), (13, .int r25), (12, .int r24), (0, .ref xa), (1, .ref (w.1 12 16)), (2, .ref so), (3, .int x3), (4, .int x4), (5, .int x5), (6, .int x6), (7, .long r9), (9, .int r10), (10, .int x16)]) hx hb dL_law_250 hl (by decide) rfl (fun ls hl => ?_)
            refine lv_aload_n hx hb dL_law_252 rfl (lv_at hl 16 rfl) ?_
            refine lv_iload hx hb dL_law_253 (lv_at hl 20 rfl) ?_
            refine lv_iload hx hb dL_law_255 (lv_at hl 25 rfl) ?_
            refine lv_aload_n hx hb dL_law_257 rfl (lv_at hl 17 rfl) ?_
            refine lv_iload hx hb dL_law_258 (lv_at hl 15 rfl) ?_
            refine lv_iload hx hb dL_law_260 (lv_at hl 7 rfl) ?_
            obtain ⟨r43, M44, hc, hf⟩ := mbnd_e hf
            refine r_callS (As := [.ref xa, .int x4, .int x16, .ref (w.1 12 16), .int r24, .int x33]) (rest := []) hx hb hml hown hI (c_L_does l w hsf H.size xa xl xs hX x4 x16 r24 x33 M38 _ _ hc) (kb_L_does hI.T (q713 hI.T) (Nat.le_trans (Nat.le_of_ble_eq_true rfl) hRf) (Nat.le_trans (Nat.le_of_ble_eq_true rfl) hRl)) (q714 hI.T) rfl hl.1 (Nat.le_of_ble_eq_true rfl) dL_law_262 ⟨Nat.le_trans (m := 44719) (by omega) (Nat.le_trans (Nat.le_of_ble_eq_true rfl) hRc), Nat.le_trans (m := 277533) (by omega) (Nat.le_trans (Nat.le_of_ble_eq_true rfl) hRs)⟩ (fun H locs hI => ?_)
            refine lv_istore (lv' := [(28, .int r43), (27, .int r42), (26, .int r41), (25, .int r40), (24, .int r39), (23, .int r37), (22, .int r36), (21, .int r34), (20, .int x33), (19, .int r31), (18, .int r30), (17, .int r29), (16, .int r28), (15, .int r27), (14, .int r26), (13, .int r25), (12, .int r24), (0, .ref xa), (1, .ref (w.1 12 16)), (2, .ref so), (3, .int x3), (4, .int x4), (5, .int x5), (6, .int x6), (7, .long r9), (9, .int r10), (10, .int x16)]) hx hb dL_law_265 hl (by decide) rfl (fun ls hl => ?_)
            refine lv_iload hx hb dL_law_267 (lv_at hl 0 rfl) ?_
            refine lv_bipush (v := (-70)) hx hb dL_law_269 (by decide) ?_
            obtain ⟨k279_47, ek279_47, hf⟩ := mlet_e hf
            have hj279_47 : ∀ (x46 : Int32) (H : Heap) (locs : List Loc) (ls : Array Slot), k279_47 x46 = some (1 : Int32) → rI w s H locs so cL (M44, M7.2) → lv_has ls 33 [(0, .ref xa), (1, .ref (w.1 12 16)), (2, .ref so), (3, .int x3), (4, .int x4), (5, .int x5), (6, .int x6), (7, .long r9), (9, .int r10), (10, .int x16), (12, .int r24), (13, .int r25), (14, .int r26), (15, .int r27), (16, .int r28), (17, .int r29), (18, .int r30), (19, .int r31), (20, .int x33), (21, .int r34), (22, .int r36), (23, .int r37), (24, .int r39), (25, .int r40), (26, .int r41), (27, .int r42), (28, .int r43)] → W p l e R s m args below meth c H locs (kc31 + 170) (ks31 + 1180) Q (F0 m 279 ls [.int x46]) := by
              intro x46 H locs ls hf hI hl
              rw [ek279_47] at hf
              try dsimp only at hf
              refine lv_istore (lv' := [(29, .int x46), (0, .ref xa), (1, .ref (w.1 12 16)), (2, .ref so), (3, .int x3), (4, .int x4), (5, .int x5), (6, .int x6), (7, .long r9), (9, .int r10), (10, .int x16), (12, .int r24), (13, .int r25), (14, .int r26), (15, .int r27), (16, .int r28), (17, .int r29), (18, .int r30), (19, .int r31), (20, .int x33), (21, .int r34), (22, .int r36), (23, .int r37), (24, .int r39), (25, .int r40), (26, .int r41), (27, .int r42), (28, .int r43)]) hx hb dL_law_279 hl (by decide) rfl (fun ls hl => ?_)
              refine lv_iload hx hb dL_law_281 (lv_at hl 0 rfl) ?_
              obtain ⟨k318_54, ek318_54, hf⟩ := mlet_e hf
              have hj318_54 : ∀ (x53 : Int32) (H : Heap) (locs : List Loc) (ls : Array Slot), k318_54 x53 = some (1 : Int32) → rI w s H locs so cL (M44, M7.2) → lv_has ls 33 [(0, .ref xa), (1, .ref (w.1 12 16)), (2, .ref so), (3, .int x3), (4, .int x4), (6, .int x6), (7, .long r9), (9, .int r10), (10, .int x16), (12, .int r24), (13, .int r25), (14, .int r26), (15, .int r27), (16, .int r28), (17, .int r29), (18, .int r30), (19, .int r31), (20, .int x33), (21, .int r34), (22, .int r36), (23, .int r37), (24, .int r39), (25, .int r40), (26, .int r41), (27, .int r42), (28, .int r43), (29, .int x46)] → W p l e R s m args below meth c H locs (kc31 + 170) (ks31 + 1180) Q (F0 m 318 ls [.int x53]) := by
                intro x53 H locs ls hf hI hl
                rw [ek318_54] at hf
                try dsimp only at hf
                refine lv_istore (lv' := [(5, .int x53), (0, .ref xa), (1, .ref (w.1 12 16)), (2, .ref so), (3, .int x3), (4, .int x4), (6, .int x6), (7, .long r9), (9, .int r10), (10, .int x16), (12, .int r24), (13, .int r25), (14, .int r26), (15, .int r27), (16, .int r28), (17, .int r29), (18, .int r30), (19, .int r31), (20, .int x33), (21, .int r34), (22, .int r36), (23, .int r37), (24, .int r39), (25, .int r40), (26, .int r41), (27, .int r42), (28, .int r43), (29, .int x46)]) hx hb dL_law_318 hl (by decide) rfl (fun ls hl => ?_)
                refine lv_iload hx hb dL_law_320 (lv_at hl 27 rfl) ?_
                obtain ⟨k377_71, ek377_71, hf⟩ := mlet_e hf
                have hj377_71 : ∀ (x70 : Int32) (H : Heap) (locs : List Loc) (ls : Array Slot), k377_71 x70 = some (1 : Int32) → rI w s H locs so cL (M44, M7.2) → lv_has ls 33 [(0, .ref xa), (1, .ref (w.1 12 16)), (2, .ref so), (3, .int x3), (4, .int x4), (5, .int x53), (6, .int x6), (7, .long r9), (9, .int r10), (10, .int x16), (12, .int r24), (13, .int r25), (14, .int r26), (15, .int r27), (16, .int r28), (17, .int r29), (18, .int r30), (19, .int r31), (20, .int x33), (21, .int r34), (22, .int r36), (23, .int r37), (24, .int r39), (25, .int r40), (26, .int r41), (27, .int r42), (28, .int r43), (29, .int x46)] → W p l e R s m args below meth c H locs (kc31 + 188) (ks31 + 1288) Q (F0 m 377 ls [.int x70]) := by
                  intro x70 H locs ls hf hI hl
                  rw [ek377_71] at hf
                  try dsimp only at hf
                  refine lv_istore (lv' := [(30, .int x70), (0, .ref xa), (1, .ref (w.1 12 16)), (2, .ref so), (3, .int x3), (4, .int x4), (5, .int x53), (6, .int x6), (7, .long r9), (9, .int r10), (10, .int x16), (12, .int r24), (13, .int r25), (14, .int r26), (15, .int r27), (16, .int r28), (17, .int r29), (18, .int r30), (19, .int r31), (20, .int x33), (21, .int r34), (22, .int r36), (23, .int r37), (24, .int r39), (25, .int r40), (26, .int r41), (27, .int r42), (28, .int r43), (29, .int x46)]) hx hb dL_law_377 hl (by decide) rfl (fun ls hl => ?_)
                  refine lv_iload hx hb dL_law_379 (lv_at hl 0 rfl) ?_
                  refine lv_iload hx hb dL_law_381 (lv_at hl 28 rfl) ?_
                  obtain ⟨k425_81, ek425_81, hf⟩ := mlet_e hf
                  have hj425_81 : ∀ (x80 : Int32) (H : Heap) (locs : List Loc) (ls : Array Slot), k425_81 x80 = some (1 : Int32) → rI w s H locs so cL (M44, M7.2) → lv_has ls 33 [(0, .ref xa), (1, .ref (w.1 12 16)), (2, .ref so), (3, .int x3), (4, .int x4), (5, .int x53), (6, .int x6), (7, .long r9), (9, .int r10), (10, .int x16), (12, .int r24), (13, .int r25), (14, .int r26), (15, .int r27), (16, .int r28), (17, .int r29), (18, .int r30), (19, .int r31), (20, .int x33), (21, .int r34), (22, .int r36), (23, .int r37), (24, .int r39), (25, .int r40), (26, .int r41), (27, .int r42), (28, .int r43), (29, .int x46)] → W p l e R s m args below meth c H locs (kc31 + 189) (ks31 + 1294) Q (F0 m 425 ls [.int x80, .int x70]) := by
                    intro x80 H locs ls hf hI hl
                    rw [ek425_81] at hf
                    try dsimp only at hf
                    refine lv_iand hx hb dL_law_425 ?_
                    refine lv_topi (fun x82 ex82 => ?_)
                    have hf := mlet_s ex82 hf
                    refine lv_istore (lv' := [(30, .int x82), (0, .ref xa), (1, .ref (w.1 12 16)), (2, .ref so), (3, .int x3), (4, .int x4), (5, .int x53), (6, .int x6), (7, .long r9), (9, .int r10), (10, .int x16), (12, .int r24), (13, .int r25), (14, .int r26), (15, .int r27), (16, .int r28), (17, .int r29), (18, .int r30), (19, .int r31), (20, .int x33), (21, .int r34), (22, .int r36), (23, .int r37), (24, .int r39), (25, .int r40), (26, .int r41), (27, .int r42), (28, .int r43), (29, .int x46)]) hx hb dL_law_426 hl (by decide) rfl (fun ls hl => ?_)
                    refine lv_iload hx hb dL_law_428 (lv_at hl 0 rfl) ?_
                    refine lv_iload hx hb dL_law_430 (lv_at hl 28 rfl) ?_
                    obtain ⟨k472_92, ek472_92, hf⟩ := mlet_e hf
                    have hj472_92 : ∀ (x91 : Int32) (H : Heap) (locs : List Loc) (ls : Array Slot), k472_92 x91 = some (1 : Int32) → rI w s H locs so cL (M44, M7.2) → lv_has ls 33 [(0, .ref xa), (1, .ref (w.1 12 16)), (2, .ref so), (3, .int x3), (4, .int x4), (5, .int x53), (6, .int x6), (7, .long r9), (9, .int r10), (10, .int x16), (13, .int r25), (14, .int r26), (15, .int r27), (16, .int r28), (17, .int r29), (18, .int r30), (19, .int r31), (20, .int x33), (21, .int r34), (22, .int r36), (23, .int r37), (24, .int r39), (25, .int r40), (26, .int r41), (27, .int r42), (28, .int r43), (29, .int x46)] → W p l e R s m args below meth c H locs (kc31 + 190) (ks31 + 1300) Q (F0 m 472 ls [.int x91, .int x82]) := by
                      intro x91 H locs ls hf hI hl
                      rw [ek472_92] at hf
                      try dsimp only at hf
                      refine lv_iand hx hb dL_law_472 ?_
                      refine lv_topi (fun x93 ex93 => ?_)
                      have hf := mlet_s ex93 hf
                      refine lv_istore (lv' := [(30, .int x93), (0, .ref xa), (1, .ref (w.1 12 16)), (2, .ref so), (3, .int x3), (4, .int x4), (5, .int x53), (6, .int x6), (7, .long r9), (9, .int r10), (10, .int x16), (13, .int r25), (14, .int r26), (15, .int r27), (16, .int r28), (17, .int r29), (18, .int r30), (19, .int r31), (20, .int x33), (21, .int r34), (22, .int r36), (23, .int r37), (24, .int r39), (25, .int r40), (26, .int r41), (27, .int r42), (28, .int r43), (29, .int x46)]) hx hb dL_law_473 hl (by decide) rfl (fun ls hl => ?_)
                      refine lv_iload hx hb dL_law_475 (lv_at hl 10 rfl) ?_
                      refine lv_bipush (v := 19) hx hb dL_law_477 (by decide) ?_
                      obtain ⟨k494_98, ek494_98, hf⟩ := mlet_e hf
                      have hj494_98 : ∀ (x97 : Int32) (H : Heap) (locs : List Loc) (ls : Array Slot), k494_98 x97 = some (1 : Int32) → rI w s H locs so cL (M44, M7.2) → lv_has ls 33 [(0, .ref xa), (1, .ref (w.1 12 16)), (2, .ref so), (3, .int x3), (4, .int x4), (5, .int x53), (6, .int x6), (7, .long r9), (9, .int r10), (10, .int x16), (13, .int r25), (14, .int r26), (15, .int r27), (16, .int r28), (17, .int r29), (18, .int r30), (19, .int r31), (20, .int x33), (21, .int r34), (22, .int r36), (23, .int r37), (24, .int r39), (25, .int r40), (26, .int r41), (27, .int r42), (28, .int r43), (29, .int x46), (30, .int x93)] → W p l e R s m args below meth c H locs (kc31 + 190) (ks31 + 1300) Q (F0 m 494 ls [.int x97]) := by
                        intro x97 H locs ls hf hI hl
                        rw [ek494_98] at hf
                        try dsimp only at hf
                        refine lv_istore (lv' := [(31, .int x97), (0, .ref xa), (1, .ref (w.1 12 16)), (2, .ref so), (3, .int x3), (4, .int x4), (5, .int x53), (6, .int x6), (7, .long r9), (9, .int r10), (10, .int x16), (13, .int r25), (14, .int r26), (15, .int r27), (16, .int r28), (17, .int r29), (18, .int r30), (19, .int r31), (20, .int x33), (21, .int r34), (22, .int r36), (23, .int r37), (24, .int r39), (25, .int r40), (26, .int r41), (27, .int r42), (28, .int r43), (29, .int x46), (30, .int x93)]) hx hb dL_law_494 hl (by decide) rfl (fun ls hl => ?_)
                        refine lv_iload hx hb dL_law_496 (lv_at hl 28 rfl) ?_
                        refine lv_iload hx hb dL_law_498 (lv_at hl 0 rfl) ?_
                        obtain ⟨k545_111, ek545_111, hf⟩ := mlet_e hf
                        have hj545_111 : ∀ (x110 : Int32) (H : Heap) (locs : List Loc) (ls : Array Slot), k545_111 x110 = some (1 : Int32) → rI w s H locs so cL (M44, M7.2) → lv_has ls 33 [(0, .ref xa), (1, .ref (w.1 12 16)), (2, .ref so), (3, .int x3), (4, .int x4), (5, .int x53), (6, .int x6), (7, .long r9), (9, .int r10), (10, .int x16), (13, .int r25), (14, .int r26), (15, .int r27), (16, .int r28), (18, .int r30), (19, .int r31), (20, .int x33), (21, .int r34), (22, .int r36), (23, .int r37), (24, .int r39), (25, .int r40), (26, .int r41), (28, .int r43), (29, .int x46), (31, .int x97)] → W p l e R s m args below meth c H locs (kc31 + 190) (ks31 + 1300) Q (F0 m 545 ls [.int x110, .int x93]) := by
                          intro x110 H locs ls hf hI hl
                          rw [ek545_111] at hf
                          try dsimp only at hf
                          refine lv_iand hx hb dL_law_545 ?_
                          refine lv_topi (fun x112 ex112 => ?_)
                          have hf := mlet_s ex112 hf
                          refine lv_istore (lv' := [(30, .int x112), (0, .ref xa), (1, .ref (w.1 12 16)), (2, .ref so), (3, .int x3), (4, .int x4), (5, .int x53), (6, .int x6), (7, .long r9), (9, .int r10), (10, .int x16), (13, .int r25), (14, .int r26), (15, .int r27), (16, .int r28), (18, .int r30), (19, .int r31), (20, .int x33), (21, .int r34), (22, .int r36), (23, .int r37), (24, .int r39), (25, .int r40), (26, .int r41), (28, .int r43), (29, .int x46), (31, .int x97)]) hx hb dL_law_546 hl (by decide) rfl (fun ls hl => ?_)
                          refine lv_iload hx hb dL_law_548 (lv_at hl 0 rfl) ?_
                          refine lv_iload hx hb dL_law_550 (lv_at hl 26 rfl) ?_
                          obtain ⟨k743_159, ek743_159, hf⟩ := mlet_e hf
                          have hj743_159 : ∀ (x158 : Int32) (H : Heap) (locs : List Loc) (ls : Array Slot), k743_159 x158 = some (1 : Int32) → rI w s H locs so cL (M44, M7.2) → lv_has ls 33 [(0, .ref xa), (1, .ref (w.1 12 16)), (2, .ref so), (3, .int x3), (4, .int x4), (5, .int x53), (6, .int x6), (7, .long r9), (9, .int r10), (10, .int x16), (13, .int r25), (14, .int r26), (16, .int r28), (20, .int x33), (21, .int r34), (22, .int r36), (23, .int r37), (24, .int r39), (25, .int r40), (28, .int r43), (29, .int x46)] → W p l e R s m args below meth c H locs (kc31 + 193) (ks31 + 1318) Q (F0 m 743 ls [.int x158, .int x112]) := by
                            intro x158 H locs ls hf hI hl
                            rw [ek743_159] at hf
                            try dsimp only at hf
                            refine lv_iand hx hb dL_law_743 ?_
                            refine lv_topi (fun x160 ex160 => ?_)
                            have hf := mlet_s ex160 hf
                            refine lv_istore (lv' := [(30, .int x160), (0, .ref xa), (1, .ref (w.1 12 16)), (2, .ref so), (3, .int x3), (4, .int x4), (5, .int x53), (6, .int x6), (7, .long r9), (9, .int r10), (10, .int x16), (13, .int r25), (14, .int r26), (16, .int r28), (20, .int x33), (21, .int r34), (22, .int r36), (23, .int r37), (24, .int r39), (25, .int r40), (28, .int r43), (29, .int x46)]) hx hb dL_law_744 hl (by decide) rfl (fun ls hl => ?_)
                            refine lv_iload hx hb dL_law_746 (lv_at hl 0 rfl) ?_
                            refine lv_iload hx hb dL_law_748 (lv_at hl 21 rfl) ?_
                            obtain ⟨k799_173, ek799_173, hf⟩ := mlet_e hf
                            have hj799_173 : ∀ (x172 : Int32) (H : Heap) (locs : List Loc) (ls : Array Slot), k799_173 x172 = some (1 : Int32) → rI w s H locs so cL (M44, M7.2) → lv_has ls 33 [(0, .ref xa), (1, .ref (w.1 12 16)), (2, .ref so), (3, .int x3), (4, .int x4), (5, .int x53), (6, .int x6), (7, .long r9), (9, .int r10), (10, .int x16), (14, .int r26), (20, .int x33), (21, .int r34), (22, .int r36), (23, .int r37), (24, .int r39), (25, .int r40), (28, .int r43), (29, .int x46)] → W p l e R s m args below meth c H locs (kc31 + 194) (ks31 + 1324) Q (F0 m 799 ls [.int x172, .int x160]) := by
                              intro x172 H locs ls hf hI hl
                              rw [ek799_173] at hf
                              try dsimp only at hf
                              refine lv_iand hx hb dL_law_799 ?_
                              refine lv_topi (fun x174 ex174 => ?_)
                              have hf := mlet_s ex174 hf
                              refine lv_istore (lv' := [(30, .int x174), (0, .ref xa), (1, .ref (w.1 12 16)), (2, .ref so), (3, .int x3), (4, .int x4), (5, .int x53), (6, .int x6), (7, .long r9), (9, .int r10), (10, .int x16), (14, .int r26), (20, .int x33), (21, .int r34), (22, .int r36), (23, .int r37), (24, .int r39), (25, .int r40), (28, .int r43), (29, .int x46)]) hx hb dL_law_800 hl (by decide) rfl (fun ls hl => ?_)
                              refine lv_iload hx hb dL_law_802 (lv_at hl 19 rfl) ?_
                              obtain ⟨k826_180, ek826_180, hf⟩ := mlet_e hf
                              have hj826_180 : ∀ (x179 : Int32) (H : Heap) (locs : List Loc) (ls : Array Slot), k826_180 x179 = some (1 : Int32) → rI w s H locs so cL (M44, M7.2) → lv_has ls 33 [(0, .ref xa), (1, .ref (w.1 12 16)), (2, .ref so), (3, .int x3), (4, .int x4), (5, .int x53), (6, .int x6), (7, .long r9), (9, .int r10), (10, .int x16), (14, .int r26), (20, .int x33), (21, .int r34), (22, .int r36), (23, .int r37), (24, .int r39), (25, .int r40), (28, .int r43), (29, .int x46), (30, .int x174)] → W p l e R s m args below meth c H locs (kc31 + 194) (ks31 + 1324) Q (F0 m 826 ls [.int x179]) := by
                                intro x179 H locs ls hf hI hl
                                rw [ek826_180] at hf
                                try dsimp only at hf
                                refine lv_istore (lv' := [(32, .int x179), (0, .ref xa), (1, .ref (w.1 12 16)), (2, .ref so), (3, .int x3), (4, .int x4), (5, .int x53), (6, .int x6), (7, .long r9), (9, .int r10), (10, .int x16), (14, .int r26), (20, .int x33), (21, .int r34), (22, .int r36), (23, .int r37), (24, .int r39), (25, .int r40), (28, .int r43), (29, .int x46), (30, .int x174)]) hx hb dL_law_826 hl (by decide) rfl (fun ls hl => ?_)
                                refine lv_iload hx hb dL_law_828 (lv_at hl 20 rfl) ?_
                                refine lv_iload hx hb dL_law_830 (lv_at hl 0 rfl) ?_
                                obtain ⟨k908_199, ek908_199, hf⟩ := mlet_e hf
                                have hj908_199 : ∀ (x197 : Int32) (M198 : MemY) (H : Heap) (locs : List Loc) (ls : Array Slot), k908_199 x197 M198 = some (1 : Int32) → rI w s H locs so cL M198 → lv_has ls 33 [(0, .ref xa), (1, .ref (w.1 12 16)), (2, .ref so), (3, .int x3), (4, .int x4), (5, .int x53), (6, .int x6), (7, .long r9), (9, .int r10), (10, .int x16), (24, .int r39), (25, .int r40), (29, .int x46), (32, .int x179)] → W p l e R s m args below meth c H locs (kc31 + 196) (ks31 + 1336) Q (F0 m 908 ls [.int x197, .int x174]) := by
                                  intro x197 M198 H locs ls hf hI hl
                                  rw [ek908_199] at hf
                                  try dsimp only at hf
                                  refine lv_iand hx hb dL_law_908 ?_
                                  refine lv_topi (fun x200 ex200 => ?_)
                                  have hf := mlet_s ex200 hf
                                  refine lv_istore (lv' := [(30, .int x200), (0, .ref xa), (1, .ref (w.1 12 16)), (2, .ref so), (3, .int x3), (4, .int x4), (5, .int x53), (6, .int x6), (7, .long r9), (9, .int r10), (10, .int x16), (24, .int r39), (25, .int r40), (29, .int x46), (32, .int x179)]) hx hb dL_law_909 hl (by decide) rfl (fun ls hl => ?_)
                                  refine lv_iload hx hb dL_law_911 (lv_at hl 0 rfl) ?_
                                  refine lv_iload hx hb dL_law_913 (lv_at hl 14 rfl) ?_
                                  obtain ⟨k948_210, ek948_210, hf⟩ := mlet_e hf
                                  have hj948_210 : ∀ (x209 : Int32) (H : Heap) (locs : List Loc) (ls : Array Slot), k948_210 x209 = some (1 : Int32) → rI w s H locs so cL M198 → lv_has ls 33 [(0, .ref xa), (1, .ref (w.1 12 16)), (2, .ref so), (3, .int x3), (4, .int x4), (5, .int x53), (6, .int x6), (7, .long r9), (9, .int r10), (29, .int x46)] → W p l e R s m args below meth c H locs (kc31 + 196) (ks31 + 1336) Q (F0 m 948 ls [.int x209, .int x200]) := by
                                    intro x209 H locs ls hf hI hl
                                    rw [ek948_210] at hf
                                    try dsimp only at hf
                                    refine lv_iand hx hb dL_law_948 ?_
                                    refine lv_topi (fun x211 ex211 => ?_)
                                    have hf := mlet_s ex211 hf
                                    refine lv_istore (lv' := [(30, .int x211), (0, .ref xa), (1, .ref (w.1 12 16)), (2, .ref so), (3, .int x3), (4, .int x4), (5, .int x53), (6, .int x6), (7, .long r9), (9, .int r10), (29, .int x46)]) hx hb dL_law_949 hl (by decide) rfl (fun ls hl => ?_)
                                    obtain ⟨x212, ex212, hf⟩ := mlet_e hf
                                    refine lv_iinc (v := x212) (lv' := [(4, .int x212), (30, .int x211), (0, .ref xa), (1, .ref (w.1 12 16)), (2, .ref so), (3, .int x3), (5, .int x53), (6, .int x6), (7, .long r9), (9, .int r10), (29, .int x46)]) hx hb dL_law_951 hl (k := 5) rfl (by rw [ex212]; rfl) (by decide) rfl (fun ls hl => ?_)
                                    refine lv_iload hx hb dL_law_954 (lv_at hl 1 rfl) ?_
                                    refine lv_if_eq (tgt := 984) hx hb dL_law_956 (by decide) (fun c213 => ?_) (fun c213 => ?_)
                                    · have hf := (if_pos c213).symm.trans hf
                                      refine lv_iconst (v := 0) hx hb dL_law_984 (by decide) ?_
                                      exact absurd (Option.some.inj hf) (by decide)
                                    · have hf := (if_neg c213).symm.trans hf
                                      refine lv_aload_n hx hb dL_law_959 rfl (lv_at hl 3 rfl) ?_
                                      refine lv_aload_n hx hb dL_law_960 rfl (lv_at hl 2 rfl) ?_
                                      refine lv_iload hx hb dL_law_961 (lv_at hl 0 rfl) ?_
                                      refine lv_iload hx hb dL_law_963 (lv_at hl 6 rfl) ?_
                                      refine lv_iload hx hb dL_law_965 (lv_at hl 7 rfl) ?_
                                      refine lv_iconst (v := 4) hx hb dL_law_967 (by decide) ?_
                                      refine lv_irem hx hb dL_law_968 (by decide) ?_
                                      refine lv_iconst (v := 3) hx hb dL_law_969 (by decide) ?_
                                      obtain ⟨k978_216, ek978_216, hf⟩ := mlet_e hf
                                      have hj978_216 : ∀ (x215 : Int32) (H : Heap) (locs : List Loc) (ls : Array Slot), k978_216 x215 = some (1 : Int32) → rI w s H locs so cL M198 → lv_has ls 33 [(0, .ref xa), (1, .ref (w.1 12 16)), (2, .ref so), (3, .int x3), (4, .int x212), (5, .int x53), (6, .int x6), (7, .long r9), (9, .int r10), (29, .int x46)] → W p l e R s m args below meth c H locs (kc31 + 196) (ks31 + 1336) Q (F0 m 978 ls [.int x215, .int x53, .int x212, .ref xa, .ref (w.1 12 16)]) := by
                                        intro x215 H locs ls hf hI hl
                                        rw [ek978_216] at hf
                                        try dsimp only at hf
                                        obtain ⟨r217, M218, hc, hf⟩ := mbnd_e hf
                                        refine r_callS (As := [.ref (w.1 12 16), .ref xa, .int x212, .int x53, .int x215]) (rest := []) hx hb hml hown hI (c_L_isWhole l w hsf H.size xa xl xs hX x212 x53 x215 M198.1 _ _ hc) (kb_L_isWhole hI.T (q1393 hI.T) (Nat.le_trans (Nat.le_of_ble_eq_true rfl) hRf) (Nat.le_trans (Nat.le_of_ble_eq_true rfl) hRl)) (q1394 hI.T) rfl hl.1 (Nat.le_of_ble_eq_true rfl) dL_law_978 ⟨Nat.le_trans (m := 44719) (by omega) (Nat.le_trans (Nat.le_of_ble_eq_true rfl) hRc), Nat.le_trans (m := 277533) (by omega) (Nat.le_trans (Nat.le_of_ble_eq_true rfl) hRs)⟩ (fun H locs hI => ?_)
                                        refine lv_if_ne (tgt := 986) hx hb dL_law_981 (by decide) (fun c219 => ?_) (fun c219 => ?_)
                                        · have hf := (if_neg c219).symm.trans hf
                                          refine lv_iload hx hb dL_law_986 (lv_at hl 9 rfl) ?_
                                          obtain ⟨k1022_230, ek1022_230, hf⟩ := mlet_e hf
                                          have hj1022_230 : ∀ (x228 : Int32) (M229 : MemY) (H : Heap) (locs : List Loc) (ls : Array Slot), k1022_230 x228 M229 = some (1 : Int32) → rI w s H locs so cL M229 → lv_has ls 33 [(0, .ref xa), (1, .ref (w.1 12 16)), (2, .ref so), (3, .int x228), (4, .int x212), (5, .int x53), (6, .int x6)] → W p l e R s m args below meth c H locs (kc31 + 807) (ks31 + 5002) Q (F0 m 1022 ls []) := by
                                            intro x228 M229 H locs ls hf hI hl
                                            rw [ek1022_230] at hf
                                            try dsimp only at hf
                                            obtain ⟨x231, ex231, hf⟩ := mlet_e hf
                                            refine lv_iinc (v := x231) (lv' := [(6, .int x231), (0, .ref xa), (1, .ref (w.1 12 16)), (2, .ref so), (3, .int x228), (4, .int x212), (5, .int x53)]) hx hb dL_law_1022 hl (k := 6) rfl (by rw [ex231]; rfl) (by decide) rfl (fun ls hl => ?_)
                                            refine lv_goto (tgt := 31) hx hb dL_law_1025 (by decide) ?_
                                            exact ih31 x228 x212 x53 x231 M229 kk H _ _ _ _ (by omega) (by omega) hf hI (lv_sub hl [1, 2, 3, 4, 5, 6, 0] rfl) hk
                                          refine lv_if_ne (tgt := 1012) hx hb dL_law_988 (by decide) (fun c220 => ?_) (fun c220 => ?_)
                                          · have hf := (if_neg c220).symm.trans hf
                                            obtain ⟨x221, ex221, hf⟩ := mlet_e hf
                                            refine lv_iinc (v := x221) (lv' := [(3, .int x221), (0, .ref xa), (1, .ref (w.1 12 16)), (2, .ref so), (4, .int x212), (5, .int x53), (6, .int x6), (7, .long r9), (9, .int r10), (29, .int x46)]) hx hb dL_law_1012 hl (k := 3) rfl (by rw [ex221]; rfl) (by decide) rfl (fun ls hl => ?_)
                                            refine lv_aload_n hx hb dL_law_1015 rfl (lv_at hl 3 rfl) ?_
                                            refine lv_iload_n hx hb dL_law_1016 rfl (lv_at hl 0 rfl) ?_
                                            refine lv_aload_n hx hb dL_law_1017 rfl (lv_at hl 2 rfl) ?_
                                            obtain ⟨r222, hc, hf⟩ := mbp_e hf
                                            refine r_callS (As := [.ref (w.1 12 16)]) (rest := [.int x221, .ref so]) hx hb hml hown hI (c_L_sum l w hsf H.size M218 _ hc) (kb_L_sum hI.T (q1358 hI.T) (Nat.le_trans (Nat.le_of_ble_eq_true rfl) hRf) (Nat.le_trans (Nat.le_of_ble_eq_true rfl) hRl)) (q1359 hI.T) rfl hl.1 (Nat.le_of_ble_eq_true rfl) dL_law_1018 ⟨Nat.le_trans (m := 44719) (by omega) (Nat.le_trans (Nat.le_of_ble_eq_true rfl) hRc), Nat.le_trans (m := 277533) (by omega) (Nat.le_trans (Nat.le_of_ble_eq_true rfl) hRs)⟩ (fun H locs hI => ?_)
                                            obtain ⟨hi, hf⟩ := mix_e hf
                                            obtain ⟨M223, eM223, hf⟩ := mlet_e hf
                                            refine r_last (N1 := M223) hx hb hI hi eM223 dL_law_1021 (fun H locs hI => ?_)
                                            exact hj1022_230 x221 M223 H _ _ hf hI (lv_sub hl [1, 2, 3, 0, 4, 5, 6] rfl)
                                          · have hf := (if_pos c220).symm.trans hf
                                            refine lv_aload_n hx hb dL_law_991 rfl (lv_at hl 1 rfl) ?_
                                            obtain ⟨r224, hc, hf⟩ := mbp_e hf
                                            refine r_callS (As := [.ref (w.1 12 16)]) (rest := []) hx hb hml hown hI (c_L_sum l w hsf H.size M218 _ hc) (kb_L_sum hI.T (q1358 hI.T) (Nat.le_trans (Nat.le_of_ble_eq_true rfl) hRf) (Nat.le_trans (Nat.le_of_ble_eq_true rfl) hRl)) (q1359 hI.T) rfl hl.1 (Nat.le_of_ble_eq_true rfl) dL_law_992 ⟨Nat.le_trans (m := 44719) (by omega) (Nat.le_trans (Nat.le_of_ble_eq_true rfl) hRc), Nat.le_trans (m := 277533) (by omega) (Nat.le_trans (Nat.le_of_ble_eq_true rfl) hRs)⟩ (fun H locs hI => ?_)
                                            refine lv_lload hx hb dL_law_995 (lv_at hl 7 rfl) ?_
                                            refine W.lcmp hx hb dL_law_997 ?_
                                            refine lv_if_ne (tgt := 1010) hx hb dL_law_998 (by decide) (fun c225 => ?_) (fun c225 => ?_)
                                            · have hf := (if_neg c225).symm.trans hf
                                              refine lv_iconst (v := 0) hx hb dL_law_1010 (by decide) ?_
                                              exact absurd (Option.some.inj hf) (by decide)
                                            · have hf := (if_pos c225).symm.trans hf
                                              refine lv_aload_n hx hb dL_law_1001 rfl (lv_at hl 1 rfl) ?_
                                              obtain ⟨r226, hc, hf⟩ := mbp_e hf
                                              refine r_callV (As := []) (rest := []) hx hb hml hown hI (c_X11_undoCount l w H.size M218 _ hc) (kb_X11_undoCount hI.T (q367 hI.T) (Nat.le_trans (Nat.le_of_ble_eq_true rfl) hRf) (Nat.le_trans (Nat.le_of_ble_eq_true rfl) hRl)) (q368 hI.T) (q369 hI.T) (m_recv (g := 12) (i := 16) hI.1 (mokX (by decide) (by decide)) rfl rfl) rfl hl.1 (Nat.le_of_ble_eq_true rfl) dL_law_1002 ⟨Nat.le_trans (m := 44719) (by omega) (Nat.le_trans (Nat.le_of_ble_eq_true rfl) hRc), Nat.le_trans (m := 277533) (by omega) (Nat.le_trans (Nat.le_of_ble_eq_true rfl) hRs)⟩ (fun H locs hI => ?_)
                                              refine lv_iload hx hb dL_law_1005 (lv_at hl 8 rfl) ?_
                                              refine lv_icmp_eq (tgt := 1022) hx hb dL_law_1007 (by decide) (fun c227 => ?_) (fun c227 => ?_)
                                              · have hf := (if_pos c227).symm.trans hf
                                                exact hj1022_230 x3 (M218, M198.2) H _ _ hf hI (lv_sub hl [0, 1, 2, 3, 4, 5, 6] rfl)
                                              · have hf := (if_neg c227).symm.trans hf
                                                refine lv_iconst (v := 0) hx hb dL_law_1010 (by decide) ?_
                                                exact absurd (Option.some.inj hf) (by decide)
                                        · have hf := (if_pos c219).symm.trans hf
                                          refine lv_iconst (v := 0) hx hb dL_law_984 (by decide) ?_
                                          exact absurd (Option.some.inj hf) (by decide)
                                      refine lv_icmp_ne (tgt := 977) hx hb dL_law_970 (by decide) (fun c214 => ?_) (fun c214 => ?_)
                                      · have hf := (if_neg c214).symm.trans hf
                                        refine lv_iconst (v := 0) hx hb dL_law_977 (by decide) ?_
                                        exact hj978_216 (0 : Int32) H _ _ hf hI (lv_sub hl [2, 3, 4, 5, 0, 6, 7, 8, 9, 10] rfl)
                                      · have hf := (if_pos c214).symm.trans hf
                                        refine lv_iconst (v := 1) hx hb dL_law_973 (by decide) ?_
                                        refine lv_goto (tgt := 978) hx hb dL_law_974 (by decide) ?_
                                        exact hj978_216 (1 : Int32) H _ _ hf hI (lv_sub hl [2, 3, 4, 5, 0, 6, 7, 8, 9, 10] rfl)
                                  obtain ⟨k943_208, ek943_208, hf⟩ := mlet_e hf
                                  have hj943_208 : ∀ (_u : Unit) (H : Heap) (locs : List Loc) (ls : Array Slot), k943_208 _u = some (1 : Int32) → rI w s H locs so cL M198 → lv_has ls 33 [(0, .ref xa), (1, .ref (w.1 12 16)), (2, .ref so), (3, .int x3), (4, .int x4), (5, .int x53), (6, .int x6), (7, .long r9), (9, .int r10), (29, .int x46)] → W p l e R s m args below meth c H locs (kc31 + 196) (ks31 + 1336) Q (F0 m 943 ls [.int x200]) := by
                                    intro _u H locs ls hf hI hl
                                    rw [ek943_208] at hf
                                    try dsimp only at hf
                                    refine lv_iconst (v := 1) hx hb dL_law_943 (by decide) ?_
                                    refine lv_goto (tgt := 948) hx hb dL_law_944 (by decide) ?_
                                    exact hj948_210 (1 : Int32) H _ _ hf hI (lv_sub hl [0, 1, 2, 3, 4, 5, 6, 7, 8, 9] rfl)
                                  refine lv_if_ne (tgt := 943) hx hb dL_law_915 (by decide) (fun c201 => ?_) (fun c201 => ?_)
                                  · have hf := (if_neg c201).symm.trans hf
                                    exact hj943_208 () H _ _ hf hI (lv_sub hl [1, 2, 3, 4, 5, 6, 7, 8, 9, 13] rfl)
                                  · have hf := (if_pos c201).symm.trans hf
                                    refine lv_iload hx hb dL_law_918 (lv_at hl 10 rfl) ?_
                                    refine lv_bipush (v := 45) hx hb dL_law_920 (by decide) ?_
                                    refine lv_icmp_gt (tgt := 943) hx hb dL_law_922 (by decide) (fun c202 => ?_) (fun c202 => ?_)
                                    · have hf := (if_pos c202).symm.trans hf
                                      exact hj943_208 () H _ _ hf hI (lv_sub hl [1, 2, 3, 4, 5, 6, 7, 8, 9, 13] rfl)
                                    · have hf := (if_neg c202).symm.trans hf
                                      refine lv_aload_n hx hb dL_law_925 rfl (lv_at hl 2 rfl) ?_
                                      obtain ⟨r203, hc, hf⟩ := mbp_e hf
                                      refine r_callV (As := []) (rest := [.int x200]) hx hb hml hown hI (c_X11_alarmCount l w H.size M198.1 _ hc) (kb_X11_alarmCount hI.T (q355 hI.T) (Nat.le_trans (Nat.le_of_ble_eq_true rfl) hRf) (Nat.le_trans (Nat.le_of_ble_eq_true rfl) hRl)) (q356 hI.T) (q357 hI.T) (m_recv (g := 12) (i := 16) hI.1 (mokX (by decide) (by decide)) rfl rfl) rfl hl.1 (Nat.le_of_ble_eq_true rfl) dL_law_926 ⟨Nat.le_trans (m := 44719) (by omega) (Nat.le_trans (Nat.le_of_ble_eq_true rfl) hRc), Nat.le_trans (m := 277533) (by omega) (Nat.le_trans (Nat.le_of_ble_eq_true rfl) hRs)⟩ (fun H locs hI => ?_)
                                      refine lv_iload hx hb dL_law_929 (lv_at hl 11 rfl) ?_
                                      obtain ⟨k947_207, ek947_207, hf⟩ := mlet_e hf
                                      have hj947_207 : ∀ (_u : Unit) (H : Heap) (locs : List Loc) (ls : Array Slot), k947_207 _u = some (1 : Int32) → rI w s H locs so cL M198 → lv_has ls 33 [(0, .ref xa), (1, .ref (w.1 12 16)), (2, .ref so), (3, .int x3), (4, .int x4), (5, .int x53), (6, .int x6), (7, .long r9), (9, .int r10), (29, .int x46)] → W p l e R s m args below meth c H locs (kc31 + 196) (ks31 + 1336) Q (F0 m 947 ls [.int x200]) := by
                                        intro _u H locs ls hf hI hl
                                        rw [ek947_207] at hf
                                        try dsimp only at hf
                                        refine lv_iconst (v := 0) hx hb dL_law_947 (by decide) ?_
                                        exact hj948_210 (0 : Int32) H _ _ hf hI (lv_sub hl [0, 1, 2, 3, 4, 5, 6, 7, 8, 9] rfl)
                                      refine lv_icmp_ne (tgt := 947) hx hb dL_law_931 (by decide) (fun c204 => ?_) (fun c204 => ?_)
                                      · have hf := (if_neg c204).symm.trans hf
                                        exact hj947_207 () H _ _ hf hI (lv_sub hl [1, 2, 3, 4, 5, 6, 7, 8, 9, 13] rfl)
                                      · have hf := (if_pos c204).symm.trans hf
                                        refine lv_aload_n hx hb dL_law_934 rfl (lv_at hl 2 rfl) ?_
                                        obtain ⟨r205, hc, hf⟩ := mbp_e hf
                                        refine r_callV (As := []) (rest := [.int x200]) hx hb hml hown hI (c_X11_hour l w H.size M198.1 _ hc) (kb_X11_hour hI.T (q331 hI.T) (Nat.le_trans (Nat.le_of_ble_eq_true rfl) hRf) (Nat.le_trans (Nat.le_of_ble_eq_true rfl) hRl)) (q332 hI.T) (q333 hI.T) (m_recv (g := 12) (i := 16) hI.1 (mokX (by decide) (by decide)) rfl rfl) rfl hl.1 (Nat.le_of_ble_eq_true rfl) dL_law_935 ⟨Nat.le_trans (m := 44719) (by omega) (Nat.le_trans (Nat.le_of_ble_eq_true rfl) hRc), Nat.le_trans (m := 277533) (by omega) (Nat.le_trans (Nat.le_of_ble_eq_true rfl) hRs)⟩ (fun H locs hI => ?_)
                                        refine lv_iload hx hb dL_law_938 (lv_at hl 12 rfl) ?_
                                        refine lv_icmp_ne (tgt := 947) hx hb dL_law_940 (by decide) (fun c206 => ?_) (fun c206 => ?_)
                                        · have hf := (if_neg c206).symm.trans hf
                                          exact hj947_207 () H _ _ hf hI (lv_sub hl [1, 2, 3, 4, 5, 6, 7, 8, 9, 13] rfl)
                                        · have hf := (if_pos c206).symm.trans hf
                                          exact hj943_208 () H _ _ hf hI (lv_sub hl [1, 2, 3, 4, 5, 6, 7, 8, 9, 13] rfl)
                                obtain ⟨k903_196, ek903_196, hf⟩ := mlet_e hf
                                have hj903_196 : ∀ (M195 : MemY) (H : Heap) (locs : List Loc) (ls : Array Slot), k903_196 M195 = some (1 : Int32) → rI w s H locs so cL M195 → lv_has ls 33 [(0, .ref xa), (1, .ref (w.1 12 16)), (2, .ref so), (3, .int x3), (4, .int x4), (5, .int x53), (6, .int x6), (7, .long r9), (9, .int r10), (10, .int x16), (24, .int r39), (25, .int r40), (29, .int x46), (32, .int x179)] → W p l e R s m args below meth c H locs (kc31 + 196) (ks31 + 1336) Q (F0 m 903 ls [.int x174]) := by
                                  intro M195 H locs ls hf hI hl
                                  rw [ek903_196] at hf
                                  try dsimp only at hf
                                  refine lv_iconst (v := 1) hx hb dL_law_903 (by decide) ?_
                                  refine lv_goto (tgt := 908) hx hb dL_law_904 (by decide) ?_
                                  exact hj908_199 (1 : Int32) M195 H _ _ hf hI (lv_sub hl [0, 1, 2, 3, 4, 5, 6, 7, 8, 9, 10, 11, 12, 13] rfl)
                                refine lv_if_eq (tgt := 903) hx hb dL_law_832 (by decide) (fun c181 => ?_) (fun c181 => ?_)
                                · have hf := (if_pos c181).symm.trans hf
                                  refine W.widen (k := (kc31 + 196)) (n := (ks31 + 1336)) (by omega) (by omega) ?_
                                  exact hj903_196 (M44, M7.2) H _ _ hf hI (lv_sub hl [1, 2, 3, 4, 5, 6, 7, 8, 9, 10, 16, 17, 19, 0] rfl)
                                · have hf := (if_neg c181).symm.trans hf
                                  refine lv_iload hx hb dL_law_835 (lv_at hl 18 rfl) ?_
                                  refine lv_iload hx hb dL_law_837 (lv_at hl 13 rfl) ?_
                                  obtain ⟨k907_194, ek907_194, hf⟩ := mlet_e hf
                                  have hj907_194 : ∀ (M193 : MemY) (H : Heap) (locs : List Loc) (ls : Array Slot), k907_194 M193 = some (1 : Int32) → rI w s H locs so cL M193 → lv_has ls 33 [(0, .ref xa), (1, .ref (w.1 12 16)), (2, .ref so), (3, .int x3), (4, .int x4), (5, .int x53), (6, .int x6), (7, .long r9), (9, .int r10), (10, .int x16), (24, .int r39), (25, .int r40), (29, .int x46), (32, .int x179)] → W p l e R s m args below meth c H locs (kc31 + 196) (ks31 + 1336) Q (F0 m 907 ls [.int x174]) := by
                                    intro M193 H locs ls hf hI hl
                                    rw [ek907_194] at hf
                                    try dsimp only at hf
                                    refine lv_iconst (v := 0) hx hb dL_law_907 (by decide) ?_
                                    exact hj908_199 (0 : Int32) M193 H _ _ hf hI (lv_sub hl [0, 1, 2, 3, 4, 5, 6, 7, 8, 9, 10, 11, 12, 13] rfl)
                                  refine lv_icmp_ne (tgt := 907) hx hb dL_law_839 (by decide) (fun c182 => ?_) (fun c182 => ?_)
                                  · have hf := (if_neg c182).symm.trans hf
                                    refine W.widen (k := (kc31 + 196)) (n := (ks31 + 1336)) (by omega) (by omega) ?_
                                    exact hj907_194 (M44, M7.2) H _ _ hf hI (lv_sub hl [1, 2, 3, 4, 5, 6, 7, 8, 9, 10, 16, 17, 19, 0] rfl)
                                  · have hf := (if_pos c182).symm.trans hf
                                    refine lv_aload_n hx hb dL_law_842 rfl (lv_at hl 2 rfl) ?_
                                    obtain ⟨r183, hc, hf⟩ := mbp_e hf
                                    refine r_callV (As := []) (rest := [.int x174]) hx hb hml hown hI (c_X11_alarmCount l w H.size M44 _ hc) (kb_X11_alarmCount hI.T (q355 hI.T) (Nat.le_trans (Nat.le_of_ble_eq_true rfl) hRf) (Nat.le_trans (Nat.le_of_ble_eq_true rfl) hRl)) (q356 hI.T) (q357 hI.T) (m_recv (g := 12) (i := 16) hI.1 (mokX (by decide) (by decide)) rfl rfl) rfl hl.1 (Nat.le_of_ble_eq_true rfl) dL_law_843 ⟨Nat.le_trans (m := 44719) (by omega) (Nat.le_trans (Nat.le_of_ble_eq_true rfl) hRc), Nat.le_trans (m := 277533) (by omega) (Nat.le_trans (Nat.le_of_ble_eq_true rfl) hRs)⟩ (fun H locs hI => ?_)
                                    refine lv_iload hx hb dL_law_846 (lv_at hl 16 rfl) ?_
                                    refine lv_iload hx hb dL_law_848 (lv_at hl 18 rfl) ?_
                                    refine lv_iadd hx hb dL_law_850 ?_
                                    refine lv_icmp_ne (tgt := 907) hx hb dL_law_851 (by decide) (fun c184 => ?_) (fun c184 => ?_)
                                    · have hf := (if_neg c184).symm.trans hf
                                      refine W.widen (k := (kc31 + 196)) (n := (ks31 + 1336)) (by omega) (by omega) ?_
                                      exact hj907_194 (M44, M7.2) H _ _ hf hI (lv_sub hl [1, 2, 3, 4, 5, 6, 7, 8, 9, 10, 16, 17, 19, 0] rfl)
                                    · have hf := (if_pos c184).symm.trans hf
                                      refine lv_aload_n hx hb dL_law_854 rfl (lv_at hl 2 rfl) ?_
                                      obtain ⟨r185, hc, hf⟩ := mbp_e hf
                                      refine r_callV (As := []) (rest := [.int x174]) hx hb hml hown hI (c_X11_hour l w H.size M44 _ hc) (kb_X11_hour hI.T (q331 hI.T) (Nat.le_trans (Nat.le_of_ble_eq_true rfl) hRf) (Nat.le_trans (Nat.le_of_ble_eq_true rfl) hRl)) (q332 hI.T) (q333 hI.T) (m_recv (g := 12) (i := 16) hI.1 (mokX (by decide) (by decide)) rfl rfl) rfl hl.1 (Nat.le_of_ble_eq_true rfl) dL_law_855 ⟨Nat.le_trans (m := 44719) (by omega) (Nat.le_trans (Nat.le_of_ble_eq_true rfl) hRc), Nat.le_trans (m := 277533) (by omega) (Nat.le_trans (Nat.le_of_ble_eq_true rfl) hRs)⟩ (fun H locs hI => ?_)
                                      refine lv_iload hx hb dL_law_858 (lv_at hl 17 rfl) ?_
                                      refine lv_iload hx hb dL_law_860 (lv_at hl 12 rfl) ?_
                                      refine lv_iadd hx hb dL_law_862 ?_
                                      refine lv_icmp_ne (tgt := 907) hx hb dL_law_863 (by decide) (fun c186 => ?_) (fun c186 => ?_)
                                      · have hf := (if_neg c186).symm.trans hf
                                        refine W.widen (k := (kc31 + 196)) (n := (ks31 + 1336)) (by omega) (by omega) ?_
                                        exact hj907_194 (M44, M7.2) H _ _ hf hI (lv_sub hl [1, 2, 3, 4, 5, 6, 7, 8, 9, 10, 16, 17, 19, 0] rfl)
                                      · have hf := (if_pos c186).symm.trans hf
                                        refine lv_aload_n hx hb dL_law_866 rfl (lv_at hl 2 rfl) ?_
                                        obtain ⟨r187, hc, hf⟩ := mbp_e hf
                                        refine r_callV (As := []) (rest := [.int x174]) hx hb hml hown hI (c_X11_lockedHours l w H.size M44 _ hc) (kb_X11_lockedHours hI.T (q347 hI.T) (Nat.le_trans (Nat.le_of_ble_eq_true rfl) hRf) (Nat.le_trans (Nat.le_of_ble_eq_true rfl) hRl)) (q348 hI.T) (q349 hI.T) (m_recv (g := 12) (i := 16) hI.1 (mokX (by decide) (by decide)) rfl rfl) rfl hl.1 (Nat.le_of_ble_eq_true rfl) dL_law_867 ⟨Nat.le_trans (m := 44719) (by omega) (Nat.le_trans (Nat.le_of_ble_eq_true rfl) hRc), Nat.le_trans (m := 277533) (by omega) (Nat.le_trans (Nat.le_of_ble_eq_true rfl) hRs)⟩ (fun H locs hI => ?_)
                                        refine lv_iconst (v := 0) hx hb dL_law_870 (by decide) ?_
                                        refine lv_iload hx hb dL_law_871 (lv_at hl 11 rfl) ?_
                                        refine lv_iload hx hb dL_law_873 (lv_at hl 12 rfl) ?_
                                        refine lv_isub hx hb dL_law_875 ?_
                                        refine va_mmax hx hb (hml.trans hl.1.symm) hown (q1609 hI.T) (q1022 hI.T) (q21 hI.T) (q1023 hI.T) (Nat.le_trans (Nat.le_of_ble_eq_true rfl) hRf) (Nat.le_trans (Nat.le_of_ble_eq_true rfl) hRl) (Nat.le_trans (m := 44719) (by omega) (Nat.le_trans (Nat.le_of_ble_eq_true rfl) hRc)) (Nat.le_trans (m := 277533) (by omega) (Nat.le_trans (Nat.le_of_ble_eq_true rfl) hRs)) dL_law_876 ?_
                                        refine lv_icmp_ne (tgt := 907) hx hb dL_law_879 (by decide) (fun c188 => ?_) (fun c188 => ?_)
                                        · have hf := (if_neg c188).symm.trans hf
                                          refine W.widen (k := (kc31 + 196)) (n := (ks31 + 1336)) (by omega) (by omega) ?_
                                          exact hj907_194 (M44, M7.2) H _ _ hf hI (lv_sub hl [1, 2, 3, 4, 5, 6, 7, 8, 9, 10, 16, 17, 19, 0] rfl)
                                        · have hf := (if_pos c188).symm.trans hf
                                          refine lv_iload hx hb dL_law_882 (lv_at hl 15 rfl) ?_
                                          refine lv_iload hx hb dL_law_884 (lv_at hl 12 rfl) ?_
                                          refine lv_icmp_lt (tgt := 903) hx hb dL_law_886 (by decide) (fun c189 => ?_) (fun c189 => ?_)
                                          · have hf := (if_pos c189).symm.trans hf
                                            refine W.widen (k := (kc31 + 196)) (n := (ks31 + 1336)) (by omega) (by omega) ?_
                                            exact hj903_196 (M44, M7.2) H _ _ hf hI (lv_sub hl [1, 2, 3, 4, 5, 6, 7, 8, 9, 10, 16, 17, 19, 0] rfl)
                                          · have hf := (if_neg c189).symm.trans hf
                                            refine lv_aload_n hx hb dL_law_889 rfl (lv_at hl 2 rfl) ?_
                                            refine lv_iload hx hb dL_law_890 (lv_at hl 14 rfl) ?_
                                            obtain ⟨r190, M191, hc, hf⟩ := mbnd_e hf
                                            refine r_callH (As := [.ref (w.1 12 16), .int r36]) (rest := [.int x174]) hx hb hml hown hI (c_L_hoursUntilVisit l w hsf H.size r36 M44 _ _ hc) (k_cw (n := 2) hI.T kc_L_hoursUntilVisit ki_L_hoursUntilVisit (q574 hI.T) (q575 hI.T) (by decide +kernel) ⟨rfl, rfl, (Nat.le_trans (Nat.le_of_ble_eq_true rfl) hRf), (Nat.le_trans (Nat.le_of_ble_eq_true rfl) hRl)⟩) rfl hl.1 (Nat.le_of_ble_eq_true rfl) dL_law_892 ⟨Nat.le_trans (m := 44719) (by omega) (Nat.le_trans (Nat.le_of_ble_eq_true rfl) hRc), Nat.le_trans (m := 277533) (by omega) (Nat.le_trans (Nat.le_of_ble_eq_true rfl) hRs)⟩ (fun H locs hI => ?_)
                                            refine lv_iload hx hb dL_law_895 (lv_at hl 15 rfl) ?_
                                            refine lv_iload hx hb dL_law_897 (lv_at hl 12 rfl) ?_
                                            refine lv_isub hx hb dL_law_899 ?_
                                            refine lv_icmp_ne (tgt := 907) hx hb dL_law_900 (by decide) (fun c192 => ?_) (fun c192 => ?_)
                                            · have hf := (if_neg c192).symm.trans hf
                                              exact hj907_194 (M191, M7.2) H _ _ hf hI (lv_sub hl [1, 2, 3, 4, 5, 6, 7, 8, 9, 10, 16, 17, 19, 0] rfl)
                                            · have hf := (if_pos c192).symm.trans hf
                                              exact hj903_196 (M191, M7.2) H _ _ hf hI (lv_sub hl [1, 2, 3, 4, 5, 6, 7, 8, 9, 10, 16, 17, 19, 0] rfl)
                              obtain ⟨k825_178, ek825_178, hf⟩ := mlet_e hf
                              have hj825_178 : ∀ (_u : Unit) (H : Heap) (locs : List Loc) (ls : Array Slot), k825_178 _u = some (1 : Int32) → rI w s H locs so cL (M44, M7.2) → lv_has ls 33 [(0, .ref xa), (1, .ref (w.1 12 16)), (2, .ref so), (3, .int x3), (4, .int x4), (5, .int x53), (6, .int x6), (7, .long r9), (9, .int r10), (10, .int x16), (14, .int r26), (20, .int x33), (21, .int r34), (22, .int r36), (23, .int r37), (24, .int r39), (25, .int r40), (28, .int r43), (29, .int x46), (30, .int x174)] → W p l e R s m args below meth c H locs (kc31 + 194) (ks31 + 1324) Q (F0 m 825 ls []) := by
                                intro _u H locs ls hf hI hl
                                rw [ek825_178] at hf
                                try dsimp only at hf
                                refine lv_iconst (v := 0) hx hb dL_law_825 (by decide) ?_
                                exact hj826_180 (0 : Int32) H _ _ hf hI (lv_sub hl [0, 1, 2, 3, 4, 5, 6, 7, 8, 9, 10, 11, 12, 13, 14, 15, 16, 17, 18, 19] rfl)
                              refine lv_if_eq (tgt := 825) hx hb dL_law_804 (by decide) (fun c175 => ?_) (fun c175 => ?_)
                              · have hf := (if_pos c175).symm.trans hf
                                exact hj825_178 () H _ _ hf hI (lv_sub hl [1, 2, 3, 4, 5, 6, 7, 8, 9, 10, 11, 12, 13, 14, 15, 16, 17, 18, 19, 0] rfl)
                              · have hf := (if_neg c175).symm.trans hf
                                refine lv_iload hx hb dL_law_807 (lv_at hl 10 rfl) ?_
                                refine lv_bipush (v := 37) hx hb dL_law_809 (by decide) ?_
                                refine lv_icmp_le (tgt := 825) hx hb dL_law_811 (by decide) (fun c176 => ?_) (fun c176 => ?_)
                                · have hf := (if_pos c176).symm.trans hf
                                  exact hj825_178 () H _ _ hf hI (lv_sub hl [1, 2, 3, 4, 5, 6, 7, 8, 9, 10, 11, 12, 13, 14, 15, 16, 17, 18, 19, 0] rfl)
                                · have hf := (if_neg c176).symm.trans hf
                                  refine lv_iload hx hb dL_law_814 (lv_at hl 10 rfl) ?_
                                  refine lv_bipush (v := 46) hx hb dL_law_816 (by decide) ?_
                                  refine lv_icmp_ge (tgt := 825) hx hb dL_law_818 (by decide) (fun c177 => ?_) (fun c177 => ?_)
                                  · have hf := (if_pos c177).symm.trans hf
                                    exact hj825_178 () H _ _ hf hI (lv_sub hl [1, 2, 3, 4, 5, 6, 7, 8, 9, 10, 11, 12, 13, 14, 15, 16, 17, 18, 19, 0] rfl)
                                  · have hf := (if_neg c177).symm.trans hf
                                    refine lv_iconst (v := 1) hx hb dL_law_821 (by decide) ?_
                                    refine lv_goto (tgt := 826) hx hb dL_law_822 (by decide) ?_
                                    exact hj826_180 (1 : Int32) H _ _ hf hI (lv_sub hl [1, 2, 3, 4, 5, 6, 7, 8, 9, 10, 11, 12, 13, 14, 15, 16, 17, 18, 19, 0] rfl)
                            obtain ⟨k794_171, ek794_171, hf⟩ := mlet_e hf
                            have hj794_171 : ∀ (_u : Unit) (H : Heap) (locs : List Loc) (ls : Array Slot), k794_171 _u = some (1 : Int32) → rI w s H locs so cL (M44, M7.2) → lv_has ls 33 [(0, .ref xa), (1, .ref (w.1 12 16)), (2, .ref so), (3, .int x3), (4, .int x4), (5, .int x53), (6, .int x6), (7, .long r9), (9, .int r10), (10, .int x16), (14, .int r26), (20, .int x33), (21, .int r34), (22, .int r36), (23, .int r37), (24, .int r39), (25, .int r40), (28, .int r43), (29, .int x46)] → W p l e R s m args below meth c H locs (kc31 + 194) (ks31 + 1324) Q (F0 m 794 ls [.int x160]) := by
                              intro _u H locs ls hf hI hl
                              rw [ek794_171] at hf
                              try dsimp only at hf
                              refine lv_iconst (v := 1) hx hb dL_law_794 (by decide) ?_
                              refine lv_goto (tgt := 799) hx hb dL_law_795 (by decide) ?_
                              exact hj799_173 (1 : Int32) H _ _ hf hI (lv_sub hl [0, 1, 2, 3, 4, 5, 6, 7, 8, 9, 10, 11, 12, 13, 14, 15, 16, 17, 18] rfl)
                            refine lv_if_eq (tgt := 794) hx hb dL_law_750 (by decide) (fun c161 => ?_) (fun c161 => ?_)
                            · have hf := (if_pos c161).symm.trans hf
                              refine W.widen (k := (kc31 + 194)) (n := (ks31 + 1324)) (by omega) (by omega) ?_
                              exact hj794_171 () H _ _ hf hI (lv_sub hl [1, 2, 3, 4, 5, 6, 7, 8, 9, 10, 12, 14, 15, 16, 17, 18, 19, 20, 21] rfl)
                            · have hf := (if_neg c161).symm.trans hf
                              refine lv_iload hx hb dL_law_753 (lv_at hl 10 rfl) ?_
                              refine lv_bipush (v := 25) hx hb dL_law_755 (by decide) ?_
                              refine lv_icmp_ne (tgt := 794) hx hb dL_law_757 (by decide) (fun c162 => ?_) (fun c162 => ?_)
                              · have hf := (if_neg c162).symm.trans hf
                                refine W.widen (k := (kc31 + 194)) (n := (ks31 + 1324)) (by omega) (by omega) ?_
                                exact hj794_171 () H _ _ hf hI (lv_sub hl [1, 2, 3, 4, 5, 6, 7, 8, 9, 10, 12, 14, 15, 16, 17, 18, 19, 20, 21] rfl)
                              · have hf := (if_pos c162).symm.trans hf
                                refine lv_iload hx hb dL_law_760 (lv_at hl 13 rfl) ?_
                                obtain ⟨k798_170, ek798_170, hf⟩ := mlet_e hf
                                have hj798_170 : ∀ (_u : Unit) (H : Heap) (locs : List Loc) (ls : Array Slot), k798_170 _u = some (1 : Int32) → rI w s H locs so cL (M44, M7.2) → lv_has ls 33 [(0, .ref xa), (1, .ref (w.1 12 16)), (2, .ref so), (3, .int x3), (4, .int x4), (5, .int x53), (6, .int x6), (7, .long r9), (9, .int r10), (10, .int x16), (14, .int r26), (20, .int x33), (21, .int r34), (22, .int r36), (23, .int r37), (24, .int r39), (25, .int r40), (28, .int r43), (29, .int x46)] → W p l e R s m args below meth c H locs (kc31 + 194) (ks31 + 1324) Q (F0 m 798 ls [.int x160]) := by
                                  intro _u H locs ls hf hI hl
                                  rw [ek798_170] at hf
                                  try dsimp only at hf
                                  refine lv_iconst (v := 0) hx hb dL_law_798 (by decide) ?_
                                  exact hj799_173 (0 : Int32) H _ _ hf hI (lv_sub hl [0, 1, 2, 3, 4, 5, 6, 7, 8, 9, 10, 11, 12, 13, 14, 15, 16, 17, 18] rfl)
                                refine lv_if_eq (tgt := 798) hx hb dL_law_762 (by decide) (fun c163 => ?_) (fun c163 => ?_)
                                · have hf := (if_pos c163).symm.trans hf
                                  refine W.widen (k := (kc31 + 194)) (n := (ks31 + 1324)) (by omega) (by omega) ?_
                                  exact hj798_170 () H _ _ hf hI (lv_sub hl [1, 2, 3, 4, 5, 6, 7, 8, 9, 10, 12, 14, 15, 16, 17, 18, 19, 20, 21] rfl)
                                · have hf := (if_neg c163).symm.trans hf
                                  refine lv_iload hx hb dL_law_765 (lv_at hl 20 rfl) ?_
                                  refine lv_iload hx hb dL_law_767 (lv_at hl 11 rfl) ?_
                                  refine lv_icmp_ne (tgt := 798) hx hb dL_law_769 (by decide) (fun c164 => ?_) (fun c164 => ?_)
                                  · have hf := (if_neg c164).symm.trans hf
                                    refine W.widen (k := (kc31 + 194)) (n := (ks31 + 1324)) (by omega) (by omega) ?_
                                    exact hj798_170 () H _ _ hf hI (lv_sub hl [1, 2, 3, 4, 5, 6, 7, 8, 9, 10, 12, 14, 15, 16, 17, 18, 19, 20, 21] rfl)
                                  · have hf := (if_pos c164).symm.trans hf
                                    refine lv_aload_n hx hb dL_law_772 rfl (lv_at hl 2 rfl) ?_
                                    obtain ⟨r165, hc, hf⟩ := mbp_e hf
                                    refine r_callV (As := []) (rest := [.int x160]) hx hb hml hown hI (c_X11_presentedCount l w H.size M44 _ hc) (kb_X11_presentedCount hI.T (q339 hI.T) (Nat.le_trans (Nat.le_of_ble_eq_true rfl) hRf) (Nat.le_trans (Nat.le_of_ble_eq_true rfl) hRl)) (q340 hI.T) (q341 hI.T) (m_recv (g := 12) (i := 16) hI.1 (mokX (by decide) (by decide)) rfl rfl) rfl hl.1 (Nat.le_of_ble_eq_true rfl) dL_law_773 ⟨Nat.le_trans (m := 44719) (by omega) (Nat.le_trans (Nat.le_of_ble_eq_true rfl) hRc), Nat.le_trans (m := 277533) (by omega) (Nat.le_trans (Nat.le_of_ble_eq_true rfl) hRs)⟩ (fun H locs hI => ?_)
                                    refine lv_if_ne (tgt := 798) hx hb dL_law_776 (by decide) (fun c166 => ?_) (fun c166 => ?_)
                                    · have hf := (if_neg c166).symm.trans hf
                                      refine W.widen (k := (kc31 + 194)) (n := (ks31 + 1324)) (by omega) (by omega) ?_
                                      exact hj798_170 () H _ _ hf hI (lv_sub hl [1, 2, 3, 4, 5, 6, 7, 8, 9, 10, 12, 14, 15, 16, 17, 18, 19, 20, 21] rfl)
                                    · have hf := (if_pos c166).symm.trans hf
                                      refine lv_aload_n hx hb dL_law_779 rfl (lv_at hl 2 rfl) ?_
                                      refine lv_aload_n hx hb dL_law_780 rfl (lv_at hl 2 rfl) ?_
                                      obtain ⟨r167, hc, hf⟩ := mbp_e hf
                                      refine r_callV (As := []) (rest := [.ref (w.1 12 16), .int x160]) hx hb hml hown hI (c_X11_logCount l w H.size M44 _ hc) (kb_X11_logCount hI.T (q363 hI.T) (Nat.le_trans (Nat.le_of_ble_eq_true rfl) hRf) (Nat.le_trans (Nat.le_of_ble_eq_true rfl) hRl)) (q364 hI.T) (q365 hI.T) (m_recv (g := 12) (i := 16) hI.1 (mokX (by decide) (by decide)) rfl rfl) rfl hl.1 (Nat.le_of_ble_eq_true rfl) dL_law_781 ⟨Nat.le_trans (m := 44719) (by omega) (Nat.le_trans (Nat.le_of_ble_eq_true rfl) hRc), Nat.le_trans (m := 277533) (by omega) (Nat.le_trans (Nat.le_of_ble_eq_true rfl) hRs)⟩ (fun H locs hI => ?_)
                                      refine lv_iconst (v := 1) hx hb dL_law_784 (by decide) ?_
                                      refine lv_isub hx hb dL_law_785 ?_
                                      obtain ⟨r168, hc, hf⟩ := mbp_e hf
                                      refine r_callH (As := [.ref (w.1 12 16), .int (r167 - (1 : Int32))]) (rest := [.int x160]) hx hb hml hown hI (c_L_logKind l w hsf H.size (r167 - (1 : Int32)) M44 _ hc) (k_cw (n := 2) hI.T kc_L_logKind ki_L_logKind (q659 hI.T) (q660 hI.T) (by decide +kernel) ⟨rfl, rfl, (Nat.le_trans (Nat.le_of_ble_eq_true rfl) hRf), (Nat.le_trans (Nat.le_of_ble_eq_true rfl) hRl)⟩) rfl hl.1 (Nat.le_of_ble_eq_true rfl) dL_law_786 ⟨Nat.le_trans (m := 44719) (by omega) (Nat.le_trans (Nat.le_of_ble_eq_true rfl) hRc), Nat.le_trans (m := 277533) (by omega) (Nat.le_trans (Nat.le_of_ble_eq_true rfl) hRs)⟩ (fun H locs hI => ?_)
                                      refine lv_bipush (v := 99) hx hb dL_law_789 (by decide) ?_
                                      refine lv_icmp_ne (tgt := 798) hx hb dL_law_791 (by decide) (fun c169 => ?_) (fun c169 => ?_)
                                      · have hf := (if_neg c169).symm.trans hf
                                        exact hj798_170 () H _ _ hf hI (lv_sub hl [1, 2, 3, 4, 5, 6, 7, 8, 9, 10, 12, 14, 15, 16, 17, 18, 19, 20, 21] rfl)
                                      · have hf := (if_pos c169).symm.trans hf
                                        exact hj794_171 () H _ _ hf hI (lv_sub hl [1, 2, 3, 4, 5, 6, 7, 8, 9, 10, 12, 14, 15, 16, 17, 18, 19, 20, 21] rfl)
                          obtain ⟨k738_157, ek738_157, hf⟩ := mlet_e hf
                          have hj738_157 : ∀ (_u : Unit) (H : Heap) (locs : List Loc) (ls : Array Slot), k738_157 _u = some (1 : Int32) → rI w s H locs so cL (M44, M7.2) → lv_has ls 33 [(0, .ref xa), (1, .ref (w.1 12 16)), (2, .ref so), (3, .int x3), (4, .int x4), (5, .int x53), (6, .int x6), (7, .long r9), (9, .int r10), (10, .int x16), (13, .int r25), (14, .int r26), (16, .int r28), (20, .int x33), (21, .int r34), (22, .int r36), (23, .int r37), (24, .int r39), (25, .int r40), (28, .int r43), (29, .int x46)] → W p l e R s m args below meth c H locs (kc31 + 193) (ks31 + 1318) Q (F0 m 738 ls [.int x112]) := by
                            intro _u H locs ls hf hI hl
                            rw [ek738_157] at hf
                            try dsimp only at hf
                            refine lv_iconst (v := 1) hx hb dL_law_738 (by decide) ?_
                            refine lv_goto (tgt := 743) hx hb dL_law_739 (by decide) ?_
                            exact hj743_159 (1 : Int32) H _ _ hf hI (lv_sub hl [0, 1, 2, 3, 4, 5, 6, 7, 8, 9, 10, 11, 12, 13, 14, 15, 16, 17, 18, 19, 20] rfl)
                          refine lv_if_eq (tgt := 738) hx hb dL_law_552 (by decide) (fun c113 => ?_) (fun c113 => ?_)
                          · have hf := (if_pos c113).symm.trans hf
                            refine W.widen (k := (kc31 + 193)) (n := (ks31 + 1318)) (by omega) (by omega) ?_
                            exact hj738_157 () H _ _ hf hI (lv_sub hl [1, 2, 3, 4, 5, 6, 7, 8, 9, 10, 11, 12, 14, 17, 18, 19, 20, 21, 22, 24, 25] rfl)
                          · have hf := (if_neg c113).symm.trans hf
                            refine lv_iload hx hb dL_law_555 (lv_at hl 25 rfl) ?_
                            refine lv_if_eq (tgt := 738) hx hb dL_law_557 (by decide) (fun c114 => ?_) (fun c114 => ?_)
                            · have hf := (if_pos c114).symm.trans hf
                              refine W.widen (k := (kc31 + 193)) (n := (ks31 + 1318)) (by omega) (by omega) ?_
                              exact hj738_157 () H _ _ hf hI (lv_sub hl [1, 2, 3, 4, 5, 6, 7, 8, 9, 10, 11, 12, 14, 17, 18, 19, 20, 21, 22, 24, 25] rfl)
                            · have hf := (if_neg c114).symm.trans hf
                              refine lv_iload hx hb dL_law_560 (lv_at hl 24 rfl) ?_
                              refine lv_iconst (v := 1) hx hb dL_law_562 (by decide) ?_
                              obtain ⟨k571_117, ek571_117, hf⟩ := mlet_e hf
                              have hj571_117 : ∀ (x116 : Int32) (H : Heap) (locs : List Loc) (ls : Array Slot), k571_117 x116 = some (1 : Int32) → rI w s H locs so cL (M44, M7.2) → lv_has ls 33 [(0, .ref xa), (1, .ref (w.1 12 16)), (2, .ref so), (3, .int x3), (4, .int x4), (5, .int x53), (6, .int x6), (7, .long r9), (9, .int r10), (10, .int x16), (13, .int r25), (14, .int r26), (15, .int r27), (16, .int r28), (18, .int r30), (19, .int r31), (20, .int x33), (21, .int r34), (22, .int r36), (23, .int r37), (24, .int r39), (25, .int r40), (26, .int r41), (28, .int r43), (29, .int x46)] → W p l e R s m args below meth c H locs (kc31 + 190) (ks31 + 1300) Q (F0 m 571 ls [.int x116, .int x112]) := by
                                intro x116 H locs ls hf hI hl
                                rw [ek571_117] at hf
                                try dsimp only at hf
                                refine lv_iload hx hb dL_law_571 (lv_at hl 14 rfl) ?_
                                refine lv_iconst (v := 1) hx hb dL_law_573 (by decide) ?_
                                obtain ⟨k589_122, ek589_122, hf⟩ := mlet_e hf
                                have hj589_122 : ∀ (x121 : Int32) (H : Heap) (locs : List Loc) (ls : Array Slot), k589_122 x121 = some (1 : Int32) → rI w s H locs so cL (M44, M7.2) → lv_has ls 33 [(0, .ref xa), (1, .ref (w.1 12 16)), (2, .ref so), (3, .int x3), (4, .int x4), (5, .int x53), (6, .int x6), (7, .long r9), (9, .int r10), (10, .int x16), (13, .int r25), (14, .int r26), (15, .int r27), (16, .int r28), (20, .int x33), (21, .int r34), (22, .int r36), (23, .int r37), (24, .int r39), (25, .int r40), (26, .int r41), (28, .int r43), (29, .int x46)] → W p l e R s m args below meth c H locs (kc31 + 190) (ks31 + 1300) Q (F0 m 589 ls [.int x121, .int x116, .int x112]) := by
                                  intro x121 H locs ls hf hI hl
                                  rw [ek589_122] at hf
                                  try dsimp only at hf
                                  obtain ⟨k742_156, ek742_156, hf⟩ := mlet_e hf
                                  have hj742_156 : ∀ (_u : Unit) (H : Heap) (locs : List Loc) (ls : Array Slot), k742_156 _u = some (1 : Int32) → rI w s H locs so cL (M44, M7.2) → lv_has ls 33 [(0, .ref xa), (1, .ref (w.1 12 16)), (2, .ref so), (3, .int x3), (4, .int x4), (5, .int x53), (6, .int x6), (7, .long r9), (9, .int r10), (10, .int x16), (13, .int r25), (14, .int r26), (16, .int r28), (20, .int x33), (21, .int r34), (22, .int r36), (23, .int r37), (24, .int r39), (25, .int r40), (28, .int r43), (29, .int x46)] → W p l e R s m args below meth c H locs (kc31 + 193) (ks31 + 1318) Q (F0 m 742 ls [.int x112]) := by
                                    intro _u H locs ls hf hI hl
                                    rw [ek742_156] at hf
                                    try dsimp only at hf
                                    refine lv_iconst (v := 0) hx hb dL_law_742 (by decide) ?_
                                    exact hj743_159 (0 : Int32) H _ _ hf hI (lv_sub hl [0, 1, 2, 3, 4, 5, 6, 7, 8, 9, 10, 11, 12, 13, 14, 15, 16, 17, 18, 19, 20] rfl)
                                  refine lv_icmp_ne (tgt := 742) hx hb dL_law_589 (by decide) (fun c123 => ?_) (fun c123 => ?_)
                                  · have hf := (if_neg c123).symm.trans hf
                                    refine W.widen (k := (kc31 + 193)) (n := (ks31 + 1318)) (by omega) (by omega) ?_
                                    exact hj742_156 () H _ _ hf hI (lv_sub hl [0, 1, 2, 3, 4, 5, 6, 7, 8, 9, 10, 11, 13, 14, 15, 16, 17, 18, 19, 21, 22] rfl)
                                  · have hf := (if_pos c123).symm.trans hf
                                    refine lv_iload hx hb dL_law_592 (lv_at hl 21 rfl) ?_
                                    refine lv_iconst (v := 1) hx hb dL_law_594 (by decide) ?_
                                    obtain ⟨k708_149, ek708_149, hf⟩ := mlet_e hf
                                    have hj708_149 : ∀ (_u : Unit) (H : Heap) (locs : List Loc) (ls : Array Slot), k708_149 _u = some (1 : Int32) → rI w s H locs so cL (M44, M7.2) → lv_has ls 33 [(0, .ref xa), (1, .ref (w.1 12 16)), (2, .ref so), (3, .int x3), (4, .int x4), (5, .int x53), (6, .int x6), (7, .long r9), (9, .int r10), (10, .int x16), (13, .int r25), (14, .int r26), (16, .int r28), (20, .int x33), (21, .int r34), (22, .int r36), (23, .int r37), (24, .int r39), (25, .int r40), (28, .int r43), (29, .int x46)] → W p l e R s m args below meth c H locs (kc31 + 191) (ks31 + 1306) Q (F0 m 708 ls [.int x112]) := by
                                      intro _u H locs ls hf hI hl
                                      rw [ek708_149] at hf
                                      try dsimp only at hf
                                      refine lv_aload_n hx hb dL_law_708 rfl (lv_at hl 1 rfl) ?_
                                      refine lv_aload_n hx hb dL_law_709 rfl (lv_at hl 1 rfl) ?_
                                      obtain ⟨r150, hc, hf⟩ := mbp_e hf
                                      refine r_callV (As := []) (rest := [.ref (w.1 12 16), .int x112]) hx hb hml hown hI (c_X11_logCount l w H.size M44 _ hc) (kb_X11_logCount hI.T (q363 hI.T) (Nat.le_trans (Nat.le_of_ble_eq_true rfl) hRf) (Nat.le_trans (Nat.le_of_ble_eq_true rfl) hRl)) (q364 hI.T) (q365 hI.T) (m_recv (g := 12) (i := 16) hI.1 (mokX (by decide) (by decide)) rfl rfl) rfl hl.1 (Nat.le_of_ble_eq_true rfl) dL_law_710 ⟨Nat.le_trans (m := 44719) (by omega) (Nat.le_trans (Nat.le_of_ble_eq_true rfl) hRc), Nat.le_trans (m := 277533) (by omega) (Nat.le_trans (Nat.le_of_ble_eq_true rfl) hRs)⟩ (fun H locs hI => ?_)
                                      refine lv_iconst (v := 1) hx hb dL_law_713 (by decide) ?_
                                      refine lv_isub hx hb dL_law_714 ?_
                                      obtain ⟨r151, hc, hf⟩ := mbp_e hf
                                      refine r_callH (As := [.ref (w.1 12 16), .int (r150 - (1 : Int32))]) (rest := [.int x112]) hx hb hml hown hI (c_L_logDetail l w hsf H.size (r150 - (1 : Int32)) M44 _ hc) (k_cw (n := 2) hI.T kc_L_logDetail ki_L_logDetail (q666 hI.T) (q667 hI.T) (by decide +kernel) ⟨rfl, rfl, (Nat.le_trans (Nat.le_of_ble_eq_true rfl) hRf), (Nat.le_trans (Nat.le_of_ble_eq_true rfl) hRl)⟩) rfl hl.1 (Nat.le_of_ble_eq_true rfl) dL_law_715 ⟨Nat.le_trans (m := 44719) (by omega) (Nat.le_trans (Nat.le_of_ble_eq_true rfl) hRc), Nat.le_trans (m := 277533) (by omega) (Nat.le_trans (Nat.le_of_ble_eq_true rfl) hRs)⟩ (fun H locs hI => ?_)
                                      refine lv_iload hx hb dL_law_718 (lv_at hl 10 rfl) ?_
                                      refine lv_icmp_ne (tgt := 742) hx hb dL_law_720 (by decide) (fun c152 => ?_) (fun c152 => ?_)
                                      · have hf := (if_neg c152).symm.trans hf
                                        refine W.widen (k := (kc31 + 193)) (n := (ks31 + 1318)) (by omega) (by omega) ?_
                                        exact hj742_156 () H _ _ hf hI (lv_sub hl [0, 1, 2, 3, 4, 5, 6, 7, 8, 9, 10, 11, 12, 13, 14, 15, 16, 17, 18, 19, 20] rfl)
                                      · have hf := (if_pos c152).symm.trans hf
                                        refine lv_aload_n hx hb dL_law_723 rfl (lv_at hl 1 rfl) ?_
                                        refine lv_aload_n hx hb dL_law_724 rfl (lv_at hl 1 rfl) ?_
                                        obtain ⟨r153, hc, hf⟩ := mbp_e hf
                                        refine r_callV (As := []) (rest := [.ref (w.1 12 16), .int x112]) hx hb hml hown hI (c_X11_logCount l w H.size M44 _ hc) (kb_X11_logCount hI.T (q363 hI.T) (Nat.le_trans (Nat.le_of_ble_eq_true rfl) hRf) (Nat.le_trans (Nat.le_of_ble_eq_true rfl) hRl)) (q364 hI.T) (q365 hI.T) (m_recv (g := 12) (i := 16) hI.1 (mokX (by decide) (by decide)) rfl rfl) rfl hl.1 (Nat.le_of_ble_eq_true rfl) dL_law_725 ⟨Nat.le_trans (m := 44719) (by omega) (Nat.le_trans (Nat.le_of_ble_eq_true rfl) hRc), Nat.le_trans (m := 277533) (by omega) (Nat.le_trans (Nat.le_of_ble_eq_true rfl) hRs)⟩ (fun H locs hI => ?_)
                                        refine lv_iconst (v := 1) hx hb dL_law_728 (by decide) ?_
                                        refine lv_isub hx hb dL_law_729 ?_
                                        obtain ⟨r154, hc, hf⟩ := mbp_e hf
                                        refine r_callH (As := [.ref (w.1 12 16), .int (r153 - (1 : Int32))]) (rest := [.int x112]) hx hb hml hown hI (c_L_logHour l w hsf H.size (r153 - (1 : Int32)) M44 _ hc) (k_cw (n := 2) hI.T kc_L_logHour ki_L_logHour (q647 hI.T) (q648 hI.T) (by decide +kernel) ⟨rfl, rfl, (Nat.le_trans (Nat.le_of_ble_eq_true rfl) hRf), (Nat.le_trans (Nat.le_of_ble_eq_true rfl) hRl)⟩) rfl hl.1 (Nat.le_of_ble_eq_true rfl) dL_law_730 ⟨Nat.le_trans (m := 44719) (by omega) (Nat.le_trans (Nat.le_of_ble_eq_true rfl) hRc), Nat.le_trans (m := 277533) (by omega) (Nat.le_trans (Nat.le_of_ble_eq_true rfl) hRs)⟩ (fun H locs hI => ?_)
                                        refine lv_iload hx hb dL_law_733 (lv_at hl 18 rfl) ?_
                                        refine lv_icmp_ne (tgt := 742) hx hb dL_law_735 (by decide) (fun c155 => ?_) (fun c155 => ?_)
                                        · have hf := (if_neg c155).symm.trans hf
                                          exact hj742_156 () H _ _ hf hI (lv_sub hl [0, 1, 2, 3, 4, 5, 6, 7, 8, 9, 10, 11, 12, 13, 14, 15, 16, 17, 18, 19, 20] rfl)
                                        · have hf := (if_pos c155).symm.trans hf
                                          exact hj738_157 () H _ _ hf hI (lv_sub hl [0, 1, 2, 3, 4, 5, 6, 7, 8, 9, 10, 11, 12, 13, 14, 15, 16, 17, 18, 19, 20] rfl)
                                    refine lv_icmp_ne (tgt := 641) hx hb dL_law_595 (by decide) (fun c124 => ?_) (fun c124 => ?_)
                                    · have hf := (if_neg c124).symm.trans hf
                                      refine lv_aload_n hx hb dL_law_641 rfl (lv_at hl 1 rfl) ?_
                                      obtain ⟨r125, hc, hf⟩ := mbp_e hf
                                      refine r_callV (As := []) (rest := [.int x112]) hx hb hml hown hI (c_X11_isOpen l w H.size M44 _ hc) (kb_X11_isOpen hI.T (q343 hI.T) (Nat.le_trans (Nat.le_of_ble_eq_true rfl) hRf) (Nat.le_trans (Nat.le_of_ble_eq_true rfl) hRl)) (q344 hI.T) (q345 hI.T) (m_recv (g := 12) (i := 16) hI.1 (mokX (by decide) (by decide)) rfl rfl) rfl hl.1 (Nat.le_of_ble_eq_true rfl) dL_law_642 ⟨Nat.le_trans (m := 44719) (by omega) (Nat.le_trans (Nat.le_of_ble_eq_true rfl) hRc), Nat.le_trans (m := 277533) (by omega) (Nat.le_trans (Nat.le_of_ble_eq_true rfl) hRs)⟩ (fun H locs hI => ?_)
                                      refine lv_if_ne (tgt := 742) hx hb dL_law_645 (by decide) (fun c126 => ?_) (fun c126 => ?_)
                                      · have hf := (if_neg c126).symm.trans hf
                                        refine W.widen (k := (kc31 + 193)) (n := (ks31 + 1318)) (by omega) (by omega) ?_
                                        exact hj742_156 () H _ _ hf hI (lv_sub hl [0, 1, 2, 3, 4, 5, 6, 7, 8, 9, 10, 11, 13, 14, 15, 16, 17, 18, 19, 21, 22] rfl)
                                      · have hf := (if_pos c126).symm.trans hf
                                        refine lv_aload_n hx hb dL_law_648 rfl (lv_at hl 1 rfl) ?_
                                        obtain ⟨r127, hc, hf⟩ := mbp_e hf
                                        refine r_callV (As := []) (rest := [.int x112]) hx hb hml hown hI (c_X11_openingCount l w H.size M44 _ hc) (kb_X11_openingCount hI.T (q359 hI.T) (Nat.le_trans (Nat.le_of_ble_eq_true rfl) hRf) (Nat.le_trans (Nat.le_of_ble_eq_true rfl) hRl)) (q360 hI.T) (q361 hI.T) (m_recv (g := 12) (i := 16) hI.1 (mokX (by decide) (by decide)) rfl rfl) rfl hl.1 (Nat.le_of_ble_eq_true rfl) dL_law_649 ⟨Nat.le_trans (m := 44719) (by omega) (Nat.le_trans (Nat.le_of_ble_eq_true rfl) hRc), Nat.le_trans (m := 277533) (by omega) (Nat.le_trans (Nat.le_of_ble_eq_true rfl) hRs)⟩ (fun H locs hI => ?_)
                                        refine lv_iload hx hb dL_law_652 (lv_at hl 20 rfl) ?_
                                        refine lv_icmp_ne (tgt := 742) hx hb dL_law_654 (by decide) (fun c128 => ?_) (fun c128 => ?_)
                                        · have hf := (if_neg c128).symm.trans hf
                                          refine W.widen (k := (kc31 + 193)) (n := (ks31 + 1318)) (by omega) (by omega) ?_
                                          exact hj742_156 () H _ _ hf hI (lv_sub hl [0, 1, 2, 3, 4, 5, 6, 7, 8, 9, 10, 11, 13, 14, 15, 16, 17, 18, 19, 21, 22] rfl)
                                        · have hf := (if_pos c128).symm.trans hf
                                          refine lv_iload hx hb dL_law_657 (lv_at hl 12 rfl) ?_
                                          refine lv_iconst (v := 2) hx hb dL_law_659 (by decide) ?_
                                          obtain ⟨k693_136, ek693_136, hf⟩ := mlet_e hf
                                          have hj693_136 : ∀ (_u : Unit) (H : Heap) (locs : List Loc) (ls : Array Slot), k693_136 _u = some (1 : Int32) → rI w s H locs so cL (M44, M7.2) → lv_has ls 33 [(0, .ref xa), (1, .ref (w.1 12 16)), (2, .ref so), (3, .int x3), (4, .int x4), (5, .int x53), (6, .int x6), (7, .long r9), (9, .int r10), (10, .int x16), (13, .int r25), (14, .int r26), (16, .int r28), (20, .int x33), (21, .int r34), (22, .int r36), (23, .int r37), (24, .int r39), (25, .int r40), (28, .int r43), (29, .int x46)] → W p l e R s m args below meth c H locs (kc31 + 190) (ks31 + 1300) Q (F0 m 693 ls [.int x112]) := by
                                            intro _u H locs ls hf hI hl
                                            rw [ek693_136] at hf
                                            try dsimp only at hf
                                            refine lv_aload_n hx hb dL_law_693 rfl (lv_at hl 1 rfl) ?_
                                            refine lv_aload_n hx hb dL_law_694 rfl (lv_at hl 1 rfl) ?_
                                            obtain ⟨r137, hc, hf⟩ := mbp_e hf
                                            refine r_callV (As := []) (rest := [.ref (w.1 12 16), .int x112]) hx hb hml hown hI (c_X11_logCount l w H.size M44 _ hc) (kb_X11_logCount hI.T (q363 hI.T) (Nat.le_trans (Nat.le_of_ble_eq_true rfl) hRf) (Nat.le_trans (Nat.le_of_ble_eq_true rfl) hRl)) (q364 hI.T) (q365 hI.T) (m_recv (g := 12) (i := 16) hI.1 (mokX (by decide) (by decide)) rfl rfl) rfl hl.1 (Nat.le_of_ble_eq_true rfl) dL_law_695 ⟨Nat.le_trans (m := 44719) (by omega) (Nat.le_trans (Nat.le_of_ble_eq_true rfl) hRc), Nat.le_trans (m := 277533) (by omega) (Nat.le_trans (Nat.le_of_ble_eq_true rfl) hRs)⟩ (fun H locs hI => ?_)
                                            refine lv_iconst (v := 1) hx hb dL_law_698 (by decide) ?_
                                            refine lv_isub hx hb dL_law_699 ?_
                                            obtain ⟨r138, hc, hf⟩ := mbp_e hf
                                            refine r_callH (As := [.ref (w.1 12 16), .int (r137 - (1 : Int32))]) (rest := [.int x112]) hx hb hml hown hI (c_L_logKind l w hsf H.size (r137 - (1 : Int32)) M44 _ hc) (k_cw (n := 2) hI.T kc_L_logKind ki_L_logKind (q659 hI.T) (q660 hI.T) (by decide +kernel) ⟨rfl, rfl, (Nat.le_trans (Nat.le_of_ble_eq_true rfl) hRf), (Nat.le_trans (Nat.le_of_ble_eq_true rfl) hRl)⟩) rfl hl.1 (Nat.le_of_ble_eq_true rfl) dL_law_700 ⟨Nat.le_trans (m := 44719) (by omega) (Nat.le_trans (Nat.le_of_ble_eq_true rfl) hRc), Nat.le_trans (m := 277533) (by omega) (Nat.le_trans (Nat.le_of_ble_eq_true rfl) hRs)⟩ (fun H locs hI => ?_)
                                            refine lv_bipush (v := 102) hx hb dL_law_703 (by decide) ?_
                                            refine lv_icmp_ne (tgt := 742) hx hb dL_law_705 (by decide) (fun c139 => ?_) (fun c139 => ?_)
                                            · have hf := (if_neg c139).symm.trans hf
                                              refine W.widen (k := (kc31 + 193)) (n := (ks31 + 1318)) (by omega) (by omega) ?_
                                              exact hj742_156 () H _ _ hf hI (lv_sub hl [0, 1, 2, 3, 4, 5, 6, 7, 8, 9, 10, 11, 12, 13, 14, 15, 16, 17, 18, 19, 20] rfl)
                                            · have hf := (if_pos c139).symm.trans hf
                                              exact hj708_149 () H _ _ hf hI (lv_sub hl [0, 1, 2, 3, 4, 5, 6, 7, 8, 9, 10, 11, 12, 13, 14, 15, 16, 17, 18, 19, 20] rfl)
                                          refine lv_icmp_ne (tgt := 682) hx hb dL_law_660 (by decide) (fun c129 => ?_) (fun c129 => ?_)
                                          · have hf := (if_neg c129).symm.trans hf
                                            refine lv_aload_n hx hb dL_law_682 rfl (lv_at hl 1 rfl) ?_
                                            obtain ⟨r130, hc, hf⟩ := mbp_e hf
                                            refine r_callV (As := []) (rest := [.int x112]) hx hb hml hown hI (c_X11_failedAttempts l w H.size M44 _ hc) (kb_X11_failedAttempts hI.T (q351 hI.T) (Nat.le_trans (Nat.le_of_ble_eq_true rfl) hRf) (Nat.le_trans (Nat.le_of_ble_eq_true rfl) hRl)) (q352 hI.T) (q353 hI.T) (m_recv (g := 12) (i := 16) hI.1 (mokX (by decide) (by decide)) rfl rfl) rfl hl.1 (Nat.le_of_ble_eq_true rfl) dL_law_683 ⟨Nat.le_trans (m := 44719) (by omega) (Nat.le_trans (Nat.le_of_ble_eq_true rfl) hRc), Nat.le_trans (m := 277533) (by omega) (Nat.le_trans (Nat.le_of_ble_eq_true rfl) hRs)⟩ (fun H locs hI => ?_)
                                            refine lv_iload hx hb dL_law_686 (lv_at hl 12 rfl) ?_
                                            refine lv_iconst (v := 1) hx hb dL_law_688 (by decide) ?_
                                            refine lv_iadd hx hb dL_law_689 ?_
                                            refine lv_icmp_ne (tgt := 742) hx hb dL_law_690 (by decide) (fun c131 => ?_) (fun c131 => ?_)
                                            · have hf := (if_neg c131).symm.trans hf
                                              refine W.widen (k := (kc31 + 193)) (n := (ks31 + 1318)) (by omega) (by omega) ?_
                                              exact hj742_156 () H _ _ hf hI (lv_sub hl [0, 1, 2, 3, 4, 5, 6, 7, 8, 9, 10, 11, 13, 14, 15, 16, 17, 18, 19, 21, 22] rfl)
                                            · have hf := (if_pos c131).symm.trans hf
                                              exact hj693_136 () H _ _ hf hI (lv_sub hl [0, 1, 2, 3, 4, 5, 6, 7, 8, 9, 10, 11, 13, 14, 15, 16, 17, 18, 19, 21, 22] rfl)
                                          · have hf := (if_pos c129).symm.trans hf
                                            refine lv_aload_n hx hb dL_law_663 rfl (lv_at hl 1 rfl) ?_
                                            obtain ⟨r132, hc, hf⟩ := mbp_e hf
                                            refine r_callV (As := []) (rest := [.int x112]) hx hb hml hown hI (c_X11_lockedHours l w H.size M44 _ hc) (kb_X11_lockedHours hI.T (q347 hI.T) (Nat.le_trans (Nat.le_of_ble_eq_true rfl) hRf) (Nat.le_trans (Nat.le_of_ble_eq_true rfl) hRl)) (q348 hI.T) (q349 hI.T) (m_recv (g := 12) (i := 16) hI.1 (mokX (by decide) (by decide)) rfl rfl) rfl hl.1 (Nat.le_of_ble_eq_true rfl) dL_law_664 ⟨Nat.le_trans (m := 44719) (by omega) (Nat.le_trans (Nat.le_of_ble_eq_true rfl) hRc), Nat.le_trans (m := 277533) (by omega) (Nat.le_trans (Nat.le_of_ble_eq_true rfl) hRs)⟩ (fun H locs hI => ?_)
                                            refine lv_bipush (v := 6) hx hb dL_law_667 (by decide) ?_
                                            refine lv_icmp_ne (tgt := 742) hx hb dL_law_669 (by decide) (fun c133 => ?_) (fun c133 => ?_)
                                            · have hf := (if_neg c133).symm.trans hf
                                              refine W.widen (k := (kc31 + 193)) (n := (ks31 + 1318)) (by omega) (by omega) ?_
                                              exact hj742_156 () H _ _ hf hI (lv_sub hl [0, 1, 2, 3, 4, 5, 6, 7, 8, 9, 10, 11, 13, 14, 15, 16, 17, 18, 19, 21, 22] rfl)
                                            · have hf := (if_pos c133).symm.trans hf
                                              refine lv_aload_n hx hb dL_law_672 rfl (lv_at hl 1 rfl) ?_
                                              obtain ⟨r134, hc, hf⟩ := mbp_e hf
                                              refine r_callV (As := []) (rest := [.int x112]) hx hb hml hown hI (c_X11_failedAttempts l w H.size M44 _ hc) (kb_X11_failedAttempts hI.T (q351 hI.T) (Nat.le_trans (Nat.le_of_ble_eq_true rfl) hRf) (Nat.le_trans (Nat.le_of_ble_eq_true rfl) hRl)) (q352 hI.T) (q353 hI.T) (m_recv (g := 12) (i := 16) hI.1 (mokX (by decide) (by decide)) rfl rfl) rfl hl.1 (Nat.le_of_ble_eq_true rfl) dL_law_673 ⟨Nat.le_trans (m := 44719) (by omega) (Nat.le_trans (Nat.le_of_ble_eq_true rfl) hRc), Nat.le_trans (m := 277533) (by omega) (Nat.le_trans (Nat.le_of_ble_eq_true rfl) hRs)⟩ (fun H locs hI => ?_)
                                              refine lv_if_ne (tgt := 742) hx hb dL_law_676 (by decide) (fun c135 => ?_) (fun c135 => ?_)
                                              · have hf := (if_neg c135).symm.trans hf
                                                refine W.widen (k := (kc31 + 193)) (n := (ks31 + 1318)) (by omega) (by omega) ?_
                                                exact hj742_156 () H _ _ hf hI (lv_sub hl [0, 1, 2, 3, 4, 5, 6, 7, 8, 9, 10, 11, 13, 14, 15, 16, 17, 18, 19, 21, 22] rfl)
                                              · have hf := (if_pos c135).symm.trans hf
                                                refine lv_goto (tgt := 693) hx hb dL_law_679 (by decide) ?_
                                                exact hj693_136 () H _ _ hf hI (lv_sub hl [0, 1, 2, 3, 4, 5, 6, 7, 8, 9, 10, 11, 13, 14, 15, 16, 17, 18, 19, 21, 22] rfl)
                                    · have hf := (if_pos c124).symm.trans hf
                                      refine lv_aload_n hx hb dL_law_598 rfl (lv_at hl 1 rfl) ?_
                                      obtain ⟨r140, hc, hf⟩ := mbp_e hf
                                      refine r_callV (As := []) (rest := [.int x112]) hx hb hml hown hI (c_X11_isOpen l w H.size M44 _ hc) (kb_X11_isOpen hI.T (q343 hI.T) (Nat.le_trans (Nat.le_of_ble_eq_true rfl) hRf) (Nat.le_trans (Nat.le_of_ble_eq_true rfl) hRl)) (q344 hI.T) (q345 hI.T) (m_recv (g := 12) (i := 16) hI.1 (mokX (by decide) (by decide)) rfl rfl) rfl hl.1 (Nat.le_of_ble_eq_true rfl) dL_law_599 ⟨Nat.le_trans (m := 44719) (by omega) (Nat.le_trans (Nat.le_of_ble_eq_true rfl) hRc), Nat.le_trans (m := 277533) (by omega) (Nat.le_trans (Nat.le_of_ble_eq_true rfl) hRs)⟩ (fun H locs hI => ?_)
                                      refine lv_if_eq (tgt := 742) hx hb dL_law_602 (by decide) (fun c141 => ?_) (fun c141 => ?_)
                                      · have hf := (if_pos c141).symm.trans hf
                                        refine W.widen (k := (kc31 + 193)) (n := (ks31 + 1318)) (by omega) (by omega) ?_
                                        exact hj742_156 () H _ _ hf hI (lv_sub hl [0, 1, 2, 3, 4, 5, 6, 7, 8, 9, 10, 11, 13, 14, 15, 16, 17, 18, 19, 21, 22] rfl)
                                      · have hf := (if_neg c141).symm.trans hf
                                        refine lv_aload_n hx hb dL_law_605 rfl (lv_at hl 1 rfl) ?_
                                        obtain ⟨r142, hc, hf⟩ := mbp_e hf
                                        refine r_callV (As := []) (rest := [.int x112]) hx hb hml hown hI (c_X11_openingCount l w H.size M44 _ hc) (kb_X11_openingCount hI.T (q359 hI.T) (Nat.le_trans (Nat.le_of_ble_eq_true rfl) hRf) (Nat.le_trans (Nat.le_of_ble_eq_true rfl) hRl)) (q360 hI.T) (q361 hI.T) (m_recv (g := 12) (i := 16) hI.1 (mokX (by decide) (by decide)) rfl rfl) rfl hl.1 (Nat.le_of_ble_eq_true rfl) dL_law_606 ⟨Nat.le_trans (m := 44719) (by omega) (Nat.le_trans (Nat.le_of_ble_eq_true rfl) hRc), Nat.le_trans (m := 277533) (by omega) (Nat.le_trans (Nat.le_of_ble_eq_true rfl) hRs)⟩ (fun H locs hI => ?_)
                                        refine lv_iload hx hb dL_law_609 (lv_at hl 20 rfl) ?_
                                        refine lv_iconst (v := 1) hx hb dL_law_611 (by decide) ?_
                                        refine lv_iadd hx hb dL_law_612 ?_
                                        refine lv_icmp_ne (tgt := 742) hx hb dL_law_613 (by decide) (fun c143 => ?_) (fun c143 => ?_)
                                        · have hf := (if_neg c143).symm.trans hf
                                          refine W.widen (k := (kc31 + 193)) (n := (ks31 + 1318)) (by omega) (by omega) ?_
                                          exact hj742_156 () H _ _ hf hI (lv_sub hl [0, 1, 2, 3, 4, 5, 6, 7, 8, 9, 10, 11, 13, 14, 15, 16, 17, 18, 19, 21, 22] rfl)
                                        · have hf := (if_pos c143).symm.trans hf
                                          refine lv_aload_n hx hb dL_law_616 rfl (lv_at hl 1 rfl) ?_
                                          obtain ⟨r144, hc, hf⟩ := mbp_e hf
                                          refine r_callV (As := []) (rest := [.int x112]) hx hb hml hown hI (c_X11_failedAttempts l w H.size M44 _ hc) (kb_X11_failedAttempts hI.T (q351 hI.T) (Nat.le_trans (Nat.le_of_ble_eq_true rfl) hRf) (Nat.le_trans (Nat.le_of_ble_eq_true rfl) hRl)) (q352 hI.T) (q353 hI.T) (m_recv (g := 12) (i := 16) hI.1 (mokX (by decide) (by decide)) rfl rfl) rfl hl.1 (Nat.le_of_ble_eq_true rfl) dL_law_617 ⟨Nat.le_trans (m := 44719) (by omega) (Nat.le_trans (Nat.le_of_ble_eq_true rfl) hRc), Nat.le_trans (m := 277533) (by omega) (Nat.le_trans (Nat.le_of_ble_eq_true rfl) hRs)⟩ (fun H locs hI => ?_)
                                          refine lv_if_ne (tgt := 742) hx hb dL_law_620 (by decide) (fun c145 => ?_) (fun c145 => ?_)
                                          · have hf := (if_neg c145).symm.trans hf
                                            refine W.widen (k := (kc31 + 193)) (n := (ks31 + 1318)) (by omega) (by omega) ?_
                                            exact hj742_156 () H _ _ hf hI (lv_sub hl [0, 1, 2, 3, 4, 5, 6, 7, 8, 9, 10, 11, 13, 14, 15, 16, 17, 18, 19, 21, 22] rfl)
                                          · have hf := (if_pos c145).symm.trans hf
                                            refine lv_aload_n hx hb dL_law_623 rfl (lv_at hl 1 rfl) ?_
                                            refine lv_aload_n hx hb dL_law_624 rfl (lv_at hl 1 rfl) ?_
                                            obtain ⟨r146, hc, hf⟩ := mbp_e hf
                                            refine r_callV (As := []) (rest := [.ref (w.1 12 16), .int x112]) hx hb hml hown hI (c_X11_logCount l w H.size M44 _ hc) (kb_X11_logCount hI.T (q363 hI.T) (Nat.le_trans (Nat.le_of_ble_eq_true rfl) hRf) (Nat.le_trans (Nat.le_of_ble_eq_true rfl) hRl)) (q364 hI.T) (q365 hI.T) (m_recv (g := 12) (i := 16) hI.1 (mokX (by decide) (by decide)) rfl rfl) rfl hl.1 (Nat.le_of_ble_eq_true rfl) dL_law_625 ⟨Nat.le_trans (m := 44719) (by omega) (Nat.le_trans (Nat.le_of_ble_eq_true rfl) hRc), Nat.le_trans (m := 277533) (by omega) (Nat.le_trans (Nat.le_of_ble_eq_true rfl) hRs)⟩ (fun H locs hI => ?_)
                                            refine lv_iconst (v := 1) hx hb dL_law_628 (by decide) ?_
                                            refine lv_isub hx hb dL_law_629 ?_
                                            obtain ⟨r147, hc, hf⟩ := mbp_e hf
                                            refine r_callH (As := [.ref (w.1 12 16), .int (r146 - (1 : Int32))]) (rest := [.int x112]) hx hb hml hown hI (c_L_logKind l w hsf H.size (r146 - (1 : Int32)) M44 _ hc) (k_cw (n := 2) hI.T kc_L_logKind ki_L_logKind (q659 hI.T) (q660 hI.T) (by decide +kernel) ⟨rfl, rfl, (Nat.le_trans (Nat.le_of_ble_eq_true rfl) hRf), (Nat.le_trans (Nat.le_of_ble_eq_true rfl) hRl)⟩) rfl hl.1 (Nat.le_of_ble_eq_true rfl) dL_law_630 ⟨Nat.le_trans (m := 44719) (by omega) (Nat.le_trans (Nat.le_of_ble_eq_true rfl) hRc), Nat.le_trans (m := 277533) (by omega) (Nat.le_trans (Nat.le_of_ble_eq_true rfl) hRs)⟩ (fun H locs hI => ?_)
                                            refine lv_bipush (v := 111) hx hb dL_law_633 (by decide) ?_
                                            refine lv_icmp_ne (tgt := 742) hx hb dL_law_635 (by decide) (fun c148 => ?_) (fun c148 => ?_)
                                            · have hf := (if_neg c148).symm.trans hf
                                              refine W.widen (k := (kc31 + 193)) (n := (ks31 + 1318)) (by omega) (by omega) ?_
                                              exact hj742_156 () H _ _ hf hI (lv_sub hl [0, 1, 2, 3, 4, 5, 6, 7, 8, 9, 10, 11, 13, 14, 15, 16, 17, 18, 19, 21, 22] rfl)
                                            · have hf := (if_pos c148).symm.trans hf
                                              refine lv_goto (tgt := 708) hx hb dL_law_638 (by decide) ?_
                                              exact hj708_149 () H _ _ hf hI (lv_sub hl [0, 1, 2, 3, 4, 5, 6, 7, 8, 9, 10, 11, 13, 14, 15, 16, 17, 18, 19, 21, 22] rfl)
                                obtain ⟨k588_120, ek588_120, hf⟩ := mlet_e hf
                                have hj588_120 : ∀ (_u : Unit) (H : Heap) (locs : List Loc) (ls : Array Slot), k588_120 _u = some (1 : Int32) → rI w s H locs so cL (M44, M7.2) → lv_has ls 33 [(0, .ref xa), (1, .ref (w.1 12 16)), (2, .ref so), (3, .int x3), (4, .int x4), (5, .int x53), (6, .int x6), (7, .long r9), (9, .int r10), (10, .int x16), (13, .int r25), (14, .int r26), (15, .int r27), (16, .int r28), (20, .int x33), (21, .int r34), (22, .int r36), (23, .int r37), (24, .int r39), (25, .int r40), (26, .int r41), (28, .int r43), (29, .int x46)] → W p l e R s m args below meth c H locs (kc31 + 190) (ks31 + 1300) Q (F0 m 588 ls [.int x116, .int x112]) := by
                                  intro _u H locs ls hf hI hl
                                  rw [ek588_120] at hf
                                  try dsimp only at hf
                                  refine lv_iconst (v := 0) hx hb dL_law_588 (by decide) ?_
                                  exact hj589_122 (0 : Int32) H _ _ hf hI (lv_sub hl [0, 1, 2, 3, 4, 5, 6, 7, 8, 9, 10, 11, 12, 13, 14, 15, 16, 17, 18, 19, 20, 21, 22] rfl)
                                refine lv_icmp_ne (tgt := 588) hx hb dL_law_574 (by decide) (fun c118 => ?_) (fun c118 => ?_)
                                · have hf := (if_neg c118).symm.trans hf
                                  exact hj588_120 () H _ _ hf hI (lv_sub hl [0, 1, 2, 3, 4, 5, 6, 7, 8, 9, 10, 11, 12, 13, 16, 17, 18, 19, 20, 21, 22, 23, 24] rfl)
                                · have hf := (if_pos c118).symm.trans hf
                                  refine lv_iload hx hb dL_law_577 (lv_at hl 15 rfl) ?_
                                  refine lv_iload hx hb dL_law_579 (lv_at hl 5 rfl) ?_
                                  refine lv_icmp_ne (tgt := 588) hx hb dL_law_581 (by decide) (fun c119 => ?_) (fun c119 => ?_)
                                  · have hf := (if_neg c119).symm.trans hf
                                    exact hj588_120 () H _ _ hf hI (lv_sub hl [0, 1, 2, 3, 4, 5, 6, 7, 8, 9, 10, 11, 12, 13, 16, 17, 18, 19, 20, 21, 22, 23, 24] rfl)
                                  · have hf := (if_pos c119).symm.trans hf
                                    refine lv_iconst (v := 1) hx hb dL_law_584 (by decide) ?_
                                    refine lv_goto (tgt := 589) hx hb dL_law_585 (by decide) ?_
                                    exact hj589_122 (1 : Int32) H _ _ hf hI (lv_sub hl [0, 1, 2, 3, 4, 5, 6, 7, 8, 9, 10, 11, 12, 13, 16, 17, 18, 19, 20, 21, 22, 23, 24] rfl)
                              refine lv_icmp_ne (tgt := 570) hx hb dL_law_563 (by decide) (fun c115 => ?_) (fun c115 => ?_)
                              · have hf := (if_neg c115).symm.trans hf
                                refine lv_iconst (v := 0) hx hb dL_law_570 (by decide) ?_
                                exact hj571_117 (0 : Int32) H _ _ hf hI (lv_sub hl [1, 2, 3, 4, 5, 6, 7, 8, 9, 10, 11, 12, 13, 14, 15, 16, 17, 18, 19, 20, 21, 22, 23, 24, 25] rfl)
                              · have hf := (if_pos c115).symm.trans hf
                                refine lv_iconst (v := 1) hx hb dL_law_566 (by decide) ?_
                                refine lv_goto (tgt := 571) hx hb dL_law_567 (by decide) ?_
                                exact hj571_117 (1 : Int32) H _ _ hf hI (lv_sub hl [1, 2, 3, 4, 5, 6, 7, 8, 9, 10, 11, 12, 13, 14, 15, 16, 17, 18, 19, 20, 21, 22, 23, 24, 25] rfl)
                        obtain ⟨k540_109, ek540_109, hf⟩ := mlet_e hf
                        have hj540_109 : ∀ (_u : Unit) (H : Heap) (locs : List Loc) (ls : Array Slot), k540_109 _u = some (1 : Int32) → rI w s H locs so cL (M44, M7.2) → lv_has ls 33 [(0, .ref xa), (1, .ref (w.1 12 16)), (2, .ref so), (3, .int x3), (4, .int x4), (5, .int x53), (6, .int x6), (7, .long r9), (9, .int r10), (10, .int x16), (13, .int r25), (14, .int r26), (15, .int r27), (16, .int r28), (18, .int r30), (19, .int r31), (20, .int x33), (21, .int r34), (22, .int r36), (23, .int r37), (24, .int r39), (25, .int r40), (26, .int r41), (28, .int r43), (29, .int x46), (31, .int x97)] → W p l e R s m args below meth c H locs (kc31 + 190) (ks31 + 1300) Q (F0 m 540 ls [.int x93]) := by
                          intro _u H locs ls hf hI hl
                          rw [ek540_109] at hf
                          try dsimp only at hf
                          refine lv_iconst (v := 1) hx hb dL_law_540 (by decide) ?_
                          refine lv_goto (tgt := 545) hx hb dL_law_541 (by decide) ?_
                          exact hj545_111 (1 : Int32) H _ _ hf hI (lv_sub hl [0, 1, 2, 3, 4, 5, 6, 7, 8, 9, 10, 11, 12, 13, 14, 15, 16, 17, 18, 19, 20, 21, 22, 23, 24, 25] rfl)
                        refine lv_if_eq (tgt := 540) hx hb dL_law_500 (by decide) (fun c99 => ?_) (fun c99 => ?_)
                        · have hf := (if_pos c99).symm.trans hf
                          exact hj540_109 () H _ _ hf hI (lv_sub hl [1, 2, 3, 4, 5, 6, 7, 8, 9, 10, 11, 12, 13, 14, 16, 17, 18, 19, 20, 21, 22, 23, 24, 26, 27, 0] rfl)
                        · have hf := (if_neg c99).symm.trans hf
                          refine lv_iload hx hb dL_law_503 (lv_at hl 27 rfl) ?_
                          refine lv_iload hx hb dL_law_505 (lv_at hl 15 rfl) ?_
                          obtain ⟨k537_107, ek537_107, hf⟩ := mlet_e hf
                          have hj537_107 : ∀ (x106 : Int32) (H : Heap) (locs : List Loc) (ls : Array Slot), k537_107 x106 = some (1 : Int32) → rI w s H locs so cL (M44, M7.2) → lv_has ls 33 [(0, .ref xa), (1, .ref (w.1 12 16)), (2, .ref so), (3, .int x3), (4, .int x4), (5, .int x53), (6, .int x6), (7, .long r9), (9, .int r10), (10, .int x16), (13, .int r25), (14, .int r26), (15, .int r27), (16, .int r28), (18, .int r30), (19, .int r31), (20, .int x33), (21, .int r34), (22, .int r36), (23, .int r37), (24, .int r39), (25, .int r40), (26, .int r41), (28, .int r43), (29, .int x46), (31, .int x97)] → W p l e R s m args below meth c H locs (kc31 + 190) (ks31 + 1300) Q (F0 m 537 ls [.int x106, .int x46, .int x93]) := by
                            intro x106 H locs ls hf hI hl
                            rw [ek537_107] at hf
                            try dsimp only at hf
                            refine lv_icmp_ne (tgt := 544) hx hb dL_law_537 (by decide) (fun c108 => ?_) (fun c108 => ?_)
                            · have hf := (if_neg c108).symm.trans hf
                              refine lv_iconst (v := 0) hx hb dL_law_544 (by decide) ?_
                              exact hj545_111 (0 : Int32) H _ _ hf hI (lv_sub hl [0, 1, 2, 3, 4, 5, 6, 7, 8, 9, 10, 11, 12, 13, 14, 15, 16, 17, 18, 19, 20, 21, 22, 23, 24, 25] rfl)
                            · have hf := (if_pos c108).symm.trans hf
                              exact hj540_109 () H _ _ hf hI (lv_sub hl [0, 1, 2, 3, 4, 5, 6, 7, 8, 9, 10, 11, 12, 13, 14, 15, 16, 17, 18, 19, 20, 21, 22, 23, 24, 25] rfl)
                          obtain ⟨k536_105, ek536_105, hf⟩ := mlet_e hf
                          have hj536_105 : ∀ (_u : Unit) (H : Heap) (locs : List Loc) (ls : Array Slot), k536_105 _u = some (1 : Int32) → rI w s H locs so cL (M44, M7.2) → lv_has ls 33 [(0, .ref xa), (1, .ref (w.1 12 16)), (2, .ref so), (3, .int x3), (4, .int x4), (5, .int x53), (6, .int x6), (7, .long r9), (9, .int r10), (10, .int x16), (13, .int r25), (14, .int r26), (15, .int r27), (16, .int r28), (18, .int r30), (19, .int r31), (20, .int x33), (21, .int r34), (22, .int r36), (23, .int r37), (24, .int r39), (25, .int r40), (26, .int r41), (28, .int r43), (29, .int x46), (31, .int x97)] → W p l e R s m args below meth c H locs (kc31 + 190) (ks31 + 1300) Q (F0 m 536 ls [.int x46, .int x93]) := by
                            intro _u H locs ls hf hI hl
                            rw [ek536_105] at hf
                            try dsimp only at hf
                            refine lv_iconst (v := 0) hx hb dL_law_536 (by decide) ?_
                            exact hj537_107 (0 : Int32) H _ _ hf hI (lv_sub hl [0, 1, 2, 3, 4, 5, 6, 7, 8, 9, 10, 11, 12, 13, 14, 15, 16, 17, 18, 19, 20, 21, 22, 23, 24, 25] rfl)
                          refine lv_if_le (tgt := 536) hx hb dL_law_507 (by decide) (fun c100 => ?_) (fun c100 => ?_)
                          · have hf := (if_pos c100).symm.trans hf
                            exact hj536_105 () H _ _ hf hI (lv_sub hl [1, 2, 3, 4, 5, 6, 7, 8, 9, 10, 11, 12, 13, 14, 16, 17, 18, 19, 20, 21, 22, 23, 24, 26, 27, 0] rfl)
                          · have hf := (if_neg c100).symm.trans hf
                            refine lv_iload hx hb dL_law_510 (lv_at hl 14 rfl) ?_
                            refine lv_if_ne (tgt := 536) hx hb dL_law_512 (by decide) (fun c101 => ?_) (fun c101 => ?_)
                            · have hf := (if_neg c101).symm.trans hf
                              exact hj536_105 () H _ _ hf hI (lv_sub hl [1, 2, 3, 4, 5, 6, 7, 8, 9, 10, 11, 12, 13, 14, 16, 17, 18, 19, 20, 21, 22, 23, 24, 26, 27, 0] rfl)
                            · have hf := (if_pos c101).symm.trans hf
                              refine lv_iload hx hb dL_law_515 (lv_at hl 12 rfl) ?_
                              refine lv_if_ne (tgt := 536) hx hb dL_law_517 (by decide) (fun c102 => ?_) (fun c102 => ?_)
                              · have hf := (if_neg c102).symm.trans hf
                                exact hj536_105 () H _ _ hf hI (lv_sub hl [1, 2, 3, 4, 5, 6, 7, 8, 9, 10, 11, 12, 13, 14, 16, 17, 18, 19, 20, 21, 22, 23, 24, 26, 27, 0] rfl)
                              · have hf := (if_pos c102).symm.trans hf
                                refine lv_iload hx hb dL_law_520 (lv_at hl 11 rfl) ?_
                                refine lv_iload hx hb dL_law_522 (lv_at hl 15 rfl) ?_
                                refine lv_icmp_lt (tgt := 536) hx hb dL_law_524 (by decide) (fun c103 => ?_) (fun c103 => ?_)
                                · have hf := (if_pos c103).symm.trans hf
                                  exact hj536_105 () H _ _ hf hI (lv_sub hl [1, 2, 3, 4, 5, 6, 7, 8, 9, 10, 11, 12, 13, 14, 16, 17, 18, 19, 20, 21, 22, 23, 24, 26, 27, 0] rfl)
                                · have hf := (if_neg c103).symm.trans hf
                                  refine lv_iload hx hb dL_law_527 (lv_at hl 25 rfl) ?_
                                  refine lv_if_eq (tgt := 536) hx hb dL_law_529 (by decide) (fun c104 => ?_) (fun c104 => ?_)
                                  · have hf := (if_pos c104).symm.trans hf
                                    exact hj536_105 () H _ _ hf hI (lv_sub hl [1, 2, 3, 4, 5, 6, 7, 8, 9, 10, 11, 12, 13, 14, 16, 17, 18, 19, 20, 21, 22, 23, 24, 26, 27, 0] rfl)
                                  · have hf := (if_neg c104).symm.trans hf
                                    refine lv_iconst (v := 1) hx hb dL_law_532 (by decide) ?_
                                    refine lv_goto (tgt := 537) hx hb dL_law_533 (by decide) ?_
                                    exact hj537_107 (1 : Int32) H _ _ hf hI (lv_sub hl [1, 2, 3, 4, 5, 6, 7, 8, 9, 10, 11, 12, 13, 14, 16, 17, 18, 19, 20, 21, 22, 23, 24, 26, 27, 0] rfl)
                      obtain ⟨k493_96, ek493_96, hf⟩ := mlet_e hf
                      have hj493_96 : ∀ (_u : Unit) (H : Heap) (locs : List Loc) (ls : Array Slot), k493_96 _u = some (1 : Int32) → rI w s H locs so cL (M44, M7.2) → lv_has ls 33 [(0, .ref xa), (1, .ref (w.1 12 16)), (2, .ref so), (3, .int x3), (4, .int x4), (5, .int x53), (6, .int x6), (7, .long r9), (9, .int r10), (10, .int x16), (13, .int r25), (14, .int r26), (15, .int r27), (16, .int r28), (17, .int r29), (18, .int r30), (19, .int r31), (20, .int x33), (21, .int r34), (22, .int r36), (23, .int r37), (24, .int r39), (25, .int r40), (26, .int r41), (27, .int r42), (28, .int r43), (29, .int x46), (30, .int x93)] → W p l e R s m args below meth c H locs (kc31 + 190) (ks31 + 1300) Q (F0 m 493 ls []) := by
                        intro _u H locs ls hf hI hl
                        rw [ek493_96] at hf
                        try dsimp only at hf
                        refine lv_iconst (v := 0) hx hb dL_law_493 (by decide) ?_
                        exact hj494_98 (0 : Int32) H _ _ hf hI (lv_sub hl [0, 1, 2, 3, 4, 5, 6, 7, 8, 9, 10, 11, 12, 13, 14, 15, 16, 17, 18, 19, 20, 21, 22, 23, 24, 25, 26, 27] rfl)
                      refine lv_icmp_le (tgt := 493) hx hb dL_law_479 (by decide) (fun c94 => ?_) (fun c94 => ?_)
                      · have hf := (if_pos c94).symm.trans hf
                        exact hj493_96 () H _ _ hf hI (lv_sub hl [1, 2, 3, 4, 5, 6, 7, 8, 9, 10, 11, 12, 13, 14, 15, 16, 17, 18, 19, 20, 21, 22, 23, 24, 25, 26, 27, 0] rfl)
                      · have hf := (if_neg c94).symm.trans hf
                        refine lv_iload hx hb dL_law_482 (lv_at hl 10 rfl) ?_
                        refine lv_bipush (v := 25) hx hb dL_law_484 (by decide) ?_
                        refine lv_icmp_ge (tgt := 493) hx hb dL_law_486 (by decide) (fun c95 => ?_) (fun c95 => ?_)
                        · have hf := (if_pos c95).symm.trans hf
                          exact hj493_96 () H _ _ hf hI (lv_sub hl [1, 2, 3, 4, 5, 6, 7, 8, 9, 10, 11, 12, 13, 14, 15, 16, 17, 18, 19, 20, 21, 22, 23, 24, 25, 26, 27, 0] rfl)
                        · have hf := (if_neg c95).symm.trans hf
                          refine lv_iconst (v := 1) hx hb dL_law_489 (by decide) ?_
                          refine lv_goto (tgt := 494) hx hb dL_law_490 (by decide) ?_
                          exact hj494_98 (1 : Int32) H _ _ hf hI (lv_sub hl [1, 2, 3, 4, 5, 6, 7, 8, 9, 10, 11, 12, 13, 14, 15, 16, 17, 18, 19, 20, 21, 22, 23, 24, 25, 26, 27, 0] rfl)
                    obtain ⟨k467_90, ek467_90, hf⟩ := mlet_e hf
                    have hj467_90 : ∀ (_u : Unit) (H : Heap) (locs : List Loc) (ls : Array Slot), k467_90 _u = some (1 : Int32) → rI w s H locs so cL (M44, M7.2) → lv_has ls 33 [(0, .ref xa), (1, .ref (w.1 12 16)), (2, .ref so), (3, .int x3), (4, .int x4), (5, .int x53), (6, .int x6), (7, .long r9), (9, .int r10), (10, .int x16), (13, .int r25), (14, .int r26), (15, .int r27), (16, .int r28), (17, .int r29), (18, .int r30), (19, .int r31), (20, .int x33), (21, .int r34), (22, .int r36), (23, .int r37), (24, .int r39), (25, .int r40), (26, .int r41), (27, .int r42), (28, .int r43), (29, .int x46)] → W p l e R s m args below meth c H locs (kc31 + 190) (ks31 + 1300) Q (F0 m 467 ls [.int x82]) := by
                      intro _u H locs ls hf hI hl
                      rw [ek467_90] at hf
                      try dsimp only at hf
                      refine lv_iconst (v := 1) hx hb dL_law_467 (by decide) ?_
                      refine lv_goto (tgt := 472) hx hb dL_law_468 (by decide) ?_
                      exact hj472_92 (1 : Int32) H _ _ hf hI (lv_sub hl [0, 1, 2, 3, 4, 5, 6, 7, 8, 9, 10, 11, 12, 13, 14, 15, 16, 17, 18, 19, 20, 21, 22, 23, 24, 25, 26] rfl)
                    refine lv_if_eq (tgt := 467) hx hb dL_law_432 (by decide) (fun c83 => ?_) (fun c83 => ?_)
                    · have hf := (if_pos c83).symm.trans hf
                      refine W.widen (k := (kc31 + 190)) (n := (ks31 + 1300)) (by omega) (by omega) ?_
                      exact hj467_90 () H _ _ hf hI (lv_sub hl [1, 2, 3, 4, 5, 6, 7, 8, 9, 10, 12, 13, 14, 15, 16, 17, 18, 19, 20, 21, 22, 23, 24, 25, 26, 27, 28] rfl)
                    · have hf := (if_neg c83).symm.trans hf
                      refine lv_iload hx hb dL_law_435 (lv_at hl 10 rfl) ?_
                      refine lv_bipush (v := 18) hx hb dL_law_437 (by decide) ?_
                      refine lv_icmp_lt (tgt := 467) hx hb dL_law_439 (by decide) (fun c84 => ?_) (fun c84 => ?_)
                      · have hf := (if_pos c84).symm.trans hf
                        refine W.widen (k := (kc31 + 190)) (n := (ks31 + 1300)) (by omega) (by omega) ?_
                        exact hj467_90 () H _ _ hf hI (lv_sub hl [1, 2, 3, 4, 5, 6, 7, 8, 9, 10, 12, 13, 14, 15, 16, 17, 18, 19, 20, 21, 22, 23, 24, 25, 26, 27, 28] rfl)
                      · have hf := (if_neg c84).symm.trans hf
                        refine lv_iload hx hb dL_law_442 (lv_at hl 10 rfl) ?_
                        refine lv_bipush (v := 19) hx hb dL_law_444 (by decide) ?_
                        refine lv_icmp_gt (tgt := 467) hx hb dL_law_446 (by decide) (fun c85 => ?_) (fun c85 => ?_)
                        · have hf := (if_pos c85).symm.trans hf
                          refine W.widen (k := (kc31 + 190)) (n := (ks31 + 1300)) (by omega) (by omega) ?_
                          exact hj467_90 () H _ _ hf hI (lv_sub hl [1, 2, 3, 4, 5, 6, 7, 8, 9, 10, 12, 13, 14, 15, 16, 17, 18, 19, 20, 21, 22, 23, 24, 25, 26, 27, 28] rfl)
                        · have hf := (if_neg c85).symm.trans hf
                          refine lv_iload hx hb dL_law_449 (lv_at hl 27 rfl) ?_
                          refine lv_iload hx hb dL_law_451 (lv_at hl 12 rfl) ?_
                          refine lv_iconst (v := 1) hx hb dL_law_453 (by decide) ?_
                          refine lv_isub hx hb dL_law_454 ?_
                          obtain ⟨k471_89, ek471_89, hf⟩ := mlet_e hf
                          have hj471_89 : ∀ (_u : Unit) (H : Heap) (locs : List Loc) (ls : Array Slot), k471_89 _u = some (1 : Int32) → rI w s H locs so cL (M44, M7.2) → lv_has ls 33 [(0, .ref xa), (1, .ref (w.1 12 16)), (2, .ref so), (3, .int x3), (4, .int x4), (5, .int x53), (6, .int x6), (7, .long r9), (9, .int r10), (10, .int x16), (13, .int r25), (14, .int r26), (15, .int r27), (16, .int r28), (17, .int r29), (18, .int r30), (19, .int r31), (20, .int x33), (21, .int r34), (22, .int r36), (23, .int r37), (24, .int r39), (25, .int r40), (26, .int r41), (27, .int r42), (28, .int r43), (29, .int x46)] → W p l e R s m args below meth c H locs (kc31 + 190) (ks31 + 1300) Q (F0 m 471 ls [.int x82]) := by
                            intro _u H locs ls hf hI hl
                            rw [ek471_89] at hf
                            try dsimp only at hf
                            refine lv_iconst (v := 0) hx hb dL_law_471 (by decide) ?_
                            exact hj472_92 (0 : Int32) H _ _ hf hI (lv_sub hl [0, 1, 2, 3, 4, 5, 6, 7, 8, 9, 10, 11, 12, 13, 14, 15, 16, 17, 18, 19, 20, 21, 22, 23, 24, 25, 26] rfl)
                          refine lv_icmp_ne (tgt := 471) hx hb dL_law_455 (by decide) (fun c86 => ?_) (fun c86 => ?_)
                          · have hf := (if_neg c86).symm.trans hf
                            refine W.widen (k := (kc31 + 190)) (n := (ks31 + 1300)) (by omega) (by omega) ?_
                            exact hj471_89 () H _ _ hf hI (lv_sub hl [1, 2, 3, 4, 5, 6, 7, 8, 9, 10, 12, 13, 14, 15, 16, 17, 18, 19, 20, 21, 22, 23, 24, 25, 26, 27, 28] rfl)
                          · have hf := (if_pos c86).symm.trans hf
                            refine lv_aload_n hx hb dL_law_458 rfl (lv_at hl 2 rfl) ?_
                            refine lv_iload hx hb dL_law_459 (lv_at hl 11 rfl) ?_
                            obtain ⟨r87, hc, hf⟩ := mbp_e hf
                            refine r_callH (As := [.ref (w.1 12 16), .int r24]) (rest := [.int x82]) hx hb hml hown hI (c_L_isPresented l w hsf H.size r24 M44 _ hc) (k_cw (n := 2) hI.T kc_L_isPresented ki_L_isPresented (q462 hI.T) (q463 hI.T) (by decide +kernel) ⟨rfl, rfl, (Nat.le_trans (Nat.le_of_ble_eq_true rfl) hRf), (Nat.le_trans (Nat.le_of_ble_eq_true rfl) hRl)⟩) rfl hl.1 (Nat.le_of_ble_eq_true rfl) dL_law_461 ⟨Nat.le_trans (m := 44719) (by omega) (Nat.le_trans (Nat.le_of_ble_eq_true rfl) hRc), Nat.le_trans (m := 277533) (by omega) (Nat.le_trans (Nat.le_of_ble_eq_true rfl) hRs)⟩ (fun H locs hI => ?_)
                            refine lv_if_ne (tgt := 471) hx hb dL_law_464 (by decide) (fun c88 => ?_) (fun c88 => ?_)
                            · have hf := (if_neg c88).symm.trans hf
                              exact hj471_89 () H _ _ hf hI (lv_sub hl [1, 2, 3, 4, 5, 6, 7, 8, 9, 10, 12, 13, 14, 15, 16, 17, 18, 19, 20, 21, 22, 23, 24, 25, 26, 27, 28] rfl)
                            · have hf := (if_pos c88).symm.trans hf
                              exact hj467_90 () H _ _ hf hI (lv_sub hl [1, 2, 3, 4, 5, 6, 7, 8, 9, 10, 12, 13, 14, 15, 16, 17, 18, 19, 20, 21, 22, 23, 24, 25, 26, 27, 28] rfl)
                  obtain ⟨k420_79, ek420_79, hf⟩ := mlet_e hf
                  have hj420_79 : ∀ (_u : Unit) (H : Heap) (locs : List Loc) (ls : Array Slot), k420_79 _u = some (1 : Int32) → rI w s H locs so cL (M44, M7.2) → lv_has ls 33 [(0, .ref xa), (1, .ref (w.1 12 16)), (2, .ref so), (3, .int x3), (4, .int x4), (5, .int x53), (6, .int x6), (7, .long r9), (9, .int r10), (10, .int x16), (12, .int r24), (13, .int r25), (14, .int r26), (15, .int r27), (16, .int r28), (17, .int r29), (18, .int r30), (19, .int r31), (20, .int x33), (21, .int r34), (22, .int r36), (23, .int r37), (24, .int r39), (25, .int r40), (26, .int r41), (27, .int r42), (28, .int r43), (29, .int x46)] → W p l e R s m args below meth c H locs (kc31 + 189) (ks31 + 1294) Q (F0 m 420 ls [.int x70]) := by
                    intro _u H locs ls hf hI hl
                    rw [ek420_79] at hf
                    try dsimp only at hf
                    refine lv_iconst (v := 1) hx hb dL_law_420 (by decide) ?_
                    refine lv_goto (tgt := 425) hx hb dL_law_421 (by decide) ?_
                    exact hj425_81 (1 : Int32) H _ _ hf hI (lv_sub hl [0, 1, 2, 3, 4, 5, 6, 7, 8, 9, 10, 11, 12, 13, 14, 15, 16, 17, 18, 19, 20, 21, 22, 23, 24, 25, 26, 27] rfl)
                  refine lv_if_eq (tgt := 420) hx hb dL_law_383 (by decide) (fun c72 => ?_) (fun c72 => ?_)
                  · have hf := (if_pos c72).symm.trans hf
                    refine W.widen (k := (kc31 + 189)) (n := (ks31 + 1294)) (by omega) (by omega) ?_
                    exact hj420_79 () H _ _ hf hI (lv_sub hl [1, 2, 3, 4, 5, 6, 7, 8, 9, 10, 11, 12, 13, 14, 15, 16, 17, 18, 19, 20, 21, 22, 23, 24, 25, 26, 27, 28] rfl)
                  · have hf := (if_neg c72).symm.trans hf
                    refine lv_iload hx hb dL_law_386 (lv_at hl 10 rfl) ?_
                    refine lv_bipush (v := 10) hx hb dL_law_388 (by decide) ?_
                    refine lv_icmp_lt (tgt := 420) hx hb dL_law_390 (by decide) (fun c73 => ?_) (fun c73 => ?_)
                    · have hf := (if_pos c73).symm.trans hf
                      refine W.widen (k := (kc31 + 189)) (n := (ks31 + 1294)) (by omega) (by omega) ?_
                      exact hj420_79 () H _ _ hf hI (lv_sub hl [1, 2, 3, 4, 5, 6, 7, 8, 9, 10, 11, 12, 13, 14, 15, 16, 17, 18, 19, 20, 21, 22, 23, 24, 25, 26, 27, 28] rfl)
                    · have hf := (if_neg c73).symm.trans hf
                      refine lv_iload hx hb dL_law_393 (lv_at hl 10 rfl) ?_
                      refine lv_bipush (v := 17) hx hb dL_law_395 (by decide) ?_
                      refine lv_icmp_gt (tgt := 420) hx hb dL_law_397 (by decide) (fun c74 => ?_) (fun c74 => ?_)
                      · have hf := (if_pos c74).symm.trans hf
                        refine W.widen (k := (kc31 + 189)) (n := (ks31 + 1294)) (by omega) (by omega) ?_
                        exact hj420_79 () H _ _ hf hI (lv_sub hl [1, 2, 3, 4, 5, 6, 7, 8, 9, 10, 11, 12, 13, 14, 15, 16, 17, 18, 19, 20, 21, 22, 23, 24, 25, 26, 27, 28] rfl)
                      · have hf := (if_neg c74).symm.trans hf
                        refine lv_iload hx hb dL_law_400 (lv_at hl 27 rfl) ?_
                        refine lv_iload hx hb dL_law_402 (lv_at hl 12 rfl) ?_
                        refine lv_iconst (v := 1) hx hb dL_law_404 (by decide) ?_
                        refine lv_iadd hx hb dL_law_405 ?_
                        obtain ⟨k424_78, ek424_78, hf⟩ := mlet_e hf
                        have hj424_78 : ∀ (_u : Unit) (H : Heap) (locs : List Loc) (ls : Array Slot), k424_78 _u = some (1 : Int32) → rI w s H locs so cL (M44, M7.2) → lv_has ls 33 [(0, .ref xa), (1, .ref (w.1 12 16)), (2, .ref so), (3, .int x3), (4, .int x4), (5, .int x53), (6, .int x6), (7, .long r9), (9, .int r10), (10, .int x16), (12, .int r24), (13, .int r25), (14, .int r26), (15, .int r27), (16, .int r28), (17, .int r29), (18, .int r30), (19, .int r31), (20, .int x33), (21, .int r34), (22, .int r36), (23, .int r37), (24, .int r39), (25, .int r40), (26, .int r41), (27, .int r42), (28, .int r43), (29, .int x46)] → W p l e R s m args below meth c H locs (kc31 + 189) (ks31 + 1294) Q (F0 m 424 ls [.int x70]) := by
                          intro _u H locs ls hf hI hl
                          rw [ek424_78] at hf
                          try dsimp only at hf
                          refine lv_iconst (v := 0) hx hb dL_law_424 (by decide) ?_
                          exact hj425_81 (0 : Int32) H _ _ hf hI (lv_sub hl [0, 1, 2, 3, 4, 5, 6, 7, 8, 9, 10, 11, 12, 13, 14, 15, 16, 17, 18, 19, 20, 21, 22, 23, 24, 25, 26, 27] rfl)
                        refine lv_icmp_ne (tgt := 424) hx hb dL_law_406 (by decide) (fun c75 => ?_) (fun c75 => ?_)
                        · have hf := (if_neg c75).symm.trans hf
                          refine W.widen (k := (kc31 + 189)) (n := (ks31 + 1294)) (by omega) (by omega) ?_
                          exact hj424_78 () H _ _ hf hI (lv_sub hl [1, 2, 3, 4, 5, 6, 7, 8, 9, 10, 11, 12, 13, 14, 15, 16, 17, 18, 19, 20, 21, 22, 23, 24, 25, 26, 27, 28] rfl)
                        · have hf := (if_pos c75).symm.trans hf
                          refine lv_aload_n hx hb dL_law_409 rfl (lv_at hl 2 rfl) ?_
                          refine lv_iload hx hb dL_law_410 (lv_at hl 12 rfl) ?_
                          obtain ⟨r76, hc, hf⟩ := mbp_e hf
                          refine r_callH (As := [.ref (w.1 12 16), .int r25]) (rest := [.int x70]) hx hb hml hown hI (c_L_presentedAt l w hsf H.size r25 M44 _ hc) (k_cw (n := 2) hI.T kc_L_presentedAt ki_L_presentedAt (q518 hI.T) (q519 hI.T) (by decide +kernel) ⟨rfl, rfl, (Nat.le_trans (Nat.le_of_ble_eq_true rfl) hRf), (Nat.le_trans (Nat.le_of_ble_eq_true rfl) hRl)⟩) rfl hl.1 (Nat.le_of_ble_eq_true rfl) dL_law_412 ⟨Nat.le_trans (m := 44719) (by omega) (Nat.le_trans (Nat.le_of_ble_eq_true rfl) hRc), Nat.le_trans (m := 277533) (by omega) (Nat.le_trans (Nat.le_of_ble_eq_true rfl) hRs)⟩ (fun H locs hI => ?_)
                          refine lv_iload hx hb dL_law_415 (lv_at hl 11 rfl) ?_
                          refine lv_icmp_ne (tgt := 424) hx hb dL_law_417 (by decide) (fun c77 => ?_) (fun c77 => ?_)
                          · have hf := (if_neg c77).symm.trans hf
                            exact hj424_78 () H _ _ hf hI (lv_sub hl [1, 2, 3, 4, 5, 6, 7, 8, 9, 10, 11, 12, 13, 14, 15, 16, 17, 18, 19, 20, 21, 22, 23, 24, 25, 26, 27, 28] rfl)
                          · have hf := (if_pos c77).symm.trans hf
                            exact hj420_79 () H _ _ hf hI (lv_sub hl [1, 2, 3, 4, 5, 6, 7, 8, 9, 10, 11, 12, 13, 14, 15, 16, 17, 18, 19, 20, 21, 22, 23, 24, 25, 26, 27, 28] rfl)
                obtain ⟨k372_69, ek372_69, hf⟩ := mlet_e hf
                have hj372_69 : ∀ (_u : Unit) (H : Heap) (locs : List Loc) (ls : Array Slot), k372_69 _u = some (1 : Int32) → rI w s H locs so cL (M44, M7.2) → lv_has ls 33 [(0, .ref xa), (1, .ref (w.1 12 16)), (2, .ref so), (3, .int x3), (4, .int x4), (5, .int x53), (6, .int x6), (7, .long r9), (9, .int r10), (10, .int x16), (12, .int r24), (13, .int r25), (14, .int r26), (15, .int r27), (16, .int r28), (17, .int r29), (18, .int r30), (19, .int r31), (20, .int x33), (21, .int r34), (22, .int r36), (23, .int r37), (24, .int r39), (25, .int r40), (26, .int r41), (27, .int r42), (28, .int r43), (29, .int x46)] → W p l e R s m args below meth c H locs (kc31 + 188) (ks31 + 1288) Q (F0 m 372 ls []) := by
                  intro _u H locs ls hf hI hl
                  rw [ek372_69] at hf
                  try dsimp only at hf
                  refine lv_iconst (v := 1) hx hb dL_law_372 (by decide) ?_
                  refine lv_goto (tgt := 377) hx hb dL_law_373 (by decide) ?_
                  exact hj377_71 (1 : Int32) H _ _ hf hI (lv_sub hl [0, 1, 2, 3, 4, 5, 6, 7, 8, 9, 10, 11, 12, 13, 14, 15, 16, 17, 18, 19, 20, 21, 22, 23, 24, 25, 26, 27] rfl)
                refine lv_if_eq (tgt := 372) hx hb dL_law_322 (by decide) (fun c55 => ?_) (fun c55 => ?_)
                · have hf := (if_pos c55).symm.trans hf
                  refine W.widen (k := (kc31 + 188)) (n := (ks31 + 1288)) (by omega) (by omega) ?_
                  exact hj372_69 () H _ _ hf hI (lv_sub hl [1, 2, 3, 4, 5, 0, 6, 7, 8, 9, 10, 11, 12, 13, 14, 15, 16, 17, 18, 19, 20, 21, 22, 23, 24, 25, 26, 27] rfl)
                · have hf := (if_neg c55).symm.trans hf
                  refine lv_iload hx hb dL_law_325 (lv_at hl 9 rfl) ?_
                  refine lv_iconst (v := 3) hx hb dL_law_327 (by decide) ?_
                  refine lv_icmp_lt (tgt := 372) hx hb dL_law_328 (by decide) (fun c56 => ?_) (fun c56 => ?_)
                  · have hf := (if_pos c56).symm.trans hf
                    refine W.widen (k := (kc31 + 188)) (n := (ks31 + 1288)) (by omega) (by omega) ?_
                    exact hj372_69 () H _ _ hf hI (lv_sub hl [1, 2, 3, 4, 5, 0, 6, 7, 8, 9, 10, 11, 12, 13, 14, 15, 16, 17, 18, 19, 20, 21, 22, 23, 24, 25, 26, 27] rfl)
                  · have hf := (if_neg c56).symm.trans hf
                    refine lv_iload hx hb dL_law_331 (lv_at hl 9 rfl) ?_
                    refine lv_iconst (v := 5) hx hb dL_law_333 (by decide) ?_
                    refine lv_icmp_gt (tgt := 372) hx hb dL_law_334 (by decide) (fun c57 => ?_) (fun c57 => ?_)
                    · have hf := (if_pos c57).symm.trans hf
                      refine W.widen (k := (kc31 + 188)) (n := (ks31 + 1288)) (by omega) (by omega) ?_
                      exact hj372_69 () H _ _ hf hI (lv_sub hl [1, 2, 3, 4, 5, 0, 6, 7, 8, 9, 10, 11, 12, 13, 14, 15, 16, 17, 18, 19, 20, 21, 22, 23, 24, 25, 26, 27] rfl)
                    · have hf := (if_neg c57).symm.trans hf
                      refine lv_aload_n hx hb dL_law_337 rfl (lv_at hl 2 rfl) ?_
                      obtain ⟨r58, hc, hf⟩ := mbp_e hf
                      refine r_callV (As := []) (rest := []) hx hb hml hown hI (c_X11_isOpen l w H.size M44 _ hc) (kb_X11_isOpen hI.T (q343 hI.T) (Nat.le_trans (Nat.le_of_ble_eq_true rfl) hRf) (Nat.le_trans (Nat.le_of_ble_eq_true rfl) hRl)) (q344 hI.T) (q345 hI.T) (m_recv (g := 12) (i := 16) hI.1 (mokX (by decide) (by decide)) rfl rfl) rfl hl.1 (Nat.le_of_ble_eq_true rfl) dL_law_338 ⟨Nat.le_trans (m := 44719) (by omega) (Nat.le_trans (Nat.le_of_ble_eq_true rfl) hRc), Nat.le_trans (m := 277533) (by omega) (Nat.le_trans (Nat.le_of_ble_eq_true rfl) hRs)⟩ (fun H locs hI => ?_)
                      obtain ⟨k376_68, ek376_68, hf⟩ := mlet_e hf
                      have hj376_68 : ∀ (_u : Unit) (H : Heap) (locs : List Loc) (ls : Array Slot), k376_68 _u = some (1 : Int32) → rI w s H locs so cL (M44, M7.2) → lv_has ls 33 [(0, .ref xa), (1, .ref (w.1 12 16)), (2, .ref so), (3, .int x3), (4, .int x4), (5, .int x53), (6, .int x6), (7, .long r9), (9, .int r10), (10, .int x16), (12, .int r24), (13, .int r25), (14, .int r26), (15, .int r27), (16, .int r28), (17, .int r29), (18, .int r30), (19, .int r31), (20, .int x33), (21, .int r34), (22, .int r36), (23, .int r37), (24, .int r39), (25, .int r40), (26, .int r41), (27, .int r42), (28, .int r43), (29, .int x46)] → W p l e R s m args below meth c H locs (kc31 + 188) (ks31 + 1288) Q (F0 m 376 ls []) := by
                        intro _u H locs ls hf hI hl
                        rw [ek376_68] at hf
                        try dsimp only at hf
                        refine lv_iconst (v := 0) hx hb dL_law_376 (by decide) ?_
                        exact hj377_71 (0 : Int32) H _ _ hf hI (lv_sub hl [0, 1, 2, 3, 4, 5, 6, 7, 8, 9, 10, 11, 12, 13, 14, 15, 16, 17, 18, 19, 20, 21, 22, 23, 24, 25, 26, 27] rfl)
                      refine lv_if_ne (tgt := 376) hx hb dL_law_341 (by decide) (fun c59 => ?_) (fun c59 => ?_)
                      · have hf := (if_neg c59).symm.trans hf
                        refine W.widen (k := (kc31 + 188)) (n := (ks31 + 1288)) (by omega) (by omega) ?_
                        exact hj376_68 () H _ _ hf hI (lv_sub hl [1, 2, 3, 4, 5, 0, 6, 7, 8, 9, 10, 11, 12, 13, 14, 15, 16, 17, 18, 19, 20, 21, 22, 23, 24, 25, 26, 27] rfl)
                      · have hf := (if_pos c59).symm.trans hf
                        refine lv_aload_n hx hb dL_law_344 rfl (lv_at hl 2 rfl) ?_
                        obtain ⟨r60, hc, hf⟩ := mbp_e hf
                        refine r_callV (As := []) (rest := []) hx hb hml hown hI (c_X11_presentedCount l w H.size M44 _ hc) (kb_X11_presentedCount hI.T (q339 hI.T) (Nat.le_trans (Nat.le_of_ble_eq_true rfl) hRf) (Nat.le_trans (Nat.le_of_ble_eq_true rfl) hRl)) (q340 hI.T) (q341 hI.T) (m_recv (g := 12) (i := 16) hI.1 (mokX (by decide) (by decide)) rfl rfl) rfl hl.1 (Nat.le_of_ble_eq_true rfl) dL_law_345 ⟨Nat.le_trans (m := 44719) (by omega) (Nat.le_trans (Nat.le_of_ble_eq_true rfl) hRc), Nat.le_trans (m := 277533) (by omega) (Nat.le_trans (Nat.le_of_ble_eq_true rfl) hRs)⟩ (fun H locs hI => ?_)
                        refine lv_if_ne (tgt := 376) hx hb dL_law_348 (by decide) (fun c61 => ?_) (fun c61 => ?_)
                        · have hf := (if_neg c61).symm.trans hf
                          refine W.widen (k := (kc31 + 188)) (n := (ks31 + 1288)) (by omega) (by omega) ?_
                          exact hj376_68 () H _ _ hf hI (lv_sub hl [1, 2, 3, 4, 5, 0, 6, 7, 8, 9, 10, 11, 12, 13, 14, 15, 16, 17, 18, 19, 20, 21, 22, 23, 24, 25, 26, 27] rfl)
                        · have hf := (if_pos c61).symm.trans hf
                          refine lv_aload_n hx hb dL_law_351 rfl (lv_at hl 2 rfl) ?_
                          obtain ⟨r62, hc, hf⟩ := mbp_e hf
                          refine r_callV (As := []) (rest := []) hx hb hml hown hI (c_X11_lockedHours l w H.size M44 _ hc) (kb_X11_lockedHours hI.T (q347 hI.T) (Nat.le_trans (Nat.le_of_ble_eq_true rfl) hRf) (Nat.le_trans (Nat.le_of_ble_eq_true rfl) hRl)) (q348 hI.T) (q349 hI.T) (m_recv (g := 12) (i := 16) hI.1 (mokX (by decide) (by decide)) rfl rfl) rfl hl.1 (Nat.le_of_ble_eq_true rfl) dL_law_352 ⟨Nat.le_trans (m := 44719) (by omega) (Nat.le_trans (Nat.le_of_ble_eq_true rfl) hRc), Nat.le_trans (m := 277533) (by omega) (Nat.le_trans (Nat.le_of_ble_eq_true rfl) hRs)⟩ (fun H locs hI => ?_)
                          refine lv_if_ne (tgt := 376) hx hb dL_law_355 (by decide) (fun c63 => ?_) (fun c63 => ?_)
                          · have hf := (if_neg c63).symm.trans hf
                            refine W.widen (k := (kc31 + 188)) (n := (ks31 + 1288)) (by omega) (by omega) ?_
                            exact hj376_68 () H _ _ hf hI (lv_sub hl [1, 2, 3, 4, 5, 0, 6, 7, 8, 9, 10, 11, 12, 13, 14, 15, 16, 17, 18, 19, 20, 21, 22, 23, 24, 25, 26, 27] rfl)
                          · have hf := (if_pos c63).symm.trans hf
                            refine lv_aload_n hx hb dL_law_358 rfl (lv_at hl 2 rfl) ?_
                            obtain ⟨r64, hc, hf⟩ := mbp_e hf
                            refine r_callV (As := []) (rest := []) hx hb hml hown hI (c_X11_failedAttempts l w H.size M44 _ hc) (kb_X11_failedAttempts hI.T (q351 hI.T) (Nat.le_trans (Nat.le_of_ble_eq_true rfl) hRf) (Nat.le_trans (Nat.le_of_ble_eq_true rfl) hRl)) (q352 hI.T) (q353 hI.T) (m_recv (g := 12) (i := 16) hI.1 (mokX (by decide) (by decide)) rfl rfl) rfl hl.1 (Nat.le_of_ble_eq_true rfl) dL_law_359 ⟨Nat.le_trans (m := 44719) (by omega) (Nat.le_trans (Nat.le_of_ble_eq_true rfl) hRc), Nat.le_trans (m := 277533) (by omega) (Nat.le_trans (Nat.le_of_ble_eq_true rfl) hRs)⟩ (fun H locs hI => ?_)
                            refine lv_if_ne (tgt := 376) hx hb dL_law_362 (by decide) (fun c65 => ?_) (fun c65 => ?_)
                            · have hf := (if_neg c65).symm.trans hf
                              refine W.widen (k := (kc31 + 188)) (n := (ks31 + 1288)) (by omega) (by omega) ?_
                              exact hj376_68 () H _ _ hf hI (lv_sub hl [1, 2, 3, 4, 5, 0, 6, 7, 8, 9, 10, 11, 12, 13, 14, 15, 16, 17, 18, 19, 20, 21, 22, 23, 24, 25, 26, 27] rfl)
                            · have hf := (if_pos c65).symm.trans hf
                              refine lv_aload_n hx hb dL_law_365 rfl (lv_at hl 2 rfl) ?_
                              obtain ⟨r66, hc, hf⟩ := mbp_e hf
                              refine r_callS (As := [.ref (w.1 12 16)]) (rest := []) hx hb hml hown hI (c_L_areCorrect l w hsf H.size M44 _ hc) (kb_L_areCorrect hI.T (q696 hI.T) (Nat.le_trans (Nat.le_of_ble_eq_true rfl) hRf) (Nat.le_trans (Nat.le_of_ble_eq_true rfl) hRl)) (q697 hI.T) rfl hl.1 (Nat.le_of_ble_eq_true rfl) dL_law_366 ⟨Nat.le_trans (m := 44719) (by omega) (Nat.le_trans (Nat.le_of_ble_eq_true rfl) hRc), Nat.le_trans (m := 277533) (by omega) (Nat.le_trans (Nat.le_of_ble_eq_true rfl) hRs)⟩ (fun H locs hI => ?_)
                              refine lv_if_eq (tgt := 376) hx hb dL_law_369 (by decide) (fun c67 => ?_) (fun c67 => ?_)
                              · have hf := (if_pos c67).symm.trans hf
                                exact hj376_68 () H _ _ hf hI (lv_sub hl [1, 2, 3, 4, 5, 0, 6, 7, 8, 9, 10, 11, 12, 13, 14, 15, 16, 17, 18, 19, 20, 21, 22, 23, 24, 25, 26, 27] rfl)
                              · have hf := (if_neg c67).symm.trans hf
                                exact hj372_69 () H _ _ hf hI (lv_sub hl [1, 2, 3, 4, 5, 0, 6, 7, 8, 9, 10, 11, 12, 13, 14, 15, 16, 17, 18, 19, 20, 21, 22, 23, 24, 25, 26, 27] rfl)
              obtain ⟨k316_52, ek316_52, hf⟩ := mlet_e hf
              have hj316_52 : ∀ (_u : Unit) (H : Heap) (locs : List Loc) (ls : Array Slot), k316_52 _u = some (1 : Int32) → rI w s H locs so cL (M44, M7.2) → lv_has ls 33 [(0, .ref xa), (1, .ref (w.1 12 16)), (2, .ref so), (3, .int x3), (4, .int x4), (5, .int x5), (6, .int x6), (7, .long r9), (9, .int r10), (10, .int x16), (12, .int r24), (13, .int r25), (14, .int r26), (15, .int r27), (16, .int r28), (17, .int r29), (18, .int r30), (19, .int r31), (20, .int x33), (21, .int r34), (22, .int r36), (23, .int r37), (24, .int r39), (25, .int r40), (26, .int r41), (27, .int r42), (28, .int r43), (29, .int x46)] → W p l e R s m args below meth c H locs (kc31 + 170) (ks31 + 1180) Q (F0 m 316 ls []) := by
                intro _u H locs ls hf hI hl
                rw [ek316_52] at hf
                try dsimp only at hf
                refine lv_iload hx hb dL_law_316 (lv_at hl 5 rfl) ?_
                exact hj318_54 x5 H _ _ hf hI (lv_sub hl [0, 1, 2, 3, 4, 6, 7, 8, 9, 10, 11, 12, 13, 14, 15, 16, 17, 18, 19, 20, 21, 22, 23, 24, 25, 26, 27] rfl)
              refine lv_if_eq (tgt := 316) hx hb dL_law_283 (by decide) (fun c48 => ?_) (fun c48 => ?_)
              · have hf := (if_pos c48).symm.trans hf
                exact hj316_52 () H _ _ hf hI (lv_sub hl [1, 2, 3, 4, 5, 6, 7, 8, 9, 10, 11, 12, 13, 14, 15, 16, 17, 18, 19, 20, 21, 22, 23, 24, 25, 26, 27, 0] rfl)
              · have hf := (if_neg c48).symm.trans hf
                refine lv_iload hx hb dL_law_286 (lv_at hl 10 rfl) ?_
                refine lv_iconst (v := 2) hx hb dL_law_288 (by decide) ?_
                refine lv_icmp_le (tgt := 316) hx hb dL_law_289 (by decide) (fun c49 => ?_) (fun c49 => ?_)
                · have hf := (if_pos c49).symm.trans hf
                  exact hj316_52 () H _ _ hf hI (lv_sub hl [1, 2, 3, 4, 5, 6, 7, 8, 9, 10, 11, 12, 13, 14, 15, 16, 17, 18, 19, 20, 21, 22, 23, 24, 25, 26, 27, 0] rfl)
                · have hf := (if_neg c49).symm.trans hf
                  refine lv_iload hx hb dL_law_292 (lv_at hl 10 rfl) ?_
                  refine lv_bipush (v := 6) hx hb dL_law_294 (by decide) ?_
                  refine lv_icmp_ge (tgt := 316) hx hb dL_law_296 (by decide) (fun c50 => ?_) (fun c50 => ?_)
                  · have hf := (if_pos c50).symm.trans hf
                    exact hj316_52 () H _ _ hf hI (lv_sub hl [1, 2, 3, 4, 5, 6, 7, 8, 9, 10, 11, 12, 13, 14, 15, 16, 17, 18, 19, 20, 21, 22, 23, 24, 25, 26, 27, 0] rfl)
                  · have hf := (if_neg c50).symm.trans hf
                    refine lv_aload_n hx hb dL_law_299 rfl (lv_at hl 1 rfl) ?_
                    refine lv_iload hx hb dL_law_300 (lv_at hl 5 rfl) ?_
                    refine lv_iconst (v := 4) hx hb dL_law_302 (by decide) ?_
                    refine lv_iadd hx hb dL_law_303 ?_
                    refine lv_sipush (v := 1000) hx hb dL_law_304 (by decide) ?_
                    obtain ⟨r51, hc, hf⟩ := mbp_e hf
                    refine r_callS (As := [.ref xa, .int (x4 + (4 : Int32)), .int (1000 : Int32)]) (rest := []) hx hb hml hown hI (c_L_pick l w hsf H.size xa xl xs hX (x4 + (4 : Int32)) (1000 : Int32) M44 _ hc) (kb_L_pick hI.T (q371 hI.T) (Nat.le_trans (Nat.le_of_ble_eq_true rfl) hRf) (Nat.le_trans (Nat.le_of_ble_eq_true rfl) hRl)) (q372 hI.T) rfl hl.1 (Nat.le_of_ble_eq_true rfl) dL_law_307 ⟨Nat.le_trans (m := 44719) (by omega) (Nat.le_trans (Nat.le_of_ble_eq_true rfl) hRc), Nat.le_trans (m := 277533) (by omega) (Nat.le_trans (Nat.le_of_ble_eq_true rfl) hRs)⟩ (fun H locs hI => ?_)
                    refine lv_bipush (v := 97) hx hb dL_law_310 (by decide) ?_
                    refine lv_irem hx hb dL_law_312 (by decide) ?_
                    refine lv_goto (tgt := 318) hx hb dL_law_313 (by decide) ?_
                    exact hj318_54 (mrem r51 (97 : Int32)) H _ _ hf hI (lv_sub hl [1, 2, 3, 4, 5, 7, 8, 9, 10, 11, 12, 13, 14, 15, 16, 17, 18, 19, 20, 21, 22, 23, 24, 25, 26, 27, 0] rfl)
            refine lv_icmp_le (tgt := 278) hx hb dL_law_271 (by decide) (fun c45 => ?_) (fun c45 => ?_)
            · have hf := (if_pos c45).symm.trans hf
              refine lv_iconst (v := 0) hx hb dL_law_278 (by decide) ?_
              exact hj279_47 (0 : Int32) H _ _ hf hI (lv_sub hl [17, 18, 19, 20, 21, 22, 23, 24, 25, 26, 16, 15, 14, 13, 12, 11, 10, 9, 8, 7, 6, 5, 4, 3, 2, 1, 0] rfl)
            · have hf := (if_neg c45).symm.trans hf
              refine lv_iconst (v := 1) hx hb dL_law_274 (by decide) ?_
              refine lv_goto (tgt := 279) hx hb dL_law_275 (by decide) ?_
              exact hj279_47 (1 : Int32) H _ _ hf hI (lv_sub hl [17, 18, 19, 20, 21, 22, 23, 24, 25, 26, 16, 15, 14, 13, 12, 11, 10, 9, 8, 7, 6, 5, 4, 3, 2, 1, 0] rfl)
          obtain ⟨k132_21, ek132_21, hf⟩ := mlet_e hf
          have hj132_21 : ∀ (_u : Unit) (H : Heap) (locs : List Loc) (ls : Array Slot), k132_21 _u = some (1 : Int32) → rI w s H locs so cL M7 → lv_has ls 33 [(0, .ref xa), (1, .ref (w.1 12 16)), (2, .ref so), (3, .int x3), (4, .int x4), (5, .int x5), (6, .int x6), (7, .long r9), (9, .int r10), (10, .int x16)] → W p l e R s m args below meth c H locs (kc31 + 120) (ks31 + 720) Q (F0 m 132 ls [.int r18, .int (x4 + (1 : Int32)), .ref xa]) := by
            intro _u H locs ls hf hI hl
            rw [ek132_21] at hf
            try dsimp only at hf
            refine lv_iconst (v := 1) hx hb dL_law_132 (by decide) ?_
            refine lv_goto (tgt := 137) hx hb dL_law_133 (by decide) ?_
            exact hj137_23 (1 : Int32) H _ _ hf hI (lv_sub hl [0, 1, 2, 3, 4, 5, 6, 7, 8, 9] rfl)
          refine lv_icmp_eq (tgt := 132) hx hb dL_law_124 (by decide) (fun c19 => ?_) (fun c19 => ?_)
          · have hf := (if_pos c19).symm.trans hf
            exact hj132_21 () H _ _ hf hI (lv_sub hl [2, 3, 4, 5, 6, 7, 8, 9, 10, 1] rfl)
          · have hf := (if_neg c19).symm.trans hf
            refine lv_iload hx hb dL_law_127 (lv_at hl 0 rfl) ?_
            refine lv_if_ne (tgt := 136) hx hb dL_law_129 (by decide) (fun c20 => ?_) (fun c20 => ?_)
            · have hf := (if_neg c20).symm.trans hf
              refine lv_iconst (v := 0) hx hb dL_law_136 (by decide) ?_
              exact hj137_23 (0 : Int32) H _ _ hf hI (lv_sub hl [2, 3, 4, 5, 6, 7, 8, 9, 10, 1] rfl)
            · have hf := (if_pos c20).symm.trans hf
              exact hj132_21 () H _ _ hf hI (lv_sub hl [2, 3, 4, 5, 6, 7, 8, 9, 10, 1] rfl)
        refine lv_icmp_ge (tgt := 60) hx hb dL_law_53 (by decide) (fun c11 => ?_) (fun c11 => ?_)
        · have hf := (if_pos c11).symm.trans hf
          refine lv_iload hx hb dL_law_60 (lv_at hl 8 rfl) ?_
          refine lv_iconst (v := 5) hx hb dL_law_62 (by decide) ?_
          refine lv_icmp_ne (tgt := 70) hx hb dL_law_63 (by decide) (fun c12 => ?_) (fun c12 => ?_)
          · have hf := (if_neg c12).symm.trans hf
            refine lv_iload hx hb dL_law_70 (lv_at hl 8 rfl) ?_
            refine lv_bipush (v := 8) hx hb dL_law_72 (by decide) ?_
            refine lv_icmp_ge (tgt := 82) hx hb dL_law_74 (by decide) (fun c13 => ?_) (fun c13 => ?_)
            · have hf := (if_pos c13).symm.trans hf
              refine lv_iload hx hb dL_law_82 (lv_at hl 8 rfl) ?_
              refine lv_bipush (v := 12) hx hb dL_law_84 (by decide) ?_
              refine lv_icmp_ge (tgt := 94) hx hb dL_law_86 (by decide) (fun c14 => ?_) (fun c14 => ?_)
              · have hf := (if_pos c14).symm.trans hf
                refine lv_aload_n hx hb dL_law_94 rfl (lv_at hl 2 rfl) ?_
                refine lv_iload hx hb dL_law_95 (lv_at hl 6 rfl) ?_
                refine lv_bipush (v := 48) hx hb dL_law_97 (by decide) ?_
                obtain ⟨r15, hc, hf⟩ := mbp_e hf
                refine r_callS (As := [.ref xa, .int x4, .int (48 : Int32)]) (rest := []) hx hb hml hown hI (c_L_pick l w hsf H.size xa xl xs hX x4 (48 : Int32) M7.1 _ hc) (kb_L_pick hI.T (q371 hI.T) (Nat.le_trans (Nat.le_of_ble_eq_true rfl) hRf) (Nat.le_trans (Nat.le_of_ble_eq_true rfl) hRl)) (q372 hI.T) rfl hl.1 (Nat.le_of_ble_eq_true rfl) dL_law_99 ⟨Nat.le_trans (m := 44719) (by omega) (Nat.le_trans (Nat.le_of_ble_eq_true rfl) hRc), Nat.le_trans (m := 277533) (by omega) (Nat.le_trans (Nat.le_of_ble_eq_true rfl) hRs)⟩ (fun H locs hI => ?_)
                exact hj102_17 r15 H _ _ hf hI (lv_sub hl [2, 3, 4, 5, 6, 7, 8, 1, 0] rfl)
              · have hf := (if_neg c14).symm.trans hf
                refine lv_bipush (v := 10) hx hb dL_law_89 (by decide) ?_
                refine lv_goto (tgt := 102) hx hb dL_law_91 (by decide) ?_
                exact hj102_17 (10 : Int32) H _ _ hf hI (lv_sub hl [2, 3, 4, 5, 6, 7, 8, 1, 0] rfl)
            · have hf := (if_neg c13).symm.trans hf
              refine lv_bipush (v := 26) hx hb dL_law_77 (by decide) ?_
              refine lv_goto (tgt := 102) hx hb dL_law_79 (by decide) ?_
              exact hj102_17 (26 : Int32) H _ _ hf hI (lv_sub hl [2, 3, 4, 5, 6, 7, 8, 1, 0] rfl)
          · have hf := (if_pos c12).symm.trans hf
            refine lv_iconst (v := 4) hx hb dL_law_66 (by decide) ?_
            refine lv_goto (tgt := 102) hx hb dL_law_67 (by decide) ?_
            exact hj102_17 (4 : Int32) H _ _ hf hI (lv_sub hl [2, 3, 4, 5, 6, 7, 8, 1, 0] rfl)
        · have hf := (if_neg c11).symm.trans hf
          refine lv_iconst (v := 0) hx hb dL_law_56 (by decide) ?_
          refine lv_goto (tgt := 102) hx hb dL_law_57 (by decide) ?_
          exact hj102_17 (0 : Int32) H _ _ hf hI (lv_sub hl [2, 3, 4, 5, 6, 7, 8, 1, 0] rfl)
  refine hL31 55 (0 : Int32) (0 : Int32) (-1 : Int32) (0 : Int32) M2 _ _ _ _ _ _ (Nat.le_of_ble_eq_true rfl) (Nat.le_of_ble_eq_true rfl) hf hI (lv_sub hl [4, 5, 6, 3, 2, 1, 0] rfl) ?_
  intro x232 M233 H locs ls hf hI hl
  try dsimp only at hf
  refine lv_aload_n hx hb dL_law_1028 rfl (lv_at hl 0 rfl) ?_
  refine lv_aload_n hx hb dL_law_1029 rfl (lv_at hl 1 rfl) ?_
  refine lv_iload_n hx hb dL_law_1030 rfl (lv_at hl 2 rfl) ?_
  obtain ⟨r234, M235, hc, hf⟩ := mbnd_e hf
  refine r_kept (rest := []) hx hb hml hown hsf hI hc (q1577 hI.T) (q1578 hI.T) (Nat.le_trans (Nat.le_of_ble_eq_true rfl) hRf) (Nat.le_trans (Nat.le_of_ble_eq_true rfl) hRl) hl.1 (Nat.le_of_ble_eq_true rfl) dL_law_1031 ⟨Nat.le_trans (Nat.le_of_ble_eq_true rfl) hRc, Nat.le_trans (Nat.le_of_ble_eq_true rfl) hRs⟩ (fun H locs hI => ?_)
  obtain ⟨hz, hf⟩ := mnz_e hf
  obtain rfl := Option.some.inj hf
  exact kEnd _ _ _ hI
