abbrev rmL_areZones : Room := { frames := 12, cells := 300, slots := 1800, locals := 226 }
theorem kb_L_areZones {R : Room} {s : State} {args : Array Value} {own : String} {idx : Nat} (hT : mT s) (hlink : (Cond.methodLink own idx yL_areZones).before args s = true) (h1 : rmL_areZones.frames + 1 ≤ R.frames) (h2 : 8 + (9 + 11) + rmL_areZones.locals ≤ R.locals) : CallB R s args own idx yL_areZones cL_areZones 9 (some .boolean) [Cond.code yL_areZones cL_areZones 9 (some .boolean)] rmL_areZones 300 1800 1 := m_callB hT kc_L_areZones ki_L_areZones hlink (by decide +kernel) ⟨rfl, rfl, h1, h2⟩
set_option maxHeartbeats 4000000 in
set_option maxRecDepth 100000 in
theorem c_L_areZones (l : Launch) (w : WD) (hsf : l.stackTraces = false) (sz : Nat)  (M : Mem) (r : Int32) (M9 : Mem) (hf : f_L_areZones  M = some (r, M9)) : kMet l yL_areZones [Cond.code yL_areZones cL_areZones 9 (some .boolean)] rmL_areZones w sz M [.ref (w.1 12 16)] (some (.int r)) M9 300 1800 := by
  refine k_of (by decide) (Nat.le_of_ble_eq_true rfl) ?_
  intro p e s m args below meth c hx hb hr hml hown hlk hI ls hl
  have hl : lv_has ls 9 [(0, .ref (w.1 12 16))] := hl
  unfold f_L_areZones at hf
  refine lv_iconst (v := 0) hx hb dL_areZones_0 (by decide) ?_
  refine lv_istore_n (lv' := [(1, .int (0 : Int32)), (0, .ref (w.1 12 16))]) hx hb dL_areZones_1 rfl hl (by decide) rfl (fun ls hl => ?_)
  refine lv_iconst (v := 0) hx hb dL_areZones_2 (by decide) ?_
  refine lv_istore_n (lv' := [(2, .int (0 : Int32)), (1, .int (0 : Int32)), (0, .ref (w.1 12 16))]) hx hb dL_areZones_3 rfl hl (by decide) rfl (fun ls hl => ?_)
  have hL4 : ∀ (n : Nat) (x1 : Int32) (x2 : Int32) (M3 : Mem) (kk : Int32 → Mem → Option (Int32 × Mem)) (H : Heap) (locs : List Loc) (ls : Array Slot) (kc4 ks4 : Nat), kc4 + n * 33 ≤ 297 → ks4 + n * 198 ≤ 1782 → f_L_areZones_L4 n x1 x2 M3 kk = some (r, M9) → mI w s (mA w s.heap.size) H locs M3 → lv_has ls 9 [(0, .ref (w.1 12 16)), (1, .int x1), (2, .int x2)] → (∀ (x1 : Int32) (M3 : Mem) (H : Heap) (locs : List Loc) (ls : Array Slot), kk x1 M3 = some (r, M9) → mI w s (mA w s.heap.size) H locs M3 → lv_has ls 9 [(0, .ref (w.1 12 16)), (1, .int x1)] → W p l e rmL_areZones s m args below meth c H locs 297 1782 (MQ below (mQ w s.heap.size (some (.int r)) M9) args s 300 1800 (mA w s.heap.size)) (F0 m 299 ls [])) → W p l e rmL_areZones s m args below meth c H locs kc4 ks4 (MQ below (mQ w s.heap.size (some (.int r)) M9) args s 300 1800 (mA w s.heap.size)) (F0 m 4 ls []) := by
    intro n
    induction n with
    | zero => intro x1 x2 M3 kk H locs ls kc4 ks4 hkc hks hf hI hl hk; rw [f_L_areZones_L4.eq_1] at hf; cases hf
    | succ n ih4 =>
      intro x1 x2 M3 kk H locs ls kc4 ks4 hkc hks hf hI hl hk
      rw [f_L_areZones_L4.eq_2] at hf
      refine lv_iload_n hx hb dL_areZones_4 rfl (lv_at hl 2 rfl) ?_
      refine lv_bipush (v := 8) hx hb dL_areZones_5 (by decide) ?_
      refine lv_icmp_ge (tgt := 299) hx hb dL_areZones_7 (by decide) (fun c4 => ?_) (fun c4 => ?_)
      · have hf := (if_pos c4).symm.trans hf
        refine W.widen (k := 297) (n := 1782) (by omega) (by omega) ?_
        exact hk x1 M3 H _ _ hf hI (lv_sub hl [0, 1] rfl)
      · have hf := (if_neg c4).symm.trans hf
        refine lv_aload_n hx hb dL_areZones_10 rfl (lv_at hl 0 rfl) ?_
        refine lv_iload_n hx hb dL_areZones_11 rfl (lv_at hl 2 rfl) ?_
        obtain ⟨r5, hc, hf⟩ := mbp_e hf
        refine k_callS (As := [.ref (w.1 12 16), .int x2]) (rest := []) hx hb hml hown hI (c_L_visit l w hsf H.size x2 M3 _ hc) (kb_L_visit hI.T (q673 hI.T) (Nat.le_of_ble_eq_true rfl) (Nat.le_of_ble_eq_true rfl)) (q674 hI.T) rfl hl.1 (Nat.le_of_ble_eq_true rfl) dL_areZones_12 ⟨Nat.le_trans (m := 297) (by omega) (Nat.le_of_ble_eq_true rfl), Nat.le_trans (m := 1782) (by omega) (Nat.le_of_ble_eq_true rfl)⟩ (fun H locs hI => ?_)
        refine lv_istore_n (lv' := [(3, .int r5), (0, .ref (w.1 12 16)), (1, .int x1), (2, .int x2)]) hx hb dL_areZones_15 rfl hl (by decide) rfl (fun ls hl => ?_)
        refine lv_aload_n hx hb dL_areZones_16 rfl (lv_at hl 1 rfl) ?_
        refine lv_iload_n hx hb dL_areZones_17 rfl (lv_at hl 3 rfl) ?_
        refine lv_iconst (v := 1) hx hb dL_areZones_18 (by decide) ?_
        refine lv_iadd hx hb dL_areZones_19 ?_
        refine lv_bipush (v := 8) hx hb dL_areZones_20 (by decide) ?_
        refine lv_irem hx hb dL_areZones_22 (by decide) ?_
        obtain ⟨r6, hc, hf⟩ := mbp_e hf
        refine k_callS (As := [.ref (w.1 12 16), .int (mrem (x2 + (1 : Int32)) (8 : Int32))]) (rest := []) hx hb hml hown hI (c_L_visit l w hsf H.size (mrem (x2 + (1 : Int32)) (8 : Int32)) M3 _ hc) (kb_L_visit hI.T (q673 hI.T) (Nat.le_of_ble_eq_true rfl) (Nat.le_of_ble_eq_true rfl)) (q674 hI.T) rfl hl.1 (Nat.le_of_ble_eq_true rfl) dL_areZones_23 ⟨Nat.le_trans (m := 297) (by omega) (Nat.le_of_ble_eq_true rfl), Nat.le_trans (m := 1782) (by omega) (Nat.le_of_ble_eq_true rfl)⟩ (fun H locs hI => ?_)
        obtain ⟨k48_12, ek48_12, hf⟩ := mlet_e hf
        have hj48_12 : ∀ (x11 : Int32) (H : Heap) (locs : List Loc) (ls : Array Slot), k48_12 x11 = some (r, M9) → mI w s (mA w s.heap.size) H locs M3 → lv_has ls 9 [(0, .ref (w.1 12 16)), (1, .int x1), (2, .int x2), (3, .int r5)] → W p l e rmL_areZones s m args below meth c H locs (kc4 + 12) (ks4 + 72) (MQ below (mQ w s.heap.size (some (.int r)) M9) args s 300 1800 (mA w s.heap.size)) (F0 m 48 ls [.int x11]) := by
          intro x11 H locs ls hf hI hl
          rw [ek48_12] at hf
          try dsimp only at hf
          refine lv_istore (lv' := [(4, .int x11), (0, .ref (w.1 12 16)), (1, .int x1), (2, .int x2), (3, .int r5)]) hx hb dL_areZones_48 hl (by decide) rfl (fun ls hl => ?_)
          refine lv_aload_n hx hb dL_areZones_50 rfl (lv_at hl 1 rfl) ?_
          refine lv_iload_n hx hb dL_areZones_51 rfl (lv_at hl 3 rfl) ?_
          obtain ⟨r13, M14, hc, hf⟩ := mbnd_e hf
          refine k_callH (As := [.ref (w.1 12 16), .int x2]) (rest := []) hx hb hml hown hI (c_L_hoursUntilVisit l w hsf H.size x2 M3 _ _ hc) (k_cw (n := 2) hI.T kc_L_hoursUntilVisit ki_L_hoursUntilVisit (q574 hI.T) (q575 hI.T) (by decide +kernel) ⟨rfl, rfl, Nat.le_of_ble_eq_true rfl, Nat.le_of_ble_eq_true rfl⟩) rfl hl.1 (Nat.le_of_ble_eq_true rfl) dL_areZones_52 ⟨Nat.le_trans (m := 297) (by omega) (Nat.le_of_ble_eq_true rfl), Nat.le_trans (m := 1782) (by omega) (Nat.le_of_ble_eq_true rfl)⟩ (fun H locs hI => ?_)
          refine lv_istore (lv' := [(5, .int r13), (4, .int x11), (0, .ref (w.1 12 16)), (1, .int x1), (2, .int x2), (3, .int r5)]) hx hb dL_areZones_55 hl (by decide) rfl (fun ls hl => ?_)
          refine lv_aload_n hx hb dL_areZones_57 rfl (lv_at hl 2 rfl) ?_
          refine lv_iload_n hx hb dL_areZones_58 rfl (lv_at hl 4 rfl) ?_
          obtain ⟨r15, hc, hf⟩ := mbp_e hf
          refine k_callH (As := [.ref (w.1 12 16), .int x2]) (rest := []) hx hb hml hown hI (c_L_zoneByNoise l w hsf H.size x2 M14 _ hc) (k_cw (n := 2) hI.T kc_L_zoneByNoise ki_L_zoneByNoise (q1485 hI.T) (q1486 hI.T) (by decide +kernel) ⟨rfl, rfl, Nat.le_of_ble_eq_true rfl, Nat.le_of_ble_eq_true rfl⟩) rfl hl.1 (Nat.le_of_ble_eq_true rfl) dL_areZones_59 ⟨Nat.le_trans (m := 297) (by omega) (Nat.le_of_ble_eq_true rfl), Nat.le_trans (m := 1782) (by omega) (Nat.le_of_ble_eq_true rfl)⟩ (fun H locs hI => ?_)
          refine lv_istore (lv' := [(6, .int r15), (5, .int r13), (4, .int x11), (0, .ref (w.1 12 16)), (1, .int x1), (2, .int x2), (3, .int r5)]) hx hb dL_areZones_62 hl (by decide) rfl (fun ls hl => ?_)
          refine lv_iload_n hx hb dL_areZones_64 rfl (lv_at hl 5 rfl) ?_
          obtain ⟨k80_19, ek80_19, hf⟩ := mlet_e hf
          have hj80_19 : ∀ (x18 : Int32) (H : Heap) (locs : List Loc) (ls : Array Slot), k80_19 x18 = some (r, M9) → mI w s (mA w s.heap.size) H locs M14 → lv_has ls 9 [(0, .ref (w.1 12 16)), (1, .int x1), (2, .int x2), (3, .int r5), (4, .int x11), (5, .int r13), (6, .int r15)] → W p l e rmL_areZones s m args below meth c H locs (kc4 + 16) (ks4 + 96) (MQ below (mQ w s.heap.size (some (.int r)) M9) args s 300 1800 (mA w s.heap.size)) (F0 m 80 ls [.int x18]) := by
            intro x18 H locs ls hf hI hl
            rw [ek80_19] at hf
            try dsimp only at hf
            refine lv_istore (lv' := [(7, .int x18), (0, .ref (w.1 12 16)), (1, .int x1), (2, .int x2), (3, .int r5), (4, .int x11), (5, .int r13), (6, .int r15)]) hx hb dL_areZones_80 hl (by decide) rfl (fun ls hl => ?_)
            refine lv_aload_n hx hb dL_areZones_82 rfl (lv_at hl 1 rfl) ?_
            refine lv_iload hx hb dL_areZones_83 (lv_at hl 0 rfl) ?_
            obtain ⟨r20, hc, hf⟩ := mbp_e hf
            refine k_callH (As := [.ref (w.1 12 16), .int x18]) (rest := []) hx hb hml hown hI (c_L_noise l w hsf H.size x18 M14 _ hc) (k_cw (n := 2) hI.T kc_L_noise ki_L_noise (q1372 hI.T) (q1373 hI.T) (by decide +kernel) ⟨rfl, rfl, Nat.le_of_ble_eq_true rfl, Nat.le_of_ble_eq_true rfl⟩) rfl hl.1 (Nat.le_of_ble_eq_true rfl) dL_areZones_85 ⟨Nat.le_trans (m := 297) (by omega) (Nat.le_of_ble_eq_true rfl), Nat.le_trans (m := 1782) (by omega) (Nat.le_of_ble_eq_true rfl)⟩ (fun H locs hI => ?_)
            refine lv_aload_n hx hb dL_areZones_88 rfl (lv_at hl 1 rfl) ?_
            refine lv_iload hx hb dL_areZones_89 (lv_at hl 7 rfl) ?_
            obtain ⟨r21, hc, hf⟩ := mbp_e hf
            refine k_callH (As := [.ref (w.1 12 16), .int r15]) (rest := [.int r20]) hx hb hml hown hI (c_L_noise l w hsf H.size r15 M14 _ hc) (k_cw (n := 2) hI.T kc_L_noise ki_L_noise (q1372 hI.T) (q1373 hI.T) (by decide +kernel) ⟨rfl, rfl, Nat.le_of_ble_eq_true rfl, Nat.le_of_ble_eq_true rfl⟩) rfl hl.1 (Nat.le_of_ble_eq_true rfl) dL_areZones_91 ⟨Nat.le_trans (m := 297) (by omega) (Nat.le_of_ble_eq_true rfl), Nat.le_trans (m := 1782) (by omega) (Nat.le_of_ble_eq_true rfl)⟩ (fun H locs hI => ?_)
            obtain ⟨k158_37, ek158_37, hf⟩ := mlet_e hf
            have hj158_37 : ∀ (x36 : Int32) (H : Heap) (locs : List Loc) (ls : Array Slot), k158_37 x36 = some (r, M9) → mI w s (mA w s.heap.size) H locs M14 → lv_has ls 9 [(0, .ref (w.1 12 16)), (1, .int x1), (2, .int x2), (3, .int r5), (4, .int x11), (5, .int r13)] → W p l e rmL_areZones s m args below meth c H locs (kc4 + 24) (ks4 + 144) (MQ below (mQ w s.heap.size (some (.int r)) M9) args s 300 1800 (mA w s.heap.size)) (F0 m 158 ls [.int x36]) := by
              intro x36 H locs ls hf hI hl
              rw [ek158_37] at hf
              try dsimp only at hf
              refine lv_istore (lv' := [(8, .int x36), (0, .ref (w.1 12 16)), (1, .int x1), (2, .int x2), (3, .int r5), (4, .int x11), (5, .int r13)]) hx hb dL_areZones_158 hl (by decide) rfl (fun ls hl => ?_)
              refine lv_iload_n hx hb dL_areZones_160 rfl (lv_at hl 2 rfl) ?_
              refine lv_aload_n hx hb dL_areZones_161 rfl (lv_at hl 1 rfl) ?_
              refine lv_iload_n hx hb dL_areZones_162 rfl (lv_at hl 3 rfl) ?_
              obtain ⟨r38, hc, hf⟩ := mbp_e hf
              refine k_callH (As := [.ref (w.1 12 16), .int x2]) (rest := [.int x1]) hx hb hml hown hI (c_L_noise l w hsf H.size x2 M14 _ hc) (k_cw (n := 2) hI.T kc_L_noise ki_L_noise (q1372 hI.T) (q1373 hI.T) (by decide +kernel) ⟨rfl, rfl, Nat.le_of_ble_eq_true rfl, Nat.le_of_ble_eq_true rfl⟩) rfl hl.1 (Nat.le_of_ble_eq_true rfl) dL_areZones_163 ⟨Nat.le_trans (m := 297) (by omega) (Nat.le_of_ble_eq_true rfl), Nat.le_trans (m := 1782) (by omega) (Nat.le_of_ble_eq_true rfl)⟩ (fun H locs hI => ?_)
              refine lv_iadd hx hb dL_areZones_166 ?_
              refine lv_topi (fun x39 ex39 => ?_)
              have hf := mlet_s ex39 hf
              refine lv_istore_n (lv' := [(1, .int x39), (8, .int x36), (0, .ref (w.1 12 16)), (2, .int x2), (3, .int r5), (4, .int x11), (5, .int r13)]) hx hb dL_areZones_167 rfl hl (by decide) rfl (fun ls hl => ?_)
              refine lv_aload_n hx hb dL_areZones_168 rfl (lv_at hl 2 rfl) ?_
              refine lv_iload_n hx hb dL_areZones_169 rfl (lv_at hl 3 rfl) ?_
              obtain ⟨r40, hc, hf⟩ := mbp_e hf
              refine k_callH (As := [.ref (w.1 12 16), .int x2]) (rest := []) hx hb hml hown hI (c_L_noise l w hsf H.size x2 M14 _ hc) (k_cw (n := 2) hI.T kc_L_noise ki_L_noise (q1372 hI.T) (q1373 hI.T) (by decide +kernel) ⟨rfl, rfl, Nat.le_of_ble_eq_true rfl, Nat.le_of_ble_eq_true rfl⟩) rfl hl.1 (Nat.le_of_ble_eq_true rfl) dL_areZones_170 ⟨Nat.le_trans (m := 297) (by omega) (Nat.le_of_ble_eq_true rfl), Nat.le_trans (m := 1782) (by omega) (Nat.le_of_ble_eq_true rfl)⟩ (fun H locs hI => ?_)
              refine lv_if_lt (tgt := 261) hx hb dL_areZones_173 (by decide) (fun c41 => ?_) (fun c41 => ?_)
              · have hf := (if_pos c41).symm.trans hf
                refine lv_iconst (v := 0) hx hb dL_areZones_261 (by decide) ?_
                exact k_zretf hx hb hr hlk hI rfl hf dL_areZones_262 (by omega) (by omega)
              · have hf := (if_neg c41).symm.trans hf
                refine lv_aload_n hx hb dL_areZones_176 rfl (lv_at hl 2 rfl) ?_
                refine lv_iload_n hx hb dL_areZones_177 rfl (lv_at hl 3 rfl) ?_
                obtain ⟨r42, hc, hf⟩ := mbp_e hf
                refine k_callH (As := [.ref (w.1 12 16), .int x2]) (rest := []) hx hb hml hown hI (c_L_noise l w hsf H.size x2 M14 _ hc) (k_cw (n := 2) hI.T kc_L_noise ki_L_noise (q1372 hI.T) (q1373 hI.T) (by decide +kernel) ⟨rfl, rfl, Nat.le_of_ble_eq_true rfl, Nat.le_of_ble_eq_true rfl⟩) rfl hl.1 (Nat.le_of_ble_eq_true rfl) dL_areZones_178 ⟨Nat.le_trans (m := 297) (by omega) (Nat.le_of_ble_eq_true rfl), Nat.le_trans (m := 1782) (by omega) (Nat.le_of_ble_eq_true rfl)⟩ (fun H locs hI => ?_)
                refine lv_bipush (v := 20) hx hb dL_areZones_181 (by decide) ?_
                refine lv_icmp_gt (tgt := 261) hx hb dL_areZones_183 (by decide) (fun c43 => ?_) (fun c43 => ?_)
                · have hf := (if_pos c43).symm.trans hf
                  refine lv_iconst (v := 0) hx hb dL_areZones_261 (by decide) ?_
                  exact k_zretf hx hb hr hlk hI rfl hf dL_areZones_262 (by omega) (by omega)
                · have hf := (if_neg c43).symm.trans hf
                  refine lv_iload hx hb dL_areZones_186 (lv_at hl 1 rfl) ?_
                  refine lv_if_eq (tgt := 261) hx hb dL_areZones_188 (by decide) (fun c44 => ?_) (fun c44 => ?_)
                  · have hf := (if_pos c44).symm.trans hf
                    refine lv_iconst (v := 0) hx hb dL_areZones_261 (by decide) ?_
                    exact k_zretf hx hb hr hlk hI rfl hf dL_areZones_262 (by omega) (by omega)
                  · have hf := (if_neg c44).symm.trans hf
                    refine lv_aload_n hx hb dL_areZones_191 rfl (lv_at hl 2 rfl) ?_
                    refine lv_iload_n hx hb dL_areZones_192 rfl (lv_at hl 3 rfl) ?_
                    obtain ⟨r45, hc, hf⟩ := mbp_e hf
                    refine k_callH (As := [.ref (w.1 12 16), .int x2]) (rest := []) hx hb hml hown hI (c_L_isGuarded l w hsf H.size x2 M14 _ hc) (k_cw (n := 2) hI.T kc_L_isGuarded ki_L_isGuarded (q1505 hI.T) (q1506 hI.T) (by decide +kernel) ⟨rfl, rfl, Nat.le_of_ble_eq_true rfl, Nat.le_of_ble_eq_true rfl⟩) rfl hl.1 (Nat.le_of_ble_eq_true rfl) dL_areZones_193 ⟨Nat.le_trans (m := 297) (by omega) (Nat.le_of_ble_eq_true rfl), Nat.le_trans (m := 1782) (by omega) (Nat.le_of_ble_eq_true rfl)⟩ (fun H locs hI => ?_)
                    refine lv_iload_n hx hb dL_areZones_196 rfl (lv_at hl 4 rfl) ?_
                    obtain ⟨k210_50, ek210_50, hf⟩ := mlet_e hf
                    have hj210_50 : ∀ (x49 : Int32) (H : Heap) (locs : List Loc) (ls : Array Slot), k210_50 x49 = some (r, M9) → mI w s (mA w s.heap.size) H locs M14 → lv_has ls 9 [(0, .ref (w.1 12 16)), (1, .int x39), (2, .int x2), (3, .int r5), (5, .int r13)] → W p l e rmL_areZones s m args below meth c H locs (kc4 + 28) (ks4 + 168) (MQ below (mQ w s.heap.size (some (.int r)) M9) args s 300 1800 (mA w s.heap.size)) (F0 m 210 ls [.int x49, .int r45]) := by
                      intro x49 H locs ls hf hI hl
                      rw [ek210_50] at hf
                      try dsimp only at hf
                      refine lv_icmp_ne (tgt := 261) hx hb dL_areZones_210 (by decide) (fun c51 => ?_) (fun c51 => ?_)
                      · have hf := (if_neg c51).symm.trans hf
                        refine lv_iconst (v := 0) hx hb dL_areZones_261 (by decide) ?_
                        exact k_zretf hx hb hr hlk hI rfl hf dL_areZones_262 (by omega) (by omega)
                      · have hf := (if_pos c51).symm.trans hf
                        refine lv_aload_n hx hb dL_areZones_213 rfl (lv_at hl 0 rfl) ?_
                        refine lv_iload_n hx hb dL_areZones_214 rfl (lv_at hl 2 rfl) ?_
                        obtain ⟨r52, hc, hf⟩ := mbp_e hf
                        refine k_callH (As := [.ref (w.1 12 16), .int x2]) (rest := []) hx hb hml hown hI (c_L_hoursUntilVisitByRemainders l w hsf H.size x2 M14 _ hc) (k_cw (n := 2) hI.T kc_L_hoursUntilVisitByRemainders ki_L_hoursUntilVisitByRemainders (q1513 hI.T) (q1514 hI.T) (by decide +kernel) ⟨rfl, rfl, Nat.le_of_ble_eq_true rfl, Nat.le_of_ble_eq_true rfl⟩) rfl hl.1 (Nat.le_of_ble_eq_true rfl) dL_areZones_215 ⟨Nat.le_trans (m := 297) (by omega) (Nat.le_of_ble_eq_true rfl), Nat.le_trans (m := 1782) (by omega) (Nat.le_of_ble_eq_true rfl)⟩ (fun H locs hI => ?_)
                        refine lv_iload hx hb dL_areZones_218 (lv_at hl 4 rfl) ?_
                        refine lv_icmp_ne (tgt := 261) hx hb dL_areZones_220 (by decide) (fun c53 => ?_) (fun c53 => ?_)
                        · have hf := (if_neg c53).symm.trans hf
                          refine lv_iconst (v := 0) hx hb dL_areZones_261 (by decide) ?_
                          exact k_zretf hx hb hr hlk hI rfl hf dL_areZones_262 (by omega) (by omega)
                        · have hf := (if_pos c53).symm.trans hf
                          refine lv_aload_n hx hb dL_areZones_223 rfl (lv_at hl 0 rfl) ?_
                          obtain ⟨r54, hc, hf⟩ := mbp_e hf
                          refine m_callV (As := []) (rest := []) hx hb hml hown hI (c_X11_guardCount l w H.size M14 _ hc) (kb_X11_guardCount hI.T (q676 hI.T) (Nat.le_of_ble_eq_true rfl) (Nat.le_of_ble_eq_true rfl)) (q677 hI.T) (q678 hI.T) (m_recv (g := 12) (i := 16) hI (mokX (by decide) (by decide)) rfl rfl) rfl hl.1 (Nat.le_of_ble_eq_true rfl) dL_areZones_224 ⟨Nat.le_trans (m := 297) (by omega) (Nat.le_of_ble_eq_true rfl), Nat.le_trans (m := 1782) (by omega) (Nat.le_of_ble_eq_true rfl)⟩ (fun H locs hI => ?_)
                          obtain ⟨k263_62, ek263_62, hf⟩ := mlet_e hf
                          have hj263_62 : ∀ (_u : Unit) (H : Heap) (locs : List Loc) (ls : Array Slot), k263_62 _u = some (r, M9) → mI w s (mA w s.heap.size) H locs M14 → lv_has ls 9 [(0, .ref (w.1 12 16)), (1, .int x39), (2, .int x2)] → W p l e rmL_areZones s m args below meth c H locs (kc4 + 30) (ks4 + 180) (MQ below (mQ w s.heap.size (some (.int r)) M9) args s 300 1800 (mA w s.heap.size)) (F0 m 263 ls []) := by
                            intro _u H locs ls hf hI hl
                            rw [ek263_62] at hf
                            try dsimp only at hf
                            refine lv_aload_n hx hb dL_areZones_263 rfl (lv_at hl 0 rfl) ?_
                            obtain ⟨r63, hc, hf⟩ := mbp_e hf
                            refine m_callV (As := []) (rest := []) hx hb hml hown hI (c_X11_alarmCount l w H.size M14 _ hc) (kb_X11_alarmCount hI.T (q355 hI.T) (Nat.le_of_ble_eq_true rfl) (Nat.le_of_ble_eq_true rfl)) (q356 hI.T) (q357 hI.T) (m_recv (g := 12) (i := 16) hI (mokX (by decide) (by decide)) rfl rfl) rfl hl.1 (Nat.le_of_ble_eq_true rfl) dL_areZones_264 ⟨Nat.le_trans (m := 297) (by omega) (Nat.le_of_ble_eq_true rfl), Nat.le_trans (m := 1782) (by omega) (Nat.le_of_ble_eq_true rfl)⟩ (fun H locs hI => ?_)
                            obtain ⟨k293_69, ek293_69, hf⟩ := mlet_e hf
                            have hj293_69 : ∀ (_u : Unit) (H : Heap) (locs : List Loc) (ls : Array Slot), k293_69 _u = some (r, M9) → mI w s (mA w s.heap.size) H locs M14 → lv_has ls 9 [(0, .ref (w.1 12 16)), (1, .int x39), (2, .int x2)] → W p l e rmL_areZones s m args below meth c H locs (kc4 + 33) (ks4 + 198) (MQ below (mQ w s.heap.size (some (.int r)) M9) args s 300 1800 (mA w s.heap.size)) (F0 m 293 ls []) := by
                              intro _u H locs ls hf hI hl
                              rw [ek293_69] at hf
                              try dsimp only at hf
                              obtain ⟨x70, ex70, hf⟩ := mlet_e hf
                              refine lv_iinc (v := x70) (lv' := [(2, .int x70), (0, .ref (w.1 12 16)), (1, .int x39)]) hx hb dL_areZones_293 hl (k := 2) rfl (by rw [ex70]; rfl) (by decide) rfl (fun ls hl => ?_)
                              refine lv_goto (tgt := 4) hx hb dL_areZones_296 (by decide) ?_
                              exact ih4 x39 x70 M14 kk H _ _ _ _ (by omega) (by omega) hf hI (lv_sub hl [1, 2, 0] rfl) hk
                            refine lv_if_le (tgt := 293) hx hb dL_areZones_267 (by decide) (fun c64 => ?_) (fun c64 => ?_)
                            · have hf := (if_pos c64).symm.trans hf
                              refine W.widen (k := (kc4 + 33)) (n := (ks4 + 198)) (by omega) (by omega) ?_
                              exact hj293_69 () H _ _ hf hI (lv_sub hl [0, 1, 2] rfl)
                            · have hf := (if_neg c64).symm.trans hf
                              refine lv_aload_n hx hb dL_areZones_270 rfl (lv_at hl 0 rfl) ?_
                              refine lv_iload_n hx hb dL_areZones_271 rfl (lv_at hl 2 rfl) ?_
                              obtain ⟨r65, hc, hf⟩ := mbp_e hf
                              refine k_callH (As := [.ref (w.1 12 16), .int x2]) (rest := []) hx hb hml hown hI (c_L_alarmShare l w hsf H.size x2 M14 _ hc) (k_cw (n := 2) hI.T kc_L_alarmShare ki_L_alarmShare (q1530 hI.T) (q1531 hI.T) (by decide +kernel) ⟨rfl, rfl, Nat.le_of_ble_eq_true rfl, Nat.le_of_ble_eq_true rfl⟩) rfl hl.1 (Nat.le_of_ble_eq_true rfl) dL_areZones_272 ⟨Nat.le_trans (m := 297) (by omega) (Nat.le_of_ble_eq_true rfl), Nat.le_trans (m := 1782) (by omega) (Nat.le_of_ble_eq_true rfl)⟩ (fun H locs hI => ?_)
                              refine lv_aload_n hx hb dL_areZones_275 rfl (lv_at hl 0 rfl) ?_
                              refine lv_iload_n hx hb dL_areZones_276 rfl (lv_at hl 2 rfl) ?_
                              obtain ⟨r66, hc, hf⟩ := mbp_e hf
                              refine k_callH (As := [.ref (w.1 12 16), .int x2]) (rest := [.float r65]) hx hb hml hown hI (c_L_alarmsOf l w hsf H.size x2 M14 _ hc) (k_cw (n := 2) hI.T kc_L_alarmsOf ki_L_alarmsOf (q1379 hI.T) (q1380 hI.T) (by decide +kernel) ⟨rfl, rfl, Nat.le_of_ble_eq_true rfl, Nat.le_of_ble_eq_true rfl⟩) rfl hl.1 (Nat.le_of_ble_eq_true rfl) dL_areZones_277 ⟨Nat.le_trans (m := 297) (by omega) (Nat.le_of_ble_eq_true rfl), Nat.le_trans (m := 1782) (by omega) (Nat.le_of_ble_eq_true rfl)⟩ (fun H locs hI => ?_)
                              refine lv_i2f hx hb dL_areZones_280 ?_
                              refine lv_aload_n hx hb dL_areZones_281 rfl (lv_at hl 0 rfl) ?_
                              obtain ⟨r67, hc, hf⟩ := mbp_e hf
                              refine m_callV (As := []) (rest := [.float (FP.i2f r66), .float r65]) hx hb hml hown hI (c_X11_alarmCount l w H.size M14 _ hc) (kb_X11_alarmCount hI.T (q355 hI.T) (Nat.le_of_ble_eq_true rfl) (Nat.le_of_ble_eq_true rfl)) (q356 hI.T) (q357 hI.T) (m_recv (g := 12) (i := 16) hI (mokX (by decide) (by decide)) rfl rfl) rfl hl.1 (Nat.le_of_ble_eq_true rfl) dL_areZones_282 ⟨Nat.le_trans (m := 297) (by omega) (Nat.le_of_ble_eq_true rfl), Nat.le_trans (m := 1782) (by omega) (Nat.le_of_ble_eq_true rfl)⟩ (fun H locs hI => ?_)
                              refine lv_i2f hx hb dL_areZones_285 ?_
                              obtain ⟨hd, hf⟩ := mn32_e hf
                              refine lv_fdiv hx hb dL_areZones_286 hd ?_
                              refine k_fcmpl hx hb dL_areZones_287 ?_
                              refine lv_if_eq (tgt := 293) hx hb dL_areZones_288 (by decide) (fun c68 => ?_) (fun c68 => ?_)
                              · have hf := (if_pos c68).symm.trans hf
                                exact hj293_69 () H _ _ hf hI (lv_sub hl [0, 1, 2] rfl)
                              · have hf := (if_neg c68).symm.trans hf
                                refine lv_iconst (v := 0) hx hb dL_areZones_291 (by decide) ?_
                                exact k_zretf hx hb hr hlk hI rfl hf dL_areZones_292 (by omega) (by omega)
                          refine lv_if_ne (tgt := 240) hx hb dL_areZones_227 (by decide) (fun c55 => ?_) (fun c55 => ?_)
                          · have hf := (if_neg c55).symm.trans hf
                            refine lv_iload hx hb dL_areZones_240 (lv_at hl 4 rfl) ?_
                            obtain ⟨k250_58, ek250_58, hf⟩ := mlet_e hf
                            have hj250_58 : ∀ (x57 : Int32) (H : Heap) (locs : List Loc) (ls : Array Slot), k250_58 x57 = some (r, M9) → mI w s (mA w s.heap.size) H locs M14 → lv_has ls 9 [(0, .ref (w.1 12 16)), (1, .int x39), (2, .int x2), (3, .int r5), (5, .int r13)] → W p l e rmL_areZones s m args below meth c H locs (kc4 + 30) (ks4 + 180) (MQ below (mQ w s.heap.size (some (.int r)) M9) args s 300 1800 (mA w s.heap.size)) (F0 m 250 ls [.int x57]) := by
                              intro x57 H locs ls hf hI hl
                              rw [ek250_58] at hf
                              try dsimp only at hf
                              refine lv_iload_n hx hb dL_areZones_250 rfl (lv_at hl 3 rfl) ?_
                              refine lv_icmp_ne (tgt := 261) hx hb dL_areZones_251 (by decide) (fun c59 => ?_) (fun c59 => ?_)
                              · have hf := (if_neg c59).symm.trans hf
                                refine lv_iconst (v := 0) hx hb dL_areZones_261 (by decide) ?_
                                exact k_zretf hx hb hr hlk hI rfl hf dL_areZones_262 (by omega) (by omega)
                              · have hf := (if_pos c59).symm.trans hf
                                refine lv_iload hx hb dL_areZones_254 (lv_at hl 4 rfl) ?_
                                refine lv_bipush (v := 32) hx hb dL_areZones_256 (by decide) ?_
                                refine lv_icmp_le (tgt := 263) hx hb dL_areZones_258 (by decide) (fun c60 => ?_) (fun c60 => ?_)
                                · have hf := (if_pos c60).symm.trans hf
                                  exact hj263_62 () H _ _ hf hI (lv_sub hl [0, 1, 2] rfl)
                                · have hf := (if_neg c60).symm.trans hf
                                  refine lv_iconst (v := 0) hx hb dL_areZones_261 (by decide) ?_
                                  exact k_zretf hx hb hr hlk hI rfl hf dL_areZones_262 (by omega) (by omega)
                            refine lv_if_ne (tgt := 249) hx hb dL_areZones_242 (by decide) (fun c56 => ?_) (fun c56 => ?_)
                            · have hf := (if_neg c56).symm.trans hf
                              refine lv_iconst (v := 0) hx hb dL_areZones_249 (by decide) ?_
                              exact hj250_58 (0 : Int32) H _ _ hf hI (lv_sub hl [0, 1, 2, 3, 4] rfl)
                            · have hf := (if_pos c56).symm.trans hf
                              refine lv_iconst (v := 1) hx hb dL_areZones_245 (by decide) ?_
                              refine lv_goto (tgt := 250) hx hb dL_areZones_246 (by decide) ?_
                              exact hj250_58 (1 : Int32) H _ _ hf hI (lv_sub hl [0, 1, 2, 3, 4] rfl)
                          · have hf := (if_pos c55).symm.trans hf
                            refine lv_iload hx hb dL_areZones_230 (lv_at hl 4 rfl) ?_
                            refine lv_bipush (v := (-75)) hx hb dL_areZones_232 (by decide) ?_
                            refine lv_icmp_eq (tgt := 263) hx hb dL_areZones_234 (by decide) (fun c61 => ?_) (fun c61 => ?_)
                            · have hf := (if_pos c61).symm.trans hf
                              exact hj263_62 () H _ _ hf hI (lv_sub hl [0, 1, 2] rfl)
                            · have hf := (if_neg c61).symm.trans hf
                              refine lv_goto (tgt := 261) hx hb dL_areZones_237 (by decide) ?_
                              refine lv_iconst (v := 0) hx hb dL_areZones_261 (by decide) ?_
                              exact k_zretf hx hb hr hlk hI rfl hf dL_areZones_262 (by omega) (by omega)
                    obtain ⟨k205_48, ek205_48, hf⟩ := mlet_e hf
                    have hj205_48 : ∀ (_u : Unit) (H : Heap) (locs : List Loc) (ls : Array Slot), k205_48 _u = some (r, M9) → mI w s (mA w s.heap.size) H locs M14 → lv_has ls 9 [(0, .ref (w.1 12 16)), (1, .int x39), (2, .int x2), (3, .int r5), (5, .int r13)] → W p l e rmL_areZones s m args below meth c H locs (kc4 + 28) (ks4 + 168) (MQ below (mQ w s.heap.size (some (.int r)) M9) args s 300 1800 (mA w s.heap.size)) (F0 m 205 ls [.int r45]) := by
                      intro _u H locs ls hf hI hl
                      rw [ek205_48] at hf
                      try dsimp only at hf
                      refine lv_iconst (v := 1) hx hb dL_areZones_205 (by decide) ?_
                      refine lv_goto (tgt := 210) hx hb dL_areZones_206 (by decide) ?_
                      exact hj210_50 (1 : Int32) H _ _ hf hI (lv_sub hl [0, 1, 2, 3, 4] rfl)
                    refine lv_if_ne (tgt := 205) hx hb dL_areZones_197 (by decide) (fun c46 => ?_) (fun c46 => ?_)
                    · have hf := (if_neg c46).symm.trans hf
                      exact hj205_48 () H _ _ hf hI (lv_sub hl [2, 0, 3, 4, 6] rfl)
                    · have hf := (if_pos c46).symm.trans hf
                      refine lv_iload hx hb dL_areZones_200 (lv_at hl 5 rfl) ?_
                      refine lv_if_eq (tgt := 209) hx hb dL_areZones_202 (by decide) (fun c47 => ?_) (fun c47 => ?_)
                      · have hf := (if_pos c47).symm.trans hf
                        refine lv_iconst (v := 0) hx hb dL_areZones_209 (by decide) ?_
                        exact hj210_50 (0 : Int32) H _ _ hf hI (lv_sub hl [2, 0, 3, 4, 6] rfl)
                      · have hf := (if_neg c47).symm.trans hf
                        exact hj205_48 () H _ _ hf hI (lv_sub hl [2, 0, 3, 4, 6] rfl)
            obtain ⟨k153_35, ek153_35, hf⟩ := mlet_e hf
            have hj153_35 : ∀ (_u : Unit) (H : Heap) (locs : List Loc) (ls : Array Slot), k153_35 _u = some (r, M9) → mI w s (mA w s.heap.size) H locs M14 → lv_has ls 9 [(0, .ref (w.1 12 16)), (1, .int x1), (2, .int x2), (3, .int r5), (4, .int x11), (5, .int r13)] → W p l e rmL_areZones s m args below meth c H locs (kc4 + 24) (ks4 + 144) (MQ below (mQ w s.heap.size (some (.int r)) M9) args s 300 1800 (mA w s.heap.size)) (F0 m 153 ls []) := by
              intro _u H locs ls hf hI hl
              rw [ek153_35] at hf
              try dsimp only at hf
              refine lv_iconst (v := 1) hx hb dL_areZones_153 (by decide) ?_
              refine lv_goto (tgt := 158) hx hb dL_areZones_154 (by decide) ?_
              exact hj158_37 (1 : Int32) H _ _ hf hI (lv_sub hl [0, 1, 2, 3, 4, 5] rfl)
            refine lv_icmp_gt (tgt := 153) hx hb dL_areZones_94 (by decide) (fun c22 => ?_) (fun c22 => ?_)
            · have hf := (if_pos c22).symm.trans hf
              refine W.widen (k := (kc4 + 24)) (n := (ks4 + 144)) (by omega) (by omega) ?_
              exact hj153_35 () H _ _ hf hI (lv_sub hl [1, 2, 3, 4, 5, 6] rfl)
            · have hf := (if_neg c22).symm.trans hf
              refine lv_aload_n hx hb dL_areZones_97 rfl (lv_at hl 1 rfl) ?_
              refine lv_iload hx hb dL_areZones_98 (lv_at hl 0 rfl) ?_
              obtain ⟨r23, hc, hf⟩ := mbp_e hf
              refine k_callH (As := [.ref (w.1 12 16), .int x18]) (rest := []) hx hb hml hown hI (c_L_noise l w hsf H.size x18 M14 _ hc) (k_cw (n := 2) hI.T kc_L_noise ki_L_noise (q1372 hI.T) (q1373 hI.T) (by decide +kernel) ⟨rfl, rfl, Nat.le_of_ble_eq_true rfl, Nat.le_of_ble_eq_true rfl⟩) rfl hl.1 (Nat.le_of_ble_eq_true rfl) dL_areZones_100 ⟨Nat.le_trans (m := 297) (by omega) (Nat.le_of_ble_eq_true rfl), Nat.le_trans (m := 1782) (by omega) (Nat.le_of_ble_eq_true rfl)⟩ (fun H locs hI => ?_)
              refine lv_aload_n hx hb dL_areZones_103 rfl (lv_at hl 1 rfl) ?_
              refine lv_iload hx hb dL_areZones_104 (lv_at hl 7 rfl) ?_
              obtain ⟨r24, hc, hf⟩ := mbp_e hf
              refine k_callH (As := [.ref (w.1 12 16), .int r15]) (rest := [.int r23]) hx hb hml hown hI (c_L_noise l w hsf H.size r15 M14 _ hc) (k_cw (n := 2) hI.T kc_L_noise ki_L_noise (q1372 hI.T) (q1373 hI.T) (by decide +kernel) ⟨rfl, rfl, Nat.le_of_ble_eq_true rfl, Nat.le_of_ble_eq_true rfl⟩) rfl hl.1 (Nat.le_of_ble_eq_true rfl) dL_areZones_106 ⟨Nat.le_trans (m := 297) (by omega) (Nat.le_of_ble_eq_true rfl), Nat.le_trans (m := 1782) (by omega) (Nat.le_of_ble_eq_true rfl)⟩ (fun H locs hI => ?_)
              obtain ⟨k157_34, ek157_34, hf⟩ := mlet_e hf
              have hj157_34 : ∀ (_u : Unit) (H : Heap) (locs : List Loc) (ls : Array Slot), k157_34 _u = some (r, M9) → mI w s (mA w s.heap.size) H locs M14 → lv_has ls 9 [(0, .ref (w.1 12 16)), (1, .int x1), (2, .int x2), (3, .int r5), (4, .int x11), (5, .int r13)] → W p l e rmL_areZones s m args below meth c H locs (kc4 + 24) (ks4 + 144) (MQ below (mQ w s.heap.size (some (.int r)) M9) args s 300 1800 (mA w s.heap.size)) (F0 m 157 ls []) := by
                intro _u H locs ls hf hI hl
                rw [ek157_34] at hf
                try dsimp only at hf
                refine lv_iconst (v := 0) hx hb dL_areZones_157 (by decide) ?_
                exact hj158_37 (0 : Int32) H _ _ hf hI (lv_sub hl [0, 1, 2, 3, 4, 5] rfl)
              refine lv_icmp_ne (tgt := 157) hx hb dL_areZones_109 (by decide) (fun c25 => ?_) (fun c25 => ?_)
              · have hf := (if_neg c25).symm.trans hf
                refine W.widen (k := (kc4 + 24)) (n := (ks4 + 144)) (by omega) (by omega) ?_
                exact hj157_34 () H _ _ hf hI (lv_sub hl [1, 2, 3, 4, 5, 6] rfl)
              · have hf := (if_pos c25).symm.trans hf
                refine lv_aload_n hx hb dL_areZones_112 rfl (lv_at hl 1 rfl) ?_
                refine lv_iload hx hb dL_areZones_113 (lv_at hl 0 rfl) ?_
                obtain ⟨r26, hc, hf⟩ := mbp_e hf
                refine k_callH (As := [.ref (w.1 12 16), .int x18]) (rest := []) hx hb hml hown hI (c_L_alarmsOf l w hsf H.size x18 M14 _ hc) (k_cw (n := 2) hI.T kc_L_alarmsOf ki_L_alarmsOf (q1379 hI.T) (q1380 hI.T) (by decide +kernel) ⟨rfl, rfl, Nat.le_of_ble_eq_true rfl, Nat.le_of_ble_eq_true rfl⟩) rfl hl.1 (Nat.le_of_ble_eq_true rfl) dL_areZones_115 ⟨Nat.le_trans (m := 297) (by omega) (Nat.le_of_ble_eq_true rfl), Nat.le_trans (m := 1782) (by omega) (Nat.le_of_ble_eq_true rfl)⟩ (fun H locs hI => ?_)
                refine lv_aload_n hx hb dL_areZones_118 rfl (lv_at hl 1 rfl) ?_
                refine lv_iload hx hb dL_areZones_119 (lv_at hl 7 rfl) ?_
                obtain ⟨r27, hc, hf⟩ := mbp_e hf
                refine k_callH (As := [.ref (w.1 12 16), .int r15]) (rest := [.int r26]) hx hb hml hown hI (c_L_alarmsOf l w hsf H.size r15 M14 _ hc) (k_cw (n := 2) hI.T kc_L_alarmsOf ki_L_alarmsOf (q1379 hI.T) (q1380 hI.T) (by decide +kernel) ⟨rfl, rfl, Nat.le_of_ble_eq_true rfl, Nat.le_of_ble_eq_true rfl⟩) rfl hl.1 (Nat.le_of_ble_eq_true rfl) dL_areZones_121 ⟨Nat.le_trans (m := 297) (by omega) (Nat.le_of_ble_eq_true rfl), Nat.le_trans (m := 1782) (by omega) (Nat.le_of_ble_eq_true rfl)⟩ (fun H locs hI => ?_)
                refine lv_icmp_gt (tgt := 153) hx hb dL_areZones_124 (by decide) (fun c28 => ?_) (fun c28 => ?_)
                · have hf := (if_pos c28).symm.trans hf
                  refine W.widen (k := (kc4 + 24)) (n := (ks4 + 144)) (by omega) (by omega) ?_
                  exact hj153_35 () H _ _ hf hI (lv_sub hl [1, 2, 3, 4, 5, 6] rfl)
                · have hf := (if_neg c28).symm.trans hf
                  refine lv_aload_n hx hb dL_areZones_127 rfl (lv_at hl 1 rfl) ?_
                  refine lv_iload hx hb dL_areZones_128 (lv_at hl 0 rfl) ?_
                  obtain ⟨r29, hc, hf⟩ := mbp_e hf
                  refine k_callH (As := [.ref (w.1 12 16), .int x18]) (rest := []) hx hb hml hown hI (c_L_alarmsOf l w hsf H.size x18 M14 _ hc) (k_cw (n := 2) hI.T kc_L_alarmsOf ki_L_alarmsOf (q1379 hI.T) (q1380 hI.T) (by decide +kernel) ⟨rfl, rfl, Nat.le_of_ble_eq_true rfl, Nat.le_of_ble_eq_true rfl⟩) rfl hl.1 (Nat.le_of_ble_eq_true rfl) dL_areZones_130 ⟨Nat.le_trans (m := 297) (by omega) (Nat.le_of_ble_eq_true rfl), Nat.le_trans (m := 1782) (by omega) (Nat.le_of_ble_eq_true rfl)⟩ (fun H locs hI => ?_)
                  refine lv_aload_n hx hb dL_areZones_133 rfl (lv_at hl 1 rfl) ?_
                  refine lv_iload hx hb dL_areZones_134 (lv_at hl 7 rfl) ?_
                  obtain ⟨r30, hc, hf⟩ := mbp_e hf
                  refine k_callH (As := [.ref (w.1 12 16), .int r15]) (rest := [.int r29]) hx hb hml hown hI (c_L_alarmsOf l w hsf H.size r15 M14 _ hc) (k_cw (n := 2) hI.T kc_L_alarmsOf ki_L_alarmsOf (q1379 hI.T) (q1380 hI.T) (by decide +kernel) ⟨rfl, rfl, Nat.le_of_ble_eq_true rfl, Nat.le_of_ble_eq_true rfl⟩) rfl hl.1 (Nat.le_of_ble_eq_true rfl) dL_areZones_136 ⟨Nat.le_trans (m := 297) (by omega) (Nat.le_of_ble_eq_true rfl), Nat.le_trans (m := 1782) (by omega) (Nat.le_of_ble_eq_true rfl)⟩ (fun H locs hI => ?_)
                  refine lv_icmp_ne (tgt := 157) hx hb dL_areZones_139 (by decide) (fun c31 => ?_) (fun c31 => ?_)
                  · have hf := (if_neg c31).symm.trans hf
                    exact hj157_34 () H _ _ hf hI (lv_sub hl [1, 2, 3, 4, 5, 6] rfl)
                  · have hf := (if_pos c31).symm.trans hf
                    refine lv_iload_n hx hb dL_areZones_142 rfl (lv_at hl 3 rfl) ?_
                    refine lv_if_eq (tgt := 153) hx hb dL_areZones_143 (by decide) (fun c32 => ?_) (fun c32 => ?_)
                    · have hf := (if_pos c32).symm.trans hf
                      exact hj153_35 () H _ _ hf hI (lv_sub hl [1, 2, 3, 4, 5, 6] rfl)
                    · have hf := (if_neg c32).symm.trans hf
                      refine lv_iload hx hb dL_areZones_146 (lv_at hl 0 rfl) ?_
                      refine lv_iload hx hb dL_areZones_148 (lv_at hl 7 rfl) ?_
                      refine lv_icmp_ge (tgt := 157) hx hb dL_areZones_150 (by decide) (fun c33 => ?_) (fun c33 => ?_)
                      · have hf := (if_pos c33).symm.trans hf
                        exact hj157_34 () H _ _ hf hI (lv_sub hl [1, 2, 3, 4, 5, 6] rfl)
                      · have hf := (if_neg c33).symm.trans hf
                        exact hj153_35 () H _ _ hf hI (lv_sub hl [1, 2, 3, 4, 5, 6] rfl)
          refine lv_if_ne (tgt := 73) hx hb dL_areZones_65 (by decide) (fun c16 => ?_) (fun c16 => ?_)
          · have hf := (if_neg c16).symm.trans hf
            refine lv_aload_n hx hb dL_areZones_73 rfl (lv_at hl 3 rfl) ?_
            refine lv_iload_n hx hb dL_areZones_74 rfl (lv_at hl 5 rfl) ?_
            refine lv_iconst (v := 1) hx hb dL_areZones_75 (by decide) ?_
            refine lv_isub hx hb dL_areZones_76 ?_
            obtain ⟨r17, hc, hf⟩ := mbp_e hf
            refine k_callH (As := [.ref (w.1 12 16), .int (x2 - (1 : Int32))]) (rest := []) hx hb hml hown hI (c_L_zoneByNoise l w hsf H.size (x2 - (1 : Int32)) M14 _ hc) (k_cw (n := 2) hI.T kc_L_zoneByNoise ki_L_zoneByNoise (q1485 hI.T) (q1486 hI.T) (by decide +kernel) ⟨rfl, rfl, Nat.le_of_ble_eq_true rfl, Nat.le_of_ble_eq_true rfl⟩) rfl hl.1 (Nat.le_of_ble_eq_true rfl) dL_areZones_77 ⟨Nat.le_trans (m := 297) (by omega) (Nat.le_of_ble_eq_true rfl), Nat.le_trans (m := 1782) (by omega) (Nat.le_of_ble_eq_true rfl)⟩ (fun H locs hI => ?_)
            exact hj80_19 r17 H _ _ hf hI (lv_sub hl [3, 4, 5, 6, 2, 1, 0] rfl)
          · have hf := (if_pos c16).symm.trans hf
            refine lv_iload hx hb dL_areZones_68 (lv_at hl 0 rfl) ?_
            refine lv_goto (tgt := 80) hx hb dL_areZones_70 (by decide) ?_
            refine W.widen (k := (kc4 + 16)) (n := (ks4 + 96)) (by omega) (by omega) ?_
            exact hj80_19 r15 H _ _ hf hI (lv_sub hl [3, 4, 5, 6, 2, 1, 0] rfl)
        obtain ⟨k43_10, ek43_10, hf⟩ := mlet_e hf
        have hj43_10 : ∀ (_u : Unit) (H : Heap) (locs : List Loc) (ls : Array Slot), k43_10 _u = some (r, M9) → mI w s (mA w s.heap.size) H locs M3 → lv_has ls 9 [(0, .ref (w.1 12 16)), (1, .int x1), (2, .int x2), (3, .int r5)] → W p l e rmL_areZones s m args below meth c H locs (kc4 + 12) (ks4 + 72) (MQ below (mQ w s.heap.size (some (.int r)) M9) args s 300 1800 (mA w s.heap.size)) (F0 m 43 ls []) := by
          intro _u H locs ls hf hI hl
          rw [ek43_10] at hf
          try dsimp only at hf
          refine lv_iconst (v := 1) hx hb dL_areZones_43 (by decide) ?_
          refine lv_goto (tgt := 48) hx hb dL_areZones_44 (by decide) ?_
          exact hj48_12 (1 : Int32) H _ _ hf hI (lv_sub hl [0, 1, 2, 3] rfl)
        refine lv_if_ne (tgt := 43) hx hb dL_areZones_26 (by decide) (fun c7 => ?_) (fun c7 => ?_)
        · have hf := (if_neg c7).symm.trans hf
          refine W.widen (k := (kc4 + 12)) (n := (ks4 + 72)) (by omega) (by omega) ?_
          exact hj43_10 () H _ _ hf hI (lv_sub hl [1, 2, 3, 0] rfl)
        · have hf := (if_pos c7).symm.trans hf
          refine lv_aload_n hx hb dL_areZones_29 rfl (lv_at hl 1 rfl) ?_
          refine lv_iload_n hx hb dL_areZones_30 rfl (lv_at hl 3 rfl) ?_
          refine lv_bipush (v := 7) hx hb dL_areZones_31 (by decide) ?_
          refine lv_iadd hx hb dL_areZones_33 ?_
          refine lv_bipush (v := 8) hx hb dL_areZones_34 (by decide) ?_
          refine lv_irem hx hb dL_areZones_36 (by decide) ?_
          obtain ⟨r8, hc, hf⟩ := mbp_e hf
          refine k_callS (As := [.ref (w.1 12 16), .int (mrem (x2 + (7 : Int32)) (8 : Int32))]) (rest := []) hx hb hml hown hI (c_L_visit l w hsf H.size (mrem (x2 + (7 : Int32)) (8 : Int32)) M3 _ hc) (kb_L_visit hI.T (q673 hI.T) (Nat.le_of_ble_eq_true rfl) (Nat.le_of_ble_eq_true rfl)) (q674 hI.T) rfl hl.1 (Nat.le_of_ble_eq_true rfl) dL_areZones_37 ⟨Nat.le_trans (m := 297) (by omega) (Nat.le_of_ble_eq_true rfl), Nat.le_trans (m := 1782) (by omega) (Nat.le_of_ble_eq_true rfl)⟩ (fun H locs hI => ?_)
          refine lv_if_eq (tgt := 47) hx hb dL_areZones_40 (by decide) (fun c9 => ?_) (fun c9 => ?_)
          · have hf := (if_pos c9).symm.trans hf
            refine lv_iconst (v := 0) hx hb dL_areZones_47 (by decide) ?_
            exact hj48_12 (0 : Int32) H _ _ hf hI (lv_sub hl [1, 2, 3, 0] rfl)
          · have hf := (if_neg c9).symm.trans hf
            exact hj43_10 () H _ _ hf hI (lv_sub hl [1, 2, 3, 0] rfl)
  refine hL4 9 (0 : Int32) (0 : Int32) M _ _ _ _ _ _ (Nat.le_of_ble_eq_true rfl) (Nat.le_of_ble_eq_true rfl) hf hI (lv_sub hl [2, 1, 0] rfl) ?_
  intro x71 M72 H locs ls hf hI hl
  try dsimp only at hf
  refine lv_aload_n hx hb dL_areZones_299 rfl (lv_at hl 0 rfl) ?_
  obtain ⟨r73, hc, hf⟩ := mbp_e hf
  refine m_callV (As := []) (rest := []) hx hb hml hown hI (c_X11_meanNoise l w H.size M72 _ hc) (kb_X11_meanNoise hI.T (q1556 hI.T) (Nat.le_of_ble_eq_true rfl) (Nat.le_of_ble_eq_true rfl)) (q1557 hI.T) (q1558 hI.T) (m_recv (g := 12) (i := 16) hI (mokX (by decide) (by decide)) rfl rfl) rfl hl.1 (Nat.le_of_ble_eq_true rfl) dL_areZones_300 ⟨Nat.le_of_ble_eq_true rfl, Nat.le_of_ble_eq_true rfl⟩ (fun H locs hI => ?_)
  refine lv_iload_n hx hb dL_areZones_303 rfl (lv_at hl 1 rfl) ?_
  refine lv_i2d hx hb dL_areZones_304 ?_
  refine lv_ldc2d hx hb hown (q1564 hI.T) dL_areZones_305 ?_
  obtain ⟨hd, hf⟩ := mn64_e hf
  refine lv_ddiv hx hb dL_areZones_308 hd ?_
  refine k_dcmpl hx hb dL_areZones_309 ?_
  refine lv_if_ne (tgt := 340) hx hb dL_areZones_310 (by decide) (fun c74 => ?_) (fun c74 => ?_)
  · have hf := (if_neg c74).symm.trans hf
    refine lv_iconst (v := 0) hx hb dL_areZones_340 (by decide) ?_
    exact k_zretf hx hb hr hlk hI rfl hf dL_areZones_341 (Nat.le_of_ble_eq_true rfl) (Nat.le_of_ble_eq_true rfl)
  · have hf := (if_pos c74).symm.trans hf
    refine lv_aload_n hx hb dL_areZones_313 rfl (lv_at hl 0 rfl) ?_
    refine lv_iconst (v := 0) hx hb dL_areZones_314 (by decide) ?_
    obtain ⟨r75, M76, hc, hf⟩ := mbnd_e hf
    refine k_callH (As := [.ref (w.1 12 16), .int (0 : Int32)]) (rest := []) hx hb hml hown hI (c_L_alarmsIn l w hsf H.size (0 : Int32) M72 _ _ hc) (k_cw (n := 2) hI.T kc_L_alarmsIn ki_L_alarmsIn (q629 hI.T) (q630 hI.T) (by decide +kernel) ⟨rfl, rfl, Nat.le_of_ble_eq_true rfl, Nat.le_of_ble_eq_true rfl⟩) rfl hl.1 (Nat.le_of_ble_eq_true rfl) dL_areZones_315 ⟨Nat.le_of_ble_eq_true rfl, Nat.le_of_ble_eq_true rfl⟩ (fun H locs hI => ?_)
    refine lv_if_ne (tgt := 340) hx hb dL_areZones_318 (by decide) (fun c77 => ?_) (fun c77 => ?_)
    · have hf := (if_neg c77).symm.trans hf
      refine lv_iconst (v := 0) hx hb dL_areZones_340 (by decide) ?_
      exact k_zretf hx hb hr hlk hI rfl hf dL_areZones_341 (Nat.le_of_ble_eq_true rfl) (Nat.le_of_ble_eq_true rfl)
    · have hf := (if_pos c77).symm.trans hf
      refine lv_aload_n hx hb dL_areZones_321 rfl (lv_at hl 0 rfl) ?_
      refine lv_bipush (v := 24) hx hb dL_areZones_322 (by decide) ?_
      obtain ⟨r78, M79, hc, hf⟩ := mbnd_e hf
      refine k_callH (As := [.ref (w.1 12 16), .int (24 : Int32)]) (rest := []) hx hb hml hown hI (c_L_alarmsIn l w hsf H.size (24 : Int32) M76 _ _ hc) (k_cw (n := 2) hI.T kc_L_alarmsIn ki_L_alarmsIn (q629 hI.T) (q630 hI.T) (by decide +kernel) ⟨rfl, rfl, Nat.le_of_ble_eq_true rfl, Nat.le_of_ble_eq_true rfl⟩) rfl hl.1 (Nat.le_of_ble_eq_true rfl) dL_areZones_324 ⟨Nat.le_of_ble_eq_true rfl, Nat.le_of_ble_eq_true rfl⟩ (fun H locs hI => ?_)
      refine lv_aload_n hx hb dL_areZones_327 rfl (lv_at hl 0 rfl) ?_
      refine lv_bipush (v := 7) hx hb dL_areZones_328 (by decide) ?_
      obtain ⟨r80, M81, hc, hf⟩ := mbnd_e hf
      refine k_callH (As := [.ref (w.1 12 16), .int (7 : Int32)]) (rest := [.int r78]) hx hb hml hown hI (c_L_alarmsIn l w hsf H.size (7 : Int32) M79 _ _ hc) (k_cw (n := 2) hI.T kc_L_alarmsIn ki_L_alarmsIn (q629 hI.T) (q630 hI.T) (by decide +kernel) ⟨rfl, rfl, Nat.le_of_ble_eq_true rfl, Nat.le_of_ble_eq_true rfl⟩) rfl hl.1 (Nat.le_of_ble_eq_true rfl) dL_areZones_330 ⟨Nat.le_of_ble_eq_true rfl, Nat.le_of_ble_eq_true rfl⟩ (fun H locs hI => ?_)
      refine lv_icmp_lt (tgt := 340) hx hb dL_areZones_333 (by decide) (fun c82 => ?_) (fun c82 => ?_)
      · have hf := (if_pos c82).symm.trans hf
        refine lv_iconst (v := 0) hx hb dL_areZones_340 (by decide) ?_
        exact k_zretf hx hb hr hlk hI rfl hf dL_areZones_341 (Nat.le_of_ble_eq_true rfl) (Nat.le_of_ble_eq_true rfl)
      · have hf := (if_neg c82).symm.trans hf
        refine lv_iconst (v := 1) hx hb dL_areZones_336 (by decide) ?_
        refine lv_goto (tgt := 341) hx hb dL_areZones_337 (by decide) ?_
        exact k_zretf hx hb hr hlk hI rfl hf dL_areZones_341 (Nat.le_of_ble_eq_true rfl) (Nat.le_of_ble_eq_true rfl)
abbrev rmL_isWhole : Room := { frames := 13, cells := 491, slots := 2946, locals := 254 }
theorem kb_L_isWhole {R : Room} {s : State} {args : Array Value} {own : String} {idx : Nat} (hT : mT s) (hlink : (Cond.methodLink own idx yL_isWhole).before args s = true) (h1 : rmL_isWhole.frames + 1 ≤ R.frames) (h2 : 8 + (11 + 11) + rmL_isWhole.locals ≤ R.locals) : CallB R s args own idx yL_isWhole cL_isWhole 11 (some .boolean) [Cond.code yL_isWhole cL_isWhole 11 (some .boolean)] rmL_isWhole 491 2946 5 := m_callB hT kc_L_isWhole ki_L_isWhole hlink (by decide +kernel) ⟨rfl, rfl, h1, h2⟩
set_option maxHeartbeats 4000000 in
set_option maxRecDepth 100000 in
theorem c_L_isWhole (l : Launch) (w : WD) (hsf : l.stackTraces = false) (sz : Nat) (xa xl : Nat) (xs : Nat → Int32) (hX : ∀ A U H, mSt w A U H → va_T .int xa xl (fun k => .int (xs k)) A U H) (a3 : Int32) (a4 : Int32) (a5 : Int32) (M : Mem) (r : Int32) (M9 : Mem) (hf : f_L_isWhole xl xs a3 a4 a5 M = some (r, M9)) : kMet l yL_isWhole [Cond.code yL_isWhole cL_isWhole 11 (some .boolean)] rmL_isWhole w sz M [.ref (w.1 12 16), .ref xa, .int a3, .int a4, .int a5] (some (.int r)) M9 491 2946 := by
  refine k_of (by decide) (Nat.le_of_ble_eq_true rfl) ?_
  intro p e s m args below meth c hx hb hr hml hown hlk hI ls hl
  have hl : lv_has ls 11 [(0, .ref (w.1 12 16)), (1, .ref xa), (2, .int a3), (3, .int a4), (4, .int a5)] := hl
  unfold f_L_isWhole at hf
  refine lv_iconst (v := 0) hx hb dL_isWhole_0 (by decide) ?_
  refine lv_istore (lv' := [(5, .int (0 : Int32)), (0, .ref (w.1 12 16)), (1, .ref xa), (2, .int a3), (3, .int a4), (4, .int a5)]) hx hb dL_isWhole_1 hl (by decide) rfl (fun ls hl => ?_)
  refine lv_iconst (v := 0) hx hb dL_isWhole_3 (by decide) ?_
  refine lv_istore (lv' := [(6, .int (0 : Int32)), (5, .int (0 : Int32)), (0, .ref (w.1 12 16)), (1, .ref xa), (2, .int a3), (3, .int a4), (4, .int a5)]) hx hb dL_isWhole_4 hl (by decide) rfl (fun ls hl => ?_)
  have hL6 : ∀ (n : Nat) (x1 : Int32) (x2 : Int32) (kk : Int32 → Option (Int32 × Mem)) (H : Heap) (locs : List Loc) (ls : Array Slot) (kc6 ks6 : Nat), kc6 + n * 1 ≤ 9 → ks6 + n * 6 ≤ 54 → f_L_isWhole_L6 M n x1 x2 kk = some (r, M9) → mI w s (mA w s.heap.size) H locs M → lv_has ls 11 [(0, .ref (w.1 12 16)), (1, .ref xa), (2, .int a3), (3, .int a4), (4, .int a5), (5, .int x1), (6, .int x2)] → (∀ (x1 : Int32) (H : Heap) (locs : List Loc) (ls : Array Slot), kk x1 = some (r, M9) → mI w s (mA w s.heap.size) H locs M → lv_has ls 11 [(0, .ref (w.1 12 16)), (1, .ref xa), (2, .int a3), (3, .int a4), (4, .int a5), (5, .int x1)] → W p l e rmL_isWhole s m args below meth c H locs 9 54 (MQ below (mQ w s.heap.size (some (.int r)) M9) args s 491 2946 (mA w s.heap.size)) (F0 m 30 ls [])) → W p l e rmL_isWhole s m args below meth c H locs kc6 ks6 (MQ below (mQ w s.heap.size (some (.int r)) M9) args s 491 2946 (mA w s.heap.size)) (F0 m 6 ls []) := by
    intro n
    induction n with
    | zero => intro x1 x2 kk H locs ls kc6 ks6 hkc hks hf hI hl hk; rw [f_L_isWhole_L6.eq_1] at hf; cases hf
    | succ n ih6 =>
      intro x1 x2 kk H locs ls kc6 ks6 hkc hks hf hI hl hk
      rw [f_L_isWhole_L6.eq_2] at hf
      refine lv_iload hx hb dL_isWhole_6 (lv_at hl 6 rfl) ?_
      refine lv_bipush (v := 8) hx hb dL_isWhole_8 (by decide) ?_
      refine lv_icmp_ge (tgt := 30) hx hb dL_isWhole_10 (by decide) (fun c3 => ?_) (fun c3 => ?_)
      · have hf := (if_pos c3).symm.trans hf
        refine W.widen (k := 9) (n := 54) (by omega) (by omega) ?_
        exact hk x1 H _ _ hf hI (lv_sub hl [0, 1, 2, 3, 4, 5] rfl)
      · have hf := (if_neg c3).symm.trans hf
        refine lv_iload hx hb dL_isWhole_13 (lv_at hl 5 rfl) ?_
        refine lv_aload_n hx hb dL_isWhole_15 rfl (lv_at hl 0 rfl) ?_
        refine lv_iload hx hb dL_isWhole_16 (lv_at hl 6 rfl) ?_
        obtain ⟨r4, hc, hf⟩ := mbp_e hf
        refine k_callH (As := [.ref (w.1 12 16), .int x2]) (rest := [.int x1]) hx hb hml hown hI (c_L_alarmsOf l w hsf H.size x2 M _ hc) (k_cw (n := 2) hI.T kc_L_alarmsOf ki_L_alarmsOf (q1379 hI.T) (q1380 hI.T) (by decide +kernel) ⟨rfl, rfl, Nat.le_of_ble_eq_true rfl, Nat.le_of_ble_eq_true rfl⟩) rfl hl.1 (Nat.le_of_ble_eq_true rfl) dL_isWhole_18 ⟨Nat.le_trans (m := 9) (by omega) (Nat.le_of_ble_eq_true rfl), Nat.le_trans (m := 54) (by omega) (Nat.le_of_ble_eq_true rfl)⟩ (fun H locs hI => ?_)
        refine lv_iadd hx hb dL_isWhole_21 ?_
        refine lv_topi (fun x5 ex5 => ?_)
        have hf := mlet_s ex5 hf
        refine lv_istore (lv' := [(5, .int x5), (0, .ref (w.1 12 16)), (1, .ref xa), (2, .int a3), (3, .int a4), (4, .int a5), (6, .int x2)]) hx hb dL_isWhole_22 hl (by decide) rfl (fun ls hl => ?_)
        obtain ⟨x6, ex6, hf⟩ := mlet_e hf
        refine lv_iinc (v := x6) (lv' := [(6, .int x6), (5, .int x5), (0, .ref (w.1 12 16)), (1, .ref xa), (2, .int a3), (3, .int a4), (4, .int a5)]) hx hb dL_isWhole_24 hl (k := 6) rfl (by rw [ex6]; rfl) (by decide) rfl (fun ls hl => ?_)
        refine lv_goto (tgt := 6) hx hb dL_isWhole_27 (by decide) ?_
        exact ih6 x5 x6 kk H _ _ _ _ (by omega) (by omega) hf hI (lv_sub hl [2, 3, 4, 5, 6, 1, 0] rfl) hk
  refine hL6 9 (0 : Int32) (0 : Int32) _ _ _ _ _ _ (Nat.le_of_ble_eq_true rfl) (Nat.le_of_ble_eq_true rfl) hf hI (lv_sub hl [2, 3, 4, 5, 6, 1, 0] rfl) ?_
  intro x7 H locs ls hf hI hl
  try dsimp only at hf
  refine lv_aload_n hx hb dL_isWhole_30 rfl (lv_at hl 0 rfl) ?_
  obtain ⟨r8, hc, hf⟩ := mbp_e hf
  refine m_callV (As := []) (rest := []) hx hb hml hown hI (c_X11_logCount l w H.size M _ hc) (kb_X11_logCount hI.T (q363 hI.T) (Nat.le_of_ble_eq_true rfl) (Nat.le_of_ble_eq_true rfl)) (q364 hI.T) (q365 hI.T) (m_recv (g := 12) (i := 16) hI (mokX (by decide) (by decide)) rfl rfl) rfl hl.1 (Nat.le_of_ble_eq_true rfl) dL_isWhole_31 ⟨Nat.le_of_ble_eq_true rfl, Nat.le_of_ble_eq_true rfl⟩ (fun H locs hI => ?_)
  refine lv_istore (lv' := [(6, .int r8), (0, .ref (w.1 12 16)), (1, .ref xa), (2, .int a3), (3, .int a4), (4, .int a5), (5, .int x7)]) hx hb dL_isWhole_34 hl (by decide) rfl (fun ls hl => ?_)
  refine lv_iconst (v := 0) hx hb dL_isWhole_36 (by decide) ?_
  refine lv_istore (lv' := [(7, .int (0 : Int32)), (6, .int r8), (0, .ref (w.1 12 16)), (1, .ref xa), (2, .int a3), (3, .int a4), (4, .int a5), (5, .int x7)]) hx hb dL_isWhole_37 hl (by decide) rfl (fun ls hl => ?_)
  have hL39 : ∀ (n : Nat) (x9 : Int32) (kk : Unit → Option (Int32 × Mem)) (H : Heap) (locs : List Loc) (ls : Array Slot) (kc39 ks39 : Nat), kc39 + n * 6 ≤ 87 → ks39 + n * 36 ≤ 522 → f_L_isWhole_L39 M r8 n x9 kk = some (r, M9) → mI w s (mA w s.heap.size) H locs M → lv_has ls 11 [(0, .ref (w.1 12 16)), (1, .ref xa), (2, .int a3), (3, .int a4), (4, .int a5), (5, .int x7), (6, .int r8), (7, .int x9)] → (∀ (_u : Unit) (H : Heap) (locs : List Loc) (ls : Array Slot), kk () = some (r, M9) → mI w s (mA w s.heap.size) H locs M → lv_has ls 11 [(0, .ref (w.1 12 16)), (1, .ref xa), (2, .int a3), (3, .int a4), (4, .int a5), (5, .int x7), (6, .int r8)] → W p l e rmL_isWhole s m args below meth c H locs 87 522 (MQ below (mQ w s.heap.size (some (.int r)) M9) args s 491 2946 (mA w s.heap.size)) (F0 m 184 ls [])) → W p l e rmL_isWhole s m args below meth c H locs kc39 ks39 (MQ below (mQ w s.heap.size (some (.int r)) M9) args s 491 2946 (mA w s.heap.size)) (F0 m 39 ls []) := by
    intro n
    induction n with
    | zero => intro x9 kk H locs ls kc39 ks39 hkc hks hf hI hl hk; rw [f_L_isWhole_L39.eq_1] at hf; cases hf
    | succ n ih39 =>
      intro x9 kk H locs ls kc39 ks39 hkc hks hf hI hl hk
      rw [f_L_isWhole_L39.eq_2] at hf
      refine lv_iload hx hb dL_isWhole_39 (lv_at hl 7 rfl) ?_
      refine lv_iload hx hb dL_isWhole_41 (lv_at hl 6 rfl) ?_
      refine lv_icmp_ge (tgt := 184) hx hb dL_isWhole_43 (by decide) (fun c10 => ?_) (fun c10 => ?_)
      · have hf := (if_pos c10).symm.trans hf
        refine W.widen (k := 87) (n := 522) (by omega) (by omega) ?_
        exact hk () H _ _ hf hI (lv_sub hl [0, 1, 2, 3, 4, 5, 6] rfl)
      · have hf := (if_neg c10).symm.trans hf
        refine lv_aload_n hx hb dL_isWhole_46 rfl (lv_at hl 0 rfl) ?_
        refine lv_iload hx hb dL_isWhole_47 (lv_at hl 7 rfl) ?_
        obtain ⟨r11, hc, hf⟩ := mbp_e hf
        refine k_callH (As := [.ref (w.1 12 16), .int x9]) (rest := []) hx hb hml hown hI (c_L_logKind l w hsf H.size x9 M _ hc) (k_cw (n := 2) hI.T kc_L_logKind ki_L_logKind (q659 hI.T) (q660 hI.T) (by decide +kernel) ⟨rfl, rfl, Nat.le_of_ble_eq_true rfl, Nat.le_of_ble_eq_true rfl⟩) rfl hl.1 (Nat.le_of_ble_eq_true rfl) dL_isWhole_49 ⟨Nat.le_trans (m := 87) (by omega) (Nat.le_of_ble_eq_true rfl), Nat.le_trans (m := 522) (by omega) (Nat.le_of_ble_eq_true rfl)⟩ (fun H locs hI => ?_)
        refine lv_istore (lv' := [(8, .int r11), (0, .ref (w.1 12 16)), (1, .ref xa), (2, .int a3), (3, .int a4), (4, .int a5), (5, .int x7), (6, .int r8), (7, .int x9)]) hx hb dL_isWhole_52 hl (by decide) rfl (fun ls hl => ?_)
        refine lv_aload_n hx hb dL_isWhole_54 rfl (lv_at hl 1 rfl) ?_
        refine lv_iload hx hb dL_isWhole_55 (lv_at hl 8 rfl) ?_
        obtain ⟨r12, hc, hf⟩ := mbp_e hf
        refine k_callH (As := [.ref (w.1 12 16), .int x9]) (rest := []) hx hb hml hown hI (c_L_logDetail l w hsf H.size x9 M _ hc) (k_cw (n := 2) hI.T kc_L_logDetail ki_L_logDetail (q666 hI.T) (q667 hI.T) (by decide +kernel) ⟨rfl, rfl, Nat.le_of_ble_eq_true rfl, Nat.le_of_ble_eq_true rfl⟩) rfl hl.1 (Nat.le_of_ble_eq_true rfl) dL_isWhole_57 ⟨Nat.le_trans (m := 87) (by omega) (Nat.le_of_ble_eq_true rfl), Nat.le_trans (m := 522) (by omega) (Nat.le_of_ble_eq_true rfl)⟩ (fun H locs hI => ?_)
        refine lv_istore (lv' := [(9, .int r12), (8, .int r11), (0, .ref (w.1 12 16)), (1, .ref xa), (2, .int a3), (3, .int a4), (4, .int a5), (5, .int x7), (6, .int r8), (7, .int x9)]) hx hb dL_isWhole_60 hl (by decide) rfl (fun ls hl => ?_)
        refine lv_iload hx hb dL_isWhole_62 (lv_at hl 1 rfl) ?_
        refine lv_bipush (v := 99) hx hb dL_isWhole_64 (by decide) ?_
        obtain ⟨k134_30, ek134_30, hf⟩ := mlet_e hf
        have hj134_30 : ∀ (x29 : Int32) (H : Heap) (locs : List Loc) (ls : Array Slot), k134_30 x29 = some (r, M9) → mI w s (mA w s.heap.size) H locs M → lv_has ls 11 [(0, .ref (w.1 12 16)), (1, .ref xa), (2, .int a3), (3, .int a4), (4, .int a5), (5, .int x7), (6, .int r8), (7, .int x9)] → W p l e rmL_isWhole s m args below meth c H locs (kc39 + 3) (ks39 + 18) (MQ below (mQ w s.heap.size (some (.int r)) M9) args s 491 2946 (mA w s.heap.size)) (F0 m 134 ls [.int x29]) := by
          intro x29 H locs ls hf hI hl
          rw [ek134_30] at hf
          try dsimp only at hf
          refine lv_istore (lv' := [(10, .int x29), (0, .ref (w.1 12 16)), (1, .ref xa), (2, .int a3), (3, .int a4), (4, .int a5), (5, .int x7), (6, .int r8), (7, .int x9)]) hx hb dL_isWhole_134 hl (by decide) rfl (fun ls hl => ?_)
          refine lv_iload hx hb dL_isWhole_136 (lv_at hl 0 rfl) ?_
          refine lv_if_eq (tgt := 176) hx hb dL_isWhole_138 (by decide) (fun c31 => ?_) (fun c31 => ?_)
          · have hf := (if_pos c31).symm.trans hf
            refine lv_iconst (v := 0) hx hb dL_isWhole_176 (by decide) ?_
            exact k_zretf hx hb hr hlk hI rfl hf dL_isWhole_177 (by omega) (by omega)
          · have hf := (if_neg c31).symm.trans hf
            refine lv_aload_n hx hb dL_isWhole_141 rfl (lv_at hl 1 rfl) ?_
            refine lv_iload hx hb dL_isWhole_142 (lv_at hl 8 rfl) ?_
            obtain ⟨r32, hc, hf⟩ := mbp_e hf
            refine k_callH (As := [.ref (w.1 12 16), .int x9]) (rest := []) hx hb hml hown hI (c_L_logHour l w hsf H.size x9 M _ hc) (k_cw (n := 2) hI.T kc_L_logHour ki_L_logHour (q647 hI.T) (q648 hI.T) (by decide +kernel) ⟨rfl, rfl, Nat.le_of_ble_eq_true rfl, Nat.le_of_ble_eq_true rfl⟩) rfl hl.1 (Nat.le_of_ble_eq_true rfl) dL_isWhole_144 ⟨Nat.le_trans (m := 87) (by omega) (Nat.le_of_ble_eq_true rfl), Nat.le_trans (m := 522) (by omega) (Nat.le_of_ble_eq_true rfl)⟩ (fun H locs hI => ?_)
            refine lv_aload_n hx hb dL_isWhole_147 rfl (lv_at hl 1 rfl) ?_
            obtain ⟨r33, hc, hf⟩ := mbp_e hf
            refine m_callV (As := []) (rest := [.int r32]) hx hb hml hown hI (c_X11_hour l w H.size M _ hc) (kb_X11_hour hI.T (q331 hI.T) (Nat.le_of_ble_eq_true rfl) (Nat.le_of_ble_eq_true rfl)) (q332 hI.T) (q333 hI.T) (m_recv (g := 12) (i := 16) hI (mokX (by decide) (by decide)) rfl rfl) rfl hl.1 (Nat.le_of_ble_eq_true rfl) dL_isWhole_148 ⟨Nat.le_trans (m := 87) (by omega) (Nat.le_of_ble_eq_true rfl), Nat.le_trans (m := 522) (by omega) (Nat.le_of_ble_eq_true rfl)⟩ (fun H locs hI => ?_)
            refine lv_icmp_gt (tgt := 176) hx hb dL_isWhole_151 (by decide) (fun c34 => ?_) (fun c34 => ?_)
            · have hf := (if_pos c34).symm.trans hf
              refine lv_iconst (v := 0) hx hb dL_isWhole_176 (by decide) ?_
              exact k_zretf hx hb hr hlk hI rfl hf dL_isWhole_177 (by omega) (by omega)
            · have hf := (if_neg c34).symm.trans hf
              refine lv_iload hx hb dL_isWhole_154 (lv_at hl 8 rfl) ?_
              obtain ⟨k178_39, ek178_39, hf⟩ := mlet_e hf
              have hj178_39 : ∀ (_u : Unit) (H : Heap) (locs : List Loc) (ls : Array Slot), k178_39 _u = some (r, M9) → mI w s (mA w s.heap.size) H locs M → lv_has ls 11 [(0, .ref (w.1 12 16)), (1, .ref xa), (2, .int a3), (3, .int a4), (4, .int a5), (5, .int x7), (6, .int r8), (7, .int x9)] → W p l e rmL_isWhole s m args below meth c H locs (kc39 + 6) (ks39 + 36) (MQ below (mQ w s.heap.size (some (.int r)) M9) args s 491 2946 (mA w s.heap.size)) (F0 m 178 ls []) := by
                intro _u H locs ls hf hI hl
                rw [ek178_39] at hf
                try dsimp only at hf
                obtain ⟨x40, ex40, hf⟩ := mlet_e hf
                refine lv_iinc (v := x40) (lv' := [(7, .int x40), (0, .ref (w.1 12 16)), (1, .ref xa), (2, .int a3), (3, .int a4), (4, .int a5), (5, .int x7), (6, .int r8)]) hx hb dL_isWhole_178 hl (k := 7) rfl (by rw [ex40]; rfl) (by decide) rfl (fun ls hl => ?_)
                refine lv_goto (tgt := 39) hx hb dL_isWhole_181 (by decide) ?_
                exact ih39 x40 kk H _ _ _ _ (by omega) (by omega) hf hI (lv_sub hl [1, 2, 3, 4, 5, 6, 7, 0] rfl) hk
              refine lv_if_le (tgt := 178) hx hb dL_isWhole_156 (by decide) (fun c35 => ?_) (fun c35 => ?_)
              · have hf := (if_pos c35).symm.trans hf
                refine W.widen (k := (kc39 + 6)) (n := (ks39 + 36)) (by omega) (by omega) ?_
                exact hj178_39 () H _ _ hf hI (lv_sub hl [1, 2, 3, 4, 5, 6, 7, 8] rfl)
              · have hf := (if_neg c35).symm.trans hf
                refine lv_aload_n hx hb dL_isWhole_159 rfl (lv_at hl 1 rfl) ?_
                refine lv_iload hx hb dL_isWhole_160 (lv_at hl 8 rfl) ?_
                refine lv_iconst (v := 1) hx hb dL_isWhole_162 (by decide) ?_
                refine lv_isub hx hb dL_isWhole_163 ?_
                obtain ⟨r36, hc, hf⟩ := mbp_e hf
                refine k_callH (As := [.ref (w.1 12 16), .int (x9 - (1 : Int32))]) (rest := []) hx hb hml hown hI (c_L_logHour l w hsf H.size (x9 - (1 : Int32)) M _ hc) (k_cw (n := 2) hI.T kc_L_logHour ki_L_logHour (q647 hI.T) (q648 hI.T) (by decide +kernel) ⟨rfl, rfl, Nat.le_of_ble_eq_true rfl, Nat.le_of_ble_eq_true rfl⟩) rfl hl.1 (Nat.le_of_ble_eq_true rfl) dL_isWhole_164 ⟨Nat.le_trans (m := 87) (by omega) (Nat.le_of_ble_eq_true rfl), Nat.le_trans (m := 522) (by omega) (Nat.le_of_ble_eq_true rfl)⟩ (fun H locs hI => ?_)
                refine lv_aload_n hx hb dL_isWhole_167 rfl (lv_at hl 1 rfl) ?_
                refine lv_iload hx hb dL_isWhole_168 (lv_at hl 8 rfl) ?_
                obtain ⟨r37, hc, hf⟩ := mbp_e hf
                refine k_callH (As := [.ref (w.1 12 16), .int x9]) (rest := [.int r36]) hx hb hml hown hI (c_L_logHour l w hsf H.size x9 M _ hc) (k_cw (n := 2) hI.T kc_L_logHour ki_L_logHour (q647 hI.T) (q648 hI.T) (by decide +kernel) ⟨rfl, rfl, Nat.le_of_ble_eq_true rfl, Nat.le_of_ble_eq_true rfl⟩) rfl hl.1 (Nat.le_of_ble_eq_true rfl) dL_isWhole_170 ⟨Nat.le_trans (m := 87) (by omega) (Nat.le_of_ble_eq_true rfl), Nat.le_trans (m := 522) (by omega) (Nat.le_of_ble_eq_true rfl)⟩ (fun H locs hI => ?_)
                refine lv_icmp_le (tgt := 178) hx hb dL_isWhole_173 (by decide) (fun c38 => ?_) (fun c38 => ?_)
                · have hf := (if_pos c38).symm.trans hf
                  exact hj178_39 () H _ _ hf hI (lv_sub hl [1, 2, 3, 4, 5, 6, 7, 8] rfl)
                · have hf := (if_neg c38).symm.trans hf
                  refine lv_iconst (v := 0) hx hb dL_isWhole_176 (by decide) ?_
                  exact k_zretf hx hb hr hlk hI rfl hf dL_isWhole_177 (by omega) (by omega)
        obtain ⟨k129_28, ek129_28, hf⟩ := mlet_e hf
        have hj129_28 : ∀ (_u : Unit) (H : Heap) (locs : List Loc) (ls : Array Slot), k129_28 _u = some (r, M9) → mI w s (mA w s.heap.size) H locs M → lv_has ls 11 [(0, .ref (w.1 12 16)), (1, .ref xa), (2, .int a3), (3, .int a4), (4, .int a5), (5, .int x7), (6, .int r8), (7, .int x9)] → W p l e rmL_isWhole s m args below meth c H locs (kc39 + 3) (ks39 + 18) (MQ below (mQ w s.heap.size (some (.int r)) M9) args s 491 2946 (mA w s.heap.size)) (F0 m 129 ls []) := by
          intro _u H locs ls hf hI hl
          rw [ek129_28] at hf
          try dsimp only at hf
          refine lv_iconst (v := 1) hx hb dL_isWhole_129 (by decide) ?_
          refine lv_goto (tgt := 134) hx hb dL_isWhole_130 (by decide) ?_
          exact hj134_30 (1 : Int32) H _ _ hf hI (lv_sub hl [0, 1, 2, 3, 4, 5, 6, 7] rfl)
        obtain ⟨k74_15, ek74_15, hf⟩ := mlet_e hf
        have hj74_15 : ∀ (_u : Unit) (H : Heap) (locs : List Loc) (ls : Array Slot), k74_15 _u = some (r, M9) → mI w s (mA w s.heap.size) H locs M → lv_has ls 11 [(0, .ref (w.1 12 16)), (1, .ref xa), (2, .int a3), (3, .int a4), (4, .int a5), (5, .int x7), (6, .int r8), (7, .int x9), (8, .int r11), (9, .int r12)] → W p l e rmL_isWhole s m args below meth c H locs (kc39 + 2) (ks39 + 12) (MQ below (mQ w s.heap.size (some (.int r)) M9) args s 491 2946 (mA w s.heap.size)) (F0 m 74 ls []) := by
          intro _u H locs ls hf hI hl
          rw [ek74_15] at hf
          try dsimp only at hf
          refine lv_iload hx hb dL_isWhole_74 (lv_at hl 8 rfl) ?_
          refine lv_bipush (v := 97) hx hb dL_isWhole_76 (by decide) ?_
          obtain ⟨k102_21, ek102_21, hf⟩ := mlet_e hf
          have hj102_21 : ∀ (_u : Unit) (H : Heap) (locs : List Loc) (ls : Array Slot), k102_21 _u = some (r, M9) → mI w s (mA w s.heap.size) H locs M → lv_has ls 11 [(0, .ref (w.1 12 16)), (1, .ref xa), (2, .int a3), (3, .int a4), (4, .int a5), (5, .int x7), (6, .int r8), (7, .int x9), (8, .int r11), (9, .int r12)] → W p l e rmL_isWhole s m args below meth c H locs (kc39 + 3) (ks39 + 18) (MQ below (mQ w s.heap.size (some (.int r)) M9) args s 491 2946 (mA w s.heap.size)) (F0 m 102 ls []) := by
            intro _u H locs ls hf hI hl
            rw [ek102_21] at hf
            try dsimp only at hf
            refine lv_iload hx hb dL_isWhole_102 (lv_at hl 8 rfl) ?_
            refine lv_bipush (v := 111) hx hb dL_isWhole_104 (by decide) ?_
            obtain ⟨k133_27, ek133_27, hf⟩ := mlet_e hf
            have hj133_27 : ∀ (_u : Unit) (H : Heap) (locs : List Loc) (ls : Array Slot), k133_27 _u = some (r, M9) → mI w s (mA w s.heap.size) H locs M → lv_has ls 11 [(0, .ref (w.1 12 16)), (1, .ref xa), (2, .int a3), (3, .int a4), (4, .int a5), (5, .int x7), (6, .int r8), (7, .int x9)] → W p l e rmL_isWhole s m args below meth c H locs (kc39 + 3) (ks39 + 18) (MQ below (mQ w s.heap.size (some (.int r)) M9) args s 491 2946 (mA w s.heap.size)) (F0 m 133 ls []) := by
              intro _u H locs ls hf hI hl
              rw [ek133_27] at hf
              try dsimp only at hf
              refine lv_iconst (v := 0) hx hb dL_isWhole_133 (by decide) ?_
              exact hj134_30 (0 : Int32) H _ _ hf hI (lv_sub hl [0, 1, 2, 3, 4, 5, 6, 7] rfl)
            obtain ⟨k116_24, ek116_24, hf⟩ := mlet_e hf
            have hj116_24 : ∀ (_u : Unit) (H : Heap) (locs : List Loc) (ls : Array Slot), k116_24 _u = some (r, M9) → mI w s (mA w s.heap.size) H locs M → lv_has ls 11 [(0, .ref (w.1 12 16)), (1, .ref xa), (2, .int a3), (3, .int a4), (4, .int a5), (5, .int x7), (6, .int r8), (7, .int x9), (9, .int r12)] → W p l e rmL_isWhole s m args below meth c H locs (kc39 + 3) (ks39 + 18) (MQ below (mQ w s.heap.size (some (.int r)) M9) args s 491 2946 (mA w s.heap.size)) (F0 m 116 ls []) := by
              intro _u H locs ls hf hI hl
              rw [ek116_24] at hf
              try dsimp only at hf
              refine lv_iload hx hb dL_isWhole_116 (lv_at hl 8 rfl) ?_
              refine lv_iconst (v := 1) hx hb dL_isWhole_118 (by decide) ?_
              refine lv_icmp_lt (tgt := 133) hx hb dL_isWhole_119 (by decide) (fun c25 => ?_) (fun c25 => ?_)
              · have hf := (if_pos c25).symm.trans hf
                exact hj133_27 () H _ _ hf hI (lv_sub hl [0, 1, 2, 3, 4, 5, 6, 7] rfl)
              · have hf := (if_neg c25).symm.trans hf
                refine lv_iload hx hb dL_isWhole_122 (lv_at hl 8 rfl) ?_
                refine lv_bipush (v := 8) hx hb dL_isWhole_124 (by decide) ?_
                refine lv_icmp_gt (tgt := 133) hx hb dL_isWhole_126 (by decide) (fun c26 => ?_) (fun c26 => ?_)
                · have hf := (if_pos c26).symm.trans hf
                  exact hj133_27 () H _ _ hf hI (lv_sub hl [0, 1, 2, 3, 4, 5, 6, 7] rfl)
                · have hf := (if_neg c26).symm.trans hf
                  exact hj129_28 () H _ _ hf hI (lv_sub hl [0, 1, 2, 3, 4, 5, 6, 7] rfl)
            refine lv_icmp_eq (tgt := 116) hx hb dL_isWhole_106 (by decide) (fun c22 => ?_) (fun c22 => ?_)
            · have hf := (if_pos c22).symm.trans hf
              exact hj116_24 () H _ _ hf hI (lv_sub hl [0, 1, 2, 3, 4, 5, 6, 7, 9] rfl)
            · have hf := (if_neg c22).symm.trans hf
              refine lv_iload hx hb dL_isWhole_109 (lv_at hl 8 rfl) ?_
              refine lv_bipush (v := 102) hx hb dL_isWhole_111 (by decide) ?_
              refine lv_icmp_ne (tgt := 133) hx hb dL_isWhole_113 (by decide) (fun c23 => ?_) (fun c23 => ?_)
              · have hf := (if_neg c23).symm.trans hf
                exact hj133_27 () H _ _ hf hI (lv_sub hl [0, 1, 2, 3, 4, 5, 6, 7] rfl)
              · have hf := (if_pos c23).symm.trans hf
                exact hj116_24 () H _ _ hf hI (lv_sub hl [0, 1, 2, 3, 4, 5, 6, 7, 9] rfl)
          refine lv_icmp_ne (tgt := 102) hx hb dL_isWhole_78 (by decide) (fun c16 => ?_) (fun c16 => ?_)
          · have hf := (if_neg c16).symm.trans hf
            refine W.widen (k := (kc39 + 3)) (n := (ks39 + 18)) (by omega) (by omega) ?_
            exact hj102_21 () H _ _ hf hI (lv_sub hl [0, 1, 2, 3, 4, 5, 6, 7, 8, 9] rfl)
          · have hf := (if_pos c16).symm.trans hf
            refine lv_iload hx hb dL_isWhole_81 (lv_at hl 9 rfl) ?_
            refine lv_if_lt (tgt := 102) hx hb dL_isWhole_83 (by decide) (fun c17 => ?_) (fun c17 => ?_)
            · have hf := (if_pos c17).symm.trans hf
              refine W.widen (k := (kc39 + 3)) (n := (ks39 + 18)) (by omega) (by omega) ?_
              exact hj102_21 () H _ _ hf hI (lv_sub hl [0, 1, 2, 3, 4, 5, 6, 7, 8, 9] rfl)
            · have hf := (if_neg c17).symm.trans hf
              refine lv_iload hx hb dL_isWhole_86 (lv_at hl 9 rfl) ?_
              refine lv_bipush (v := 8) hx hb dL_isWhole_88 (by decide) ?_
              refine lv_icmp_ge (tgt := 102) hx hb dL_isWhole_90 (by decide) (fun c18 => ?_) (fun c18 => ?_)
              · have hf := (if_pos c18).symm.trans hf
                refine W.widen (k := (kc39 + 3)) (n := (ks39 + 18)) (by omega) (by omega) ?_
                exact hj102_21 () H _ _ hf hI (lv_sub hl [0, 1, 2, 3, 4, 5, 6, 7, 8, 9] rfl)
              · have hf := (if_neg c18).symm.trans hf
                refine lv_aload_n hx hb dL_isWhole_93 rfl (lv_at hl 0 rfl) ?_
                refine lv_iload hx hb dL_isWhole_94 (lv_at hl 9 rfl) ?_
                obtain ⟨r19, hc, hf⟩ := mbp_e hf
                refine k_callH (As := [.ref (w.1 12 16), .int r12]) (rest := []) hx hb hml hown hI (c_L_alarmsOf l w hsf H.size r12 M _ hc) (k_cw (n := 2) hI.T kc_L_alarmsOf ki_L_alarmsOf (q1379 hI.T) (q1380 hI.T) (by decide +kernel) ⟨rfl, rfl, Nat.le_of_ble_eq_true rfl, Nat.le_of_ble_eq_true rfl⟩) rfl hl.1 (Nat.le_of_ble_eq_true rfl) dL_isWhole_96 ⟨Nat.le_trans (m := 87) (by omega) (Nat.le_of_ble_eq_true rfl), Nat.le_trans (m := 522) (by omega) (Nat.le_of_ble_eq_true rfl)⟩ (fun H locs hI => ?_)
                refine lv_if_gt (tgt := 129) hx hb dL_isWhole_99 (by decide) (fun c20 => ?_) (fun c20 => ?_)
                · have hf := (if_pos c20).symm.trans hf
                  exact hj129_28 () H _ _ hf hI (lv_sub hl [0, 1, 2, 3, 4, 5, 6, 7] rfl)
                · have hf := (if_neg c20).symm.trans hf
                  exact hj102_21 () H _ _ hf hI (lv_sub hl [0, 1, 2, 3, 4, 5, 6, 7, 8, 9] rfl)
        refine lv_icmp_ne (tgt := 74) hx hb dL_isWhole_66 (by decide) (fun c13 => ?_) (fun c13 => ?_)
        · have hf := (if_neg c13).symm.trans hf
          exact hj74_15 () H _ _ hf hI (lv_sub hl [2, 3, 4, 5, 6, 7, 8, 9, 1, 0] rfl)
        · have hf := (if_pos c13).symm.trans hf
          refine lv_iload hx hb dL_isWhole_69 (lv_at hl 0 rfl) ?_
          refine lv_if_eq (tgt := 129) hx hb dL_isWhole_71 (by decide) (fun c14 => ?_) (fun c14 => ?_)
          · have hf := (if_pos c14).symm.trans hf
            refine W.widen (k := (kc39 + 3)) (n := (ks39 + 18)) (by omega) (by omega) ?_
            exact hj129_28 () H _ _ hf hI (lv_sub hl [2, 3, 4, 5, 6, 7, 8, 9] rfl)
          · have hf := (if_neg c14).symm.trans hf
            exact hj74_15 () H _ _ hf hI (lv_sub hl [2, 3, 4, 5, 6, 7, 8, 9, 1, 0] rfl)
  refine hL39 13 (0 : Int32) _ _ _ _ _ _ (Nat.le_of_ble_eq_true rfl) (Nat.le_of_ble_eq_true rfl) hf hI (lv_sub hl [2, 3, 4, 5, 6, 7, 1, 0] rfl) ?_
  intro _u H locs ls hf hI hl
  try dsimp only at hf
  refine lv_aload_n hx hb dL_isWhole_184 rfl (lv_at hl 0 rfl) ?_
  obtain ⟨r41, hc, hf⟩ := mbp_e hf
  refine m_callV (As := []) (rest := []) hx hb hml hown hI (c_X11_isSealed l w H.size M _ hc) (kb_X11_isSealed hI.T (q1396 hI.T) (Nat.le_of_ble_eq_true rfl) (Nat.le_of_ble_eq_true rfl)) (q1397 hI.T) (q1398 hI.T) (m_recv (g := 12) (i := 16) hI (mokX (by decide) (by decide)) rfl rfl) rfl hl.1 (Nat.le_of_ble_eq_true rfl) dL_isWhole_185 ⟨Nat.le_of_ble_eq_true rfl, Nat.le_of_ble_eq_true rfl⟩ (fun H locs hI => ?_)
  refine lv_aload_n hx hb dL_isWhole_188 rfl (lv_at hl 0 rfl) ?_
  obtain ⟨r42, hc, hf⟩ := mbp_e hf
  refine k_callH (As := [.ref (w.1 12 16)]) (rest := [.int r41]) hx hb hml hown hI (c_L_threshold l w hsf H.size M _ hc) (k_cw (n := 1) hI.T kc_L_threshold ki_L_threshold (q378 hI.T) (q379 hI.T) (by decide +kernel) ⟨rfl, rfl, Nat.le_of_ble_eq_true rfl, Nat.le_of_ble_eq_true rfl⟩) rfl hl.1 (Nat.le_of_ble_eq_true rfl) dL_isWhole_189 ⟨Nat.le_of_ble_eq_true rfl, Nat.le_of_ble_eq_true rfl⟩ (fun H locs hI => ?_)
  obtain ⟨k200_45, ek200_45, hf⟩ := mlet_e hf
  have hj200_45 : ∀ (x44 : Int32) (H : Heap) (locs : List Loc) (ls : Array Slot), k200_45 x44 = some (r, M9) → mI w s (mA w s.heap.size) H locs M → lv_has ls 11 [(0, .ref (w.1 12 16)), (1, .ref xa), (2, .int a3), (3, .int a4), (4, .int a5), (5, .int x7), (6, .int r8)] → W p l e rmL_isWhole s m args below meth c H locs 88 528 (MQ below (mQ w s.heap.size (some (.int r)) M9) args s 491 2946 (mA w s.heap.size)) (F0 m 200 ls [.int x44, .int r41]) := by
    intro x44 H locs ls hf hI hl
    rw [ek200_45] at hf
    try dsimp only at hf
    obtain ⟨k267_67, ek267_67, hf⟩ := mlet_e hf
    have hj267_67 : ∀ (x66 : Int32) (H : Heap) (locs : List Loc) (ls : Array Slot), k267_67 x66 = some (r, M9) → mI w s (mA w s.heap.size) H locs M → lv_has ls 11 [(0, .ref (w.1 12 16)), (1, .ref xa), (2, .int a3), (3, .int a4), (4, .int a5), (5, .int x7), (6, .int r8)] → W p l e rmL_isWhole s m args below meth c H locs 88 528 (MQ below (mQ w s.heap.size (some (.int r)) M9) args s 491 2946 (mA w s.heap.size)) (F0 m 267 ls [.int x66]) := by
      intro x66 H locs ls hf hI hl
      rw [ek267_67] at hf
      try dsimp only at hf
      refine lv_istore (lv' := [(7, .int x66), (0, .ref (w.1 12 16)), (1, .ref xa), (2, .int a3), (3, .int a4), (4, .int a5), (5, .int x7), (6, .int r8)]) hx hb dL_isWhole_267 hl (by decide) rfl (fun ls hl => ?_)
      refine lv_iload hx hb dL_isWhole_269 (lv_at hl 0 rfl) ?_
      refine lv_if_eq (tgt := 358) hx hb dL_isWhole_271 (by decide) (fun c68 => ?_) (fun c68 => ?_)
      · have hf := (if_pos c68).symm.trans hf
        refine lv_iconst (v := 0) hx hb dL_isWhole_358 (by decide) ?_
        exact k_zretf hx hb hr hlk hI rfl hf dL_isWhole_359 (Nat.le_of_ble_eq_true rfl) (Nat.le_of_ble_eq_true rfl)
      · have hf := (if_neg c68).symm.trans hf
        refine lv_iload hx hb dL_isWhole_274 (lv_at hl 6 rfl) ?_
        refine lv_aload_n hx hb dL_isWhole_276 rfl (lv_at hl 1 rfl) ?_
        obtain ⟨r69, hc, hf⟩ := mbp_e hf
        refine m_callV (As := []) (rest := [.int x7]) hx hb hml hown hI (c_X11_alarmCount l w H.size M _ hc) (kb_X11_alarmCount hI.T (q355 hI.T) (Nat.le_of_ble_eq_true rfl) (Nat.le_of_ble_eq_true rfl)) (q356 hI.T) (q357 hI.T) (m_recv (g := 12) (i := 16) hI (mokX (by decide) (by decide)) rfl rfl) rfl hl.1 (Nat.le_of_ble_eq_true rfl) dL_isWhole_277 ⟨Nat.le_of_ble_eq_true rfl, Nat.le_of_ble_eq_true rfl⟩ (fun H locs hI => ?_)
        refine lv_icmp_ne (tgt := 358) hx hb dL_isWhole_280 (by decide) (fun c70 => ?_) (fun c70 => ?_)
        · have hf := (if_neg c70).symm.trans hf
          refine lv_iconst (v := 0) hx hb dL_isWhole_358 (by decide) ?_
          exact k_zretf hx hb hr hlk hI rfl hf dL_isWhole_359 (Nat.le_of_ble_eq_true rfl) (Nat.le_of_ble_eq_true rfl)
        · have hf := (if_pos c70).symm.trans hf
          refine lv_iload hx hb dL_isWhole_283 (lv_at hl 7 rfl) ?_
          refine lv_bipush (v := 12) hx hb dL_isWhole_285 (by decide) ?_
          refine lv_icmp_gt (tgt := 358) hx hb dL_isWhole_287 (by decide) (fun c71 => ?_) (fun c71 => ?_)
          · have hf := (if_pos c71).symm.trans hf
            refine lv_iconst (v := 0) hx hb dL_isWhole_358 (by decide) ?_
            exact k_zretf hx hb hr hlk hI rfl hf dL_isWhole_359 (Nat.le_of_ble_eq_true rfl) (Nat.le_of_ble_eq_true rfl)
          · have hf := (if_neg c71).symm.trans hf
            refine lv_aload_n hx hb dL_isWhole_290 rfl (lv_at hl 1 rfl) ?_
            refine lv_iload hx hb dL_isWhole_291 (lv_at hl 7 rfl) ?_
            obtain ⟨r72, hc, hf⟩ := mbp_e hf
            refine k_callH (As := [.ref (w.1 12 16), .int r8]) (rest := []) hx hb hml hown hI (c_L_logHour l w hsf H.size r8 M _ hc) (k_cw (n := 2) hI.T kc_L_logHour ki_L_logHour (q647 hI.T) (q648 hI.T) (by decide +kernel) ⟨rfl, rfl, Nat.le_of_ble_eq_true rfl, Nat.le_of_ble_eq_true rfl⟩) rfl hl.1 (Nat.le_of_ble_eq_true rfl) dL_isWhole_293 ⟨Nat.le_of_ble_eq_true rfl, Nat.le_of_ble_eq_true rfl⟩ (fun H locs hI => ?_)
            refine lv_bipush (v := (-75)) hx hb dL_isWhole_296 (by decide) ?_
            refine lv_icmp_ne (tgt := 358) hx hb dL_isWhole_298 (by decide) (fun c73 => ?_) (fun c73 => ?_)
            · have hf := (if_neg c73).symm.trans hf
              refine lv_iconst (v := 0) hx hb dL_isWhole_358 (by decide) ?_
              exact k_zretf hx hb hr hlk hI rfl hf dL_isWhole_359 (Nat.le_of_ble_eq_true rfl) (Nat.le_of_ble_eq_true rfl)
            · have hf := (if_pos c73).symm.trans hf
              refine lv_aload_n hx hb dL_isWhole_301 rfl (lv_at hl 1 rfl) ?_
              obtain ⟨r74, hc, hf⟩ := mbp_e hf
              refine m_callV (As := []) (rest := []) hx hb hml hown hI (c_X11_holderCount l w H.size M _ hc) (kb_X11_holderCount hI.T (q335 hI.T) (Nat.le_of_ble_eq_true rfl) (Nat.le_of_ble_eq_true rfl)) (q336 hI.T) (q337 hI.T) (m_recv (g := 12) (i := 16) hI (mokX (by decide) (by decide)) rfl rfl) rfl hl.1 (Nat.le_of_ble_eq_true rfl) dL_isWhole_302 ⟨Nat.le_of_ble_eq_true rfl, Nat.le_of_ble_eq_true rfl⟩ (fun H locs hI => ?_)
              refine lv_bipush (v := 8) hx hb dL_isWhole_305 (by decide) ?_
              refine lv_icmp_gt (tgt := 358) hx hb dL_isWhole_307 (by decide) (fun c75 => ?_) (fun c75 => ?_)
              · have hf := (if_pos c75).symm.trans hf
                refine lv_iconst (v := 0) hx hb dL_isWhole_358 (by decide) ?_
                exact k_zretf hx hb hr hlk hI rfl hf dL_isWhole_359 (Nat.le_of_ble_eq_true rfl) (Nat.le_of_ble_eq_true rfl)
              · have hf := (if_neg c75).symm.trans hf
                refine lv_aload_n hx hb dL_isWhole_310 rfl (lv_at hl 1 rfl) ?_
                obtain ⟨r76, hc, hf⟩ := mbp_e hf
                refine m_callV (As := []) (rest := []) hx hb hml hown hI (c_X11_guardCount l w H.size M _ hc) (kb_X11_guardCount hI.T (q676 hI.T) (Nat.le_of_ble_eq_true rfl) (Nat.le_of_ble_eq_true rfl)) (q677 hI.T) (q678 hI.T) (m_recv (g := 12) (i := 16) hI (mokX (by decide) (by decide)) rfl rfl) rfl hl.1 (Nat.le_of_ble_eq_true rfl) dL_isWhole_311 ⟨Nat.le_of_ble_eq_true rfl, Nat.le_of_ble_eq_true rfl⟩ (fun H locs hI => ?_)
                refine lv_iconst (v := 3) hx hb dL_isWhole_314 (by decide) ?_
                refine lv_icmp_gt (tgt := 358) hx hb dL_isWhole_315 (by decide) (fun c77 => ?_) (fun c77 => ?_)
                · have hf := (if_pos c77).symm.trans hf
                  refine lv_iconst (v := 0) hx hb dL_isWhole_358 (by decide) ?_
                  exact k_zretf hx hb hr hlk hI rfl hf dL_isWhole_359 (Nat.le_of_ble_eq_true rfl) (Nat.le_of_ble_eq_true rfl)
                · have hf := (if_neg c77).symm.trans hf
                  refine lv_aload_n hx hb dL_isWhole_318 rfl (lv_at hl 1 rfl) ?_
                  refine lv_aload_n hx hb dL_isWhole_319 rfl (lv_at hl 2 rfl) ?_
                  refine lv_iload_n hx hb dL_isWhole_320 rfl (lv_at hl 3 rfl) ?_
                  refine lv_iconst (v := 1) hx hb dL_isWhole_321 (by decide) ?_
                  refine lv_iadd hx hb dL_isWhole_322 ?_
                  refine lv_bipush (v := 97) hx hb dL_isWhole_323 (by decide) ?_
                  obtain ⟨r78, hc, hf⟩ := mbp_e hf
                  refine k_callS (As := [.ref xa, .int (a3 + (1 : Int32)), .int (97 : Int32)]) (rest := [.ref (w.1 12 16)]) hx hb hml hown hI (c_L_pick l w hsf H.size xa xl xs hX (a3 + (1 : Int32)) (97 : Int32) M _ hc) (kb_L_pick hI.T (q371 hI.T) (Nat.le_of_ble_eq_true rfl) (Nat.le_of_ble_eq_true rfl)) (q372 hI.T) rfl hl.1 (Nat.le_of_ble_eq_true rfl) dL_isWhole_325 ⟨Nat.le_of_ble_eq_true rfl, Nat.le_of_ble_eq_true rfl⟩ (fun H locs hI => ?_)
                  refine lv_iload_n hx hb dL_isWhole_328 rfl (lv_at hl 4 rfl) ?_
                  obtain ⟨r79, M80, hc, hf⟩ := mbnd_e hf
                  refine k_callS (As := [.ref (w.1 12 16), .int r78, .int a4]) (rest := []) hx hb hml hown hI (c_L_areKeys l w hsf H.size r78 a4 M _ _ hc) (kb_L_areKeys hI.T (q1400 hI.T) (Nat.le_of_ble_eq_true rfl) (Nat.le_of_ble_eq_true rfl)) (q1401 hI.T) rfl hl.1 (Nat.le_of_ble_eq_true rfl) dL_isWhole_329 ⟨Nat.le_of_ble_eq_true rfl, Nat.le_of_ble_eq_true rfl⟩ (fun H locs hI => ?_)
                  refine lv_if_eq (tgt := 358) hx hb dL_isWhole_332 (by decide) (fun c81 => ?_) (fun c81 => ?_)
                  · have hf := (if_pos c81).symm.trans hf
                    refine lv_iconst (v := 0) hx hb dL_isWhole_358 (by decide) ?_
                    exact k_zretf hx hb hr hlk hI rfl hf dL_isWhole_359 (Nat.le_of_ble_eq_true rfl) (Nat.le_of_ble_eq_true rfl)
                  · have hf := (if_neg c81).symm.trans hf
                    refine lv_iload hx hb dL_isWhole_335 (lv_at hl 5 rfl) ?_
                    obtain ⟨k354_90, ek354_90, hf⟩ := mlet_e hf
                    have hj354_90 : ∀ (M89 : Mem) (H : Heap) (locs : List Loc) (ls : Array Slot), k354_90 M89 = some (r, M9) → mI w s (mA w s.heap.size) H locs M89 → lv_has ls 11 [] → W p l e rmL_isWhole s m args below meth c H locs 491 2946 (MQ below (mQ w s.heap.size (some (.int r)) M9) args s 491 2946 (mA w s.heap.size)) (F0 m 354 ls []) := by
                      intro M89 H locs ls hf hI hl
                      rw [ek354_90] at hf
                      try dsimp only at hf
                      refine lv_iconst (v := 1) hx hb dL_isWhole_354 (by decide) ?_
                      refine lv_goto (tgt := 359) hx hb dL_isWhole_355 (by decide) ?_
                      exact k_zretf hx hb hr hlk hI rfl hf dL_isWhole_359 (Nat.le_of_ble_eq_true rfl) (Nat.le_of_ble_eq_true rfl)
                    refine lv_if_eq (tgt := 354) hx hb dL_isWhole_337 (by decide) (fun c82 => ?_) (fun c82 => ?_)
                    · have hf := (if_pos c82).symm.trans hf
                      refine W.widen (k := 491) (n := 2946) (Nat.le_of_ble_eq_true rfl) (Nat.le_of_ble_eq_true rfl) ?_
                      exact hj354_90 M80 H _ _ hf hI (lv_sub hl [] rfl)
                    · have hf := (if_neg c82).symm.trans hf
                      refine lv_aload_n hx hb dL_isWhole_340 rfl (lv_at hl 1 rfl) ?_
                      obtain ⟨r83, M84, hc, hf⟩ := mbnd_e hf
                      refine k_callS (As := [.ref (w.1 12 16)]) (rest := []) hx hb hml hown hI (c_L_areZones l w hsf H.size M80 _ _ hc) (kb_L_areZones hI.T (q1482 hI.T) (Nat.le_of_ble_eq_true rfl) (Nat.le_of_ble_eq_true rfl)) (q1483 hI.T) rfl hl.1 (Nat.le_of_ble_eq_true rfl) dL_isWhole_341 ⟨Nat.le_of_ble_eq_true rfl, Nat.le_of_ble_eq_true rfl⟩ (fun H locs hI => ?_)
                      refine lv_if_eq (tgt := 358) hx hb dL_isWhole_344 (by decide) (fun c85 => ?_) (fun c85 => ?_)
                      · have hf := (if_pos c85).symm.trans hf
                        refine lv_iconst (v := 0) hx hb dL_isWhole_358 (by decide) ?_
                        exact k_zretf hx hb hr hlk hI rfl hf dL_isWhole_359 (Nat.le_of_ble_eq_true rfl) (Nat.le_of_ble_eq_true rfl)
                      · have hf := (if_neg c85).symm.trans hf
                        refine lv_aload_n hx hb dL_isWhole_347 rfl (lv_at hl 1 rfl) ?_
                        obtain ⟨r86, M87, hc, hf⟩ := mbnd_e hf
                        refine m_callV (As := []) (rest := []) hx hb hml hown hI (c_X11_isConsistent l w H.size M84 _ _ hc) (kb_X11_isConsistent hI.T (q1565 hI.T) (Nat.le_of_ble_eq_true rfl) (Nat.le_of_ble_eq_true rfl)) (q1566 hI.T) (q1567 hI.T) (m_recv (g := 12) (i := 16) hI (mokX (by decide) (by decide)) rfl rfl) rfl hl.1 (Nat.le_of_ble_eq_true rfl) dL_isWhole_348 ⟨Nat.le_of_ble_eq_true rfl, Nat.le_of_ble_eq_true rfl⟩ (fun H locs hI => ?_)
                        refine lv_if_eq (tgt := 358) hx hb dL_isWhole_351 (by decide) (fun c88 => ?_) (fun c88 => ?_)
                        · have hf := (if_pos c88).symm.trans hf
                          refine lv_iconst (v := 0) hx hb dL_isWhole_358 (by decide) ?_
                          exact k_zretf hx hb hr hlk hI rfl hf dL_isWhole_359 (Nat.le_of_ble_eq_true rfl) (Nat.le_of_ble_eq_true rfl)
                        · have hf := (if_neg c88).symm.trans hf
                          exact hj354_90 M87 H _ _ hf hI (lv_sub hl [] rfl)
    obtain ⟨k266_65, ek266_65, hf⟩ := mlet_e hf
    have hj266_65 : ∀ (_u : Unit) (H : Heap) (locs : List Loc) (ls : Array Slot), k266_65 _u = some (r, M9) → mI w s (mA w s.heap.size) H locs M → lv_has ls 11 [(0, .ref (w.1 12 16)), (1, .ref xa), (2, .int a3), (3, .int a4), (4, .int a5), (5, .int x7), (6, .int r8)] → W p l e rmL_isWhole s m args below meth c H locs 88 528 (MQ below (mQ w s.heap.size (some (.int r)) M9) args s 491 2946 (mA w s.heap.size)) (F0 m 266 ls []) := by
      intro _u H locs ls hf hI hl
      rw [ek266_65] at hf
      try dsimp only at hf
      refine lv_iconst (v := 0) hx hb dL_isWhole_266 (by decide) ?_
      exact hj267_67 (0 : Int32) H _ _ hf hI (lv_sub hl [0, 1, 2, 3, 4, 5, 6] rfl)
    refine lv_icmp_ne (tgt := 266) hx hb dL_isWhole_200 (by decide) (fun c46 => ?_) (fun c46 => ?_)
    · have hf := (if_neg c46).symm.trans hf
      exact hj266_65 () H _ _ hf hI (lv_sub hl [0, 1, 2, 3, 4, 5, 6] rfl)
    · have hf := (if_pos c46).symm.trans hf
      refine lv_aload_n hx hb dL_isWhole_203 rfl (lv_at hl 0 rfl) ?_
      obtain ⟨r47, hc, hf⟩ := mbp_e hf
      refine m_callV (As := []) (rest := []) hx hb hml hown hI (c_X11_isOpen l w H.size M _ hc) (kb_X11_isOpen hI.T (q343 hI.T) (Nat.le_of_ble_eq_true rfl) (Nat.le_of_ble_eq_true rfl)) (q344 hI.T) (q345 hI.T) (m_recv (g := 12) (i := 16) hI (mokX (by decide) (by decide)) rfl rfl) rfl hl.1 (Nat.le_of_ble_eq_true rfl) dL_isWhole_204 ⟨Nat.le_of_ble_eq_true rfl, Nat.le_of_ble_eq_true rfl⟩ (fun H locs hI => ?_)
      obtain ⟨k231_55, ek231_55, hf⟩ := mlet_e hf
      have hj231_55 : ∀ (_u : Unit) (H : Heap) (locs : List Loc) (ls : Array Slot), k231_55 _u = some (r, M9) → mI w s (mA w s.heap.size) H locs M → lv_has ls 11 [(0, .ref (w.1 12 16)), (1, .ref xa), (2, .int a3), (3, .int a4), (4, .int a5), (5, .int x7), (6, .int r8)] → W p l e rmL_isWhole s m args below meth c H locs 88 528 (MQ below (mQ w s.heap.size (some (.int r)) M9) args s 491 2946 (mA w s.heap.size)) (F0 m 231 ls []) := by
        intro _u H locs ls hf hI hl
        rw [ek231_55] at hf
        try dsimp only at hf
        refine lv_aload_n hx hb dL_isWhole_231 rfl (lv_at hl 0 rfl) ?_
        obtain ⟨r56, hc, hf⟩ := mbp_e hf
        refine m_callV (As := []) (rest := []) hx hb hml hown hI (c_X11_lockedHours l w H.size M _ hc) (kb_X11_lockedHours hI.T (q347 hI.T) (Nat.le_of_ble_eq_true rfl) (Nat.le_of_ble_eq_true rfl)) (q348 hI.T) (q349 hI.T) (m_recv (g := 12) (i := 16) hI (mokX (by decide) (by decide)) rfl rfl) rfl hl.1 (Nat.le_of_ble_eq_true rfl) dL_isWhole_232 ⟨Nat.le_of_ble_eq_true rfl, Nat.le_of_ble_eq_true rfl⟩ (fun H locs hI => ?_)
        refine lv_bipush (v := 6) hx hb dL_isWhole_235 (by decide) ?_
        refine lv_icmp_gt (tgt := 266) hx hb dL_isWhole_237 (by decide) (fun c57 => ?_) (fun c57 => ?_)
        · have hf := (if_pos c57).symm.trans hf
          exact hj266_65 () H _ _ hf hI (lv_sub hl [0, 1, 2, 3, 4, 5, 6] rfl)
        · have hf := (if_neg c57).symm.trans hf
          refine lv_aload_n hx hb dL_isWhole_240 rfl (lv_at hl 0 rfl) ?_
          obtain ⟨r58, hc, hf⟩ := mbp_e hf
          refine m_callV (As := []) (rest := []) hx hb hml hown hI (c_X11_failedAttempts l w H.size M _ hc) (kb_X11_failedAttempts hI.T (q351 hI.T) (Nat.le_of_ble_eq_true rfl) (Nat.le_of_ble_eq_true rfl)) (q352 hI.T) (q353 hI.T) (m_recv (g := 12) (i := 16) hI (mokX (by decide) (by decide)) rfl rfl) rfl hl.1 (Nat.le_of_ble_eq_true rfl) dL_isWhole_241 ⟨Nat.le_of_ble_eq_true rfl, Nat.le_of_ble_eq_true rfl⟩ (fun H locs hI => ?_)
          refine lv_iconst (v := 2) hx hb dL_isWhole_244 (by decide) ?_
          refine lv_icmp_gt (tgt := 266) hx hb dL_isWhole_245 (by decide) (fun c59 => ?_) (fun c59 => ?_)
          · have hf := (if_pos c59).symm.trans hf
            exact hj266_65 () H _ _ hf hI (lv_sub hl [0, 1, 2, 3, 4, 5, 6] rfl)
          · have hf := (if_neg c59).symm.trans hf
            refine lv_aload_n hx hb dL_isWhole_248 rfl (lv_at hl 0 rfl) ?_
            obtain ⟨r60, hc, hf⟩ := mbp_e hf
            refine m_callV (As := []) (rest := []) hx hb hml hown hI (c_X11_isSealed l w H.size M _ hc) (kb_X11_isSealed hI.T (q1396 hI.T) (Nat.le_of_ble_eq_true rfl) (Nat.le_of_ble_eq_true rfl)) (q1397 hI.T) (q1398 hI.T) (m_recv (g := 12) (i := 16) hI (mokX (by decide) (by decide)) rfl rfl) rfl hl.1 (Nat.le_of_ble_eq_true rfl) dL_isWhole_249 ⟨Nat.le_of_ble_eq_true rfl, Nat.le_of_ble_eq_true rfl⟩ (fun H locs hI => ?_)
            obtain ⟨k262_64, ek262_64, hf⟩ := mlet_e hf
            have hj262_64 : ∀ (_u : Unit) (H : Heap) (locs : List Loc) (ls : Array Slot), k262_64 _u = some (r, M9) → mI w s (mA w s.heap.size) H locs M → lv_has ls 11 [(0, .ref (w.1 12 16)), (1, .ref xa), (2, .int a3), (3, .int a4), (4, .int a5), (5, .int x7), (6, .int r8)] → W p l e rmL_isWhole s m args below meth c H locs 88 528 (MQ below (mQ w s.heap.size (some (.int r)) M9) args s 491 2946 (mA w s.heap.size)) (F0 m 262 ls []) := by
              intro _u H locs ls hf hI hl
              rw [ek262_64] at hf
              try dsimp only at hf
              refine lv_iconst (v := 1) hx hb dL_isWhole_262 (by decide) ?_
              refine lv_goto (tgt := 267) hx hb dL_isWhole_263 (by decide) ?_
              exact hj267_67 (1 : Int32) H _ _ hf hI (lv_sub hl [0, 1, 2, 3, 4, 5, 6] rfl)
            refine lv_if_ne (tgt := 262) hx hb dL_isWhole_252 (by decide) (fun c61 => ?_) (fun c61 => ?_)
            · have hf := (if_neg c61).symm.trans hf
              exact hj262_64 () H _ _ hf hI (lv_sub hl [0, 1, 2, 3, 4, 5, 6] rfl)
            · have hf := (if_pos c61).symm.trans hf
              refine lv_aload_n hx hb dL_isWhole_255 rfl (lv_at hl 0 rfl) ?_
              obtain ⟨r62, hc, hf⟩ := mbp_e hf
              refine m_callV (As := []) (rest := []) hx hb hml hown hI (c_X11_presentedCount l w H.size M _ hc) (kb_X11_presentedCount hI.T (q339 hI.T) (Nat.le_of_ble_eq_true rfl) (Nat.le_of_ble_eq_true rfl)) (q340 hI.T) (q341 hI.T) (m_recv (g := 12) (i := 16) hI (mokX (by decide) (by decide)) rfl rfl) rfl hl.1 (Nat.le_of_ble_eq_true rfl) dL_isWhole_256 ⟨Nat.le_of_ble_eq_true rfl, Nat.le_of_ble_eq_true rfl⟩ (fun H locs hI => ?_)
              refine lv_if_ne (tgt := 266) hx hb dL_isWhole_259 (by decide) (fun c63 => ?_) (fun c63 => ?_)
              · have hf := (if_neg c63).symm.trans hf
                exact hj266_65 () H _ _ hf hI (lv_sub hl [0, 1, 2, 3, 4, 5, 6] rfl)
              · have hf := (if_pos c63).symm.trans hf
                exact hj262_64 () H _ _ hf hI (lv_sub hl [0, 1, 2, 3, 4, 5, 6] rfl)
      refine lv_if_eq (tgt := 231) hx hb dL_isWhole_207 (by decide) (fun c48 => ?_) (fun c48 => ?_)
      · have hf := (if_pos c48).symm.trans hf
        exact hj231_55 () H _ _ hf hI (lv_sub hl [0, 1, 2, 3, 4, 5, 6] rfl)
      · have hf := (if_neg c48).symm.trans hf
        refine lv_aload_n hx hb dL_isWhole_210 rfl (lv_at hl 0 rfl) ?_
        obtain ⟨r49, hc, hf⟩ := mbp_e hf
        refine m_callV (As := []) (rest := []) hx hb hml hown hI (c_X11_isSealed l w H.size M _ hc) (kb_X11_isSealed hI.T (q1396 hI.T) (Nat.le_of_ble_eq_true rfl) (Nat.le_of_ble_eq_true rfl)) (q1397 hI.T) (q1398 hI.T) (m_recv (g := 12) (i := 16) hI (mokX (by decide) (by decide)) rfl rfl) rfl hl.1 (Nat.le_of_ble_eq_true rfl) dL_isWhole_211 ⟨Nat.le_of_ble_eq_true rfl, Nat.le_of_ble_eq_true rfl⟩ (fun H locs hI => ?_)
        refine lv_if_eq (tgt := 266) hx hb dL_isWhole_214 (by decide) (fun c50 => ?_) (fun c50 => ?_)
        · have hf := (if_pos c50).symm.trans hf
          exact hj266_65 () H _ _ hf hI (lv_sub hl [0, 1, 2, 3, 4, 5, 6] rfl)
        · have hf := (if_neg c50).symm.trans hf
          refine lv_aload_n hx hb dL_isWhole_217 rfl (lv_at hl 0 rfl) ?_
          obtain ⟨r51, hc, hf⟩ := mbp_e hf
          refine m_callV (As := []) (rest := []) hx hb hml hown hI (c_X11_openingCount l w H.size M _ hc) (kb_X11_openingCount hI.T (q359 hI.T) (Nat.le_of_ble_eq_true rfl) (Nat.le_of_ble_eq_true rfl)) (q360 hI.T) (q361 hI.T) (m_recv (g := 12) (i := 16) hI (mokX (by decide) (by decide)) rfl rfl) rfl hl.1 (Nat.le_of_ble_eq_true rfl) dL_isWhole_218 ⟨Nat.le_of_ble_eq_true rfl, Nat.le_of_ble_eq_true rfl⟩ (fun H locs hI => ?_)
          refine lv_if_le (tgt := 266) hx hb dL_isWhole_221 (by decide) (fun c52 => ?_) (fun c52 => ?_)
          · have hf := (if_pos c52).symm.trans hf
            exact hj266_65 () H _ _ hf hI (lv_sub hl [0, 1, 2, 3, 4, 5, 6] rfl)
          · have hf := (if_neg c52).symm.trans hf
            refine lv_aload_n hx hb dL_isWhole_224 rfl (lv_at hl 0 rfl) ?_
            obtain ⟨r53, hc, hf⟩ := mbp_e hf
            refine m_callV (As := []) (rest := []) hx hb hml hown hI (c_X11_lockedHours l w H.size M _ hc) (kb_X11_lockedHours hI.T (q347 hI.T) (Nat.le_of_ble_eq_true rfl) (Nat.le_of_ble_eq_true rfl)) (q348 hI.T) (q349 hI.T) (m_recv (g := 12) (i := 16) hI (mokX (by decide) (by decide)) rfl rfl) rfl hl.1 (Nat.le_of_ble_eq_true rfl) dL_isWhole_225 ⟨Nat.le_of_ble_eq_true rfl, Nat.le_of_ble_eq_true rfl⟩ (fun H locs hI => ?_)
            refine lv_if_ne (tgt := 266) hx hb dL_isWhole_228 (by decide) (fun c54 => ?_) (fun c54 => ?_)
            · have hf := (if_neg c54).symm.trans hf
              exact hj266_65 () H _ _ hf hI (lv_sub hl [0, 1, 2, 3, 4, 5, 6] rfl)
            · have hf := (if_pos c54).symm.trans hf
              exact hj231_55 () H _ _ hf hI (lv_sub hl [0, 1, 2, 3, 4, 5, 6] rfl)
  refine lv_if_le (tgt := 199) hx hb dL_isWhole_192 (by decide) (fun c43 => ?_) (fun c43 => ?_)
  · have hf := (if_pos c43).symm.trans hf
    refine lv_iconst (v := 0) hx hb dL_isWhole_199 (by decide) ?_
    exact hj200_45 (0 : Int32) H _ _ hf hI (lv_sub hl [0, 1, 2, 3, 4, 5, 6] rfl)
  · have hf := (if_neg c43).symm.trans hf
    refine lv_iconst (v := 1) hx hb dL_isWhole_195 (by decide) ?_
    refine lv_goto (tgt := 200) hx hb dL_isWhole_196 (by decide) ?_
    exact hj200_45 (1 : Int32) H _ _ hf hI (lv_sub hl [0, 1, 2, 3, 4, 5, 6] rfl)
abbrev rmL_isKept : Room := { frames := 12, cells := 1212, slots := 7272, locals := 227 }
theorem kb_L_isKept {R : Room} {s : State} {args : Array Value} {own : String} {idx : Nat} (hT : mT s) (hlink : (Cond.methodLink own idx yL_isKept).before args s = true) (h1 : rmL_isKept.frames + 1 ≤ R.frames) (h2 : 8 + (6 + 11) + rmL_isKept.locals ≤ R.locals) : CallB R s args own idx yL_isKept cL_isKept 6 (some .boolean) [Cond.code yL_isKept cL_isKept 6 (some .boolean)] rmL_isKept 1212 7272 3 := m_callB hT kc_L_isKept ki_L_isKept hlink (by decide +kernel) ⟨rfl, rfl, h1, h2⟩
set_option maxHeartbeats 4000000 in
set_option maxRecDepth 100000 in
theorem c_L_isKept (l : Launch) (w : WD) (hsf : l.stackTraces = false) (sz : Nat) (ya : Nat) (yf : Nat → Int64) (hY : ∀ A U H, mSt w A U H → va_T .long ya 70 (fun k => .long (yf k)) A U H) (a3 : Int32) (M : Mem) (r : Int32) (M9 : Mem) (hf : f_L_isKept yf a3 M = some (r, M9)) : kMet l yL_isKept [Cond.code yL_isKept cL_isKept 6 (some .boolean)] rmL_isKept w sz M [.ref (w.1 12 16), .ref ya, .int a3] (some (.int r)) M9 1212 7272 := by
  refine k_of (by decide) (Nat.le_of_ble_eq_true rfl) ?_
  intro p e s m args below meth c hx hb hr hml hown hlk hI ls hl
  have hl : lv_has ls 6 [(0, .ref (w.1 12 16)), (1, .ref ya), (2, .int a3)] := hl
  unfold f_L_isKept at hf
  refine lv_aload_n hx hb dL_isKept_0 rfl (lv_at hl 0 rfl) ?_
  obtain ⟨r1, M2, hc, hf⟩ := mbnd_e hf
  refine m_callV (As := []) (rest := []) hx hb hml hown hI (c_X11_save l w s.heap.size M _ _ hc) (kb_X11_save hI.T (q1580 hI.T) (Nat.le_of_ble_eq_true rfl) (Nat.le_of_ble_eq_true rfl)) (q1581 hI.T) (q1582 hI.T) (m_recv (g := 12) (i := 16) hI (mokX (by decide) (by decide)) rfl rfl) rfl hl.1 (Nat.le_of_ble_eq_true rfl) dL_isKept_1 ⟨Nat.le_of_ble_eq_true rfl, Nat.le_of_ble_eq_true rfl⟩ (fun H locs hI => ?_)
  refine lv_istore_n (lv' := [(3, .int r1), (0, .ref (w.1 12 16)), (1, .ref ya), (2, .int a3)]) hx hb dL_isKept_4 rfl hl (by decide) rfl (fun ls hl => ?_)
  refine lv_bipush (v := 8) hx hb dL_isKept_5 (by decide) ?_
  refine lv_iload_n hx hb dL_isKept_7 rfl (lv_at hl 3 rfl) ?_
  refine va_mmin hx hb (hml.trans hl.1.symm) hown (q1584 hI.T) (q792 hI.T) (q21 hI.T) (q793 hI.T) (Nat.le_of_ble_eq_true rfl) (Nat.le_of_ble_eq_true rfl) (Nat.le_of_ble_eq_true rfl) (Nat.le_of_ble_eq_true rfl) dL_isKept_8 ?_
  refine lv_topi (fun x3 ex3 => ?_)
  have hf := mlet_s ex3 hf
  refine lv_istore (lv' := [(4, .int x3), (3, .int r1), (0, .ref (w.1 12 16)), (1, .ref ya), (2, .int a3)]) hx hb dL_isKept_11 hl (by decide) rfl (fun ls hl => ?_)
  refine lv_aload_n hx hb dL_isKept_13 rfl (lv_at hl 2 rfl) ?_
  obtain ⟨r4, hc, hf⟩ := mbp_e hf
  refine m_callV (As := []) (rest := []) hx hb hml hown hI (c_X11_undoCount l w H.size M2 _ hc) (kb_X11_undoCount hI.T (q367 hI.T) (Nat.le_of_ble_eq_true rfl) (Nat.le_of_ble_eq_true rfl)) (q368 hI.T) (q369 hI.T) (m_recv (g := 12) (i := 16) hI (mokX (by decide) (by decide)) rfl rfl) rfl hl.1 (Nat.le_of_ble_eq_true rfl) dL_isKept_14 ⟨Nat.le_of_ble_eq_true rfl, Nat.le_of_ble_eq_true rfl⟩ (fun H locs hI => ?_)
  refine lv_iload hx hb dL_isKept_17 (lv_at hl 0 rfl) ?_
  refine lv_icmp_eq (tgt := 24) hx hb dL_isKept_19 (by decide) (fun c5 => ?_) (fun c5 => ?_)
  · have hf := (if_pos c5).symm.trans hf
    refine lv_iload_n hx hb dL_isKept_24 rfl (lv_at hl 4 rfl) ?_
    refine lv_iconst (v := 1) hx hb dL_isKept_25 (by decide) ?_
    refine lv_isub hx hb dL_isKept_26 ?_
    refine lv_topi (fun x6 ex6 => ?_)
    have hf := mlet_s ex6 hf
    refine lv_istore (lv' := [(5, .int x6), (4, .int x3), (3, .int r1), (0, .ref (w.1 12 16)), (1, .ref ya), (2, .int a3)]) hx hb dL_isKept_27 hl (by decide) rfl (fun ls hl => ?_)
    have hL29 : ∀ (n : Nat) (x7 : Int32) (x8 : Int32) (M10 : Mem) (kk : Mem → Option (Int32 × Mem)) (H : Heap) (locs : List Loc) (ls : Array Slot) (kc29 ks29 : Nat), kc29 + n * 121 ≤ 1089 → ks29 + n * 726 ≤ 6534 → f_L_isKept_L29 yf n x7 x8 M10 kk = some (r, M9) → mI w s (mA w s.heap.size) H locs M10 → lv_has ls 6 [(0, .ref (w.1 12 16)), (1, .ref ya), (2, .int a3), (3, .int r1), (4, .int x7), (5, .int x8)] → (∀  (M10 : Mem) (H : Heap) (locs : List Loc) (ls : Array Slot), kk M10 = some (r, M9) → mI w s (mA w s.heap.size) H locs M10 → lv_has ls 6 [(0, .ref (w.1 12 16)), (1, .ref ya), (2, .int a3), (3, .int r1)] → W p l e rmL_isKept s m args below meth c H locs 1089 6534 (MQ below (mQ w s.heap.size (some (.int r)) M9) args s 1212 7272 (mA w s.heap.size)) (F0 m 66 ls [])) → W p l e rmL_isKept s m args below meth c H locs kc29 ks29 (MQ below (mQ w s.heap.size (some (.int r)) M9) args s 1212 7272 (mA w s.heap.size)) (F0 m 29 ls []) := by
      intro n
      induction n with
      | zero => intro x7 x8 M10 kk H locs ls kc29 ks29 hkc hks hf hI hl hk; rw [f_L_isKept_L29.eq_1] at hf; cases hf
      | succ n ih29 =>
        intro x7 x8 M10 kk H locs ls kc29 ks29 hkc hks hf hI hl hk
        rw [f_L_isKept_L29.eq_2] at hf
        refine lv_iload hx hb dL_isKept_29 (lv_at hl 4 rfl) ?_
        refine lv_if_le (tgt := 66) hx hb dL_isKept_31 (by decide) (fun c11 => ?_) (fun c11 => ?_)
        · have hf := (if_pos c11).symm.trans hf
          refine W.widen (k := 1089) (n := 6534) (by omega) (by omega) ?_
          exact hk M10 H _ _ hf hI (lv_sub hl [0, 1, 2, 3] rfl)
        · have hf := (if_neg c11).symm.trans hf
          obtain ⟨x12, ex12, hf⟩ := mlet_e hf
          refine lv_iinc (v := x12) (lv' := [(4, .int x12), (0, .ref (w.1 12 16)), (1, .ref ya), (2, .int a3), (3, .int r1), (5, .int x8)]) hx hb dL_isKept_34 hl (k := 4) rfl (by rw [ex12]; rfl) (by decide) rfl (fun ls hl => ?_)
          refine lv_aload_n hx hb dL_isKept_37 rfl (lv_at hl 1 rfl) ?_
          obtain ⟨r13, M14, hc, hf⟩ := mbnd_e hf
          refine k_callH (As := [.ref (w.1 12 16)]) (rest := []) hx hb hml hown hI (c_L_undo l w hsf H.size M10 _ _ hc) (k_cw (n := 1) hI.T kc_L_undo ki_L_undo (q1585 hI.T) (q1586 hI.T) (by decide +kernel) ⟨rfl, rfl, Nat.le_of_ble_eq_true rfl, Nat.le_of_ble_eq_true rfl⟩) rfl hl.1 (Nat.le_of_ble_eq_true rfl) dL_isKept_38 ⟨Nat.le_trans (m := 1089) (by omega) (Nat.le_of_ble_eq_true rfl), Nat.le_trans (m := 6534) (by omega) (Nat.le_of_ble_eq_true rfl)⟩ (fun H locs hI => ?_)
          refine lv_iload hx hb dL_isKept_41 (lv_at hl 0 rfl) ?_
          refine lv_icmp_ne (tgt := 58) hx hb dL_isKept_43 (by decide) (fun c15 => ?_) (fun c15 => ?_)
          · have hf := (if_neg c15).symm.trans hf
            refine lv_iconst (v := 0) hx hb dL_isKept_58 (by decide) ?_
            exact k_zretf hx hb hr hlk hI rfl hf dL_isKept_59 (by omega) (by omega)
          · have hf := (if_pos c15).symm.trans hf
            refine lv_aload_n hx hb dL_isKept_46 rfl (lv_at hl 1 rfl) ?_
            obtain ⟨r16, hc, hf⟩ := mbp_e hf
            refine k_callS (As := [.ref (w.1 12 16)]) (rest := []) hx hb hml hown hI (c_L_sum l w hsf H.size M14 _ hc) (kb_L_sum hI.T (q1358 hI.T) (Nat.le_of_ble_eq_true rfl) (Nat.le_of_ble_eq_true rfl)) (q1359 hI.T) rfl hl.1 (Nat.le_of_ble_eq_true rfl) dL_isKept_47 ⟨Nat.le_trans (m := 1089) (by omega) (Nat.le_of_ble_eq_true rfl), Nat.le_trans (m := 6534) (by omega) (Nat.le_of_ble_eq_true rfl)⟩ (fun H locs hI => ?_)
            refine lv_aload_n hx hb dL_isKept_50 rfl (lv_at hl 2 rfl) ?_
            refine lv_iload hx hb dL_isKept_51 (lv_at hl 5 rfl) ?_
            obtain ⟨hi, hf⟩ := mix_e hf
            refine va_tl hx hb (hY _ _ _ hI.St) hI.S hi rfl dL_isKept_53 ?_
            refine W.lcmp hx hb dL_isKept_54 ?_
            refine lv_if_eq (tgt := 60) hx hb dL_isKept_55 (by decide) (fun c17 => ?_) (fun c17 => ?_)
            · have hf := (if_pos c17).symm.trans hf
              obtain ⟨x18, ex18, hf⟩ := mlet_e hf
              refine lv_iinc (v := x18) (lv' := [(5, .int x18), (4, .int x12), (0, .ref (w.1 12 16)), (1, .ref ya), (2, .int a3), (3, .int r1)]) hx hb dL_isKept_60 hl (k := 5) rfl (by rw [ex18]; rfl) (by decide) rfl (fun ls hl => ?_)
              refine lv_goto (tgt := 29) hx hb dL_isKept_63 (by decide) ?_
              exact ih29 x12 x18 M14 kk H _ _ _ _ (by omega) (by omega) hf hI (lv_sub hl [2, 3, 4, 5, 1, 0] rfl) hk
            · have hf := (if_neg c17).symm.trans hf
              refine lv_iconst (v := 0) hx hb dL_isKept_58 (by decide) ?_
              exact k_zretf hx hb hr hlk hI rfl hf dL_isKept_59 (by omega) (by omega)
    refine hL29 9 x3 x6 M2 _ _ _ _ _ _ (Nat.le_of_ble_eq_true rfl) (Nat.le_of_ble_eq_true rfl) hf hI (lv_sub hl [3, 4, 5, 2, 1, 0] rfl) ?_
    intro M19 H locs ls hf hI hl
    try dsimp only at hf
    refine lv_aload_n hx hb dL_isKept_66 rfl (lv_at hl 0 rfl) ?_
    obtain ⟨r20, M21, hc, hf⟩ := mbnd_e hf
    refine k_callH (As := [.ref (w.1 12 16)]) (rest := []) hx hb hml hown hI (c_L_undo l w hsf H.size M19 _ _ hc) (k_cw (n := 1) hI.T kc_L_undo ki_L_undo (q1585 hI.T) (q1586 hI.T) (by decide +kernel) ⟨rfl, rfl, Nat.le_of_ble_eq_true rfl, Nat.le_of_ble_eq_true rfl⟩) rfl hl.1 (Nat.le_of_ble_eq_true rfl) dL_isKept_67 ⟨Nat.le_of_ble_eq_true rfl, Nat.le_of_ble_eq_true rfl⟩ (fun H locs hI => ?_)
    refine lv_bipush (v := (-79)) hx hb dL_isKept_70 (by decide) ?_
    refine lv_icmp_ne (tgt := 107) hx hb dL_isKept_72 (by decide) (fun c22 => ?_) (fun c22 => ?_)
    · have hf := (if_neg c22).symm.trans hf
      refine lv_iconst (v := 0) hx hb dL_isKept_107 (by decide) ?_
      exact k_zretf hx hb hr hlk hI rfl hf dL_isKept_108 (Nat.le_of_ble_eq_true rfl) (Nat.le_of_ble_eq_true rfl)
    · have hf := (if_pos c22).symm.trans hf
      refine lv_aload_n hx hb dL_isKept_75 rfl (lv_at hl 0 rfl) ?_
      obtain ⟨r23, M24, hc, hf⟩ := mbnd_e hf
      refine k_callH (As := [.ref (w.1 12 16)]) (rest := []) hx hb hml hown hI (c_L_restore l w hsf H.size M21 _ _ hc) (k_cw (n := 1) hI.T kc_L_restore ki_L_restore (q1597 hI.T) (q1598 hI.T) (by decide +kernel) ⟨rfl, rfl, Nat.le_of_ble_eq_true rfl, Nat.le_of_ble_eq_true rfl⟩) rfl hl.1 (Nat.le_of_ble_eq_true rfl) dL_isKept_76 ⟨Nat.le_of_ble_eq_true rfl, Nat.le_of_ble_eq_true rfl⟩ (fun H locs hI => ?_)
      refine lv_iload_n hx hb dL_isKept_79 rfl (lv_at hl 3 rfl) ?_
      refine lv_icmp_ne (tgt := 107) hx hb dL_isKept_80 (by decide) (fun c25 => ?_) (fun c25 => ?_)
      · have hf := (if_neg c25).symm.trans hf
        refine lv_iconst (v := 0) hx hb dL_isKept_107 (by decide) ?_
        exact k_zretf hx hb hr hlk hI rfl hf dL_isKept_108 (Nat.le_of_ble_eq_true rfl) (Nat.le_of_ble_eq_true rfl)
      · have hf := (if_pos c25).symm.trans hf
        refine lv_aload_n hx hb dL_isKept_83 rfl (lv_at hl 0 rfl) ?_
        obtain ⟨r26, hc, hf⟩ := mbp_e hf
        refine k_callS (As := [.ref (w.1 12 16)]) (rest := []) hx hb hml hown hI (c_L_sum l w hsf H.size M24 _ hc) (kb_L_sum hI.T (q1358 hI.T) (Nat.le_of_ble_eq_true rfl) (Nat.le_of_ble_eq_true rfl)) (q1359 hI.T) rfl hl.1 (Nat.le_of_ble_eq_true rfl) dL_isKept_84 ⟨Nat.le_of_ble_eq_true rfl, Nat.le_of_ble_eq_true rfl⟩ (fun H locs hI => ?_)
        refine lv_aload_n hx hb dL_isKept_87 rfl (lv_at hl 1 rfl) ?_
        refine lv_iload_n hx hb dL_isKept_88 rfl (lv_at hl 2 rfl) ?_
        obtain ⟨hi, hf⟩ := mix_e hf
        refine va_tl hx hb (hY _ _ _ hI.St) hI.S hi rfl dL_isKept_89 ?_
        refine W.lcmp hx hb dL_isKept_90 ?_
        refine lv_if_ne (tgt := 107) hx hb dL_isKept_91 (by decide) (fun c27 => ?_) (fun c27 => ?_)
        · have hf := (if_neg c27).symm.trans hf
          refine lv_iconst (v := 0) hx hb dL_isKept_107 (by decide) ?_
          exact k_zretf hx hb hr hlk hI rfl hf dL_isKept_108 (Nat.le_of_ble_eq_true rfl) (Nat.le_of_ble_eq_true rfl)
        · have hf := (if_pos c27).symm.trans hf
          refine lv_aload_n hx hb dL_isKept_94 rfl (lv_at hl 0 rfl) ?_
          obtain ⟨r28, M29, hc, hf⟩ := mbnd_e hf
          refine k_callH (As := [.ref (w.1 12 16)]) (rest := []) hx hb hml hown hI (c_L_undo l w hsf H.size M24 _ _ hc) (k_cw (n := 1) hI.T kc_L_undo ki_L_undo (q1585 hI.T) (q1586 hI.T) (by decide +kernel) ⟨rfl, rfl, Nat.le_of_ble_eq_true rfl, Nat.le_of_ble_eq_true rfl⟩) rfl hl.1 (Nat.le_of_ble_eq_true rfl) dL_isKept_95 ⟨Nat.le_of_ble_eq_true rfl, Nat.le_of_ble_eq_true rfl⟩ (fun H locs hI => ?_)
          refine lv_bipush (v := (-79)) hx hb dL_isKept_98 (by decide) ?_
          refine lv_icmp_ne (tgt := 107) hx hb dL_isKept_100 (by decide) (fun c30 => ?_) (fun c30 => ?_)
          · have hf := (if_neg c30).symm.trans hf
            refine lv_iconst (v := 0) hx hb dL_isKept_107 (by decide) ?_
            exact k_zretf hx hb hr hlk hI rfl hf dL_isKept_108 (Nat.le_of_ble_eq_true rfl) (Nat.le_of_ble_eq_true rfl)
          · have hf := (if_pos c30).symm.trans hf
            refine lv_iconst (v := 1) hx hb dL_isKept_103 (by decide) ?_
            refine lv_goto (tgt := 108) hx hb dL_isKept_104 (by decide) ?_
            exact k_zretf hx hb hr hlk hI rfl hf dL_isKept_108 (Nat.le_of_ble_eq_true rfl) (Nat.le_of_ble_eq_true rfl)
  · have hf := (if_neg c5).symm.trans hf
    refine lv_iconst (v := 0) hx hb dL_isKept_22 (by decide) ?_
    exact k_zretf hx hb hr hlk hI rfl hf dL_isKept_23 (Nat.le_of_ble_eq_true rfl) (Nat.le_of_ble_eq_true rfl)
