/-! THE LAW: what one word of the script does -/
set_option maxHeartbeats 4000000 in
set_option maxRecDepth 100000 in
theorem c_L_does (l : Launch) (w : WD) (hsf : l.stackTraces = false) (sz : Nat) (xa xl : Nat) (xs : Nat → Int32) (hX : ∀ A U H, mSt w A U H → va_T .int xa xl (fun k => .int (xs k)) A U H) (a2 : Int32) (a3 : Int32) (a5 : Int32) (a6 : Int32) (M : Mem) (r : Int32) (M9 : Mem) (hf : f_L_does xl xs a2 a3 a5 a6 M = some (r, M9)) : kMet l yL_does [Cond.code yL_does cL_does 9 (some .int)] rmL_does w sz M [.ref xa, .int a2, .int a3, .ref (w.1 12 16), .int a5, .int a6] (some (.int r)) M9 40 400 := by
  refine k_of (by decide) (Nat.le_of_ble_eq_true rfl) ?_
  intro p e s m args below meth c hx hb hr hml hown hlk hI ls hl
  have hl : lv_has ls 9 [(0, .ref xa), (1, .int a2), (2, .int a3), (3, .ref (w.1 12 16)), (4, .int a5), (5, .int a6)] := hl
  unfold f_L_does at hf
  refine lv_aload_n hx hb dL_does_0 rfl (lv_at hl 0 rfl) ?_
  refine lv_iload_n hx hb dL_does_1 rfl (lv_at hl 1 rfl) ?_
  refine lv_iconst (v := 3) hx hb dL_does_2 (by decide) ?_
  refine lv_iadd hx hb dL_does_3 ?_
  refine lv_sipush (v := 1000) hx hb dL_does_4 (by decide) ?_
  obtain ⟨r1, hc, hf⟩ := mbp_e hf
  refine k_callS (As := [.ref xa, .int (a2 + (3 : Int32)), .int (1000 : Int32)]) (rest := []) hx hb hml hown hI (c_L_pick l w hsf s.heap.size xa xl xs hX (a2 + (3 : Int32)) (1000 : Int32) M _ hc) (kb_L_pick hI.T (q371 hI.T) (Nat.le_of_ble_eq_true rfl) (Nat.le_of_ble_eq_true rfl)) (q372 hI.T) rfl hl.1 (Nat.le_of_ble_eq_true rfl) dL_does_7 ⟨Nat.le_of_ble_eq_true rfl, Nat.le_of_ble_eq_true rfl⟩ (fun H locs hI => ?_)
  refine lv_istore (lv' := [(6, .int r1), (0, .ref xa), (1, .int a2), (2, .int a3), (3, .ref (w.1 12 16)), (4, .int a5), (5, .int a6)]) hx hb dL_does_10 hl (by decide) rfl (fun ls hl => ?_)
  refine lv_aload_n hx hb dL_does_12 rfl (lv_at hl 1 rfl) ?_
  refine lv_iload_n hx hb dL_does_13 rfl (lv_at hl 2 rfl) ?_
  refine lv_iconst (v := 4) hx hb dL_does_14 (by decide) ?_
  refine lv_iadd hx hb dL_does_15 ?_
  refine lv_sipush (v := 1000) hx hb dL_does_16 (by decide) ?_
  obtain ⟨r2, hc, hf⟩ := mbp_e hf
  refine k_callS (As := [.ref xa, .int (a2 + (4 : Int32)), .int (1000 : Int32)]) (rest := []) hx hb hml hown hI (c_L_pick l w hsf H.size xa xl xs hX (a2 + (4 : Int32)) (1000 : Int32) M _ hc) (kb_L_pick hI.T (q371 hI.T) (Nat.le_of_ble_eq_true rfl) (Nat.le_of_ble_eq_true rfl)) (q372 hI.T) rfl hl.1 (Nat.le_of_ble_eq_true rfl) dL_does_19 ⟨Nat.le_of_ble_eq_true rfl, Nat.le_of_ble_eq_true rfl⟩ (fun H locs hI => ?_)
  refine lv_istore (lv' := [(7, .int r2), (6, .int r1), (0, .ref xa), (1, .int a2), (2, .int a3), (3, .ref (w.1 12 16)), (4, .int a5), (5, .int a6)]) hx hb dL_does_22 hl (by decide) rfl (fun ls hl => ?_)
  refine lv_aload_n hx hb dL_does_24 rfl (lv_at hl 5 rfl) ?_
  obtain ⟨r3, hc, hf⟩ := mbp_e hf
  refine m_callV (As := []) (rest := []) hx hb hml hown hI (c_X11_guardCount l w H.size M _ hc) (kb_X11_guardCount hI.T (q676 hI.T) (Nat.le_of_ble_eq_true rfl) (Nat.le_of_ble_eq_true rfl)) (q677 hI.T) (q678 hI.T) (m_recv (g := 12) (i := 16) hI (mokX (by decide) (by decide)) rfl rfl) rfl hl.1 (Nat.le_of_ble_eq_true rfl) dL_does_25 ⟨Nat.le_of_ble_eq_true rfl, Nat.le_of_ble_eq_true rfl⟩ (fun H locs hI => ?_)
  refine lv_istore (lv' := [(8, .int r3), (7, .int r2), (6, .int r1), (0, .ref xa), (1, .int a2), (2, .int a3), (3, .ref (w.1 12 16)), (4, .int a5), (5, .int a6)]) hx hb dL_does_28 hl (by decide) rfl (fun ls hl => ?_)
  refine lv_iload_n hx hb dL_does_30 rfl (lv_at hl 5 rfl) ?_
  refine lv_iconst (v := 3) hx hb dL_does_31 (by decide) ?_
  refine lv_icmp_ge (tgt := 40) hx hb dL_does_32 (by decide) (fun c4 => ?_) (fun c4 => ?_)
  · have hf := (if_pos c4).symm.trans hf
    refine lv_iload_n hx hb dL_does_40 rfl (lv_at hl 5 rfl) ?_
    refine lv_bipush (v := 6) hx hb dL_does_41 (by decide) ?_
    refine lv_icmp_ge (tgt := 88) hx hb dL_does_43 (by decide) (fun c5 => ?_) (fun c5 => ?_)
    · have hf := (if_pos c5).symm.trans hf
      refine lv_iload_n hx hb dL_does_88 rfl (lv_at hl 5 rfl) ?_
      refine lv_bipush (v := 10) hx hb dL_does_89 (by decide) ?_
      refine lv_icmp_ge (tgt := 119) hx hb dL_does_91 (by decide) (fun c6 => ?_) (fun c6 => ?_)
      · have hf := (if_pos c6).symm.trans hf
        refine lv_iload_n hx hb dL_does_119 rfl (lv_at hl 5 rfl) ?_
        refine lv_bipush (v := 18) hx hb dL_does_120 (by decide) ?_
        refine lv_icmp_ge (tgt := 132) hx hb dL_does_122 (by decide) (fun c7 => ?_) (fun c7 => ?_)
        · have hf := (if_pos c7).symm.trans hf
          refine lv_iload_n hx hb dL_does_132 rfl (lv_at hl 5 rfl) ?_
          refine lv_bipush (v := 20) hx hb dL_does_133 (by decide) ?_
          refine lv_icmp_ge (tgt := 145) hx hb dL_does_135 (by decide) (fun c8 => ?_) (fun c8 => ?_)
          · have hf := (if_pos c8).symm.trans hf
            refine lv_iload_n hx hb dL_does_145 rfl (lv_at hl 5 rfl) ?_
            refine lv_bipush (v := 25) hx hb dL_does_146 (by decide) ?_
            refine lv_icmp_ge (tgt := 156) hx hb dL_does_148 (by decide) (fun c9 => ?_) (fun c9 => ?_)
            · have hf := (if_pos c9).symm.trans hf
              refine lv_iload_n hx hb dL_does_156 rfl (lv_at hl 5 rfl) ?_
              refine lv_bipush (v := 25) hx hb dL_does_157 (by decide) ?_
              refine lv_icmp_ne (tgt := 167) hx hb dL_does_159 (by decide) (fun c10 => ?_) (fun c10 => ?_)
              · have hf := (if_neg c10).symm.trans hf
                refine lv_iload_n hx hb dL_does_167 rfl (lv_at hl 5 rfl) ?_
                refine lv_bipush (v := 29) hx hb dL_does_168 (by decide) ?_
                refine lv_icmp_ge (tgt := 227) hx hb dL_does_170 (by decide) (fun c11 => ?_) (fun c11 => ?_)
                · have hf := (if_pos c11).symm.trans hf
                  refine lv_iload_n hx hb dL_does_227 rfl (lv_at hl 5 rfl) ?_
                  refine lv_bipush (v := 31) hx hb dL_does_228 (by decide) ?_
                  refine lv_icmp_ge (tgt := 261) hx hb dL_does_230 (by decide) (fun c12 => ?_) (fun c12 => ?_)
                  · have hf := (if_pos c12).symm.trans hf
                    refine lv_iload_n hx hb dL_does_261 rfl (lv_at hl 5 rfl) ?_
                    refine lv_bipush (v := 38) hx hb dL_does_262 (by decide) ?_
                    refine lv_icmp_ge (tgt := 297) hx hb dL_does_264 (by decide) (fun c13 => ?_) (fun c13 => ?_)
                    · have hf := (if_pos c13).symm.trans hf
                      refine lv_iload_n hx hb dL_does_297 rfl (lv_at hl 5 rfl) ?_
                      refine lv_bipush (v := 46) hx hb dL_does_298 (by decide) ?_
                      refine lv_icmp_ge (tgt := 310) hx hb dL_does_300 (by decide) (fun c14 => ?_) (fun c14 => ?_)
                      · have hf := (if_pos c14).symm.trans hf
                        exact k_doesT hx hb hr hml hown hlk hsf hI hl hf (Nat.le_of_ble_eq_true rfl) (Nat.le_of_ble_eq_true rfl)
                      · have hf := (if_neg c14).symm.trans hf
                        refine lv_aload_n hx hb dL_does_303 rfl (lv_at hl 6 rfl) ?_
                        refine lv_iload hx hb dL_does_304 (lv_at hl 8 rfl) ?_
                        obtain ⟨r15, M16, hc, hf⟩ := mbnd_e hf
                        refine k_callH (As := [.ref (w.1 12 16), .int a6]) (rest := []) hx hb hml hown hI (c_L_passHours l w hsf H.size a6 M _ _ hc) (k_cw (n := 2) hI.T kc_L_passHours ki_L_passHours (q947 hI.T) (q948 hI.T) (by decide +kernel) ⟨rfl, rfl, Nat.le_of_ble_eq_true rfl, Nat.le_of_ble_eq_true rfl⟩) rfl hl.1 (Nat.le_of_ble_eq_true rfl) dL_does_306 ⟨Nat.le_of_ble_eq_true rfl, Nat.le_of_ble_eq_true rfl⟩ (fun H locs hI => ?_)
                        exact k_iretf hx hb hr hlk hI hf dL_does_309 (Nat.le_of_ble_eq_true rfl) (Nat.le_of_ble_eq_true rfl)
                    · have hf := (if_neg c13).symm.trans hf
                      refine lv_aload_n hx hb dL_does_267 rfl (lv_at hl 6 rfl) ?_
                      refine lv_iload hx hb dL_does_268 (lv_at hl 1 rfl) ?_
                      refine lv_bipush (v := 8) hx hb dL_does_270 (by decide) ?_
                      refine lv_irem hx hb dL_does_272 (by decide) ?_
                      refine lv_iload hx hb dL_does_273 (lv_at hl 2 rfl) ?_
                      refine lv_bipush (v := 23) hx hb dL_does_275 (by decide) ?_
                      refine lv_irem hx hb dL_does_277 (by decide) ?_
                      obtain ⟨k293_19, ek293_19, hf⟩ := mlet_e hf
                      have hj293_19 : ∀ (x18 : Int32) (H : Heap) (locs : List Loc) (ls : Array Slot), k293_19 x18 = some (r, M9) → mI w s (mA w s.heap.size) H locs M → lv_has ls 9 [] → W p l e rmL_does s m args below meth c H locs 0 0 (MQ below (mQ w s.heap.size (some (.int r)) M9) args s 40 400 (mA w s.heap.size)) (F0 m 293 ls [.int x18, .int (mrem r2 (8 : Int32)), .ref (w.1 12 16)]) := by
                        intro x18 H locs ls hf hI hl
                        rw [ek293_19] at hf
                        try dsimp only at hf
                        obtain ⟨r20, M21, hc, hf⟩ := mbnd_e hf
                        refine k_callH (As := [.ref (w.1 12 16), .int (mrem r2 (8 : Int32)), .int x18]) (rest := []) hx hb hml hown hI (c_L_hum l w hsf H.size (mrem r2 (8 : Int32)) x18 M _ _ hc) (k_cw (n := 3) hI.T kc_L_hum ki_L_hum (q935 hI.T) (q936 hI.T) (by decide +kernel) ⟨rfl, rfl, Nat.le_of_ble_eq_true rfl, Nat.le_of_ble_eq_true rfl⟩) rfl hl.1 (Nat.le_of_ble_eq_true rfl) dL_does_293 ⟨Nat.le_of_ble_eq_true rfl, Nat.le_of_ble_eq_true rfl⟩ (fun H locs hI => ?_)
                        exact k_iretf hx hb hr hlk hI hf dL_does_296 (Nat.le_of_ble_eq_true rfl) (Nat.le_of_ble_eq_true rfl)
                      refine lv_if_ne (tgt := 286) hx hb dL_does_278 (by decide) (fun c17 => ?_) (fun c17 => ?_)
                      · have hf := (if_neg c17).symm.trans hf
                        refine lv_iconst (v := 1) hx hb dL_does_286 (by decide) ?_
                        refine lv_iload hx hb dL_does_287 (lv_at hl 2 rfl) ?_
                        refine lv_bipush (v := 9) hx hb dL_does_289 (by decide) ?_
                        refine lv_irem hx hb dL_does_291 (by decide) ?_
                        refine lv_iadd hx hb dL_does_292 ?_
                        exact hj293_19 ((1 : Int32) + (mrem r1 (9 : Int32))) H _ _ hf hI (lv_sub hl [] rfl)
                      · have hf := (if_pos c17).symm.trans hf
                        refine lv_bipush (v := 10) hx hb dL_does_281 (by decide) ?_
                        refine lv_goto (tgt := 293) hx hb dL_does_283 (by decide) ?_
                        exact hj293_19 (10 : Int32) H _ _ hf hI (lv_sub hl [] rfl)
                  · have hf := (if_neg c12).symm.trans hf
                    refine lv_aload_n hx hb dL_does_233 rfl (lv_at hl 6 rfl) ?_
                    refine lv_iload hx hb dL_does_234 (lv_at hl 2 rfl) ?_
                    refine lv_bipush (v := 19) hx hb dL_does_236 (by decide) ?_
                    refine lv_irem hx hb dL_does_238 (by decide) ?_
                    obtain ⟨k257_26, ek257_26, hf⟩ := mlet_e hf
                    have hj257_26 : ∀ (x25 : Int32) (H : Heap) (locs : List Loc) (ls : Array Slot), k257_26 x25 = some (r, M9) → mI w s (mA w s.heap.size) H locs M → lv_has ls 9 [] → W p l e rmL_does s m args below meth c H locs 0 0 (MQ below (mQ w s.heap.size (some (.int r)) M9) args s 40 400 (mA w s.heap.size)) (F0 m 257 ls [.int x25, .ref (w.1 12 16)]) := by
                      intro x25 H locs ls hf hI hl
                      rw [ek257_26] at hf
                      try dsimp only at hf
                      obtain ⟨r27, M28, hc, hf⟩ := mbnd_e hf
                      refine k_callH (As := [.ref (w.1 12 16), .int x25]) (rest := []) hx hb hml hown hI (c_L_turnGuard l w hsf H.size x25 M _ _ hc) (k_cw (n := 2) hI.T kc_L_turnGuard ki_L_turnGuard (q923 hI.T) (q924 hI.T) (by decide +kernel) ⟨rfl, rfl, Nat.le_of_ble_eq_true rfl, Nat.le_of_ble_eq_true rfl⟩) rfl hl.1 (Nat.le_of_ble_eq_true rfl) dL_does_257 ⟨Nat.le_of_ble_eq_true rfl, Nat.le_of_ble_eq_true rfl⟩ (fun H locs hI => ?_)
                      exact k_iretf hx hb hr hlk hI hf dL_does_260 (Nat.le_of_ble_eq_true rfl) (Nat.le_of_ble_eq_true rfl)
                    obtain ⟨k247_24, ek247_24, hf⟩ := mlet_e hf
                    have hj247_24 : ∀ (_u : Unit) (H : Heap) (locs : List Loc) (ls : Array Slot), k247_24 _u = some (r, M9) → mI w s (mA w s.heap.size) H locs M → lv_has ls 9 [(8, .int r3)] → W p l e rmL_does s m args below meth c H locs 0 0 (MQ below (mQ w s.heap.size (some (.int r)) M9) args s 40 400 (mA w s.heap.size)) (F0 m 247 ls [.ref (w.1 12 16)]) := by
                      intro _u H locs ls hf hI hl
                      rw [ek247_24] at hf
                      try dsimp only at hf
                      refine lv_iload hx hb dL_does_247 (lv_at hl 0 rfl) ?_
                      refine lv_goto (tgt := 257) hx hb dL_does_249 (by decide) ?_
                      exact hj257_26 r3 H _ _ hf hI (lv_sub hl [] rfl)
                    refine lv_if_eq (tgt := 247) hx hb dL_does_239 (by decide) (fun c22 => ?_) (fun c22 => ?_)
                    · have hf := (if_pos c22).symm.trans hf
                      exact hj247_24 () H _ _ hf hI (lv_sub hl [0] rfl)
                    · have hf := (if_neg c22).symm.trans hf
                      refine lv_iload hx hb dL_does_242 (lv_at hl 0 rfl) ?_
                      refine lv_if_ne (tgt := 252) hx hb dL_does_244 (by decide) (fun c23 => ?_) (fun c23 => ?_)
                      · have hf := (if_neg c23).symm.trans hf
                        refine lv_iload hx hb dL_does_252 (lv_at hl 1 rfl) ?_
                        refine lv_iload hx hb dL_does_254 (lv_at hl 0 rfl) ?_
                        obtain ⟨hd, hf⟩ := mdiv_e hf
                        refine lv_irem hx hb dL_does_256 hd ?_
                        exact hj257_26 (mrem r2 r3) H _ _ hf hI (lv_sub hl [] rfl)
                      · have hf := (if_pos c23).symm.trans hf
                        exact hj247_24 () H _ _ hf hI (lv_sub hl [0] rfl)
                · have hf := (if_neg c11).symm.trans hf
                  refine lv_aload_n hx hb dL_does_173 rfl (lv_at hl 6 rfl) ?_
                  refine lv_iload hx hb dL_does_174 (lv_at hl 2 rfl) ?_
                  refine lv_bipush (v := 29) hx hb dL_does_176 (by decide) ?_
                  refine lv_irem hx hb dL_does_178 (by decide) ?_
                  obtain ⟨k203_32, ek203_32, hf⟩ := mlet_e hf
                  have hj203_32 : ∀ (x31 : Int32) (H : Heap) (locs : List Loc) (ls : Array Slot), k203_32 x31 = some (r, M9) → mI w s (mA w s.heap.size) H locs M → lv_has ls 9 [(7, .int r2)] → W p l e rmL_does s m args below meth c H locs 0 0 (MQ below (mQ w s.heap.size (some (.int r)) M9) args s 40 400 (mA w s.heap.size)) (F0 m 203 ls [.int x31, .ref (w.1 12 16)]) := by
                    intro x31 H locs ls hf hI hl
                    rw [ek203_32] at hf
                    try dsimp only at hf
                    refine lv_iload hx hb dL_does_203 (lv_at hl 0 rfl) ?_
                    refine lv_iconst (v := 2) hx hb dL_does_205 (by decide) ?_
                    refine lv_irem hx hb dL_does_206 (by decide) ?_
                    obtain ⟨k215_35, ek215_35, hf⟩ := mlet_e hf
                    have hj215_35 : ∀ (x34 : Int32) (H : Heap) (locs : List Loc) (ls : Array Slot), k215_35 x34 = some (r, M9) → mI w s (mA w s.heap.size) H locs M → lv_has ls 9 [(7, .int r2)] → W p l e rmL_does s m args below meth c H locs 0 0 (MQ below (mQ w s.heap.size (some (.int r)) M9) args s 40 400 (mA w s.heap.size)) (F0 m 215 ls [.int x34, .int x31, .ref (w.1 12 16)]) := by
                      intro x34 H locs ls hf hI hl
                      rw [ek215_35] at hf
                      try dsimp only at hf
                      refine lv_iconst (v := 1) hx hb dL_does_215 (by decide) ?_
                      refine lv_iload hx hb dL_does_216 (lv_at hl 0 rfl) ?_
                      refine lv_iconst (v := 2) hx hb dL_does_218 (by decide) ?_
                      refine lv_idiv hx hb dL_does_219 (by decide) ?_
                      refine lv_iconst (v := 4) hx hb dL_does_220 (by decide) ?_
                      refine lv_irem hx hb dL_does_221 (by decide) ?_
                      refine lv_iadd hx hb dL_does_222 ?_
                      obtain ⟨r36, M37, hc, hf⟩ := mbnd_e hf
                      refine k_callH (As := [.ref (w.1 12 16), .int x31, .int x34, .int ((1 : Int32) + (mrem (r2 / (2 : Int32)) (4 : Int32)))]) (rest := []) hx hb hml hown hI (c_L_addGuard l w hsf H.size x31 x34 ((1 : Int32) + (mrem (r2 / (2 : Int32)) (4 : Int32))) M _ _ hc) (k_cw (n := 4) hI.T kc_L_addGuard ki_L_addGuard (q907 hI.T) (q908 hI.T) (by decide +kernel) ⟨rfl, rfl, Nat.le_of_ble_eq_true rfl, Nat.le_of_ble_eq_true rfl⟩) rfl hl.1 (Nat.le_of_ble_eq_true rfl) dL_does_223 ⟨Nat.le_of_ble_eq_true rfl, Nat.le_of_ble_eq_true rfl⟩ (fun H locs hI => ?_)
                      exact k_iretf hx hb hr hlk hI hf dL_does_226 (Nat.le_of_ble_eq_true rfl) (Nat.le_of_ble_eq_true rfl)
                    refine lv_if_ne (tgt := 214) hx hb dL_does_207 (by decide) (fun c33 => ?_) (fun c33 => ?_)
                    · have hf := (if_neg c33).symm.trans hf
                      refine lv_iconst (v := 0) hx hb dL_does_214 (by decide) ?_
                      exact hj215_35 (0 : Int32) H _ _ hf hI (lv_sub hl [0] rfl)
                    · have hf := (if_pos c33).symm.trans hf
                      refine lv_iconst (v := 1) hx hb dL_does_210 (by decide) ?_
                      refine lv_goto (tgt := 215) hx hb dL_does_211 (by decide) ?_
                      exact hj215_35 (1 : Int32) H _ _ hf hI (lv_sub hl [0] rfl)
                  refine lv_if_ne (tgt := 187) hx hb dL_does_179 (by decide) (fun c29 => ?_) (fun c29 => ?_)
                  · have hf := (if_neg c29).symm.trans hf
                    refine lv_iload hx hb dL_does_187 (lv_at hl 2 rfl) ?_
                    refine lv_iconst (v := 2) hx hb dL_does_189 (by decide) ?_
                    refine lv_irem hx hb dL_does_190 (by decide) ?_
                    refine lv_if_ne (tgt := 198) hx hb dL_does_191 (by decide) (fun c30 => ?_) (fun c30 => ?_)
                    · have hf := (if_neg c30).symm.trans hf
                      refine lv_iload hx hb dL_does_198 (lv_at hl 1 rfl) ?_
                      refine lv_bipush (v := 8) hx hb dL_does_200 (by decide) ?_
                      refine lv_irem hx hb dL_does_202 (by decide) ?_
                      exact hj203_32 (mrem r2 (8 : Int32)) H _ _ hf hI (lv_sub hl [1] rfl)
                    · have hf := (if_pos c30).symm.trans hf
                      refine lv_iconst (v := 0) hx hb dL_does_194 (by decide) ?_
                      refine lv_goto (tgt := 203) hx hb dL_does_195 (by decide) ?_
                      exact hj203_32 (0 : Int32) H _ _ hf hI (lv_sub hl [1] rfl)
                  · have hf := (if_pos c29).symm.trans hf
                    refine lv_bipush (v := 8) hx hb dL_does_182 (by decide) ?_
                    refine lv_goto (tgt := 203) hx hb dL_does_184 (by decide) ?_
                    exact hj203_32 (8 : Int32) H _ _ hf hI (lv_sub hl [1] rfl)
              · have hf := (if_pos c10).symm.trans hf
                refine lv_aload_n hx hb dL_does_162 rfl (lv_at hl 6 rfl) ?_
                obtain ⟨r38, M39, hc, hf⟩ := mbnd_e hf
                refine k_callH (As := [.ref (w.1 12 16)]) (rest := []) hx hb hml hown hI (c_L_closeVault l w hsf H.size M _ _ hc) (k_cw (n := 1) hI.T kc_L_closeVault ki_L_closeVault (q896 hI.T) (q897 hI.T) (by decide +kernel) ⟨rfl, rfl, Nat.le_of_ble_eq_true rfl, Nat.le_of_ble_eq_true rfl⟩) rfl hl.1 (Nat.le_of_ble_eq_true rfl) dL_does_163 ⟨Nat.le_of_ble_eq_true rfl, Nat.le_of_ble_eq_true rfl⟩ (fun H locs hI => ?_)
                exact k_iretf hx hb hr hlk hI hf dL_does_166 (Nat.le_of_ble_eq_true rfl) (Nat.le_of_ble_eq_true rfl)
            · have hf := (if_neg c9).symm.trans hf
              refine lv_aload_n hx hb dL_does_151 rfl (lv_at hl 6 rfl) ?_
              obtain ⟨r40, M41, hc, hf⟩ := mbnd_e hf
              refine k_callH (As := [.ref (w.1 12 16)]) (rest := []) hx hb hml hown hI (c_L_openVault l w hsf H.size M _ _ hc) (k_cw (n := 1) hI.T kc_L_openVault ki_L_openVault (q858 hI.T) (q859 hI.T) (by decide +kernel) ⟨rfl, rfl, Nat.le_of_ble_eq_true rfl, Nat.le_of_ble_eq_true rfl⟩) rfl hl.1 (Nat.le_of_ble_eq_true rfl) dL_does_152 ⟨Nat.le_of_ble_eq_true rfl, Nat.le_of_ble_eq_true rfl⟩ (fun H locs hI => ?_)
              exact k_iretf hx hb hr hlk hI hf dL_does_155 (Nat.le_of_ble_eq_true rfl) (Nat.le_of_ble_eq_true rfl)
          · have hf := (if_neg c8).symm.trans hf
            refine lv_aload_n hx hb dL_does_138 rfl (lv_at hl 6 rfl) ?_
            refine lv_iload hx hb dL_does_139 (lv_at hl 7 rfl) ?_
            obtain ⟨r42, M43, hc, hf⟩ := mbnd_e hf
            refine k_callH (As := [.ref (w.1 12 16), .int a5]) (rest := []) hx hb hml hown hI (c_L_takeBack l w hsf H.size a5 M _ _ hc) (k_cw (n := 2) hI.T kc_L_takeBack ki_L_takeBack (q843 hI.T) (q844 hI.T) (by decide +kernel) ⟨rfl, rfl, Nat.le_of_ble_eq_true rfl, Nat.le_of_ble_eq_true rfl⟩) rfl hl.1 (Nat.le_of_ble_eq_true rfl) dL_does_141 ⟨Nat.le_of_ble_eq_true rfl, Nat.le_of_ble_eq_true rfl⟩ (fun H locs hI => ?_)
            exact k_iretf hx hb hr hlk hI hf dL_does_144 (Nat.le_of_ble_eq_true rfl) (Nat.le_of_ble_eq_true rfl)
        · have hf := (if_neg c7).symm.trans hf
          refine lv_aload_n hx hb dL_does_125 rfl (lv_at hl 6 rfl) ?_
          refine lv_iload hx hb dL_does_126 (lv_at hl 7 rfl) ?_
          obtain ⟨r44, M45, hc, hf⟩ := mbnd_e hf
          refine k_callH (As := [.ref (w.1 12 16), .int a5]) (rest := []) hx hb hml hown hI (c_L_present l w hsf H.size a5 M _ _ hc) (k_cw (n := 2) hI.T kc_L_present ki_L_present (q828 hI.T) (q829 hI.T) (by decide +kernel) ⟨rfl, rfl, Nat.le_of_ble_eq_true rfl, Nat.le_of_ble_eq_true rfl⟩) rfl hl.1 (Nat.le_of_ble_eq_true rfl) dL_does_128 ⟨Nat.le_of_ble_eq_true rfl, Nat.le_of_ble_eq_true rfl⟩ (fun H locs hI => ?_)
          exact k_iretf hx hb hr hlk hI hf dL_does_131 (Nat.le_of_ble_eq_true rfl) (Nat.le_of_ble_eq_true rfl)
      · have hf := (if_neg c6).symm.trans hf
        refine lv_aload_n hx hb dL_does_94 rfl (lv_at hl 6 rfl) ?_
        refine lv_iload hx hb dL_does_95 (lv_at hl 7 rfl) ?_
        refine lv_iload hx hb dL_does_97 (lv_at hl 2 rfl) ?_
        refine lv_bipush (v := 29) hx hb dL_does_99 (by decide) ?_
        refine lv_irem hx hb dL_does_101 (by decide) ?_
        obtain ⟨k115_48, ek115_48, hf⟩ := mlet_e hf
        have hj115_48 : ∀ (x47 : Int32) (H : Heap) (locs : List Loc) (ls : Array Slot), k115_48 x47 = some (r, M9) → mI w s (mA w s.heap.size) H locs M → lv_has ls 9 [] → W p l e rmL_does s m args below meth c H locs 0 0 (MQ below (mQ w s.heap.size (some (.int r)) M9) args s 40 400 (mA w s.heap.size)) (F0 m 115 ls [.int x47, .int a5, .ref (w.1 12 16)]) := by
          intro x47 H locs ls hf hI hl
          rw [ek115_48] at hf
          try dsimp only at hf
          obtain ⟨r49, M50, hc, hf⟩ := mbnd_e hf
          refine k_callH (As := [.ref (w.1 12 16), .int a5, .int x47]) (rest := []) hx hb hml hown hI (c_L_setShare l w hsf H.size a5 x47 M _ _ hc) (k_cw (n := 3) hI.T kc_L_setShare ki_L_setShare (q816 hI.T) (q817 hI.T) (by decide +kernel) ⟨rfl, rfl, Nat.le_of_ble_eq_true rfl, Nat.le_of_ble_eq_true rfl⟩) rfl hl.1 (Nat.le_of_ble_eq_true rfl) dL_does_115 ⟨Nat.le_of_ble_eq_true rfl, Nat.le_of_ble_eq_true rfl⟩ (fun H locs hI => ?_)
          exact k_iretf hx hb hr hlk hI hf dL_does_118 (Nat.le_of_ble_eq_true rfl) (Nat.le_of_ble_eq_true rfl)
        refine lv_if_ne (tgt := 110) hx hb dL_does_102 (by decide) (fun c46 => ?_) (fun c46 => ?_)
        · have hf := (if_neg c46).symm.trans hf
          refine lv_iload hx hb dL_does_110 (lv_at hl 1 rfl) ?_
          refine lv_bipush (v := 97) hx hb dL_does_112 (by decide) ?_
          refine lv_irem hx hb dL_does_114 (by decide) ?_
          exact hj115_48 (mrem r2 (97 : Int32)) H _ _ hf hI (lv_sub hl [] rfl)
        · have hf := (if_pos c46).symm.trans hf
          refine lv_bipush (v := 97) hx hb dL_does_105 (by decide) ?_
          refine lv_goto (tgt := 115) hx hb dL_does_107 (by decide) ?_
          exact hj115_48 (97 : Int32) H _ _ hf hI (lv_sub hl [] rfl)
    · have hf := (if_neg c5).symm.trans hf
      refine lv_aload_n hx hb dL_does_46 rfl (lv_at hl 6 rfl) ?_
      refine lv_iload hx hb dL_does_47 (lv_at hl 2 rfl) ?_
      refine lv_bipush (v := 29) hx hb dL_does_49 (by decide) ?_
      refine lv_irem hx hb dL_does_51 (by decide) ?_
      obtain ⟨k65_53, ek65_53, hf⟩ := mlet_e hf
      have hj65_53 : ∀ (x52 : Int32) (H : Heap) (locs : List Loc) (ls : Array Slot), k65_53 x52 = some (r, M9) → mI w s (mA w s.heap.size) H locs M → lv_has ls 9 [(6, .int r1), (7, .int r2)] → W p l e rmL_does s m args below meth c H locs 0 0 (MQ below (mQ w s.heap.size (some (.int r)) M9) args s 40 400 (mA w s.heap.size)) (F0 m 65 ls [.int x52, .ref (w.1 12 16)]) := by
        intro x52 H locs ls hf hI hl
        rw [ek65_53] at hf
        try dsimp only at hf
        refine lv_iload hx hb dL_does_65 (lv_at hl 0 rfl) ?_
        refine lv_bipush (v := 97) hx hb dL_does_67 (by decide) ?_
        refine lv_irem hx hb dL_does_69 (by decide) ?_
        refine lv_iload hx hb dL_does_70 (lv_at hl 0 rfl) ?_
        refine lv_iload hx hb dL_does_72 (lv_at hl 1 rfl) ?_
        refine lv_iadd hx hb dL_does_74 ?_
        refine lv_bipush (v := 97) hx hb dL_does_75 (by decide) ?_
        refine lv_irem hx hb dL_does_77 (by decide) ?_
        refine lv_iconst (v := 1) hx hb dL_does_78 (by decide) ?_
        refine lv_iload hx hb dL_does_79 (lv_at hl 0 rfl) ?_
        refine lv_iconst (v := 3) hx hb dL_does_81 (by decide) ?_
        refine lv_irem hx hb dL_does_82 (by decide) ?_
        refine lv_iadd hx hb dL_does_83 ?_
        obtain ⟨r54, M55, hc, hf⟩ := mbnd_e hf
        refine k_callH (As := [.ref (w.1 12 16), .int x52, .int (mrem r1 (97 : Int32)), .int (mrem (r1 + r2) (97 : Int32)), .int ((1 : Int32) + (mrem r1 (3 : Int32)))]) (rest := []) hx hb hml hown hI (c_L_seal l w hsf H.size x52 (mrem r1 (97 : Int32)) (mrem (r1 + r2) (97 : Int32)) ((1 : Int32) + (mrem r1 (3 : Int32))) M _ _ hc) (k_cw (n := 5) hI.T kc_L_seal ki_L_seal (q794 hI.T) (q795 hI.T) (by decide +kernel) ⟨rfl, rfl, Nat.le_of_ble_eq_true rfl, Nat.le_of_ble_eq_true rfl⟩) rfl hl.1 (Nat.le_of_ble_eq_true rfl) dL_does_84 ⟨Nat.le_of_ble_eq_true rfl, Nat.le_of_ble_eq_true rfl⟩ (fun H locs hI => ?_)
        exact k_iretf hx hb hr hlk hI hf dL_does_87 (Nat.le_of_ble_eq_true rfl) (Nat.le_of_ble_eq_true rfl)
      refine lv_if_ne (tgt := 60) hx hb dL_does_52 (by decide) (fun c51 => ?_) (fun c51 => ?_)
      · have hf := (if_neg c51).symm.trans hf
        refine lv_iload hx hb dL_does_60 (lv_at hl 1 rfl) ?_
        refine lv_bipush (v := 97) hx hb dL_does_62 (by decide) ?_
        refine lv_irem hx hb dL_does_64 (by decide) ?_
        exact hj65_53 (mrem r2 (97 : Int32)) H _ _ hf hI (lv_sub hl [2, 1] rfl)
      · have hf := (if_pos c51).symm.trans hf
        refine lv_bipush (v := 97) hx hb dL_does_55 (by decide) ?_
        refine lv_goto (tgt := 65) hx hb dL_does_57 (by decide) ?_
        exact hj65_53 (97 : Int32) H _ _ hf hI (lv_sub hl [2, 1] rfl)
  · have hf := (if_neg c4).symm.trans hf
    refine lv_aload_n hx hb dL_does_35 rfl (lv_at hl 6 rfl) ?_
    obtain ⟨r56, M57, hc, hf⟩ := mbnd_e hf
    refine k_callH (As := [.ref (w.1 12 16)]) (rest := []) hx hb hml hown hI (c_L_addHolder l w hsf H.size M _ _ hc) (k_cw (n := 1) hI.T kc_L_addHolder ki_L_addHolder (q716 hI.T) (q717 hI.T) (by decide +kernel) ⟨rfl, rfl, Nat.le_of_ble_eq_true rfl, Nat.le_of_ble_eq_true rfl⟩) rfl hl.1 (Nat.le_of_ble_eq_true rfl) dL_does_36 ⟨Nat.le_of_ble_eq_true rfl, Nat.le_of_ble_eq_true rfl⟩ (fun H locs hI => ?_)
    exact k_iretf hx hb hr hlk hI hf dL_does_39 (Nat.le_of_ble_eq_true rfl) (Nat.le_of_ble_eq_true rfl)