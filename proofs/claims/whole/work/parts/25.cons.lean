abbrev rmX12_number : Room := { frames := 6, cells := 0, slots := 0, locals := 222 }
theorem kb_X12_number {R : Room} {s : State} {args : Array Value} {own : String} {idx : Nat} (hT : mT s) (hlink : (Cond.methodLink own idx yX12_number).before args s = true) (h1 : rmX12_number.frames + 1 ≤ R.frames) (h2 : 8 + (6 + 11) + rmX12_number.locals ≤ R.locals) : CallB R s args own idx yX12_number cX12_number 6 (none) [Cond.code yX12_number cX12_number 6 (none)] rmX12_number 0 0 3 := m_callB hT kc_X12_number ki_X12_number hlink (by decide +kernel) ⟨rfl, rfl, h1, h2⟩
set_option maxHeartbeats 4000000 in
set_option maxRecDepth 100000 in
theorem c_X12_number (l : Launch) (w : WD) (sz : Nat) (t1 : Nat) (ht1 : t1 < 33) (a2 : Int32) (a3 : Int32) (M : Mem) (r : Unit) (M9 : Mem) (hf : f_X12_number t1 a2 a3 M = some (r, M9)) : mMet l yX12_number cX12_number 6 (none) rmX12_number w sz M [.ref (w.1 12 47), .ref (w.2.2.2 1 t1), .int a2, .int a3] none M9 := by
  refine m_of (by decide) (Nat.le_of_ble_eq_true rfl) ?_
  intro p e s m args below meth c hx hb hr hml hown hlk hI ls hl
  have hl : lv_has ls 6 [(0, .ref (w.1 12 47)), (1, .ref (w.2.2.2 1 t1)), (2, .int a2), (3, .int a3)] := hl
  unfold f_X12_number at hf
  refine lv_aload_n hx hb dX12_number_0 rfl (lv_at hl 0 rfl) ?_
  refine lv_aload_n hx hb dX12_number_1 rfl (lv_at hl 1 rfl) ?_
  obtain ⟨r1, M2, hc, hf⟩ := mbnd_e hf
  refine m_callV (As := [.ref (w.2.2.2 1 t1)]) (rest := []) hx hb hml hown hI (c_X12_says l w s.heap.size t1 ht1 M _ _ hc) (kb_X12_says hI.T (q1890 hI.T) (Nat.le_of_ble_eq_true rfl) (Nat.le_of_ble_eq_true rfl)) (q1892 hI.T) (sel_X12_says hI.T) (m_recv (g := 12) (i := 47) hI (mokX (by decide) (by decide)) rfl rfl) rfl hl.1 (Nat.le_of_ble_eq_true rfl) dX12_number_2 ⟨Nat.le_of_ble_eq_true rfl, Nat.le_of_ble_eq_true rfl⟩ (fun H locs hI => ?_)
  refine lv_iconst (v := 0) hx hb dX12_number_5 (by decide) ?_
  refine lv_istore (lv' := [(4, .int (0 : Int32)), (0, .ref (w.1 12 47)), (1, .ref (w.2.2.2 1 t1)), (2, .int a2), (3, .int a3)]) hx hb dX12_number_6 hl (by decide) rfl (fun ls hl => ?_)
  refine lv_iconst (v := 0) hx hb dX12_number_8 (by decide) ?_
  refine lv_istore (lv' := [(5, .int (0 : Int32)), (4, .int (0 : Int32)), (0, .ref (w.1 12 47)), (1, .ref (w.2.2.2 1 t1)), (2, .int a2), (3, .int a3)]) hx hb dX12_number_9 hl (by decide) rfl (fun ls hl => ?_)
  have hL11 : ∀ (n : Nat) (x3 : Int32) (x4 : Int32) (M5 : Mem) (kk : Int32 → Int32 → Mem → Option (Unit × Mem)) (H : Heap) (locs : List Loc) (ls : Array Slot), f_X12_number_L11 a3 n x3 x4 M5 kk = some (r, M9) → mI w s (mA w s.heap.size) H locs M5 → lv_has ls 6 [(0, .ref (w.1 12 47)), (2, .int a2), (3, .int a3), (4, .int x3), (5, .int x4)] → (∀ (x3 : Int32) (x4 : Int32) (M5 : Mem) (H : Heap) (locs : List Loc) (ls : Array Slot), kk x3 x4 M5 = some (r, M9) → mI w s (mA w s.heap.size) H locs M5 → lv_has ls 6 [(0, .ref (w.1 12 47)), (2, .int a2), (4, .int x3), (5, .int x4)] → W p l e rmX12_number s m args below meth c H locs 0 0 (MQ below (mQ w s.heap.size none M9) args s 0 0 (mA w s.heap.size)) (F0 m 71 ls [])) → W p l e rmX12_number s m args below meth c H locs 0 0 (MQ below (mQ w s.heap.size none M9) args s 0 0 (mA w s.heap.size)) (F0 m 11 ls []) := by
    intro n
    induction n with
    | zero => intro x3 x4 M5 kk H locs ls hf hI hl hk; rw [f_X12_number_L11.eq_1] at hf; cases hf
    | succ n ih11 =>
      intro x3 x4 M5 kk H locs ls hf hI hl hk
      rw [f_X12_number_L11.eq_2] at hf
      refine lv_aload_n hx hb dX12_number_11 rfl (lv_at hl 0 rfl) ?_
      refine m_get (g := 12) (i := 47) (ci := 10) (k := 22) (v := .int (M5 12 47 22)) hx hb hI hown (mokX (by decide) (by decide)) rfl rfl (by decide) lyX12 (q1448 hI.T) rfl dX12_number_12 ?_
      refine lv_if_ne (tgt := 71) hx hb dX12_number_15 (by decide) (fun c6 => ?_) (fun c6 => ?_)
      · have hf := (if_neg c6).symm.trans hf
        exact hk x3 x4 M5 H _ _ hf hI (lv_sub hl [0, 1, 3, 4] rfl)
      · have hf := (if_pos c6).symm.trans hf
        refine lv_iload hx hb dX12_number_18 (lv_at hl 4 rfl) ?_
        refine lv_iload_n hx hb dX12_number_20 rfl (lv_at hl 2 rfl) ?_
        refine lv_icmp_ge (tgt := 71) hx hb dX12_number_21 (by decide) (fun c7 => ?_) (fun c7 => ?_)
        · have hf := (if_pos c7).symm.trans hf
          exact hk x3 x4 M5 H _ _ hf hI (lv_sub hl [0, 1, 3, 4] rfl)
        · have hf := (if_neg c7).symm.trans hf
          refine lv_aload_n hx hb dX12_number_24 rfl (lv_at hl 0 rfl) ?_
          refine lv_iconst (v := 0) hx hb dX12_number_25 (by decide) ?_
          obtain ⟨r8, hc, hf⟩ := mbp_e hf
          refine m_callV (As := [.int (0 : Int32)]) (rest := []) hx hb hml hown hI (c_X12_here l w H.size (0 : Int32) M5 _ hc) (kb_X12_here hI.T (q1881 hI.T) (Nat.le_of_ble_eq_true rfl) (Nat.le_of_ble_eq_true rfl)) (q1883 hI.T) (sel_X12_here hI.T) (m_recv (g := 12) (i := 47) hI (mokX (by decide) (by decide)) rfl rfl) rfl hl.1 (Nat.le_of_ble_eq_true rfl) dX12_number_26 ⟨Nat.le_of_ble_eq_true rfl, Nat.le_of_ble_eq_true rfl⟩ (fun H locs hI => ?_)
          refine lv_bipush (v := 48) hx hb dX12_number_29 (by decide) ?_
          refine lv_bipush (v := 57) hx hb dX12_number_31 (by decide) ?_
          obtain ⟨r9, hc, hf⟩ := mbp_e hf
          refine m_callS (As := [.int r8, .int (48 : Int32), .int (57 : Int32)]) (rest := []) hx hb hml hown hI (c_X12_in l w H.size r8 (48 : Int32) (57 : Int32) M5 _ hc) (kb_X12_in hI.T (q1544 hI.T) (Nat.le_of_ble_eq_true rfl) (Nat.le_of_ble_eq_true rfl)) (q1545 hI.T) rfl hl.1 (Nat.le_of_ble_eq_true rfl) dX12_number_33 ⟨Nat.le_of_ble_eq_true rfl, Nat.le_of_ble_eq_true rfl⟩ (fun H locs hI => ?_)
          refine lv_if_eq (tgt := 71) hx hb dX12_number_36 (by decide) (fun c10 => ?_) (fun c10 => ?_)
          · have hf := (if_pos c10).symm.trans hf
            exact hk x3 x4 M5 H _ _ hf hI (lv_sub hl [0, 1, 3, 4] rfl)
          · have hf := (if_neg c10).symm.trans hf
            refine lv_bipush (v := 10) hx hb dX12_number_39 (by decide) ?_
            refine lv_iload hx hb dX12_number_41 (lv_at hl 3 rfl) ?_
            refine lv_imul hx hb dX12_number_43 ?_
            refine lv_aload_n hx hb dX12_number_44 rfl (lv_at hl 0 rfl) ?_
            refine lv_iconst (v := 0) hx hb dX12_number_45 (by decide) ?_
            obtain ⟨r11, hc, hf⟩ := mbp_e hf
            refine m_callV (As := [.int (0 : Int32)]) (rest := [.int ((10 : Int32) * x3)]) hx hb hml hown hI (c_X12_here l w H.size (0 : Int32) M5 _ hc) (kb_X12_here hI.T (q1881 hI.T) (Nat.le_of_ble_eq_true rfl) (Nat.le_of_ble_eq_true rfl)) (q1883 hI.T) (sel_X12_here hI.T) (m_recv (g := 12) (i := 47) hI (mokX (by decide) (by decide)) rfl rfl) rfl hl.1 (Nat.le_of_ble_eq_true rfl) dX12_number_46 ⟨Nat.le_of_ble_eq_true rfl, Nat.le_of_ble_eq_true rfl⟩ (fun H locs hI => ?_)
            refine lv_iadd hx hb dX12_number_49 ?_
            refine lv_bipush (v := 48) hx hb dX12_number_50 (by decide) ?_
            refine lv_isub hx hb dX12_number_52 ?_
            refine lv_topi (fun x12 ex12 => ?_)
            have hf := mlet_s ex12 hf
            refine lv_istore (lv' := [(4, .int x12), (0, .ref (w.1 12 47)), (2, .int a2), (3, .int a3), (5, .int x4)]) hx hb dX12_number_53 hl (by decide) rfl (fun ls hl => ?_)
            refine lv_aload_n hx hb dX12_number_55 rfl (lv_at hl 1 rfl) ?_
            refine lv_dup hx hb dX12_number_56 rfl ?_
            refine m_get (g := 12) (i := 47) (ci := 10) (k := 19) (v := .int (M5 12 47 19)) hx hb hI hown (mokX (by decide) (by decide)) rfl rfl (by decide) lyX12 (q1445 hI.T) rfl dX12_number_57 ?_
            refine lv_iconst (v := 1) hx hb dX12_number_60 (by decide) ?_
            refine lv_iadd hx hb dX12_number_61 ?_
            obtain ⟨M13, eM13, hf⟩ := mlet_e hf
            refine m_put (g := 12) (i := 47) (ci := 10) (k := 19) (ty := .int) (M1 := M13) hx hb hI hown (mokX (by decide) (by decide)) rfl rfl (by decide) lyX12 tyX12 tyX12_ok nmX12 (q1445 hI.T) rfl rfl rfl rfl (Nat.le_of_ble_eq_true rfl) rfl eM13 dX12_number_62 (fun H locs hI => ?_)
            obtain ⟨x14, ex14, hf⟩ := mlet_e hf
            refine lv_iinc (v := x14) (lv' := [(5, .int x14), (4, .int x12), (0, .ref (w.1 12 47)), (2, .int a2), (3, .int a3)]) hx hb dX12_number_65 hl (k := 4) rfl (by rw [ex14]; rfl) (by decide) rfl (fun ls hl => ?_)
            refine lv_goto (tgt := 11) hx hb dX12_number_68 (by decide) ?_
            exact ih11 x12 x14 M13 kk H _ _ hf hI (lv_sub hl [2, 3, 4, 1, 0] rfl) hk
  refine hL11 1000 (0 : Int32) (0 : Int32) M2 _ _ _ _ hf hI (lv_sub hl [2, 4, 5, 1, 0] rfl) ?_
  intro x15 x16 M17 H locs ls hf hI hl
  try dsimp only at hf
  refine lv_aload_n hx hb dX12_number_71 rfl (lv_at hl 0 rfl) ?_
  refine lv_aload_n hx hb dX12_number_72 rfl (lv_at hl 0 rfl) ?_
  refine m_get (g := 12) (i := 47) (ci := 10) (k := 22) (v := .int (M17 12 47 22)) hx hb hI hown (mokX (by decide) (by decide)) rfl rfl (by decide) lyX12 (q1448 hI.T) rfl dX12_number_73 ?_
  obtain ⟨k89_22, ek89_22, hf⟩ := mlet_e hf
  have hj89_22 : ∀ (x21 : Int32) (H : Heap) (locs : List Loc) (ls : Array Slot), k89_22 x21 = some (r, M9) → mI w s (mA w s.heap.size) H locs M17 → lv_has ls 6 [(0, .ref (w.1 12 47)), (2, .int a2), (4, .int x15)] → W p l e rmX12_number s m args below meth c H locs 0 0 (MQ below (mQ w s.heap.size none M9) args s 0 0 (mA w s.heap.size)) (F0 m 89 ls [.int x21, .ref (w.1 12 47)]) := by
    intro x21 H locs ls hf hI hl
    rw [ek89_22] at hf
    try dsimp only at hf
    obtain ⟨hz, hf⟩ := mnz_e hf
    obtain ⟨M23, eM23, hf⟩ := mlet_e hf
    refine m_put (g := 12) (i := 47) (ci := 10) (k := 22) (ty := .boolean) (M1 := M23) hx hb hI hown (mokX (by decide) (by decide)) rfl rfl (by decide) lyX12 tyX12 tyX12_ok nmX12 (q1448 hI.T) rfl rfl (mnz_n hz) (mnz_f hz) (Nat.le_of_ble_eq_true rfl) rfl eM23 dX12_number_89 (fun H locs hI => ?_)
    refine lv_aload_n hx hb dX12_number_92 rfl (lv_at hl 0 rfl) ?_
    refine m_get (g := 12) (i := 47) (ci := 10) (k := 9) (v := .ref (w.1 12 54)) hx hb hI hown (mokX (by decide) (by decide)) rfl rfl (by decide) lyX12 (q1435 hI.T) rfl dX12_number_93 ?_
    refine lv_bipush (v := 6) hx hb dX12_number_96 (by decide) ?_
    refine lv_aload_n hx hb dX12_number_98 rfl (lv_at hl 0 rfl) ?_
    refine m_get (g := 12) (i := 47) (ci := 10) (k := 21) (v := .int (M23 12 47 21)) hx hb hI hown (mokX (by decide) (by decide)) rfl rfl (by decide) lyX12 (q1447 hI.T) rfl dX12_number_99 ?_
    refine lv_imul hx hb dX12_number_102 ?_
    refine lv_iload_n hx hb dX12_number_103 rfl (lv_at hl 1 rfl) ?_
    refine lv_iadd hx hb dX12_number_104 ?_
    refine lv_iload hx hb dX12_number_105 (lv_at hl 2 rfl) ?_
    obtain ⟨hi, hf⟩ := mix_e hf
    obtain ⟨M24, eM24, hf⟩ := mlet_e hf
    refine m_iast (g := 12) (i := 54) (M1 := M24) hx hb hI (mokX (by decide) (by decide)) rfl hi eM24 dX12_number_107 (fun H locs hI => ?_)
    exact m_vretf hx hb hr hlk hI hf dX12_number_108
  obtain ⟨k84_20, ek84_20, hf⟩ := mlet_e hf
  have hj84_20 : ∀ (_u : Unit) (H : Heap) (locs : List Loc) (ls : Array Slot), k84_20 _u = some (r, M9) → mI w s (mA w s.heap.size) H locs M17 → lv_has ls 6 [(0, .ref (w.1 12 47)), (2, .int a2), (4, .int x15)] → W p l e rmX12_number s m args below meth c H locs 0 0 (MQ below (mQ w s.heap.size none M9) args s 0 0 (mA w s.heap.size)) (F0 m 84 ls [.ref (w.1 12 47)]) := by
    intro _u H locs ls hf hI hl
    rw [ek84_20] at hf
    try dsimp only at hf
    refine lv_iconst (v := 1) hx hb dX12_number_84 (by decide) ?_
    refine lv_goto (tgt := 89) hx hb dX12_number_85 (by decide) ?_
    exact hj89_22 (1 : Int32) H _ _ hf hI (lv_sub hl [0, 1, 2] rfl)
  refine lv_if_ne (tgt := 84) hx hb dX12_number_76 (by decide) (fun c18 => ?_) (fun c18 => ?_)
  · have hf := (if_neg c18).symm.trans hf
    exact hj84_20 () H _ _ hf hI (lv_sub hl [0, 1, 2] rfl)
  · have hf := (if_pos c18).symm.trans hf
    refine lv_iload hx hb dX12_number_79 (lv_at hl 3 rfl) ?_
    refine lv_if_ne (tgt := 88) hx hb dX12_number_81 (by decide) (fun c19 => ?_) (fun c19 => ?_)
    · have hf := (if_neg c19).symm.trans hf
      refine lv_iconst (v := 0) hx hb dX12_number_88 (by decide) ?_
      exact hj89_22 (0 : Int32) H _ _ hf hI (lv_sub hl [0, 1, 2] rfl)
    · have hf := (if_pos c19).symm.trans hf
      exact hj84_20 () H _ _ hf hI (lv_sub hl [0, 1, 2] rfl)
abbrev rmX12_readsGuard : Room := { frames := 7, cells := 0, slots := 0, locals := 247 }
theorem kb_X12_readsGuard {R : Room} {s : State} {args : Array Value} {own : String} {idx : Nat} (hT : mT s) (hlink : (Cond.methodLink own idx yX12_readsGuard).before args s = true) (h1 : rmX12_readsGuard.frames + 1 ≤ R.frames) (h2 : 8 + (1 + 11) + rmX12_readsGuard.locals ≤ R.locals) : CallB R s args own idx yX12_readsGuard cX12_readsGuard 1 (none) [Cond.code yX12_readsGuard cX12_readsGuard 1 (none)] rmX12_readsGuard 0 0 0 := m_callB hT kc_X12_readsGuard ki_X12_readsGuard hlink (by decide +kernel) ⟨rfl, rfl, h1, h2⟩
set_option maxHeartbeats 4000000 in
set_option maxRecDepth 100000 in
theorem c_X12_readsGuard (l : Launch) (w : WD) (sz : Nat)  (M : Mem) (r : Unit) (M9 : Mem) (hf : f_X12_readsGuard  M = some (r, M9)) : mMet l yX12_readsGuard cX12_readsGuard 1 (none) rmX12_readsGuard w sz M [.ref (w.1 12 47)] none M9 := by
  refine m_of (by decide) (Nat.le_of_ble_eq_true rfl) ?_
  intro p e s m args below meth c hx hb hr hml hown hlk hI ls hl
  have hl : lv_has ls 1 [(0, .ref (w.1 12 47))] := hl
  unfold f_X12_readsGuard at hf
  refine lv_aload_n hx hb dX12_readsGuard_0 rfl (lv_at hl 0 rfl) ?_
  refine va_ldcS hx hb hown (hI.str (i := 0) rfl) dX12_readsGuard_1 ?_
  refine lv_iconst (v := 1) hx hb dX12_readsGuard_3 (by decide) ?_
  refine lv_iconst (v := 1) hx hb dX12_readsGuard_4 (by decide) ?_
  obtain ⟨r1, M2, hc, hf⟩ := mbnd_e hf
  refine m_callV (As := [.ref (w.2.2.2 1 0), .int (1 : Int32), .int (1 : Int32)]) (rest := []) hx hb hml hown hI (c_X12_number l w s.heap.size 0 (by decide) (1 : Int32) (1 : Int32) M _ _ hc) (kb_X12_number hI.T (q1886 hI.T) (Nat.le_of_ble_eq_true rfl) (Nat.le_of_ble_eq_true rfl)) (q1888 hI.T) (sel_X12_number hI.T) (m_recv (g := 12) (i := 47) hI (mokX (by decide) (by decide)) rfl rfl) rfl hl.1 (Nat.le_of_ble_eq_true rfl) dX12_readsGuard_5 ⟨Nat.le_of_ble_eq_true rfl, Nat.le_of_ble_eq_true rfl⟩ (fun H locs hI => ?_)
  refine lv_aload_n hx hb dX12_readsGuard_8 rfl (lv_at hl 0 rfl) ?_
  refine lv_aload_n hx hb dX12_readsGuard_9 rfl (lv_at hl 0 rfl) ?_
  refine m_get (g := 12) (i := 47) (ci := 10) (k := 22) (v := .int (M2 12 47 22)) hx hb hI hown (mokX (by decide) (by decide)) rfl rfl (by decide) lyX12 (q1448 hI.T) rfl dX12_readsGuard_10 ?_
  obtain ⟨k41_11, ek41_11, hf⟩ := mlet_e hf
  have hj41_11 : ∀ (x10 : Int32) (H : Heap) (locs : List Loc) (ls : Array Slot), k41_11 x10 = some (r, M9) → mI w s (mA w s.heap.size) H locs M2 → lv_has ls 1 [(0, .ref (w.1 12 47))] → W p l e rmX12_readsGuard s m args below meth c H locs 0 0 (MQ below (mQ w s.heap.size none M9) args s 0 0 (mA w s.heap.size)) (F0 m 41 ls [.int x10, .ref (w.1 12 47)]) := by
    intro x10 H locs ls hf hI hl
    rw [ek41_11] at hf
    try dsimp only at hf
    obtain ⟨hz, hf⟩ := mnz_e hf
    obtain ⟨M12, eM12, hf⟩ := mlet_e hf
    refine m_put (g := 12) (i := 47) (ci := 10) (k := 22) (ty := .boolean) (M1 := M12) hx hb hI hown (mokX (by decide) (by decide)) rfl rfl (by decide) lyX12 tyX12 tyX12_ok nmX12 (q1448 hI.T) rfl rfl (mnz_n hz) (mnz_f hz) (Nat.le_of_ble_eq_true rfl) rfl eM12 dX12_readsGuard_41 (fun H locs hI => ?_)
    refine lv_aload_n hx hb dX12_readsGuard_44 rfl (lv_at hl 0 rfl) ?_
    refine m_get (g := 12) (i := 47) (ci := 10) (k := 9) (v := .ref (w.1 12 54)) hx hb hI hown (mokX (by decide) (by decide)) rfl rfl (by decide) lyX12 (q1435 hI.T) rfl dX12_readsGuard_45 ?_
    refine lv_bipush (v := 6) hx hb dX12_readsGuard_48 (by decide) ?_
    refine lv_aload_n hx hb dX12_readsGuard_50 rfl (lv_at hl 0 rfl) ?_
    refine m_get (g := 12) (i := 47) (ci := 10) (k := 21) (v := .int (M12 12 47 21)) hx hb hI hown (mokX (by decide) (by decide)) rfl rfl (by decide) lyX12 (q1447 hI.T) rfl dX12_readsGuard_51 ?_
    refine lv_imul hx hb dX12_readsGuard_54 ?_
    refine lv_iconst (v := 2) hx hb dX12_readsGuard_55 (by decide) ?_
    refine lv_iadd hx hb dX12_readsGuard_56 ?_
    refine lv_aload_n hx hb dX12_readsGuard_57 rfl (lv_at hl 0 rfl) ?_
    refine m_get (g := 12) (i := 47) (ci := 10) (k := 22) (v := .int (M12 12 47 22)) hx hb hI hown (mokX (by decide) (by decide)) rfl rfl (by decide) lyX12 (q1448 hI.T) rfl dX12_readsGuard_58 ?_
    obtain ⟨k79_18, ek79_18, hf⟩ := mlet_e hf
    have hj79_18 : ∀ (x17 : Int32) (H : Heap) (locs : List Loc) (ls : Array Slot), k79_18 x17 = some (r, M9) → mI w s (mA w s.heap.size) H locs M12 → lv_has ls 1 [(0, .ref (w.1 12 47))] → W p l e rmX12_readsGuard s m args below meth c H locs 0 0 (MQ below (mQ w s.heap.size none M9) args s 0 0 (mA w s.heap.size)) (F0 m 79 ls [.int x17, .int (((6 : Int32) * (M12 12 47 21)) + (2 : Int32)), .ref (w.1 12 54)]) := by
      intro x17 H locs ls hf hI hl
      rw [ek79_18] at hf
      try dsimp only at hf
      obtain ⟨hi, hf⟩ := mix_e hf
      obtain ⟨M19, eM19, hf⟩ := mlet_e hf
      refine m_iast (g := 12) (i := 54) (M1 := M19) hx hb hI (mokX (by decide) (by decide)) rfl hi eM19 dX12_readsGuard_79 (fun H locs hI => ?_)
      refine lv_aload_n hx hb dX12_readsGuard_80 rfl (lv_at hl 0 rfl) ?_
      refine lv_dup hx hb dX12_readsGuard_81 rfl ?_
      refine m_get (g := 12) (i := 47) (ci := 10) (k := 19) (v := .int (M19 12 47 19)) hx hb hI hown (mokX (by decide) (by decide)) rfl rfl (by decide) lyX12 (q1445 hI.T) rfl dX12_readsGuard_82 ?_
      refine lv_aload_n hx hb dX12_readsGuard_85 rfl (lv_at hl 0 rfl) ?_
      refine m_get (g := 12) (i := 47) (ci := 10) (k := 22) (v := .int (M19 12 47 22)) hx hb hI hown (mokX (by decide) (by decide)) rfl rfl (by decide) lyX12 (q1448 hI.T) rfl dX12_readsGuard_86 ?_
      obtain ⟨k97_22, ek97_22, hf⟩ := mlet_e hf
      have hj97_22 : ∀ (x21 : Int32) (H : Heap) (locs : List Loc) (ls : Array Slot), k97_22 x21 = some (r, M9) → mI w s (mA w s.heap.size) H locs M19 → lv_has ls 1 [(0, .ref (w.1 12 47))] → W p l e rmX12_readsGuard s m args below meth c H locs 0 0 (MQ below (mQ w s.heap.size none M9) args s 0 0 (mA w s.heap.size)) (F0 m 97 ls [.int x21, .int (M19 12 47 19), .ref (w.1 12 47)]) := by
        intro x21 H locs ls hf hI hl
        rw [ek97_22] at hf
        try dsimp only at hf
        refine lv_iadd hx hb dX12_readsGuard_97 ?_
        obtain ⟨M23, eM23, hf⟩ := mlet_e hf
        refine m_put (g := 12) (i := 47) (ci := 10) (k := 19) (ty := .int) (M1 := M23) hx hb hI hown (mokX (by decide) (by decide)) rfl rfl (by decide) lyX12 tyX12 tyX12_ok nmX12 (q1445 hI.T) rfl rfl rfl rfl (Nat.le_of_ble_eq_true rfl) rfl eM23 dX12_readsGuard_98 (fun H locs hI => ?_)
        refine lv_aload_n hx hb dX12_readsGuard_101 rfl (lv_at hl 0 rfl) ?_
        refine va_ldcS hx hb hown (hI.str (i := 1) rfl) dX12_readsGuard_102 ?_
        refine lv_iconst (v := 3) hx hb dX12_readsGuard_104 (by decide) ?_
        refine lv_iconst (v := 1) hx hb dX12_readsGuard_105 (by decide) ?_
        obtain ⟨r24, M25, hc, hf⟩ := mbnd_e hf
        refine m_callV (As := [.ref (w.2.2.2 1 1), .int (3 : Int32), .int (1 : Int32)]) (rest := []) hx hb hml hown hI (c_X12_number l w H.size 1 (by decide) (3 : Int32) (1 : Int32) M23 _ _ hc) (kb_X12_number hI.T (q1886 hI.T) (Nat.le_of_ble_eq_true rfl) (Nat.le_of_ble_eq_true rfl)) (q1888 hI.T) (sel_X12_number hI.T) (m_recv (g := 12) (i := 47) hI (mokX (by decide) (by decide)) rfl rfl) rfl hl.1 (Nat.le_of_ble_eq_true rfl) dX12_readsGuard_106 ⟨Nat.le_of_ble_eq_true rfl, Nat.le_of_ble_eq_true rfl⟩ (fun H locs hI => ?_)
        exact m_vretf hx hb hr hlk hI hf dX12_readsGuard_109
      refine lv_if_eq (tgt := 96) hx hb dX12_readsGuard_89 (by decide) (fun c20 => ?_) (fun c20 => ?_)
      · have hf := (if_pos c20).symm.trans hf
        refine lv_iconst (v := 1) hx hb dX12_readsGuard_96 (by decide) ?_
        exact hj97_22 (1 : Int32) H _ _ hf hI (lv_sub hl [0] rfl)
      · have hf := (if_neg c20).symm.trans hf
        refine lv_iconst (v := 0) hx hb dX12_readsGuard_92 (by decide) ?_
        refine lv_goto (tgt := 97) hx hb dX12_readsGuard_93 (by decide) ?_
        exact hj97_22 (0 : Int32) H _ _ hf hI (lv_sub hl [0] rfl)
    obtain ⟨k74_16, ek74_16, hf⟩ := mlet_e hf
    have hj74_16 : ∀ (_u : Unit) (H : Heap) (locs : List Loc) (ls : Array Slot), k74_16 _u = some (r, M9) → mI w s (mA w s.heap.size) H locs M12 → lv_has ls 1 [(0, .ref (w.1 12 47))] → W p l e rmX12_readsGuard s m args below meth c H locs 0 0 (MQ below (mQ w s.heap.size none M9) args s 0 0 (mA w s.heap.size)) (F0 m 74 ls [.int (((6 : Int32) * (M12 12 47 21)) + (2 : Int32)), .ref (w.1 12 54)]) := by
      intro _u H locs ls hf hI hl
      rw [ek74_16] at hf
      try dsimp only at hf
      refine lv_iconst (v := 0) hx hb dX12_readsGuard_74 (by decide) ?_
      refine lv_goto (tgt := 79) hx hb dX12_readsGuard_75 (by decide) ?_
      exact hj79_18 (0 : Int32) H _ _ hf hI (lv_sub hl [0] rfl)
    refine lv_if_ne (tgt := 74) hx hb dX12_readsGuard_61 (by decide) (fun c13 => ?_) (fun c13 => ?_)
    · have hf := (if_neg c13).symm.trans hf
      exact hj74_16 () H _ _ hf hI (lv_sub hl [0] rfl)
    · have hf := (if_pos c13).symm.trans hf
      refine lv_aload_n hx hb dX12_readsGuard_64 rfl (lv_at hl 0 rfl) ?_
      refine lv_iconst (v := 0) hx hb dX12_readsGuard_65 (by decide) ?_
      obtain ⟨r14, hc, hf⟩ := mbp_e hf
      refine m_callV (As := [.int (0 : Int32)]) (rest := [.int (((6 : Int32) * (M12 12 47 21)) + (2 : Int32)), .ref (w.1 12 54)]) hx hb hml hown hI (c_X12_here l w H.size (0 : Int32) M12 _ hc) (kb_X12_here hI.T (q1881 hI.T) (Nat.le_of_ble_eq_true rfl) (Nat.le_of_ble_eq_true rfl)) (q1883 hI.T) (sel_X12_here hI.T) (m_recv (g := 12) (i := 47) hI (mokX (by decide) (by decide)) rfl rfl) rfl hl.1 (Nat.le_of_ble_eq_true rfl) dX12_readsGuard_66 ⟨Nat.le_of_ble_eq_true rfl, Nat.le_of_ble_eq_true rfl⟩ (fun H locs hI => ?_)
      refine lv_bipush (v := 45) hx hb dX12_readsGuard_69 (by decide) ?_
      refine lv_icmp_ne (tgt := 78) hx hb dX12_readsGuard_71 (by decide) (fun c15 => ?_) (fun c15 => ?_)
      · have hf := (if_neg c15).symm.trans hf
        refine lv_iconst (v := 1) hx hb dX12_readsGuard_78 (by decide) ?_
        exact hj79_18 (1 : Int32) H _ _ hf hI (lv_sub hl [0] rfl)
      · have hf := (if_pos c15).symm.trans hf
        exact hj74_16 () H _ _ hf hI (lv_sub hl [0] rfl)
  obtain ⟨k36_9, ek36_9, hf⟩ := mlet_e hf
  have hj36_9 : ∀ (_u : Unit) (H : Heap) (locs : List Loc) (ls : Array Slot), k36_9 _u = some (r, M9) → mI w s (mA w s.heap.size) H locs M2 → lv_has ls 1 [(0, .ref (w.1 12 47))] → W p l e rmX12_readsGuard s m args below meth c H locs 0 0 (MQ below (mQ w s.heap.size none M9) args s 0 0 (mA w s.heap.size)) (F0 m 36 ls [.ref (w.1 12 47)]) := by
    intro _u H locs ls hf hI hl
    rw [ek36_9] at hf
    try dsimp only at hf
    refine lv_iconst (v := 1) hx hb dX12_readsGuard_36 (by decide) ?_
    refine lv_goto (tgt := 41) hx hb dX12_readsGuard_37 (by decide) ?_
    exact hj41_11 (1 : Int32) H _ _ hf hI (lv_sub hl [0] rfl)
  refine lv_if_ne (tgt := 36) hx hb dX12_readsGuard_13 (by decide) (fun c3 => ?_) (fun c3 => ?_)
  · have hf := (if_neg c3).symm.trans hf
    exact hj36_9 () H _ _ hf hI (lv_sub hl [0] rfl)
  · have hf := (if_pos c3).symm.trans hf
    refine lv_aload_n hx hb dX12_readsGuard_16 rfl (lv_at hl 0 rfl) ?_
    refine lv_iconst (v := 0) hx hb dX12_readsGuard_17 (by decide) ?_
    obtain ⟨r4, hc, hf⟩ := mbp_e hf
    refine m_callV (As := [.int (0 : Int32)]) (rest := [.ref (w.1 12 47)]) hx hb hml hown hI (c_X12_here l w H.size (0 : Int32) M2 _ hc) (kb_X12_here hI.T (q1881 hI.T) (Nat.le_of_ble_eq_true rfl) (Nat.le_of_ble_eq_true rfl)) (q1883 hI.T) (sel_X12_here hI.T) (m_recv (g := 12) (i := 47) hI (mokX (by decide) (by decide)) rfl rfl) rfl hl.1 (Nat.le_of_ble_eq_true rfl) dX12_readsGuard_18 ⟨Nat.le_of_ble_eq_true rfl, Nat.le_of_ble_eq_true rfl⟩ (fun H locs hI => ?_)
    refine lv_bipush (v := 43) hx hb dX12_readsGuard_21 (by decide) ?_
    obtain ⟨k40_8, ek40_8, hf⟩ := mlet_e hf
    have hj40_8 : ∀ (_u : Unit) (H : Heap) (locs : List Loc) (ls : Array Slot), k40_8 _u = some (r, M9) → mI w s (mA w s.heap.size) H locs M2 → lv_has ls 1 [(0, .ref (w.1 12 47))] → W p l e rmX12_readsGuard s m args below meth c H locs 0 0 (MQ below (mQ w s.heap.size none M9) args s 0 0 (mA w s.heap.size)) (F0 m 40 ls [.ref (w.1 12 47)]) := by
      intro _u H locs ls hf hI hl
      rw [ek40_8] at hf
      try dsimp only at hf
      refine lv_iconst (v := 0) hx hb dX12_readsGuard_40 (by decide) ?_
      exact hj41_11 (0 : Int32) H _ _ hf hI (lv_sub hl [0] rfl)
    refine lv_icmp_eq (tgt := 40) hx hb dX12_readsGuard_23 (by decide) (fun c5 => ?_) (fun c5 => ?_)
    · have hf := (if_pos c5).symm.trans hf
      exact hj40_8 () H _ _ hf hI (lv_sub hl [0] rfl)
    · have hf := (if_neg c5).symm.trans hf
      refine lv_aload_n hx hb dX12_readsGuard_26 rfl (lv_at hl 0 rfl) ?_
      refine lv_iconst (v := 0) hx hb dX12_readsGuard_27 (by decide) ?_
      obtain ⟨r6, hc, hf⟩ := mbp_e hf
      refine m_callV (As := [.int (0 : Int32)]) (rest := [.ref (w.1 12 47)]) hx hb hml hown hI (c_X12_here l w H.size (0 : Int32) M2 _ hc) (kb_X12_here hI.T (q1881 hI.T) (Nat.le_of_ble_eq_true rfl) (Nat.le_of_ble_eq_true rfl)) (q1883 hI.T) (sel_X12_here hI.T) (m_recv (g := 12) (i := 47) hI (mokX (by decide) (by decide)) rfl rfl) rfl hl.1 (Nat.le_of_ble_eq_true rfl) dX12_readsGuard_28 ⟨Nat.le_of_ble_eq_true rfl, Nat.le_of_ble_eq_true rfl⟩ (fun H locs hI => ?_)
      refine lv_bipush (v := 45) hx hb dX12_readsGuard_31 (by decide) ?_
      refine lv_icmp_eq (tgt := 40) hx hb dX12_readsGuard_33 (by decide) (fun c7 => ?_) (fun c7 => ?_)
      · have hf := (if_pos c7).symm.trans hf
        exact hj40_8 () H _ _ hf hI (lv_sub hl [0] rfl)
      · have hf := (if_neg c7).symm.trans hf
        exact hj36_9 () H _ _ hf hI (lv_sub hl [0] rfl)
abbrev rmX12_readsSeal : Room := { frames := 7, cells := 0, slots := 0, locals := 247 }
theorem kb_X12_readsSeal {R : Room} {s : State} {args : Array Value} {own : String} {idx : Nat} (hT : mT s) (hlink : (Cond.methodLink own idx yX12_readsSeal).before args s = true) (h1 : rmX12_readsSeal.frames + 1 ≤ R.frames) (h2 : 8 + (2 + 11) + rmX12_readsSeal.locals ≤ R.locals) : CallB R s args own idx yX12_readsSeal cX12_readsSeal 2 (none) [Cond.code yX12_readsSeal cX12_readsSeal 2 (none)] rmX12_readsSeal 0 0 0 := m_callB hT kc_X12_readsSeal ki_X12_readsSeal hlink (by decide +kernel) ⟨rfl, rfl, h1, h2⟩
set_option maxHeartbeats 4000000 in
set_option maxRecDepth 100000 in
theorem c_X12_readsSeal (l : Launch) (w : WD) (sz : Nat)  (M : Mem) (r : Unit) (M9 : Mem) (hf : f_X12_readsSeal  M = some (r, M9)) : mMet l yX12_readsSeal cX12_readsSeal 2 (none) rmX12_readsSeal w sz M [.ref (w.1 12 47)] none M9 := by
  refine m_of (by decide) (Nat.le_of_ble_eq_true rfl) ?_
  intro p e s m args below meth c hx hb hr hml hown hlk hI ls hl
  have hl : lv_has ls 2 [(0, .ref (w.1 12 47))] := hl
  unfold f_X12_readsSeal at hf
  refine lv_aload_n hx hb dX12_readsSeal_0 rfl (lv_at hl 0 rfl) ?_
  refine va_ldcS hx hb hown (hI.str (i := 2) rfl) dX12_readsSeal_1 ?_
  refine lv_iconst (v := 1) hx hb dX12_readsSeal_3 (by decide) ?_
  refine lv_iconst (v := 2) hx hb dX12_readsSeal_4 (by decide) ?_
  obtain ⟨r1, M2, hc, hf⟩ := mbnd_e hf
  refine m_callV (As := [.ref (w.2.2.2 1 2), .int (1 : Int32), .int (2 : Int32)]) (rest := []) hx hb hml hown hI (c_X12_number l w s.heap.size 2 (by decide) (1 : Int32) (2 : Int32) M _ _ hc) (kb_X12_number hI.T (q1886 hI.T) (Nat.le_of_ble_eq_true rfl) (Nat.le_of_ble_eq_true rfl)) (q1888 hI.T) (sel_X12_number hI.T) (m_recv (g := 12) (i := 47) hI (mokX (by decide) (by decide)) rfl rfl) rfl hl.1 (Nat.le_of_ble_eq_true rfl) dX12_readsSeal_5 ⟨Nat.le_of_ble_eq_true rfl, Nat.le_of_ble_eq_true rfl⟩ (fun H locs hI => ?_)
  refine lv_iconst (v := 2) hx hb dX12_readsSeal_8 (by decide) ?_
  refine lv_istore_n (lv' := [(1, .int (2 : Int32)), (0, .ref (w.1 12 47))]) hx hb dX12_readsSeal_9 rfl hl (by decide) rfl (fun ls hl => ?_)
  have hL10 : ∀ (n : Nat) (x3 : Int32) (M4 : Mem) (kk : Mem → Option (Unit × Mem)) (H : Heap) (locs : List Loc) (ls : Array Slot), f_X12_readsSeal_L10 n x3 M4 kk = some (r, M9) → mI w s (mA w s.heap.size) H locs M4 → lv_has ls 2 [(0, .ref (w.1 12 47)), (1, .int x3)] → (∀  (M4 : Mem) (H : Heap) (locs : List Loc) (ls : Array Slot), kk M4 = some (r, M9) → mI w s (mA w s.heap.size) H locs M4 → lv_has ls 2 [] → W p l e rmX12_readsSeal s m args below meth c H locs 0 0 (MQ below (mQ w s.heap.size none M9) args s 0 0 (mA w s.heap.size)) (F0 m 29 ls [])) → W p l e rmX12_readsSeal s m args below meth c H locs 0 0 (MQ below (mQ w s.heap.size none M9) args s 0 0 (mA w s.heap.size)) (F0 m 10 ls []) := by
    intro n
    induction n with
    | zero => intro x3 M4 kk H locs ls hf hI hl hk; rw [f_X12_readsSeal_L10.eq_1] at hf; cases hf
    | succ n ih10 =>
      intro x3 M4 kk H locs ls hf hI hl hk
      rw [f_X12_readsSeal_L10.eq_2] at hf
      refine lv_iload_n hx hb dX12_readsSeal_10 rfl (lv_at hl 1 rfl) ?_
      refine lv_iconst (v := 5) hx hb dX12_readsSeal_11 (by decide) ?_
      refine lv_icmp_ge (tgt := 29) hx hb dX12_readsSeal_12 (by decide) (fun c5 => ?_) (fun c5 => ?_)
      · have hf := (if_pos c5).symm.trans hf
        exact hk M4 H _ _ hf hI (lv_sub hl [] rfl)
      · have hf := (if_neg c5).symm.trans hf
        refine lv_aload_n hx hb dX12_readsSeal_15 rfl (lv_at hl 0 rfl) ?_
        refine va_ldcS hx hb hown (hI.str (i := 3) rfl) dX12_readsSeal_16 ?_
        refine lv_iload_n hx hb dX12_readsSeal_18 rfl (lv_at hl 1 rfl) ?_
        refine lv_iconst (v := 2) hx hb dX12_readsSeal_19 (by decide) ?_
        obtain ⟨r6, M7, hc, hf⟩ := mbnd_e hf
        refine m_callV (As := [.ref (w.2.2.2 1 3), .int x3, .int (2 : Int32)]) (rest := []) hx hb hml hown hI (c_X12_number l w H.size 3 (by decide) x3 (2 : Int32) M4 _ _ hc) (kb_X12_number hI.T (q1886 hI.T) (Nat.le_of_ble_eq_true rfl) (Nat.le_of_ble_eq_true rfl)) (q1888 hI.T) (sel_X12_number hI.T) (m_recv (g := 12) (i := 47) hI (mokX (by decide) (by decide)) rfl rfl) rfl hl.1 (Nat.le_of_ble_eq_true rfl) dX12_readsSeal_20 ⟨Nat.le_of_ble_eq_true rfl, Nat.le_of_ble_eq_true rfl⟩ (fun H locs hI => ?_)
        obtain ⟨x8, ex8, hf⟩ := mlet_e hf
        refine lv_iinc (v := x8) (lv' := [(1, .int x8), (0, .ref (w.1 12 47))]) hx hb dX12_readsSeal_23 hl (k := 1) rfl (by rw [ex8]; rfl) (by decide) rfl (fun ls hl => ?_)
        refine lv_goto (tgt := 10) hx hb dX12_readsSeal_26 (by decide) ?_
        exact ih10 x8 M7 kk H _ _ hf hI (lv_sub hl [1, 0] rfl) hk
  refine hL10 1000 (2 : Int32) M2 _ _ _ _ hf hI (lv_sub hl [1, 0] rfl) ?_
  intro M10 H locs ls hf hI hl
  try dsimp only at hf
  exact m_vretf hx hb hr hlk hI hf dX12_readsSeal_29
abbrev rmX12_readsWait : Room := { frames := 7, cells := 0, slots := 0, locals := 247 }
theorem kb_X12_readsWait {R : Room} {s : State} {args : Array Value} {own : String} {idx : Nat} (hT : mT s) (hlink : (Cond.methodLink own idx yX12_readsWait).before args s = true) (h1 : rmX12_readsWait.frames + 1 ≤ R.frames) (h2 : 8 + (1 + 11) + rmX12_readsWait.locals ≤ R.locals) : CallB R s args own idx yX12_readsWait cX12_readsWait 1 (none) [Cond.code yX12_readsWait cX12_readsWait 1 (none)] rmX12_readsWait 0 0 0 := m_callB hT kc_X12_readsWait ki_X12_readsWait hlink (by decide +kernel) ⟨rfl, rfl, h1, h2⟩
set_option maxHeartbeats 4000000 in
set_option maxRecDepth 100000 in
theorem c_X12_readsWait (l : Launch) (w : WD) (sz : Nat)  (M : Mem) (r : Unit) (M9 : Mem) (hf : f_X12_readsWait  M = some (r, M9)) : mMet l yX12_readsWait cX12_readsWait 1 (none) rmX12_readsWait w sz M [.ref (w.1 12 47)] none M9 := by
  refine m_of (by decide) (Nat.le_of_ble_eq_true rfl) ?_
  intro p e s m args below meth c hx hb hr hml hown hlk hI ls hl
  have hl : lv_has ls 1 [(0, .ref (w.1 12 47))] := hl
  unfold f_X12_readsWait at hf
  refine lv_aload_n hx hb dX12_readsWait_0 rfl (lv_at hl 0 rfl) ?_
  refine va_ldcS hx hb hown (hI.str (i := 4) rfl) dX12_readsWait_1 ?_
  obtain ⟨r1, M2, hc, hf⟩ := mbnd_e hf
  refine m_callV (As := [.ref (w.2.2.2 1 4)]) (rest := []) hx hb hml hown hI (c_X12_says l w s.heap.size 4 (by decide) M _ _ hc) (kb_X12_says hI.T (q1890 hI.T) (Nat.le_of_ble_eq_true rfl) (Nat.le_of_ble_eq_true rfl)) (q1892 hI.T) (sel_X12_says hI.T) (m_recv (g := 12) (i := 47) hI (mokX (by decide) (by decide)) rfl rfl) rfl hl.1 (Nat.le_of_ble_eq_true rfl) dX12_readsWait_3 ⟨Nat.le_of_ble_eq_true rfl, Nat.le_of_ble_eq_true rfl⟩ (fun H locs hI => ?_)
  refine lv_aload_n hx hb dX12_readsWait_6 rfl (lv_at hl 0 rfl) ?_
  refine m_get (g := 12) (i := 47) (ci := 10) (k := 9) (v := .ref (w.1 12 54)) hx hb hI hown (mokX (by decide) (by decide)) rfl rfl (by decide) lyX12 (q1435 hI.T) rfl dX12_readsWait_7 ?_
  refine lv_bipush (v := 6) hx hb dX12_readsWait_10 (by decide) ?_
  refine lv_aload_n hx hb dX12_readsWait_12 rfl (lv_at hl 0 rfl) ?_
  refine m_get (g := 12) (i := 47) (ci := 10) (k := 21) (v := .int (M2 12 47 21)) hx hb hI hown (mokX (by decide) (by decide)) rfl rfl (by decide) lyX12 (q1447 hI.T) rfl dX12_readsWait_13 ?_
  refine lv_imul hx hb dX12_readsWait_16 ?_
  refine lv_iconst (v := 1) hx hb dX12_readsWait_17 (by decide) ?_
  refine lv_iadd hx hb dX12_readsWait_18 ?_
  refine lv_iconst (v := 1) hx hb dX12_readsWait_19 (by decide) ?_
  obtain ⟨hi, hf⟩ := mix_e hf
  obtain ⟨M3, eM3, hf⟩ := mlet_e hf
  refine m_iast (g := 12) (i := 54) (M1 := M3) hx hb hI (mokX (by decide) (by decide)) rfl hi eM3 dX12_readsWait_20 (fun H locs hI => ?_)
  refine lv_aload_n hx hb dX12_readsWait_21 rfl (lv_at hl 0 rfl) ?_
  refine m_get (g := 12) (i := 47) (ci := 10) (k := 22) (v := .int (M3 12 47 22)) hx hb hI hown (mokX (by decide) (by decide)) rfl rfl (by decide) lyX12 (q1448 hI.T) rfl dX12_readsWait_22 ?_
  refine lv_if_ne (tgt := 46) hx hb dX12_readsWait_25 (by decide) (fun c4 => ?_) (fun c4 => ?_)
  · have hf := (if_neg c4).symm.trans hf
    exact m_vretf hx hb hr hlk hI hf dX12_readsWait_46
  · have hf := (if_pos c4).symm.trans hf
    refine lv_aload_n hx hb dX12_readsWait_28 rfl (lv_at hl 0 rfl) ?_
    refine lv_iconst (v := 0) hx hb dX12_readsWait_29 (by decide) ?_
    obtain ⟨r5, hc, hf⟩ := mbp_e hf
    refine m_callV (As := [.int (0 : Int32)]) (rest := []) hx hb hml hown hI (c_X12_here l w H.size (0 : Int32) M3 _ hc) (kb_X12_here hI.T (q1881 hI.T) (Nat.le_of_ble_eq_true rfl) (Nat.le_of_ble_eq_true rfl)) (q1883 hI.T) (sel_X12_here hI.T) (m_recv (g := 12) (i := 47) hI (mokX (by decide) (by decide)) rfl rfl) rfl hl.1 (Nat.le_of_ble_eq_true rfl) dX12_readsWait_30 ⟨Nat.le_of_ble_eq_true rfl, Nat.le_of_ble_eq_true rfl⟩ (fun H locs hI => ?_)
    refine lv_bipush (v := 32) hx hb dX12_readsWait_33 (by decide) ?_
    refine lv_icmp_ne (tgt := 46) hx hb dX12_readsWait_35 (by decide) (fun c6 => ?_) (fun c6 => ?_)
    · have hf := (if_neg c6).symm.trans hf
      exact m_vretf hx hb hr hlk hI hf dX12_readsWait_46
    · have hf := (if_pos c6).symm.trans hf
      refine lv_aload_n hx hb dX12_readsWait_38 rfl (lv_at hl 0 rfl) ?_
      refine va_ldcS hx hb hown (hI.str (i := 3) rfl) dX12_readsWait_39 ?_
      refine lv_iconst (v := 1) hx hb dX12_readsWait_41 (by decide) ?_
      refine lv_iconst (v := 2) hx hb dX12_readsWait_42 (by decide) ?_
      obtain ⟨r7, M8, hc, hf⟩ := mbnd_e hf
      refine m_callV (As := [.ref (w.2.2.2 1 3), .int (1 : Int32), .int (2 : Int32)]) (rest := []) hx hb hml hown hI (c_X12_number l w H.size 3 (by decide) (1 : Int32) (2 : Int32) M3 _ _ hc) (kb_X12_number hI.T (q1886 hI.T) (Nat.le_of_ble_eq_true rfl) (Nat.le_of_ble_eq_true rfl)) (q1888 hI.T) (sel_X12_number hI.T) (m_recv (g := 12) (i := 47) hI (mokX (by decide) (by decide)) rfl rfl) rfl hl.1 (Nat.le_of_ble_eq_true rfl) dX12_readsWait_43 ⟨Nat.le_of_ble_eq_true rfl, Nat.le_of_ble_eq_true rfl⟩ (fun H locs hI => ?_)
      exact m_vretf hx hb hr hlk hI hf dX12_readsWait_46
abbrev rmX12_readsOne : Room := { frames := 8, cells := 0, slots := 0, locals := 268 }
theorem kb_X12_readsOne {R : Room} {s : State} {args : Array Value} {own : String} {idx : Nat} (hT : mT s) (hlink : (Cond.methodLink own idx yX12_readsOne).before args s = true) (h1 : rmX12_readsOne.frames + 1 ≤ R.frames) (h2 : 8 + (3 + 11) + rmX12_readsOne.locals ≤ R.locals) : CallB R s args own idx yX12_readsOne cX12_readsOne 3 (none) [Cond.code yX12_readsOne cX12_readsOne 3 (none)] rmX12_readsOne 0 0 0 := m_callB hT kc_X12_readsOne ki_X12_readsOne hlink (by decide +kernel) ⟨rfl, rfl, h1, h2⟩
theorem mtab_X12_readsOne {p : Program} {l : Launch} {e : Env} {R : Room} {s : State} {m : MethodId} {args : Array Value} {below : List Frame} {meth : Method} {c : Code} {H : Heap} {locs : List Loc} {cells slots : Nat} {Q : State → Prop} {ls : Array Slot} {rest : List Value} {x : Int32} (hx : p.tables.exec = Jvm.exec) (hb : c.code = cX12_readsOne) (hd : decode cX12_readsOne 85 = .ok (.tableswitch 239 98 119 #[188, 210, 239, 239, 239, 165, 103, 239, 239, 239, 239, 239, 239, 200, 239, 239, 239, 135, 220, 239, 239, 232], 103)) (c0 : ¬ x = 98) (c1 : ¬ x = 99) (c2 : ¬ x = 103) (c3 : ¬ x = 104) (c4 : ¬ x = 111) (c5 : ¬ x = 115) (c6 : ¬ x = 116) (c7 : ¬ x = 119) (k : W p l e R s m args below meth c H locs cells slots Q (F0 m 324 ls rest)) : W p l e R s m args below meth c H locs cells slots Q (F0 m 85 ls (.int x :: rest)) := by
  have h0 : x.toInt ≠ 98 := mne_i c0
  have h1 : x.toInt ≠ 99 := mne_i c1
  have h2 : x.toInt ≠ 103 := mne_i c2
  have h3 : x.toInt ≠ 104 := mne_i c3
  have h4 : x.toInt ≠ 111 := mne_i c4
  have h5 : x.toInt ≠ 115 := mne_i c5
  have h6 : x.toInt ≠ 116 := mne_i c6
  have h7 : x.toInt ≠ 119 := mne_i c7
  by_cases ho : x.toInt < 98 ∨ 119 < x.toInt
  · exact lv_tableOut (tgt := 324) hx hb hd ho (by decide) k
  · obtain ⟨n, hn⟩ : ∃ n : Nat, n = (x.toInt - 98).toNat := ⟨_, rfl⟩
    have hT : ∀ n : Nat, n < 22 → n = 0 ∨ n = 1 ∨ n = 5 ∨ n = 6 ∨ n = 13 ∨ n = 17 ∨ n = 18 ∨ n = 21 ∨ (#[188, 210, 239, 239, 239, 165, 103, 239, 239, 239, 239, 239, 239, 200, 239, 239, 239, 135, 220, 239, 239, 232] : Array Int)[n]? = some 239 := by decide
    exact lv_tableIn (tgt := 324) (off := 239) hx hb hd (fun q => ho (Or.inl q)) (fun q => ho (Or.inr q)) (by rw [← hn]; exact ((((((((hT n (by omega)).resolve_left (by omega)).resolve_left (by omega)).resolve_left (by omega)).resolve_left (by omega)).resolve_left (by omega)).resolve_left (by omega)).resolve_left (by omega)).resolve_left (by omega)) (by decide) k
set_option maxHeartbeats 4000000 in
set_option maxRecDepth 100000 in
theorem c_X12_readsOne (l : Launch) (w : WD) (sz : Nat)  (M : Mem) (r : Unit) (M9 : Mem) (hf : f_X12_readsOne  M = some (r, M9)) : mMet l yX12_readsOne cX12_readsOne 3 (none) rmX12_readsOne w sz M [.ref (w.1 12 47)] none M9 := by
  refine m_of (by decide) (Nat.le_of_ble_eq_true rfl) ?_
  intro p e s m args below meth c hx hb hr hml hown hlk hI ls hl
  have hl : lv_has ls 3 [(0, .ref (w.1 12 47))] := hl
  unfold f_X12_readsOne at hf
  refine lv_aload_n hx hb dX12_readsOne_0 rfl (lv_at hl 0 rfl) ?_
  refine lv_iconst (v := 0) hx hb dX12_readsOne_1 (by decide) ?_
  obtain ⟨r1, hc, hf⟩ := mbp_e hf
  refine m_callV (As := [.int (0 : Int32)]) (rest := []) hx hb hml hown hI (c_X12_here l w s.heap.size (0 : Int32) M _ hc) (kb_X12_here hI.T (q1881 hI.T) (Nat.le_of_ble_eq_true rfl) (Nat.le_of_ble_eq_true rfl)) (q1883 hI.T) (sel_X12_here hI.T) (m_recv (g := 12) (i := 47) hI (mokX (by decide) (by decide)) rfl rfl) rfl hl.1 (Nat.le_of_ble_eq_true rfl) dX12_readsOne_2 ⟨Nat.le_of_ble_eq_true rfl, Nat.le_of_ble_eq_true rfl⟩ (fun H locs hI => ?_)
  refine lv_istore_n (lv' := [(1, .int r1), (0, .ref (w.1 12 47))]) hx hb dX12_readsOne_5 rfl hl (by decide) rfl (fun ls hl => ?_)
  refine lv_iload_n hx hb dX12_readsOne_6 rfl (lv_at hl 0 rfl) ?_
  refine lv_bipush (v := 104) hx hb dX12_readsOne_7 (by decide) ?_
  obtain ⟨k59_16, ek59_16, hf⟩ := mlet_e hf
  have hj59_16 : ∀ (x15 : Int32) (H : Heap) (locs : List Loc) (ls : Array Slot), k59_16 x15 = some (r, M9) → mI w s (mA w s.heap.size) H locs M → lv_has ls 3 [(0, .ref (w.1 12 47)), (1, .int r1)] → W p l e rmX12_readsOne s m args below meth c H locs 0 0 (MQ below (mQ w s.heap.size none M9) args s 0 0 (mA w s.heap.size)) (F0 m 59 ls [.int x15]) := by
    intro x15 H locs ls hf hI hl
    rw [ek59_16] at hf
    try dsimp only at hf
    refine lv_istore_n (lv' := [(2, .int x15), (0, .ref (w.1 12 47)), (1, .int r1)]) hx hb dX12_readsOne_59 rfl hl (by decide) rfl (fun ls hl => ?_)
    refine lv_aload_n hx hb dX12_readsOne_60 rfl (lv_at hl 1 rfl) ?_
    refine m_get (g := 12) (i := 47) (ci := 10) (k := 9) (v := .ref (w.1 12 54)) hx hb hI hown (mokX (by decide) (by decide)) rfl rfl (by decide) lyX12 (q1435 hI.T) rfl dX12_readsOne_61 ?_
    refine lv_bipush (v := 6) hx hb dX12_readsOne_64 (by decide) ?_
    refine lv_aload_n hx hb dX12_readsOne_66 rfl (lv_at hl 1 rfl) ?_
    refine m_get (g := 12) (i := 47) (ci := 10) (k := 21) (v := .int (M 12 47 21)) hx hb hI hown (mokX (by decide) (by decide)) rfl rfl (by decide) lyX12 (q1447 hI.T) rfl dX12_readsOne_67 ?_
    refine lv_imul hx hb dX12_readsOne_70 ?_
    refine lv_iload_n hx hb dX12_readsOne_71 rfl (lv_at hl 0 rfl) ?_
    obtain ⟨k83_19, ek83_19, hf⟩ := mlet_e hf
    have hj83_19 : ∀ (x18 : Int32) (H : Heap) (locs : List Loc) (ls : Array Slot), k83_19 x18 = some (r, M9) → mI w s (mA w s.heap.size) H locs M → lv_has ls 3 [(0, .ref (w.1 12 47)), (1, .int r1), (2, .int x15)] → W p l e rmX12_readsOne s m args below meth c H locs 0 0 (MQ below (mQ w s.heap.size none M9) args s 0 0 (mA w s.heap.size)) (F0 m 83 ls [.int x18, .int ((6 : Int32) * (M 12 47 21)), .ref (w.1 12 54)]) := by
      intro x18 H locs ls hf hI hl
      rw [ek83_19] at hf
      try dsimp only at hf
      obtain ⟨hi, hf⟩ := mix_e hf
      obtain ⟨M20, eM20, hf⟩ := mlet_e hf
      refine m_iast (g := 12) (i := 54) (M1 := M20) hx hb hI (mokX (by decide) (by decide)) rfl hi eM20 dX12_readsOne_83 (fun H locs hI => ?_)
      refine lv_iload_n hx hb dX12_readsOne_84 rfl (lv_at hl 1 rfl) ?_
      obtain ⟨k329_60, ek329_60, hf⟩ := mlet_e hf
      have hj329_60 : ∀ (M59 : Mem) (H : Heap) (locs : List Loc) (ls : Array Slot), k329_60 M59 = some (r, M9) → mI w s (mA w s.heap.size) H locs M59 → lv_has ls 3 [(0, .ref (w.1 12 47))] → W p l e rmX12_readsOne s m args below meth c H locs 0 0 (MQ below (mQ w s.heap.size none M9) args s 0 0 (mA w s.heap.size)) (F0 m 329 ls []) := by
        intro M59 H locs ls hf hI hl
        rw [ek329_60] at hf
        try dsimp only at hf
        refine lv_aload_n hx hb dX12_readsOne_329 rfl (lv_at hl 0 rfl) ?_
        refine lv_dup hx hb dX12_readsOne_330 rfl ?_
        refine m_get (g := 12) (i := 47) (ci := 10) (k := 21) (v := .int (M59 12 47 21)) hx hb hI hown (mokX (by decide) (by decide)) rfl rfl (by decide) lyX12 (q1447 hI.T) rfl dX12_readsOne_331 ?_
        refine lv_iconst (v := 1) hx hb dX12_readsOne_334 (by decide) ?_
        refine lv_iadd hx hb dX12_readsOne_335 ?_
        obtain ⟨M61, eM61, hf⟩ := mlet_e hf
        refine m_put (g := 12) (i := 47) (ci := 10) (k := 21) (ty := .int) (M1 := M61) hx hb hI hown (mokX (by decide) (by decide)) rfl rfl (by decide) lyX12 tyX12 tyX12_ok nmX12 (q1447 hI.T) rfl rfl rfl rfl (Nat.le_of_ble_eq_true rfl) rfl eM61 dX12_readsOne_336 (fun H locs hI => ?_)
        exact m_vretf hx hb hr hlk hI hf dX12_readsOne_339
      by_cases c21 : r1 = 98
      · have hf := (if_pos c21).symm.trans hf
        refine lv_tableIn (tgt := 273) hx hb dX12_readsOne_85 (by rw [c21]; decide) (by rw [c21]; decide) (by rw [c21]; rfl) (by decide) ?_
        refine lv_aload_n hx hb dX12_readsOne_273 rfl (lv_at hl 0 rfl) ?_
        refine va_ldcSw hx hb hown (hI.str (i := 9) rfl) dX12_readsOne_274 ?_
        refine lv_iconst (v := 1) hx hb dX12_readsOne_277 (by decide) ?_
        refine lv_iconst (v := 1) hx hb dX12_readsOne_278 (by decide) ?_
        obtain ⟨r22, M23, hc, hf⟩ := mbnd_e hf
        refine m_callV (As := [.ref (w.2.2.2 1 9), .int (1 : Int32), .int (1 : Int32)]) (rest := []) hx hb hml hown hI (c_X12_number l w H.size 9 (by decide) (1 : Int32) (1 : Int32) M20 _ _ hc) (kb_X12_number hI.T (q1886 hI.T) (Nat.le_of_ble_eq_true rfl) (Nat.le_of_ble_eq_true rfl)) (q1888 hI.T) (sel_X12_number hI.T) (m_recv (g := 12) (i := 47) hI (mokX (by decide) (by decide)) rfl rfl) rfl hl.1 (Nat.le_of_ble_eq_true rfl) dX12_readsOne_279 ⟨Nat.le_of_ble_eq_true rfl, Nat.le_of_ble_eq_true rfl⟩ (fun H locs hI => ?_)
        refine lv_goto (tgt := 329) hx hb dX12_readsOne_282 (by decide) ?_
        exact hj329_60 M23 H _ _ hf hI (lv_sub hl [0] rfl)
      have hf := (if_neg c21).symm.trans hf
      by_cases c24 : r1 = 99
      · have hf := (if_pos c24).symm.trans hf
        refine lv_tableIn (tgt := 295) hx hb dX12_readsOne_85 (by rw [c24]; decide) (by rw [c24]; decide) (by rw [c24]; rfl) (by decide) ?_
        refine lv_aload_n hx hb dX12_readsOne_295 rfl (lv_at hl 0 rfl) ?_
        refine va_ldcSw hx hb hown (hI.str (i := 11) rfl) dX12_readsOne_296 ?_
        obtain ⟨r25, M26, hc, hf⟩ := mbnd_e hf
        refine m_callV (As := [.ref (w.2.2.2 1 11)]) (rest := []) hx hb hml hown hI (c_X12_says l w H.size 11 (by decide) M20 _ _ hc) (kb_X12_says hI.T (q1890 hI.T) (Nat.le_of_ble_eq_true rfl) (Nat.le_of_ble_eq_true rfl)) (q1892 hI.T) (sel_X12_says hI.T) (m_recv (g := 12) (i := 47) hI (mokX (by decide) (by decide)) rfl rfl) rfl hl.1 (Nat.le_of_ble_eq_true rfl) dX12_readsOne_299 ⟨Nat.le_of_ble_eq_true rfl, Nat.le_of_ble_eq_true rfl⟩ (fun H locs hI => ?_)
        refine lv_goto (tgt := 329) hx hb dX12_readsOne_302 (by decide) ?_
        exact hj329_60 M26 H _ _ hf hI (lv_sub hl [0] rfl)
      have hf := (if_neg c24).symm.trans hf
      by_cases c27 : r1 = 103
      · have hf := (if_pos c27).symm.trans hf
        refine lv_tableIn (tgt := 250) hx hb dX12_readsOne_85 (by rw [c27]; decide) (by rw [c27]; decide) (by rw [c27]; rfl) (by decide) ?_
        refine lv_iload_n hx hb dX12_readsOne_250 rfl (lv_at hl 2 rfl) ?_
        refine lv_if_eq (tgt := 261) hx hb dX12_readsOne_251 (by decide) (fun c28 => ?_) (fun c28 => ?_)
        · have hf := (if_pos c28).symm.trans hf
          refine lv_aload_n hx hb dX12_readsOne_261 rfl (lv_at hl 0 rfl) ?_
          refine va_ldcSw hx hb hown (hI.str (i := 8) rfl) dX12_readsOne_262 ?_
          refine lv_iconst (v := 1) hx hb dX12_readsOne_265 (by decide) ?_
          refine lv_iconst (v := 1) hx hb dX12_readsOne_266 (by decide) ?_
          obtain ⟨r29, M30, hc, hf⟩ := mbnd_e hf
          refine m_callV (As := [.ref (w.2.2.2 1 8), .int (1 : Int32), .int (1 : Int32)]) (rest := []) hx hb hml hown hI (c_X12_number l w H.size 8 (by decide) (1 : Int32) (1 : Int32) M20 _ _ hc) (kb_X12_number hI.T (q1886 hI.T) (Nat.le_of_ble_eq_true rfl) (Nat.le_of_ble_eq_true rfl)) (q1888 hI.T) (sel_X12_number hI.T) (m_recv (g := 12) (i := 47) hI (mokX (by decide) (by decide)) rfl rfl) rfl hl.1 (Nat.le_of_ble_eq_true rfl) dX12_readsOne_267 ⟨Nat.le_of_ble_eq_true rfl, Nat.le_of_ble_eq_true rfl⟩ (fun H locs hI => ?_)
          refine lv_goto (tgt := 329) hx hb dX12_readsOne_270 (by decide) ?_
          exact hj329_60 M30 H _ _ hf hI (lv_sub hl [0] rfl)
        · have hf := (if_neg c28).symm.trans hf
          refine lv_aload_n hx hb dX12_readsOne_254 rfl (lv_at hl 0 rfl) ?_
          obtain ⟨r31, M32, hc, hf⟩ := mbnd_e hf
          refine m_callV (As := []) (rest := []) hx hb hml hown hI (c_X12_readsGuard l w H.size M20 _ _ hc) (kb_X12_readsGuard hI.T (q1904 hI.T) (Nat.le_of_ble_eq_true rfl) (Nat.le_of_ble_eq_true rfl)) (q1906 hI.T) (sel_X12_readsGuard hI.T) (m_recv (g := 12) (i := 47) hI (mokX (by decide) (by decide)) rfl rfl) rfl hl.1 (Nat.le_of_ble_eq_true rfl) dX12_readsOne_255 ⟨Nat.le_of_ble_eq_true rfl, Nat.le_of_ble_eq_true rfl⟩ (fun H locs hI => ?_)
          refine lv_goto (tgt := 329) hx hb dX12_readsOne_258 (by decide) ?_
          exact hj329_60 M32 H _ _ hf hI (lv_sub hl [0] rfl)
      have hf := (if_neg c27).symm.trans hf
      by_cases c33 : r1 = 104
      · have hf := (if_pos c33).symm.trans hf
        refine lv_tableIn (tgt := 188) hx hb dX12_readsOne_85 (by rw [c33]; decide) (by rw [c33]; decide) (by rw [c33]; rfl) (by decide) ?_
        refine lv_iload_n hx hb dX12_readsOne_188 rfl (lv_at hl 2 rfl) ?_
        refine lv_if_eq (tgt := 211) hx hb dX12_readsOne_189 (by decide) (fun c34 => ?_) (fun c34 => ?_)
        · have hf := (if_pos c34).symm.trans hf
          refine lv_aload_n hx hb dX12_readsOne_211 rfl (lv_at hl 0 rfl) ?_
          refine va_ldcS hx hb hown (hI.str (i := 6) rfl) dX12_readsOne_212 ?_
          obtain ⟨r35, M36, hc, hf⟩ := mbnd_e hf
          refine m_callV (As := [.ref (w.2.2.2 1 6)]) (rest := []) hx hb hml hown hI (c_X12_says l w H.size 6 (by decide) M20 _ _ hc) (kb_X12_says hI.T (q1890 hI.T) (Nat.le_of_ble_eq_true rfl) (Nat.le_of_ble_eq_true rfl)) (q1892 hI.T) (sel_X12_says hI.T) (m_recv (g := 12) (i := 47) hI (mokX (by decide) (by decide)) rfl rfl) rfl hl.1 (Nat.le_of_ble_eq_true rfl) dX12_readsOne_214 ⟨Nat.le_of_ble_eq_true rfl, Nat.le_of_ble_eq_true rfl⟩ (fun H locs hI => ?_)
          refine lv_goto (tgt := 329) hx hb dX12_readsOne_217 (by decide) ?_
          exact hj329_60 M36 H _ _ hf hI (lv_sub hl [0] rfl)
        · have hf := (if_neg c34).symm.trans hf
          refine lv_aload_n hx hb dX12_readsOne_192 rfl (lv_at hl 0 rfl) ?_
          refine va_ldcS hx hb hown (hI.str (i := 5) rfl) dX12_readsOne_193 ?_
          refine lv_iconst (v := 1) hx hb dX12_readsOne_195 (by decide) ?_
          refine lv_iconst (v := 1) hx hb dX12_readsOne_196 (by decide) ?_
          obtain ⟨r37, M38, hc, hf⟩ := mbnd_e hf
          refine m_callV (As := [.ref (w.2.2.2 1 5), .int (1 : Int32), .int (1 : Int32)]) (rest := []) hx hb hml hown hI (c_X12_number l w H.size 5 (by decide) (1 : Int32) (1 : Int32) M20 _ _ hc) (kb_X12_number hI.T (q1886 hI.T) (Nat.le_of_ble_eq_true rfl) (Nat.le_of_ble_eq_true rfl)) (q1888 hI.T) (sel_X12_number hI.T) (m_recv (g := 12) (i := 47) hI (mokX (by decide) (by decide)) rfl rfl) rfl hl.1 (Nat.le_of_ble_eq_true rfl) dX12_readsOne_197 ⟨Nat.le_of_ble_eq_true rfl, Nat.le_of_ble_eq_true rfl⟩ (fun H locs hI => ?_)
          refine lv_aload_n hx hb dX12_readsOne_200 rfl (lv_at hl 0 rfl) ?_
          refine va_ldcS hx hb hown (hI.str (i := 3) rfl) dX12_readsOne_201 ?_
          refine lv_iconst (v := 2) hx hb dX12_readsOne_203 (by decide) ?_
          refine lv_iconst (v := 1) hx hb dX12_readsOne_204 (by decide) ?_
          obtain ⟨r39, M40, hc, hf⟩ := mbnd_e hf
          refine m_callV (As := [.ref (w.2.2.2 1 3), .int (2 : Int32), .int (1 : Int32)]) (rest := []) hx hb hml hown hI (c_X12_number l w H.size 3 (by decide) (2 : Int32) (1 : Int32) M38 _ _ hc) (kb_X12_number hI.T (q1886 hI.T) (Nat.le_of_ble_eq_true rfl) (Nat.le_of_ble_eq_true rfl)) (q1888 hI.T) (sel_X12_number hI.T) (m_recv (g := 12) (i := 47) hI (mokX (by decide) (by decide)) rfl rfl) rfl hl.1 (Nat.le_of_ble_eq_true rfl) dX12_readsOne_205 ⟨Nat.le_of_ble_eq_true rfl, Nat.le_of_ble_eq_true rfl⟩ (fun H locs hI => ?_)
          refine lv_goto (tgt := 329) hx hb dX12_readsOne_208 (by decide) ?_
          exact hj329_60 M40 H _ _ hf hI (lv_sub hl [0] rfl)
      have hf := (if_neg c33).symm.trans hf
      by_cases c41 : r1 = 111
      · have hf := (if_pos c41).symm.trans hf
        refine lv_tableIn (tgt := 285) hx hb dX12_readsOne_85 (by rw [c41]; decide) (by rw [c41]; decide) (by rw [c41]; rfl) (by decide) ?_
        refine lv_aload_n hx hb dX12_readsOne_285 rfl (lv_at hl 0 rfl) ?_
        refine va_ldcSw hx hb hown (hI.str (i := 10) rfl) dX12_readsOne_286 ?_
        obtain ⟨r42, M43, hc, hf⟩ := mbnd_e hf
        refine m_callV (As := [.ref (w.2.2.2 1 10)]) (rest := []) hx hb hml hown hI (c_X12_says l w H.size 10 (by decide) M20 _ _ hc) (kb_X12_says hI.T (q1890 hI.T) (Nat.le_of_ble_eq_true rfl) (Nat.le_of_ble_eq_true rfl)) (q1892 hI.T) (sel_X12_says hI.T) (m_recv (g := 12) (i := 47) hI (mokX (by decide) (by decide)) rfl rfl) rfl hl.1 (Nat.le_of_ble_eq_true rfl) dX12_readsOne_289 ⟨Nat.le_of_ble_eq_true rfl, Nat.le_of_ble_eq_true rfl⟩ (fun H locs hI => ?_)
        refine lv_goto (tgt := 329) hx hb dX12_readsOne_292 (by decide) ?_
        exact hj329_60 M43 H _ _ hf hI (lv_sub hl [0] rfl)
      have hf := (if_neg c41).symm.trans hf
      by_cases c44 : r1 = 115
      · have hf := (if_pos c44).symm.trans hf
        refine lv_tableIn (tgt := 220) hx hb dX12_readsOne_85 (by rw [c44]; decide) (by rw [c44]; decide) (by rw [c44]; rfl) (by decide) ?_
        refine lv_iload_n hx hb dX12_readsOne_220 rfl (lv_at hl 2 rfl) ?_
        refine lv_if_eq (tgt := 243) hx hb dX12_readsOne_221 (by decide) (fun c45 => ?_) (fun c45 => ?_)
        · have hf := (if_pos c45).symm.trans hf
          refine lv_aload_n hx hb dX12_readsOne_243 rfl (lv_at hl 0 rfl) ?_
          obtain ⟨r46, M47, hc, hf⟩ := mbnd_e hf
          refine m_callV (As := []) (rest := []) hx hb hml hown hI (c_X12_readsSeal l w H.size M20 _ _ hc) (kb_X12_readsSeal hI.T (q1899 hI.T) (Nat.le_of_ble_eq_true rfl) (Nat.le_of_ble_eq_true rfl)) (q1901 hI.T) (sel_X12_readsSeal hI.T) (m_recv (g := 12) (i := 47) hI (mokX (by decide) (by decide)) rfl rfl) rfl hl.1 (Nat.le_of_ble_eq_true rfl) dX12_readsOne_244 ⟨Nat.le_of_ble_eq_true rfl, Nat.le_of_ble_eq_true rfl⟩ (fun H locs hI => ?_)
          refine lv_goto (tgt := 329) hx hb dX12_readsOne_247 (by decide) ?_
          exact hj329_60 M47 H _ _ hf hI (lv_sub hl [0] rfl)
        · have hf := (if_neg c45).symm.trans hf
          refine lv_aload_n hx hb dX12_readsOne_224 rfl (lv_at hl 0 rfl) ?_
          refine va_ldcS hx hb hown (hI.str (i := 7) rfl) dX12_readsOne_225 ?_
          refine lv_iconst (v := 1) hx hb dX12_readsOne_227 (by decide) ?_
          refine lv_iconst (v := 1) hx hb dX12_readsOne_228 (by decide) ?_
          obtain ⟨r48, M49, hc, hf⟩ := mbnd_e hf
          refine m_callV (As := [.ref (w.2.2.2 1 7), .int (1 : Int32), .int (1 : Int32)]) (rest := []) hx hb hml hown hI (c_X12_number l w H.size 7 (by decide) (1 : Int32) (1 : Int32) M20 _ _ hc) (kb_X12_number hI.T (q1886 hI.T) (Nat.le_of_ble_eq_true rfl) (Nat.le_of_ble_eq_true rfl)) (q1888 hI.T) (sel_X12_number hI.T) (m_recv (g := 12) (i := 47) hI (mokX (by decide) (by decide)) rfl rfl) rfl hl.1 (Nat.le_of_ble_eq_true rfl) dX12_readsOne_229 ⟨Nat.le_of_ble_eq_true rfl, Nat.le_of_ble_eq_true rfl⟩ (fun H locs hI => ?_)
          refine lv_aload_n hx hb dX12_readsOne_232 rfl (lv_at hl 0 rfl) ?_
          refine va_ldcS hx hb hown (hI.str (i := 3) rfl) dX12_readsOne_233 ?_
          refine lv_iconst (v := 2) hx hb dX12_readsOne_235 (by decide) ?_
          refine lv_iconst (v := 2) hx hb dX12_readsOne_236 (by decide) ?_
          obtain ⟨r50, M51, hc, hf⟩ := mbnd_e hf
          refine m_callV (As := [.ref (w.2.2.2 1 3), .int (2 : Int32), .int (2 : Int32)]) (rest := []) hx hb hml hown hI (c_X12_number l w H.size 3 (by decide) (2 : Int32) (2 : Int32) M49 _ _ hc) (kb_X12_number hI.T (q1886 hI.T) (Nat.le_of_ble_eq_true rfl) (Nat.le_of_ble_eq_true rfl)) (q1888 hI.T) (sel_X12_number hI.T) (m_recv (g := 12) (i := 47) hI (mokX (by decide) (by decide)) rfl rfl) rfl hl.1 (Nat.le_of_ble_eq_true rfl) dX12_readsOne_237 ⟨Nat.le_of_ble_eq_true rfl, Nat.le_of_ble_eq_true rfl⟩ (fun H locs hI => ?_)
          refine lv_goto (tgt := 329) hx hb dX12_readsOne_240 (by decide) ?_
          exact hj329_60 M51 H _ _ hf hI (lv_sub hl [0] rfl)
      have hf := (if_neg c44).symm.trans hf
      by_cases c52 : r1 = 116
      · have hf := (if_pos c52).symm.trans hf
        refine lv_tableIn (tgt := 305) hx hb dX12_readsOne_85 (by rw [c52]; decide) (by rw [c52]; decide) (by rw [c52]; rfl) (by decide) ?_
        refine lv_aload_n hx hb dX12_readsOne_305 rfl (lv_at hl 0 rfl) ?_
        refine va_ldcSw hx hb hown (hI.str (i := 12) rfl) dX12_readsOne_306 ?_
        refine lv_iconst (v := 1) hx hb dX12_readsOne_309 (by decide) ?_
        refine lv_iconst (v := 1) hx hb dX12_readsOne_310 (by decide) ?_
        obtain ⟨r53, M54, hc, hf⟩ := mbnd_e hf
        refine m_callV (As := [.ref (w.2.2.2 1 12), .int (1 : Int32), .int (1 : Int32)]) (rest := []) hx hb hml hown hI (c_X12_number l w H.size 12 (by decide) (1 : Int32) (1 : Int32) M20 _ _ hc) (kb_X12_number hI.T (q1886 hI.T) (Nat.le_of_ble_eq_true rfl) (Nat.le_of_ble_eq_true rfl)) (q1888 hI.T) (sel_X12_number hI.T) (m_recv (g := 12) (i := 47) hI (mokX (by decide) (by decide)) rfl rfl) rfl hl.1 (Nat.le_of_ble_eq_true rfl) dX12_readsOne_311 ⟨Nat.le_of_ble_eq_true rfl, Nat.le_of_ble_eq_true rfl⟩ (fun H locs hI => ?_)
        refine lv_goto (tgt := 329) hx hb dX12_readsOne_314 (by decide) ?_
        exact hj329_60 M54 H _ _ hf hI (lv_sub hl [0] rfl)
      have hf := (if_neg c52).symm.trans hf
      by_cases c55 : r1 = 119
      · have hf := (if_pos c55).symm.trans hf
        refine lv_tableIn (tgt := 317) hx hb dX12_readsOne_85 (by rw [c55]; decide) (by rw [c55]; decide) (by rw [c55]; rfl) (by decide) ?_
        refine lv_aload_n hx hb dX12_readsOne_317 rfl (lv_at hl 0 rfl) ?_
        obtain ⟨r56, M57, hc, hf⟩ := mbnd_e hf
        refine m_callV (As := []) (rest := []) hx hb hml hown hI (c_X12_readsWait l w H.size M20 _ _ hc) (kb_X12_readsWait hI.T (q1915 hI.T) (Nat.le_of_ble_eq_true rfl) (Nat.le_of_ble_eq_true rfl)) (q1917 hI.T) (sel_X12_readsWait hI.T) (m_recv (g := 12) (i := 47) hI (mokX (by decide) (by decide)) rfl rfl) rfl hl.1 (Nat.le_of_ble_eq_true rfl) dX12_readsOne_318 ⟨Nat.le_of_ble_eq_true rfl, Nat.le_of_ble_eq_true rfl⟩ (fun H locs hI => ?_)
        refine lv_goto (tgt := 329) hx hb dX12_readsOne_321 (by decide) ?_
        exact hj329_60 M57 H _ _ hf hI (lv_sub hl [0] rfl)
      have hf := (if_neg c55).symm.trans hf
      have hc21 := mne_i c21
      have hc24 := mne_i c24
      have hc27 := mne_i c27
      have hc33 := mne_i c33
      have hc41 := mne_i c41
      have hc44 := mne_i c44
      have hc52 := mne_i c52
      have hc55 := mne_i c55
      refine mtab_X12_readsOne hx hb dX12_readsOne_85 c21 c24 c27 c33 c41 c44 c52 c55 ?_
      refine lv_aload_n hx hb dX12_readsOne_324 rfl (lv_at hl 0 rfl) ?_
      refine lv_iconst (v := 1) hx hb dX12_readsOne_325 (by decide) ?_
      obtain ⟨M58, eM58, hf⟩ := mlet_e hf
      refine m_put (g := 12) (i := 47) (ci := 10) (k := 22) (ty := .boolean) (M1 := M58) hx hb hI hown (mokX (by decide) (by decide)) rfl rfl (by decide) lyX12 tyX12 tyX12_ok nmX12 (q1448 hI.T) rfl rfl rfl rfl (Nat.le_of_ble_eq_true rfl) rfl eM58 dX12_readsOne_326 (fun H locs hI => ?_)
      exact hj329_60 M58 H _ _ hf hI (lv_sub hl [0] rfl)
    refine lv_if_eq (tgt := 82) hx hb dX12_readsOne_72 (by decide) (fun c17 => ?_) (fun c17 => ?_)
    · have hf := (if_pos c17).symm.trans hf
      refine lv_iload_n hx hb dX12_readsOne_82 rfl (lv_at hl 2 rfl) ?_
      exact hj83_19 r1 H _ _ hf hI (lv_sub hl [1, 2, 0] rfl)
    · have hf := (if_neg c17).symm.trans hf
      refine lv_iload_n hx hb dX12_readsOne_75 rfl (lv_at hl 2 rfl) ?_
      refine lv_bipush (v := 100) hx hb dX12_readsOne_76 (by decide) ?_
      refine lv_iadd hx hb dX12_readsOne_78 ?_
      refine lv_goto (tgt := 83) hx hb dX12_readsOne_79 (by decide) ?_
      exact hj83_19 (r1 + (100 : Int32)) H _ _ hf hI (lv_sub hl [1, 2, 0] rfl)
  obtain ⟨k54_14, ek54_14, hf⟩ := mlet_e hf
  have hj54_14 : ∀ (_u : Unit) (H : Heap) (locs : List Loc) (ls : Array Slot), k54_14 _u = some (r, M9) → mI w s (mA w s.heap.size) H locs M → lv_has ls 3 [(0, .ref (w.1 12 47)), (1, .int r1)] → W p l e rmX12_readsOne s m args below meth c H locs 0 0 (MQ below (mQ w s.heap.size none M9) args s 0 0 (mA w s.heap.size)) (F0 m 54 ls []) := by
    intro _u H locs ls hf hI hl
    rw [ek54_14] at hf
    try dsimp only at hf
    refine lv_iconst (v := 1) hx hb dX12_readsOne_54 (by decide) ?_
    refine lv_goto (tgt := 59) hx hb dX12_readsOne_55 (by decide) ?_
    exact hj59_16 (1 : Int32) H _ _ hf hI (lv_sub hl [0, 1] rfl)
  obtain ⟨k22_5, ek22_5, hf⟩ := mlet_e hf
  have hj22_5 : ∀ (_u : Unit) (H : Heap) (locs : List Loc) (ls : Array Slot), k22_5 _u = some (r, M9) → mI w s (mA w s.heap.size) H locs M → lv_has ls 3 [(0, .ref (w.1 12 47)), (1, .int r1)] → W p l e rmX12_readsOne s m args below meth c H locs 0 0 (MQ below (mQ w s.heap.size none M9) args s 0 0 (mA w s.heap.size)) (F0 m 22 ls []) := by
    intro _u H locs ls hf hI hl
    rw [ek22_5] at hf
    try dsimp only at hf
    refine lv_iload_n hx hb dX12_readsOne_22 rfl (lv_at hl 1 rfl) ?_
    refine lv_bipush (v := 115) hx hb dX12_readsOne_23 (by decide) ?_
    obtain ⟨k38_9, ek38_9, hf⟩ := mlet_e hf
    have hj38_9 : ∀ (_u : Unit) (H : Heap) (locs : List Loc) (ls : Array Slot), k38_9 _u = some (r, M9) → mI w s (mA w s.heap.size) H locs M → lv_has ls 3 [(0, .ref (w.1 12 47)), (1, .int r1)] → W p l e rmX12_readsOne s m args below meth c H locs 0 0 (MQ below (mQ w s.heap.size none M9) args s 0 0 (mA w s.heap.size)) (F0 m 38 ls []) := by
      intro _u H locs ls hf hI hl
      rw [ek38_9] at hf
      try dsimp only at hf
      refine lv_iload_n hx hb dX12_readsOne_38 rfl (lv_at hl 1 rfl) ?_
      refine lv_bipush (v := 103) hx hb dX12_readsOne_39 (by decide) ?_
      obtain ⟨k58_13, ek58_13, hf⟩ := mlet_e hf
      have hj58_13 : ∀ (_u : Unit) (H : Heap) (locs : List Loc) (ls : Array Slot), k58_13 _u = some (r, M9) → mI w s (mA w s.heap.size) H locs M → lv_has ls 3 [(0, .ref (w.1 12 47)), (1, .int r1)] → W p l e rmX12_readsOne s m args below meth c H locs 0 0 (MQ below (mQ w s.heap.size none M9) args s 0 0 (mA w s.heap.size)) (F0 m 58 ls []) := by
        intro _u H locs ls hf hI hl
        rw [ek58_13] at hf
        try dsimp only at hf
        refine lv_iconst (v := 0) hx hb dX12_readsOne_58 (by decide) ?_
        exact hj59_16 (0 : Int32) H _ _ hf hI (lv_sub hl [0, 1] rfl)
      refine lv_icmp_ne (tgt := 58) hx hb dX12_readsOne_41 (by decide) (fun c10 => ?_) (fun c10 => ?_)
      · have hf := (if_neg c10).symm.trans hf
        exact hj58_13 () H _ _ hf hI (lv_sub hl [0, 1] rfl)
      · have hf := (if_pos c10).symm.trans hf
        refine lv_aload_n hx hb dX12_readsOne_44 rfl (lv_at hl 0 rfl) ?_
        refine lv_iconst (v := 1) hx hb dX12_readsOne_45 (by decide) ?_
        obtain ⟨r11, hc, hf⟩ := mbp_e hf
        refine m_callV (As := [.int (1 : Int32)]) (rest := []) hx hb hml hown hI (c_X12_here l w H.size (1 : Int32) M _ hc) (kb_X12_here hI.T (q1881 hI.T) (Nat.le_of_ble_eq_true rfl) (Nat.le_of_ble_eq_true rfl)) (q1883 hI.T) (sel_X12_here hI.T) (m_recv (g := 12) (i := 47) hI (mokX (by decide) (by decide)) rfl rfl) rfl hl.1 (Nat.le_of_ble_eq_true rfl) dX12_readsOne_46 ⟨Nat.le_of_ble_eq_true rfl, Nat.le_of_ble_eq_true rfl⟩ (fun H locs hI => ?_)
        refine lv_bipush (v := 117) hx hb dX12_readsOne_49 (by decide) ?_
        refine lv_icmp_ne (tgt := 58) hx hb dX12_readsOne_51 (by decide) (fun c12 => ?_) (fun c12 => ?_)
        · have hf := (if_neg c12).symm.trans hf
          exact hj58_13 () H _ _ hf hI (lv_sub hl [0, 1] rfl)
        · have hf := (if_pos c12).symm.trans hf
          exact hj54_14 () H _ _ hf hI (lv_sub hl [0, 1] rfl)
    refine lv_icmp_ne (tgt := 38) hx hb dX12_readsOne_25 (by decide) (fun c6 => ?_) (fun c6 => ?_)
    · have hf := (if_neg c6).symm.trans hf
      exact hj38_9 () H _ _ hf hI (lv_sub hl [0, 1] rfl)
    · have hf := (if_pos c6).symm.trans hf
      refine lv_aload_n hx hb dX12_readsOne_28 rfl (lv_at hl 0 rfl) ?_
      refine lv_iconst (v := 1) hx hb dX12_readsOne_29 (by decide) ?_
      obtain ⟨r7, hc, hf⟩ := mbp_e hf
      refine m_callV (As := [.int (1 : Int32)]) (rest := []) hx hb hml hown hI (c_X12_here l w H.size (1 : Int32) M _ hc) (kb_X12_here hI.T (q1881 hI.T) (Nat.le_of_ble_eq_true rfl) (Nat.le_of_ble_eq_true rfl)) (q1883 hI.T) (sel_X12_here hI.T) (m_recv (g := 12) (i := 47) hI (mokX (by decide) (by decide)) rfl rfl) rfl hl.1 (Nat.le_of_ble_eq_true rfl) dX12_readsOne_30 ⟨Nat.le_of_ble_eq_true rfl, Nat.le_of_ble_eq_true rfl⟩ (fun H locs hI => ?_)
      refine lv_bipush (v := 104) hx hb dX12_readsOne_33 (by decide) ?_
      refine lv_icmp_eq (tgt := 54) hx hb dX12_readsOne_35 (by decide) (fun c8 => ?_) (fun c8 => ?_)
      · have hf := (if_pos c8).symm.trans hf
        exact hj54_14 () H _ _ hf hI (lv_sub hl [0, 1] rfl)
      · have hf := (if_neg c8).symm.trans hf
        exact hj38_9 () H _ _ hf hI (lv_sub hl [0, 1] rfl)
  refine lv_icmp_ne (tgt := 22) hx hb dX12_readsOne_9 (by decide) (fun c2 => ?_) (fun c2 => ?_)
  · have hf := (if_neg c2).symm.trans hf
    exact hj22_5 () H _ _ hf hI (lv_sub hl [1, 0] rfl)
  · have hf := (if_pos c2).symm.trans hf
    refine lv_aload_n hx hb dX12_readsOne_12 rfl (lv_at hl 1 rfl) ?_
    refine lv_iconst (v := 1) hx hb dX12_readsOne_13 (by decide) ?_
    obtain ⟨r3, hc, hf⟩ := mbp_e hf
    refine m_callV (As := [.int (1 : Int32)]) (rest := []) hx hb hml hown hI (c_X12_here l w H.size (1 : Int32) M _ hc) (kb_X12_here hI.T (q1881 hI.T) (Nat.le_of_ble_eq_true rfl) (Nat.le_of_ble_eq_true rfl)) (q1883 hI.T) (sel_X12_here hI.T) (m_recv (g := 12) (i := 47) hI (mokX (by decide) (by decide)) rfl rfl) rfl hl.1 (Nat.le_of_ble_eq_true rfl) dX12_readsOne_14 ⟨Nat.le_of_ble_eq_true rfl, Nat.le_of_ble_eq_true rfl⟩ (fun H locs hI => ?_)
    refine lv_bipush (v := 117) hx hb dX12_readsOne_17 (by decide) ?_
    refine lv_icmp_eq (tgt := 54) hx hb dX12_readsOne_19 (by decide) (fun c4 => ?_) (fun c4 => ?_)
    · have hf := (if_pos c4).symm.trans hf
      exact hj54_14 () H _ _ hf hI (lv_sub hl [1, 0] rfl)
    · have hf := (if_neg c4).symm.trans hf
      exact hj22_5 () H _ _ hf hI (lv_sub hl [1, 0] rfl)
abbrev rmX12_opens : Room := { frames := 4, cells := 0, slots := 0, locals := 91 }
theorem kb_X12_opens {R : Room} {s : State} {args : Array Value} {own : String} {idx : Nat} (hT : mT s) (hlink : (Cond.methodLink own idx yX12_opens).before args s = true) (h1 : rmX12_opens.frames + 1 ≤ R.frames) (h2 : 8 + (2 + 11) + rmX12_opens.locals ≤ R.locals) : CallB R s args own idx yX12_opens cX12_opens 2 (some .int) [Cond.code yX12_opens cX12_opens 2 (some .int)] rmX12_opens 0 0 0 := m_callB hT kc_X12_opens ki_X12_opens hlink (by decide +kernel) ⟨rfl, rfl, h1, h2⟩
set_option maxHeartbeats 4000000 in
set_option maxRecDepth 100000 in
theorem c_X12_opens (l : Launch) (w : WD) (sz : Nat)  (M : Mem) (r : Int32) (M9 : Mem) (hf : f_X12_opens  M = some (r, M9)) : mMet l yX12_opens cX12_opens 2 (some .int) rmX12_opens w sz M [.ref (w.1 12 47)] (some (.int r)) M9 := by
  refine m_of (by decide) (Nat.le_of_ble_eq_true rfl) ?_
  intro p e s m args below meth c hx hb hr hml hown hlk hI ls hl
  have hl : lv_has ls 2 [(0, .ref (w.1 12 47))] := hl
  unfold f_X12_opens at hf
  refine lv_aload_n hx hb dX12_opens_0 rfl (lv_at hl 0 rfl) ?_
  obtain ⟨r1, M2, hc, hf⟩ := mbnd_e hf
  refine m_callV (As := []) (rest := []) hx hb hml hown hI (c_X12_tries l w s.heap.size M _ _ hc) (kb_X12_tries hI.T (q1587 hI.T) (Nat.le_of_ble_eq_true rfl) (Nat.le_of_ble_eq_true rfl)) (q1589 hI.T) (sel_X12_tries hI.T) (m_recv (g := 12) (i := 47) hI (mokX (by decide) (by decide)) rfl rfl) rfl hl.1 (Nat.le_of_ble_eq_true rfl) dX12_opens_1 ⟨Nat.le_of_ble_eq_true rfl, Nat.le_of_ble_eq_true rfl⟩ (fun H locs hI => ?_)
  refine lv_istore_n (lv' := [(1, .int r1), (0, .ref (w.1 12 47))]) hx hb dX12_opens_4 rfl hl (by decide) rfl (fun ls hl => ?_)
  refine lv_iload_n hx hb dX12_opens_5 rfl (lv_at hl 0 rfl) ?_
  refine lv_if_ne (tgt := 20) hx hb dX12_opens_6 (by decide) (fun c3 => ?_) (fun c3 => ?_)
  · have hf := (if_neg c3).symm.trans hf
    refine lv_iload_n hx hb dX12_opens_20 rfl (lv_at hl 0 rfl) ?_
    exact m_iretf hx hb hr hlk hI hf dX12_opens_21
  · have hf := (if_pos c3).symm.trans hf
    refine lv_aload_n hx hb dX12_opens_9 rfl (lv_at hl 1 rfl) ?_
    refine m_get (g := 12) (i := 47) (ci := 10) (k := 15) (v := .int (M2 12 47 15)) hx hb hI hown (mokX (by decide) (by decide)) rfl rfl (by decide) lyX12 (q1441 hI.T) rfl dX12_opens_10 ?_
    refine lv_if_ne (tgt := 20) hx hb dX12_opens_13 (by decide) (fun c4 => ?_) (fun c4 => ?_)
    · have hf := (if_neg c4).symm.trans hf
      refine lv_iload_n hx hb dX12_opens_20 rfl (lv_at hl 0 rfl) ?_
      exact m_iretf hx hb hr hlk hI hf dX12_opens_21
    · have hf := (if_pos c4).symm.trans hf
      refine lv_iconst (v := 1) hx hb dX12_opens_16 (by decide) ?_
      refine lv_goto (tgt := 21) hx hb dX12_opens_17 (by decide) ?_
      exact m_iretf hx hb hr hlk hI hf dX12_opens_21
abbrev rmX12_does : Room := { frames := 5, cells := 0, slots := 0, locals := 112 }
theorem kb_X12_does {R : Room} {s : State} {args : Array Value} {own : String} {idx : Nat} (hT : mT s) (hlink : (Cond.methodLink own idx yX12_does).before args s = true) (h1 : rmX12_does.frames + 1 ≤ R.frames) (h2 : 8 + (4 + 11) + rmX12_does.locals ≤ R.locals) : CallB R s args own idx yX12_does cX12_does 4 (some .int) [Cond.code yX12_does cX12_does 4 (some .int)] rmX12_does 0 0 1 := m_callB hT kc_X12_does ki_X12_does hlink (by decide +kernel) ⟨rfl, rfl, h1, h2⟩
theorem mlook_X12_does {x : Int32} (c0 : ¬ x = 98) (c1 : ¬ x = 99) (c2 : ¬ x = 103) (c3 : ¬ x = 104) (c4 : ¬ x = 111) (c5 : ¬ x = 115) (c6 : ¬ x = 116) (c7 : ¬ x = 203) (c8 : ¬ x = 204) (c9 : ¬ x = 215) : Op.lookupswitch.offset [(98, 172), (99, 183), (103, 139), (104, 91), (111, 178), (115, 103), (116, 188), (203, 145), (204, 96), (215, 132)] 194 x.toInt = 194 := by
  have h0 : x.toInt ≠ 98 := mne_i c0
  have h1 : x.toInt ≠ 99 := mne_i c1
  have h2 : x.toInt ≠ 103 := mne_i c2
  have h3 : x.toInt ≠ 104 := mne_i c3
  have h4 : x.toInt ≠ 111 := mne_i c4
  have h5 : x.toInt ≠ 115 := mne_i c5
  have h6 : x.toInt ≠ 116 := mne_i c6
  have h7 : x.toInt ≠ 203 := mne_i c7
  have h8 : x.toInt ≠ 204 := mne_i c8
  have h9 : x.toInt ≠ 215 := mne_i c9
  simp [Op.lookupswitch.offset, Ne.symm h0, Ne.symm h1, Ne.symm h2, Ne.symm h3, Ne.symm h4, Ne.symm h5, Ne.symm h6, Ne.symm h7, Ne.symm h8, Ne.symm h9]
set_option maxHeartbeats 4000000 in
set_option maxRecDepth 100000 in
theorem c_X12_does (l : Launch) (w : WD) (sz : Nat) (a1 : Int32) (M : Mem) (r : Int32) (M9 : Mem) (hf : f_X12_does a1 M = some (r, M9)) : mMet l yX12_does cX12_does 4 (some .int) rmX12_does w sz M [.ref (w.1 12 47), .int a1] (some (.int r)) M9 := by
  refine m_of (by decide) (Nat.le_of_ble_eq_true rfl) ?_
  intro p e s m args below meth c hx hb hr hml hown hlk hI ls hl
  have hl : lv_has ls 4 [(0, .ref (w.1 12 47)), (1, .int a1)] := hl
  unfold f_X12_does at hf
  refine lv_aload_n hx hb dX12_does_0 rfl (lv_at hl 0 rfl) ?_
  refine m_get (g := 12) (i := 47) (ci := 10) (k := 9) (v := .ref (w.1 12 54)) hx hb hI hown (mokX (by decide) (by decide)) rfl rfl (by decide) lyX12 (q1435 hI.T) rfl dX12_does_1 ?_
  refine lv_bipush (v := 6) hx hb dX12_does_4 (by decide) ?_
  refine lv_iload_n hx hb dX12_does_6 rfl (lv_at hl 1 rfl) ?_
  refine lv_imul hx hb dX12_does_7 ?_
  refine lv_iconst (v := 1) hx hb dX12_does_8 (by decide) ?_
  refine lv_iadd hx hb dX12_does_9 ?_
  obtain ⟨hi, hf⟩ := mix_e hf
  refine m_iald (g := 12) (i := 54) hx hb hI (mokX (by decide) (by decide)) rfl hi dX12_does_10 ?_
  refine lv_topi (fun x1 ex1 => ?_)
  have hf := mlet_s ex1 hf
  refine lv_istore_n (lv' := [(2, .int x1), (0, .ref (w.1 12 47)), (1, .int a1)]) hx hb dX12_does_11 rfl hl (by decide) rfl (fun ls hl => ?_)
  refine lv_aload_n hx hb dX12_does_12 rfl (lv_at hl 1 rfl) ?_
  refine m_get (g := 12) (i := 47) (ci := 10) (k := 9) (v := .ref (w.1 12 54)) hx hb hI hown (mokX (by decide) (by decide)) rfl rfl (by decide) lyX12 (q1435 hI.T) rfl dX12_does_13 ?_
  refine lv_bipush (v := 6) hx hb dX12_does_16 (by decide) ?_
  refine lv_iload_n hx hb dX12_does_18 rfl (lv_at hl 2 rfl) ?_
  refine lv_imul hx hb dX12_does_19 ?_
  refine lv_iconst (v := 2) hx hb dX12_does_20 (by decide) ?_
  refine lv_iadd hx hb dX12_does_21 ?_
  obtain ⟨hi, hf⟩ := mix_e hf
  refine m_iald (g := 12) (i := 54) hx hb hI (mokX (by decide) (by decide)) rfl hi dX12_does_22 ?_
  refine lv_topi (fun x2 ex2 => ?_)
  have hf := mlet_s ex2 hf
  refine lv_istore_n (lv' := [(3, .int x2), (2, .int x1), (0, .ref (w.1 12 47)), (1, .int a1)]) hx hb dX12_does_23 rfl hl (by decide) rfl (fun ls hl => ?_)
  refine lv_aload_n hx hb dX12_does_24 rfl (lv_at hl 2 rfl) ?_
  refine m_get (g := 12) (i := 47) (ci := 10) (k := 9) (v := .ref (w.1 12 54)) hx hb hI hown (mokX (by decide) (by decide)) rfl rfl (by decide) lyX12 (q1435 hI.T) rfl dX12_does_25 ?_
  refine lv_bipush (v := 6) hx hb dX12_does_28 (by decide) ?_
  refine lv_iload_n hx hb dX12_does_30 rfl (lv_at hl 3 rfl) ?_
  refine lv_imul hx hb dX12_does_31 ?_
  obtain ⟨hi, hf⟩ := mix_e hf
  refine m_iald (g := 12) (i := 54) hx hb hI (mokX (by decide) (by decide)) rfl hi dX12_does_32 ?_
  refine lv_topi (fun x3 ex3 => ?_)
  have hf := mlet_s ex3 hf
  by_cases c4 : x3 = 98
  · have hf := (if_pos c4).symm.trans hf
    refine lv_lookup (tgt := 205) (off := 172) hx hb dX12_does_33 (by decide) (by rw [c4]; decide) (by decide) ?_
    refine lv_aload_n hx hb dX12_does_205 rfl (lv_at hl 2 rfl) ?_
    refine lv_iload_n hx hb dX12_does_206 rfl (lv_at hl 1 rfl) ?_
    obtain ⟨r5, M6, hc, hf⟩ := mbnd_e hf
    refine m_callV (As := [.int x1]) (rest := []) hx hb hml hown hI (c_X12_takes l w s.heap.size x1 M _ _ hc) (kb_X12_takes hI.T (q1579 hI.T) (Nat.le_of_ble_eq_true rfl) (Nat.le_of_ble_eq_true rfl)) (q1581 hI.T) (sel_X12_takes hI.T) (m_recv (g := 12) (i := 47) hI (mokX (by decide) (by decide)) rfl rfl) rfl hl.1 (Nat.le_of_ble_eq_true rfl) dX12_does_207 ⟨Nat.le_of_ble_eq_true rfl, Nat.le_of_ble_eq_true rfl⟩ (fun H locs hI => ?_)
    exact m_iretf hx hb hr hlk hI hf dX12_does_210
  have hf := (if_neg c4).symm.trans hf
  by_cases c7 : x3 = 99
  · have hf := (if_pos c7).symm.trans hf
    refine lv_lookup (tgt := 216) (off := 183) hx hb dX12_does_33 (by decide) (by rw [c7]; decide) (by decide) ?_
    refine lv_aload_n hx hb dX12_does_216 rfl (lv_at hl 2 rfl) ?_
    obtain ⟨r8, M10, hc, hf⟩ := mbnd_e hf
    refine m_callV (As := []) (rest := []) hx hb hml hown hI (c_X12_closes l w s.heap.size M _ _ hc) (kb_X12_closes hI.T (q1622 hI.T) (Nat.le_of_ble_eq_true rfl) (Nat.le_of_ble_eq_true rfl)) (q1624 hI.T) (sel_X12_closes hI.T) (m_recv (g := 12) (i := 47) hI (mokX (by decide) (by decide)) rfl rfl) rfl hl.1 (Nat.le_of_ble_eq_true rfl) dX12_does_217 ⟨Nat.le_of_ble_eq_true rfl, Nat.le_of_ble_eq_true rfl⟩ (fun H locs hI => ?_)
    exact m_iretf hx hb hr hlk hI hf dX12_does_220
  have hf := (if_neg c7).symm.trans hf
  by_cases c11 : x3 = 103
  · have hf := (if_pos c11).symm.trans hf
    refine lv_lookup (tgt := 172) (off := 139) hx hb dX12_does_33 (by decide) (by rw [c11]; decide) (by decide) ?_
    refine lv_aload_n hx hb dX12_does_172 rfl (lv_at hl 2 rfl) ?_
    refine lv_iload_n hx hb dX12_does_173 rfl (lv_at hl 1 rfl) ?_
    obtain ⟨r12, M13, hc, hf⟩ := mbnd_e hf
    refine m_callV (As := [.int x1]) (rest := []) hx hb hml hown hI (c_X12_presents l w s.heap.size x1 M _ _ hc) (kb_X12_presents hI.T (q1567 hI.T) (Nat.le_of_ble_eq_true rfl) (Nat.le_of_ble_eq_true rfl)) (q1569 hI.T) (sel_X12_presents hI.T) (m_recv (g := 12) (i := 47) hI (mokX (by decide) (by decide)) rfl rfl) rfl hl.1 (Nat.le_of_ble_eq_true rfl) dX12_does_174 ⟨Nat.le_of_ble_eq_true rfl, Nat.le_of_ble_eq_true rfl⟩ (fun H locs hI => ?_)
    exact m_iretf hx hb hr hlk hI hf dX12_does_177
  have hf := (if_neg c11).symm.trans hf
  by_cases c14 : x3 = 104
  · have hf := (if_pos c14).symm.trans hf
    refine lv_lookup (tgt := 124) (off := 91) hx hb dX12_does_33 (by decide) (by rw [c14]; decide) (by decide) ?_
    refine lv_aload_n hx hb dX12_does_124 rfl (lv_at hl 2 rfl) ?_
    obtain ⟨r15, M16, hc, hf⟩ := mbnd_e hf
    refine m_callV (As := []) (rest := []) hx hb hml hown hI (c_X12_adds l w s.heap.size M _ _ hc) (kb_X12_adds hI.T (q1508 hI.T) (Nat.le_of_ble_eq_true rfl) (Nat.le_of_ble_eq_true rfl)) (q1510 hI.T) (sel_X12_adds hI.T) (m_recv (g := 12) (i := 47) hI (mokX (by decide) (by decide)) rfl rfl) rfl hl.1 (Nat.le_of_ble_eq_true rfl) dX12_does_125 ⟨Nat.le_of_ble_eq_true rfl, Nat.le_of_ble_eq_true rfl⟩ (fun H locs hI => ?_)
    exact m_iretf hx hb hr hlk hI hf dX12_does_128
  have hf := (if_neg c14).symm.trans hf
  by_cases c17 : x3 = 111
  · have hf := (if_pos c17).symm.trans hf
    refine lv_lookup (tgt := 211) (off := 178) hx hb dX12_does_33 (by decide) (by rw [c17]; decide) (by decide) ?_
    refine lv_aload_n hx hb dX12_does_211 rfl (lv_at hl 2 rfl) ?_
    obtain ⟨r18, M19, hc, hf⟩ := mbnd_e hf
    refine m_callV (As := []) (rest := []) hx hb hml hown hI (c_X12_opens l w s.heap.size M _ _ hc) (kb_X12_opens hI.T (q1924 hI.T) (Nat.le_of_ble_eq_true rfl) (Nat.le_of_ble_eq_true rfl)) (q1926 hI.T) (sel_X12_opens hI.T) (m_recv (g := 12) (i := 47) hI (mokX (by decide) (by decide)) rfl rfl) rfl hl.1 (Nat.le_of_ble_eq_true rfl) dX12_does_212 ⟨Nat.le_of_ble_eq_true rfl, Nat.le_of_ble_eq_true rfl⟩ (fun H locs hI => ?_)
    exact m_iretf hx hb hr hlk hI hf dX12_does_215
  have hf := (if_neg c17).symm.trans hf
  by_cases c20 : x3 = 115
  · have hf := (if_pos c20).symm.trans hf
    refine lv_lookup (tgt := 136) (off := 103) hx hb dX12_does_33 (by decide) (by rw [c20]; decide) (by decide) ?_
    refine lv_aload_n hx hb dX12_does_136 rfl (lv_at hl 2 rfl) ?_
    refine lv_iload_n hx hb dX12_does_137 rfl (lv_at hl 1 rfl) ?_
    refine lv_iload_n hx hb dX12_does_138 rfl (lv_at hl 0 rfl) ?_
    refine lv_aload_n hx hb dX12_does_139 rfl (lv_at hl 2 rfl) ?_
    refine m_get (g := 12) (i := 47) (ci := 10) (k := 9) (v := .ref (w.1 12 54)) hx hb hI hown (mokX (by decide) (by decide)) rfl rfl (by decide) lyX12 (q1435 hI.T) rfl dX12_does_140 ?_
    refine lv_bipush (v := 6) hx hb dX12_does_143 (by decide) ?_
    refine lv_iload_n hx hb dX12_does_145 rfl (lv_at hl 3 rfl) ?_
    refine lv_imul hx hb dX12_does_146 ?_
    refine lv_iconst (v := 3) hx hb dX12_does_147 (by decide) ?_
    refine lv_iadd hx hb dX12_does_148 ?_
    obtain ⟨hi, hf⟩ := mix_e hf
    refine m_iald (g := 12) (i := 54) hx hb hI (mokX (by decide) (by decide)) rfl hi dX12_does_149 ?_
    refine lv_aload_n hx hb dX12_does_150 rfl (lv_at hl 2 rfl) ?_
    refine m_get (g := 12) (i := 47) (ci := 10) (k := 9) (v := .ref (w.1 12 54)) hx hb hI hown (mokX (by decide) (by decide)) rfl rfl (by decide) lyX12 (q1435 hI.T) rfl dX12_does_151 ?_
    refine lv_bipush (v := 6) hx hb dX12_does_154 (by decide) ?_
    refine lv_iload_n hx hb dX12_does_156 rfl (lv_at hl 3 rfl) ?_
    refine lv_imul hx hb dX12_does_157 ?_
    refine lv_iconst (v := 4) hx hb dX12_does_158 (by decide) ?_
    refine lv_iadd hx hb dX12_does_159 ?_
    obtain ⟨hi, hf⟩ := mix_e hf
    refine m_iald (g := 12) (i := 54) hx hb hI (mokX (by decide) (by decide)) rfl hi dX12_does_160 ?_
    obtain ⟨r21, M22, hc, hf⟩ := mbnd_e hf
    refine m_callV (As := [.int x1, .int x2, .int (M 12 54 (((6 : Int32) * a1) + (3 : Int32)).toNatClampNeg), .int (M 12 54 (((6 : Int32) * a1) + (4 : Int32)).toNatClampNeg)]) (rest := []) hx hb hml hown hI (c_X12_seals l w s.heap.size x1 x2 (M 12 54 (((6 : Int32) * a1) + (3 : Int32)).toNatClampNeg) (M 12 54 (((6 : Int32) * a1) + (4 : Int32)).toNatClampNeg) M _ _ hc) (kb_X12_seals hI.T (q1540 hI.T) (Nat.le_of_ble_eq_true rfl) (Nat.le_of_ble_eq_true rfl)) (q1542 hI.T) (sel_X12_seals hI.T) (m_recv (g := 12) (i := 47) hI (mokX (by decide) (by decide)) rfl rfl) rfl hl.1 (Nat.le_of_ble_eq_true rfl) dX12_does_161 ⟨Nat.le_of_ble_eq_true rfl, Nat.le_of_ble_eq_true rfl⟩ (fun H locs hI => ?_)
    exact m_iretf hx hb hr hlk hI hf dX12_does_164
  have hf := (if_neg c20).symm.trans hf
  by_cases c23 : x3 = 116
  · have hf := (if_pos c23).symm.trans hf
    refine lv_lookup (tgt := 221) (off := 188) hx hb dX12_does_33 (by decide) (by rw [c23]; decide) (by decide) ?_
    refine lv_aload_n hx hb dX12_does_221 rfl (lv_at hl 2 rfl) ?_
    refine lv_iload_n hx hb dX12_does_222 rfl (lv_at hl 1 rfl) ?_
    obtain ⟨r24, M25, hc, hf⟩ := mbnd_e hf
    refine m_callV (As := [.int x1]) (rest := []) hx hb hml hown hI (c_X12_turns l w s.heap.size x1 M _ _ hc) (kb_X12_turns hI.T (q1641 hI.T) (Nat.le_of_ble_eq_true rfl) (Nat.le_of_ble_eq_true rfl)) (q1643 hI.T) (sel_X12_turns hI.T) (m_recv (g := 12) (i := 47) hI (mokX (by decide) (by decide)) rfl rfl) rfl hl.1 (Nat.le_of_ble_eq_true rfl) dX12_does_223 ⟨Nat.le_of_ble_eq_true rfl, Nat.le_of_ble_eq_true rfl⟩ (fun H locs hI => ?_)
    exact m_iretf hx hb hr hlk hI hf dX12_does_226
  have hf := (if_neg c23).symm.trans hf
  by_cases c26 : x3 = 203
  · have hf := (if_pos c26).symm.trans hf
    refine lv_lookup (tgt := 178) (off := 145) hx hb dX12_does_33 (by decide) (by rw [c26]; decide) (by decide) ?_
    refine lv_aload_n hx hb dX12_does_178 rfl (lv_at hl 2 rfl) ?_
    refine lv_iload_n hx hb dX12_does_179 rfl (lv_at hl 1 rfl) ?_
    refine lv_iload_n hx hb dX12_does_180 rfl (lv_at hl 0 rfl) ?_
    refine lv_iconst (v := 1) hx hb dX12_does_181 (by decide) ?_
    obtain ⟨k190_29, ek190_29, hf⟩ := mlet_e hf
    have hj190_29 : ∀ (x28 : Int32) (H : Heap) (locs : List Loc) (ls : Array Slot), k190_29 x28 = some (r, M9) → mI w s (mA w s.heap.size) H locs M → lv_has ls 4 [(0, .ref (w.1 12 47)), (1, .int a1)] → W p l e rmX12_does s m args below meth c H locs 0 0 (MQ below (mQ w s.heap.size (some (.int r)) M9) args s 0 0 (mA w s.heap.size)) (F0 m 190 ls [.int x28, .int x1, .ref (w.1 12 47)]) := by
      intro x28 H locs ls hf hI hl
      rw [ek190_29] at hf
      try dsimp only at hf
      refine lv_aload_n hx hb dX12_does_190 rfl (lv_at hl 0 rfl) ?_
      refine m_get (g := 12) (i := 47) (ci := 10) (k := 9) (v := .ref (w.1 12 54)) hx hb hI hown (mokX (by decide) (by decide)) rfl rfl (by decide) lyX12 (q1435 hI.T) rfl dX12_does_191 ?_
      refine lv_bipush (v := 6) hx hb dX12_does_194 (by decide) ?_
      refine lv_iload_n hx hb dX12_does_196 rfl (lv_at hl 1 rfl) ?_
      refine lv_imul hx hb dX12_does_197 ?_
      refine lv_iconst (v := 3) hx hb dX12_does_198 (by decide) ?_
      refine lv_iadd hx hb dX12_does_199 ?_
      obtain ⟨hi, hf⟩ := mix_e hf
      refine m_iald (g := 12) (i := 54) hx hb hI (mokX (by decide) (by decide)) rfl hi dX12_does_200 ?_
      obtain ⟨r30, M31, hc, hf⟩ := mbnd_e hf
      refine m_callV (As := [.int x1, .int x28, .int (M 12 54 (((6 : Int32) * a1) + (3 : Int32)).toNatClampNeg)]) (rest := []) hx hb hml hown hI (c_X12_guards l w H.size x1 x28 (M 12 54 (((6 : Int32) * a1) + (3 : Int32)).toNatClampNeg) M _ _ hc) (kb_X12_guards hI.T (q1630 hI.T) (Nat.le_of_ble_eq_true rfl) (Nat.le_of_ble_eq_true rfl)) (q1632 hI.T) (sel_X12_guards hI.T) (m_recv (g := 12) (i := 47) hI (mokX (by decide) (by decide)) rfl rfl) rfl hl.1 (Nat.le_of_ble_eq_true rfl) dX12_does_201 ⟨Nat.le_of_ble_eq_true rfl, Nat.le_of_ble_eq_true rfl⟩ (fun H locs hI => ?_)
      exact m_iretf hx hb hr hlk hI hf dX12_does_204
    refine lv_icmp_ne (tgt := 189) hx hb dX12_does_182 (by decide) (fun c27 => ?_) (fun c27 => ?_)
    · have hf := (if_neg c27).symm.trans hf
      refine lv_iconst (v := 0) hx hb dX12_does_189 (by decide) ?_
      exact hj190_29 (0 : Int32) s.heap _ _ hf hI (lv_sub hl [2, 3] rfl)
    · have hf := (if_pos c27).symm.trans hf
      refine lv_iconst (v := 1) hx hb dX12_does_185 (by decide) ?_
      refine lv_goto (tgt := 190) hx hb dX12_does_186 (by decide) ?_
      exact hj190_29 (1 : Int32) s.heap _ _ hf hI (lv_sub hl [2, 3] rfl)
  have hf := (if_neg c26).symm.trans hf
  by_cases c32 : x3 = 204
  · have hf := (if_pos c32).symm.trans hf
    refine lv_lookup (tgt := 129) (off := 96) hx hb dX12_does_33 (by decide) (by rw [c32]; decide) (by decide) ?_
    refine lv_aload_n hx hb dX12_does_129 rfl (lv_at hl 2 rfl) ?_
    refine lv_iload_n hx hb dX12_does_130 rfl (lv_at hl 1 rfl) ?_
    refine lv_iload_n hx hb dX12_does_131 rfl (lv_at hl 0 rfl) ?_
    obtain ⟨r33, M34, hc, hf⟩ := mbnd_e hf
    refine m_callV (As := [.int x1, .int x2]) (rest := []) hx hb hml hown hI (c_X12_hums l w s.heap.size x1 x2 M _ _ hc) (kb_X12_hums hI.T (q1653 hI.T) (Nat.le_of_ble_eq_true rfl) (Nat.le_of_ble_eq_true rfl)) (q1655 hI.T) (sel_X12_hums hI.T) (m_recv (g := 12) (i := 47) hI (mokX (by decide) (by decide)) rfl rfl) rfl hl.1 (Nat.le_of_ble_eq_true rfl) dX12_does_132 ⟨Nat.le_of_ble_eq_true rfl, Nat.le_of_ble_eq_true rfl⟩ (fun H locs hI => ?_)
    exact m_iretf hx hb hr hlk hI hf dX12_does_135
  have hf := (if_neg c32).symm.trans hf
  by_cases c35 : x3 = 215
  · have hf := (if_pos c35).symm.trans hf
    refine lv_lookup (tgt := 165) (off := 132) hx hb dX12_does_33 (by decide) (by rw [c35]; decide) (by decide) ?_
    refine lv_aload_n hx hb dX12_does_165 rfl (lv_at hl 2 rfl) ?_
    refine lv_iload_n hx hb dX12_does_166 rfl (lv_at hl 1 rfl) ?_
    refine lv_iload_n hx hb dX12_does_167 rfl (lv_at hl 0 rfl) ?_
    obtain ⟨r36, M37, hc, hf⟩ := mbnd_e hf
    refine m_callV (As := [.int x1, .int x2]) (rest := []) hx hb hml hown hI (c_X12_shares l w s.heap.size x1 x2 M _ _ hc) (kb_X12_shares hI.T (q1555 hI.T) (Nat.le_of_ble_eq_true rfl) (Nat.le_of_ble_eq_true rfl)) (q1557 hI.T) (sel_X12_shares hI.T) (m_recv (g := 12) (i := 47) hI (mokX (by decide) (by decide)) rfl rfl) rfl hl.1 (Nat.le_of_ble_eq_true rfl) dX12_does_168 ⟨Nat.le_of_ble_eq_true rfl, Nat.le_of_ble_eq_true rfl⟩ (fun H locs hI => ?_)
    exact m_iretf hx hb hr hlk hI hf dX12_does_171
  have hf := (if_neg c35).symm.trans hf
  refine lv_lookup (tgt := 227) (off := 194) hx hb dX12_does_33 (by decide) (mlook_X12_does c4 c7 c11 c14 c17 c20 c23 c26 c32 c35) (by decide) ?_
  refine lv_aload_n hx hb dX12_does_227 rfl (lv_at hl 2 rfl) ?_
  refine lv_iload_n hx hb dX12_does_228 rfl (lv_at hl 1 rfl) ?_
  obtain ⟨r38, M39, hc, hf⟩ := mbnd_e hf
  refine m_callV (As := [.int x1]) (rest := []) hx hb hml hown hI (c_X12_passes l w s.heap.size x1 M _ _ hc) (kb_X12_passes hI.T (q1661 hI.T) (Nat.le_of_ble_eq_true rfl) (Nat.le_of_ble_eq_true rfl)) (q1663 hI.T) (sel_X12_passes hI.T) (m_recv (g := 12) (i := 47) hI (mokX (by decide) (by decide)) rfl rfl) rfl hl.1 (Nat.le_of_ble_eq_true rfl) dX12_does_229 ⟨Nat.le_of_ble_eq_true rfl, Nat.le_of_ble_eq_true rfl⟩ (fun H locs hI => ?_)
  exact m_iretf hx hb hr hlk hI hf dX12_does_232
abbrev rmX12_runCommands : Room := { frames := 9, cells := 0, slots := 0, locals := 290 }
theorem kb_X12_runCommands {R : Room} {s : State} {args : Array Value} {own : String} {idx : Nat} (hT : mT s) (hlink : (Cond.methodLink own idx yX12_runCommands).before args s = true) (h1 : rmX12_runCommands.frames + 1 ≤ R.frames) (h2 : 8 + (4 + 11) + rmX12_runCommands.locals ≤ R.locals) : CallB R s args own idx yX12_runCommands cX12_runCommands 4 (some .int) [Cond.code yX12_runCommands cX12_runCommands 4 (some .int)] rmX12_runCommands 0 0 0 := m_callB hT kc_X12_runCommands ki_X12_runCommands hlink (by decide +kernel) ⟨rfl, rfl, h1, h2⟩
set_option maxHeartbeats 4000000 in
set_option maxRecDepth 100000 in
theorem c_X12_runCommands (l : Launch) (w : WD) (sz : Nat)  (M : Mem) (r : Int32) (M9 : Mem) (hf : f_X12_runCommands  M = some (r, M9)) : mMet l yX12_runCommands cX12_runCommands 4 (some .int) rmX12_runCommands w sz M [.ref (w.1 12 47)] (some (.int r)) M9 := by
  refine m_of (by decide) (Nat.le_of_ble_eq_true rfl) ?_
  intro p e s m args below meth c hx hb hr hml hown hlk hI ls hl
  have hl : lv_has ls 4 [(0, .ref (w.1 12 47))] := hl
  unfold f_X12_runCommands at hf
  refine lv_aload_n hx hb dX12_runCommands_0 rfl (lv_at hl 0 rfl) ?_
  obtain ⟨r1, M2, hc, hf⟩ := mbnd_e hf
  refine m_callV (As := []) (rest := []) hx hb hml hown hI (c_X12_remembers l w s.heap.size M _ _ hc) (kb_X12_remembers hI.T (q1504 hI.T) (Nat.le_of_ble_eq_true rfl) (Nat.le_of_ble_eq_true rfl)) (q1506 hI.T) (sel_X12_remembers hI.T) (m_recv (g := 12) (i := 47) hI (mokX (by decide) (by decide)) rfl rfl) rfl hl.1 (Nat.le_of_ble_eq_true rfl) dX12_runCommands_1 ⟨Nat.le_of_ble_eq_true rfl, Nat.le_of_ble_eq_true rfl⟩ (fun H locs hI => ?_)
  refine lv_aload_n hx hb dX12_runCommands_4 rfl (lv_at hl 0 rfl) ?_
  refine lv_iconst (v := 0) hx hb dX12_runCommands_5 (by decide) ?_
  obtain ⟨M3, eM3, hf⟩ := mlet_e hf
  refine m_put (g := 12) (i := 47) (ci := 10) (k := 19) (ty := .int) (M1 := M3) hx hb hI hown (mokX (by decide) (by decide)) rfl rfl (by decide) lyX12 tyX12 tyX12_ok nmX12 (q1445 hI.T) rfl rfl rfl rfl (Nat.le_of_ble_eq_true rfl) rfl eM3 dX12_runCommands_6 (fun H locs hI => ?_)
  refine lv_aload_n hx hb dX12_runCommands_9 rfl (lv_at hl 0 rfl) ?_
  refine lv_aload_n hx hb dX12_runCommands_10 rfl (lv_at hl 0 rfl) ?_
  refine m_get (g := 12) (i := 47) (ci := 10) (k := 12) (v := .int (M3 12 47 12)) hx hb hI hown (mokX (by decide) (by decide)) rfl rfl (by decide) lyX12 (q1438 hI.T) rfl dX12_runCommands_11 ?_
  obtain ⟨M4, eM4, hf⟩ := mlet_e hf
  refine m_put (g := 12) (i := 47) (ci := 10) (k := 20) (ty := .int) (M1 := M4) hx hb hI hown (mokX (by decide) (by decide)) rfl rfl (by decide) lyX12 tyX12 tyX12_ok nmX12 (q1446 hI.T) rfl rfl rfl rfl (Nat.le_of_ble_eq_true rfl) rfl eM4 dX12_runCommands_14 (fun H locs hI => ?_)
  refine lv_aload_n hx hb dX12_runCommands_17 rfl (lv_at hl 0 rfl) ?_
  refine lv_iconst (v := 0) hx hb dX12_runCommands_18 (by decide) ?_
  obtain ⟨M5, eM5, hf⟩ := mlet_e hf
  refine m_put (g := 12) (i := 47) (ci := 10) (k := 12) (ty := .int) (M1 := M5) hx hb hI hown (mokX (by decide) (by decide)) rfl rfl (by decide) lyX12 tyX12 tyX12_ok nmX12 (q1438 hI.T) rfl rfl rfl rfl (Nat.le_of_ble_eq_true rfl) rfl eM5 dX12_runCommands_19 (fun H locs hI => ?_)
  refine lv_aload_n hx hb dX12_runCommands_22 rfl (lv_at hl 0 rfl) ?_
  refine lv_iconst (v := 0) hx hb dX12_runCommands_23 (by decide) ?_
  obtain ⟨M6, eM6, hf⟩ := mlet_e hf
  refine m_put (g := 12) (i := 47) (ci := 10) (k := 21) (ty := .int) (M1 := M6) hx hb hI hown (mokX (by decide) (by decide)) rfl rfl (by decide) lyX12 tyX12 tyX12_ok nmX12 (q1447 hI.T) rfl rfl rfl rfl (Nat.le_of_ble_eq_true rfl) rfl eM6 dX12_runCommands_24 (fun H locs hI => ?_)
  refine lv_aload_n hx hb dX12_runCommands_27 rfl (lv_at hl 0 rfl) ?_
  refine lv_iconst (v := 0) hx hb dX12_runCommands_28 (by decide) ?_
  obtain ⟨M7, eM7, hf⟩ := mlet_e hf
  refine m_put (g := 12) (i := 47) (ci := 10) (k := 22) (ty := .boolean) (M1 := M7) hx hb hI hown (mokX (by decide) (by decide)) rfl rfl (by decide) lyX12 tyX12 tyX12_ok nmX12 (q1448 hI.T) rfl rfl rfl rfl (Nat.le_of_ble_eq_true rfl) rfl eM7 dX12_runCommands_29 (fun H locs hI => ?_)
  refine lv_aload_n hx hb dX12_runCommands_32 rfl (lv_at hl 0 rfl) ?_
  obtain ⟨r8, M10, hc, hf⟩ := mbnd_e hf
  refine m_callV (As := []) (rest := []) hx hb hml hown hI (c_X12_readsOne l w H.size M7 _ _ hc) (kb_X12_readsOne hI.T (q1877 hI.T) (Nat.le_of_ble_eq_true rfl) (Nat.le_of_ble_eq_true rfl)) (q1879 hI.T) (sel_X12_readsOne hI.T) (m_recv (g := 12) (i := 47) hI (mokX (by decide) (by decide)) rfl rfl) rfl hl.1 (Nat.le_of_ble_eq_true rfl) dX12_runCommands_33 ⟨Nat.le_of_ble_eq_true rfl, Nat.le_of_ble_eq_true rfl⟩ (fun H locs hI => ?_)
  have hL36 : ∀ (n : Nat)  (M11 : Mem) (kk : Mem → Option (Int32 × Mem)) (H : Heap) (locs : List Loc) (ls : Array Slot), f_X12_runCommands_L36 n M11 kk = some (r, M9) → mI w s (mA w s.heap.size) H locs M11 → lv_has ls 4 [(0, .ref (w.1 12 47))] → (∀  (M11 : Mem) (H : Heap) (locs : List Loc) (ls : Array Slot), kk M11 = some (r, M9) → mI w s (mA w s.heap.size) H locs M11 → lv_has ls 4 [(0, .ref (w.1 12 47))] → W p l e rmX12_runCommands s m args below meth c H locs 0 0 (MQ below (mQ w s.heap.size (some (.int r)) M9) args s 0 0 (mA w s.heap.size)) (F0 m 70 ls [])) → W p l e rmX12_runCommands s m args below meth c H locs 0 0 (MQ below (mQ w s.heap.size (some (.int r)) M9) args s 0 0 (mA w s.heap.size)) (F0 m 36 ls []) := by
    intro n
    induction n with
    | zero => intro M11 kk H locs ls hf hI hl hk; rw [f_X12_runCommands_L36.eq_1] at hf; cases hf
    | succ n ih36 =>
      intro M11 kk H locs ls hf hI hl hk
      rw [f_X12_runCommands_L36.eq_2] at hf
      refine lv_aload_n hx hb dX12_runCommands_36 rfl (lv_at hl 0 rfl) ?_
      refine m_get (g := 12) (i := 47) (ci := 10) (k := 22) (v := .int (M11 12 47 22)) hx hb hI hown (mokX (by decide) (by decide)) rfl rfl (by decide) lyX12 (q1448 hI.T) rfl dX12_runCommands_37 ?_
      refine lv_if_ne (tgt := 70) hx hb dX12_runCommands_40 (by decide) (fun c12 => ?_) (fun c12 => ?_)
      · have hf := (if_neg c12).symm.trans hf
        exact hk M11 H _ _ hf hI (lv_sub hl [0] rfl)
      · have hf := (if_pos c12).symm.trans hf
        refine lv_aload_n hx hb dX12_runCommands_43 rfl (lv_at hl 0 rfl) ?_
        refine lv_iconst (v := 0) hx hb dX12_runCommands_44 (by decide) ?_
        obtain ⟨r13, hc, hf⟩ := mbp_e hf
        refine m_callV (As := [.int (0 : Int32)]) (rest := []) hx hb hml hown hI (c_X12_here l w H.size (0 : Int32) M11 _ hc) (kb_X12_here hI.T (q1881 hI.T) (Nat.le_of_ble_eq_true rfl) (Nat.le_of_ble_eq_true rfl)) (q1883 hI.T) (sel_X12_here hI.T) (m_recv (g := 12) (i := 47) hI (mokX (by decide) (by decide)) rfl rfl) rfl hl.1 (Nat.le_of_ble_eq_true rfl) dX12_runCommands_45 ⟨Nat.le_of_ble_eq_true rfl, Nat.le_of_ble_eq_true rfl⟩ (fun H locs hI => ?_)
        refine lv_bipush (v := 59) hx hb dX12_runCommands_48 (by decide) ?_
        refine lv_icmp_ne (tgt := 70) hx hb dX12_runCommands_50 (by decide) (fun c14 => ?_) (fun c14 => ?_)
        · have hf := (if_neg c14).symm.trans hf
          exact hk M11 H _ _ hf hI (lv_sub hl [0] rfl)
        · have hf := (if_pos c14).symm.trans hf
          refine lv_aload_n hx hb dX12_runCommands_53 rfl (lv_at hl 0 rfl) ?_
          refine lv_dup hx hb dX12_runCommands_54 rfl ?_
          refine m_get (g := 12) (i := 47) (ci := 10) (k := 19) (v := .int (M11 12 47 19)) hx hb hI hown (mokX (by decide) (by decide)) rfl rfl (by decide) lyX12 (q1445 hI.T) rfl dX12_runCommands_55 ?_
          refine lv_iconst (v := 1) hx hb dX12_runCommands_58 (by decide) ?_
          refine lv_iadd hx hb dX12_runCommands_59 ?_
          obtain ⟨M15, eM15, hf⟩ := mlet_e hf
          refine m_put (g := 12) (i := 47) (ci := 10) (k := 19) (ty := .int) (M1 := M15) hx hb hI hown (mokX (by decide) (by decide)) rfl rfl (by decide) lyX12 tyX12 tyX12_ok nmX12 (q1445 hI.T) rfl rfl rfl rfl (Nat.le_of_ble_eq_true rfl) rfl eM15 dX12_runCommands_60 (fun H locs hI => ?_)
          refine lv_aload_n hx hb dX12_runCommands_63 rfl (lv_at hl 0 rfl) ?_
          obtain ⟨r16, M17, hc, hf⟩ := mbnd_e hf
          refine m_callV (As := []) (rest := []) hx hb hml hown hI (c_X12_readsOne l w H.size M15 _ _ hc) (kb_X12_readsOne hI.T (q1877 hI.T) (Nat.le_of_ble_eq_true rfl) (Nat.le_of_ble_eq_true rfl)) (q1879 hI.T) (sel_X12_readsOne hI.T) (m_recv (g := 12) (i := 47) hI (mokX (by decide) (by decide)) rfl rfl) rfl hl.1 (Nat.le_of_ble_eq_true rfl) dX12_runCommands_64 ⟨Nat.le_of_ble_eq_true rfl, Nat.le_of_ble_eq_true rfl⟩ (fun H locs hI => ?_)
          refine lv_goto (tgt := 36) hx hb dX12_runCommands_67 (by decide) ?_
          exact ih36 M17 kk H _ _ hf hI (lv_sub hl [0] rfl) hk
  refine hL36 1000 M10 _ _ _ _ hf hI (lv_sub hl [0] rfl) ?_
  intro M18 H locs ls hf hI hl
  try dsimp only at hf
  refine lv_aload_n hx hb dX12_runCommands_70 rfl (lv_at hl 0 rfl) ?_
  refine m_get (g := 12) (i := 47) (ci := 10) (k := 22) (v := .int (M18 12 47 22)) hx hb hI hown (mokX (by decide) (by decide)) rfl rfl (by decide) lyX12 (q1448 hI.T) rfl dX12_runCommands_71 ?_
  obtain ⟨k88_45, ek88_45, hf⟩ := mlet_e hf
  have hj88_45 : ∀ (_u : Unit) (H : Heap) (locs : List Loc) (ls : Array Slot), k88_45 _u = some (r, M9) → mI w s (mA w s.heap.size) H locs M18 → lv_has ls 4 [(0, .ref (w.1 12 47))] → W p l e rmX12_runCommands s m args below meth c H locs 0 0 (MQ below (mQ w s.heap.size (some (.int r)) M9) args s 0 0 (mA w s.heap.size)) (F0 m 88 ls []) := by
    intro _u H locs ls hf hI hl
    rw [ek88_45] at hf
    try dsimp only at hf
    refine lv_aload_n hx hb dX12_runCommands_88 rfl (lv_at hl 0 rfl) ?_
    refine lv_aload_n hx hb dX12_runCommands_89 rfl (lv_at hl 0 rfl) ?_
    refine m_get (g := 12) (i := 47) (ci := 10) (k := 19) (v := .int (M18 12 47 19)) hx hb hI hown (mokX (by decide) (by decide)) rfl rfl (by decide) lyX12 (q1445 hI.T) rfl dX12_runCommands_90 ?_
    obtain ⟨M46, eM46, hf⟩ := mlet_e hf
    refine m_put (g := 12) (i := 47) (ci := 10) (k := 14) (ty := .int) (M1 := M46) hx hb hI hown (mokX (by decide) (by decide)) rfl rfl (by decide) lyX12 tyX12 tyX12_ok nmX12 (q1440 hI.T) rfl rfl rfl rfl (Nat.le_of_ble_eq_true rfl) rfl eM46 dX12_runCommands_93 (fun H locs hI => ?_)
    refine lv_aload_n hx hb dX12_runCommands_96 rfl (lv_at hl 0 rfl) ?_
    refine lv_iconst (v := 1) hx hb dX12_runCommands_97 (by decide) ?_
    obtain ⟨r47, M48, hc, hf⟩ := mbnd_e hf
    refine m_callV (As := [.int (1 : Int32)]) (rest := []) hx hb hml hown hI (c_X12_fails l w H.size (1 : Int32) M46 _ _ hc) (kb_X12_fails hI.T (q1532 hI.T) (Nat.le_of_ble_eq_true rfl) (Nat.le_of_ble_eq_true rfl)) (q1534 hI.T) (sel_X12_fails hI.T) (m_recv (g := 12) (i := 47) hI (mokX (by decide) (by decide)) rfl rfl) rfl hl.1 (Nat.le_of_ble_eq_true rfl) dX12_runCommands_98 ⟨Nat.le_of_ble_eq_true rfl, Nat.le_of_ble_eq_true rfl⟩ (fun H locs hI => ?_)
    exact m_iretf hx hb hr hlk hI hf dX12_runCommands_101
  refine lv_if_ne (tgt := 88) hx hb dX12_runCommands_74 (by decide) (fun c19 => ?_) (fun c19 => ?_)
  · have hf := (if_neg c19).symm.trans hf
    exact hj88_45 () H _ _ hf hI (lv_sub hl [0] rfl)
  · have hf := (if_pos c19).symm.trans hf
    refine lv_aload_n hx hb dX12_runCommands_77 rfl (lv_at hl 0 rfl) ?_
    refine m_get (g := 12) (i := 47) (ci := 10) (k := 19) (v := .int (M18 12 47 19)) hx hb hI hown (mokX (by decide) (by decide)) rfl rfl (by decide) lyX12 (q1445 hI.T) rfl dX12_runCommands_78 ?_
    refine lv_aload_n hx hb dX12_runCommands_81 rfl (lv_at hl 0 rfl) ?_
    refine m_get (g := 12) (i := 47) (ci := 10) (k := 20) (v := .int (M18 12 47 20)) hx hb hI hown (mokX (by decide) (by decide)) rfl rfl (by decide) lyX12 (q1446 hI.T) rfl dX12_runCommands_82 ?_
    refine lv_icmp_ge (tgt := 102) hx hb dX12_runCommands_85 (by decide) (fun c20 => ?_) (fun c20 => ?_)
    · have hf := (if_pos c20).symm.trans hf
      refine lv_iconst (v := 0) hx hb dX12_runCommands_102 (by decide) ?_
      refine lv_istore_n (lv' := [(1, .int (0 : Int32)), (0, .ref (w.1 12 47))]) hx hb dX12_runCommands_103 rfl hl (by decide) rfl (fun ls hl => ?_)
      have hL104 : ∀ (n : Nat) (x21 : Int32) (M22 : Mem) (kk : Mem → Option (Int32 × Mem)) (H : Heap) (locs : List Loc) (ls : Array Slot), f_X12_runCommands_L104 n x21 M22 kk = some (r, M9) → mI w s (mA w s.heap.size) H locs M22 → lv_has ls 4 [(0, .ref (w.1 12 47)), (1, .int x21)] → (∀  (M22 : Mem) (H : Heap) (locs : List Loc) (ls : Array Slot), kk M22 = some (r, M9) → mI w s (mA w s.heap.size) H locs M22 → lv_has ls 4 [(0, .ref (w.1 12 47))] → W p l e rmX12_runCommands s m args below meth c H locs 0 0 (MQ below (mQ w s.heap.size (some (.int r)) M9) args s 0 0 (mA w s.heap.size)) (F0 m 186 ls [])) → W p l e rmX12_runCommands s m args below meth c H locs 0 0 (MQ below (mQ w s.heap.size (some (.int r)) M9) args s 0 0 (mA w s.heap.size)) (F0 m 104 ls []) := by
        intro n
        induction n with
        | zero => intro x21 M22 kk H locs ls hf hI hl hk; rw [f_X12_runCommands_L104.eq_1] at hf; cases hf
        | succ n ih104 =>
          intro x21 M22 kk H locs ls hf hI hl hk
          rw [f_X12_runCommands_L104.eq_2] at hf
          refine lv_iload_n hx hb dX12_runCommands_104 rfl (lv_at hl 1 rfl) ?_
          refine lv_aload_n hx hb dX12_runCommands_105 rfl (lv_at hl 0 rfl) ?_
          refine m_get (g := 12) (i := 47) (ci := 10) (k := 21) (v := .int (M22 12 47 21)) hx hb hI hown (mokX (by decide) (by decide)) rfl rfl (by decide) lyX12 (q1447 hI.T) rfl dX12_runCommands_106 ?_
          refine lv_icmp_ge (tgt := 186) hx hb dX12_runCommands_109 (by decide) (fun c23 => ?_) (fun c23 => ?_)
          · have hf := (if_pos c23).symm.trans hf
            exact hk M22 H _ _ hf hI (lv_sub hl [0] rfl)
          · have hf := (if_neg c23).symm.trans hf
            refine lv_aload_n hx hb dX12_runCommands_112 rfl (lv_at hl 0 rfl) ?_
            refine lv_iload_n hx hb dX12_runCommands_113 rfl (lv_at hl 1 rfl) ?_
            obtain ⟨r24, M25, hc, hf⟩ := mbnd_e hf
            refine m_callV (As := [.int x21]) (rest := []) hx hb hml hown hI (c_X12_does l w H.size x21 M22 _ _ hc) (kb_X12_does hI.T (q1920 hI.T) (Nat.le_of_ble_eq_true rfl) (Nat.le_of_ble_eq_true rfl)) (q1922 hI.T) (sel_X12_does hI.T) (m_recv (g := 12) (i := 47) hI (mokX (by decide) (by decide)) rfl rfl) rfl hl.1 (Nat.le_of_ble_eq_true rfl) dX12_runCommands_114 ⟨Nat.le_of_ble_eq_true rfl, Nat.le_of_ble_eq_true rfl⟩ (fun H locs hI => ?_)
            refine lv_istore_n (lv' := [(2, .int r24), (0, .ref (w.1 12 47)), (1, .int x21)]) hx hb dX12_runCommands_117 rfl hl (by decide) rfl (fun ls hl => ?_)
            refine lv_iload_n hx hb dX12_runCommands_118 rfl (lv_at hl 0 rfl) ?_
            refine lv_if_ne (tgt := 125) hx hb dX12_runCommands_119 (by decide) (fun c26 => ?_) (fun c26 => ?_)
            · have hf := (if_neg c26).symm.trans hf
              refine lv_iconst (v := 0) hx hb dX12_runCommands_125 (by decide) ?_
              refine lv_istore_n (lv' := [(3, .int (0 : Int32)), (2, .int r24), (0, .ref (w.1 12 47)), (1, .int x21)]) hx hb dX12_runCommands_126 rfl hl (by decide) rfl (fun ls hl => ?_)
              have hL127 : ∀ (n : Nat) (x27 : Int32) (M28 : Mem) (kk : Mem → Option (Int32 × Mem)) (H : Heap) (locs : List Loc) (ls : Array Slot), f_X12_runCommands_L127 n x27 M28 kk = some (r, M9) → mI w s (mA w s.heap.size) H locs M28 → lv_has ls 4 [(0, .ref (w.1 12 47)), (1, .int x21), (2, .int r24), (3, .int x27)] → (∀  (M28 : Mem) (H : Heap) (locs : List Loc) (ls : Array Slot), kk M28 = some (r, M9) → mI w s (mA w s.heap.size) H locs M28 → lv_has ls 4 [(0, .ref (w.1 12 47)), (1, .int x21), (2, .int r24)] → W p l e rmX12_runCommands s m args below meth c H locs 0 0 (MQ below (mQ w s.heap.size (some (.int r)) M9) args s 0 0 (mA w s.heap.size)) (F0 m 151 ls [])) → W p l e rmX12_runCommands s m args below meth c H locs 0 0 (MQ below (mQ w s.heap.size (some (.int r)) M9) args s 0 0 (mA w s.heap.size)) (F0 m 127 ls []) := by
                intro n
                induction n with
                | zero => intro x27 M28 kk H locs ls hf hI hl hk; rw [f_X12_runCommands_L127.eq_1] at hf; cases hf
                | succ n ih127 =>
                  intro x27 M28 kk H locs ls hf hI hl hk
                  rw [f_X12_runCommands_L127.eq_2] at hf
                  refine lv_iload_n hx hb dX12_runCommands_127 rfl (lv_at hl 3 rfl) ?_
                  refine lv_bipush (v := 92) hx hb dX12_runCommands_128 (by decide) ?_
                  refine lv_icmp_ge (tgt := 151) hx hb dX12_runCommands_130 (by decide) (fun c29 => ?_) (fun c29 => ?_)
                  · have hf := (if_pos c29).symm.trans hf
                    exact hk M28 H _ _ hf hI (lv_sub hl [0, 1, 2] rfl)
                  · have hf := (if_neg c29).symm.trans hf
                    refine lv_aload_n hx hb dX12_runCommands_133 rfl (lv_at hl 0 rfl) ?_
                    refine m_get (g := 12) (i := 47) (ci := 10) (k := 1) (v := .ref (w.1 12 48)) hx hb hI hown (mokX (by decide) (by decide)) rfl rfl (by decide) lyX12 (q1427 hI.T) rfl dX12_runCommands_134 ?_
                    refine lv_iload_n hx hb dX12_runCommands_137 rfl (lv_at hl 3 rfl) ?_
                    refine lv_aload_n hx hb dX12_runCommands_138 rfl (lv_at hl 0 rfl) ?_
                    refine m_get (g := 12) (i := 47) (ci := 10) (k := 2) (v := .ref (w.1 12 49)) hx hb hI hown (mokX (by decide) (by decide)) rfl rfl (by decide) lyX12 (q1428 hI.T) rfl dX12_runCommands_139 ?_
                    refine lv_iload_n hx hb dX12_runCommands_142 rfl (lv_at hl 3 rfl) ?_
                    obtain ⟨hi, hf⟩ := mix_e hf
                    refine m_iald (g := 12) (i := 49) hx hb hI (mokX (by decide) (by decide)) rfl hi dX12_runCommands_143 ?_
                    obtain ⟨hi, hf⟩ := mix_e hf
                    obtain ⟨M30, eM30, hf⟩ := mlet_e hf
                    refine m_iast (g := 12) (i := 48) (M1 := M30) hx hb hI (mokX (by decide) (by decide)) rfl hi eM30 dX12_runCommands_144 (fun H locs hI => ?_)
                    obtain ⟨x31, ex31, hf⟩ := mlet_e hf
                    refine lv_iinc (v := x31) (lv' := [(3, .int x31), (0, .ref (w.1 12 47)), (1, .int x21), (2, .int r24)]) hx hb dX12_runCommands_145 hl (k := 3) rfl (by rw [ex31]; rfl) (by decide) rfl (fun ls hl => ?_)
                    refine lv_goto (tgt := 127) hx hb dX12_runCommands_148 (by decide) ?_
                    exact ih127 x31 M30 kk H _ _ hf hI (lv_sub hl [1, 2, 3, 0] rfl) hk
              refine hL127 1000 (0 : Int32) M25 _ _ _ _ hf hI (lv_sub hl [2, 3, 1, 0] rfl) ?_
              intro M32 H locs ls hf hI hl
              try dsimp only at hf
              refine lv_aload_n hx hb dX12_runCommands_151 rfl (lv_at hl 0 rfl) ?_
              refine lv_bipush (v := 11) hx hb dX12_runCommands_152 (by decide) ?_
              refine lv_iload_n hx hb dX12_runCommands_154 rfl (lv_at hl 1 rfl) ?_
              obtain ⟨r33, M34, hc, hf⟩ := mbnd_e hf
              refine m_callV (As := [.int (11 : Int32), .int x21]) (rest := []) hx hb hml hown hI (c_X12_refused l w H.size (11 : Int32) x21 M32 _ _ hc) (kb_X12_refused hI.T (q1512 hI.T) (Nat.le_of_ble_eq_true rfl) (Nat.le_of_ble_eq_true rfl)) (q1514 hI.T) (sel_X12_refused hI.T) (m_recv (g := 12) (i := 47) hI (mokX (by decide) (by decide)) rfl rfl) rfl hl.1 (Nat.le_of_ble_eq_true rfl) dX12_runCommands_155 ⟨Nat.le_of_ble_eq_true rfl, Nat.le_of_ble_eq_true rfl⟩ (fun H locs hI => ?_)
              refine lv_istore_n (lv' := [(3, .int r33), (0, .ref (w.1 12 47)), (1, .int x21), (2, .int r24)]) hx hb dX12_runCommands_158 rfl hl (by decide) rfl (fun ls hl => ?_)
              refine lv_aload_n hx hb dX12_runCommands_159 rfl (lv_at hl 1 rfl) ?_
              refine lv_iload_n hx hb dX12_runCommands_160 rfl (lv_at hl 3 rfl) ?_
              obtain ⟨k171_37, ek171_37, hf⟩ := mlet_e hf
              have hj171_37 : ∀ (x36 : Int32) (H : Heap) (locs : List Loc) (ls : Array Slot), k171_37 x36 = some (r, M9) → mI w s (mA w s.heap.size) H locs M34 → lv_has ls 4 [(0, .ref (w.1 12 47))] → W p l e rmX12_runCommands s m args below meth c H locs 0 0 (MQ below (mQ w s.heap.size (some (.int r)) M9) args s 0 0 (mA w s.heap.size)) (F0 m 171 ls [.int x36, .ref (w.1 12 47)]) := by
                intro x36 H locs ls hf hI hl
                rw [ek171_37] at hf
                try dsimp only at hf
                obtain ⟨M38, eM38, hf⟩ := mlet_e hf
                refine m_put (g := 12) (i := 47) (ci := 10) (k := 18) (ty := .int) (M1 := M38) hx hb hI hown (mokX (by decide) (by decide)) rfl rfl (by decide) lyX12 tyX12 tyX12_ok nmX12 (q1444 hI.T) rfl rfl rfl rfl (Nat.le_of_ble_eq_true rfl) rfl eM38 dX12_runCommands_171 (fun H locs hI => ?_)
                refine lv_aload_n hx hb dX12_runCommands_174 rfl (lv_at hl 0 rfl) ?_
                refine lv_iconst (v := 2) hx hb dX12_runCommands_175 (by decide) ?_
                obtain ⟨r39, M40, hc, hf⟩ := mbnd_e hf
                refine m_callV (As := [.int (2 : Int32)]) (rest := []) hx hb hml hown hI (c_X12_fails l w H.size (2 : Int32) M38 _ _ hc) (kb_X12_fails hI.T (q1532 hI.T) (Nat.le_of_ble_eq_true rfl) (Nat.le_of_ble_eq_true rfl)) (q1534 hI.T) (sel_X12_fails hI.T) (m_recv (g := 12) (i := 47) hI (mokX (by decide) (by decide)) rfl rfl) rfl hl.1 (Nat.le_of_ble_eq_true rfl) dX12_runCommands_176 ⟨Nat.le_of_ble_eq_true rfl, Nat.le_of_ble_eq_true rfl⟩ (fun H locs hI => ?_)
                exact m_iretf hx hb hr hlk hI hf dX12_runCommands_179
              refine lv_if_ge (tgt := 169) hx hb dX12_runCommands_161 (by decide) (fun c35 => ?_) (fun c35 => ?_)
              · have hf := (if_pos c35).symm.trans hf
                refine lv_bipush (v := 12) hx hb dX12_runCommands_169 (by decide) ?_
                exact hj171_37 (12 : Int32) H _ _ hf hI (lv_sub hl [1] rfl)
              · have hf := (if_neg c35).symm.trans hf
                refine lv_iload_n hx hb dX12_runCommands_164 rfl (lv_at hl 3 rfl) ?_
                refine lv_ineg hx hb dX12_runCommands_165 ?_
                refine lv_goto (tgt := 171) hx hb dX12_runCommands_166 (by decide) ?_
                exact hj171_37 (-r24) H _ _ hf hI (lv_sub hl [1] rfl)
            · have hf := (if_pos c26).symm.trans hf
              refine lv_goto (tgt := 180) hx hb dX12_runCommands_122 (by decide) ?_
              obtain ⟨x41, ex41, hf⟩ := mlet_e hf
              refine lv_iinc (v := x41) (lv' := [(1, .int x41), (2, .int r24), (0, .ref (w.1 12 47))]) hx hb dX12_runCommands_180 hl (k := 2) rfl (by rw [ex41]; rfl) (by decide) rfl (fun ls hl => ?_)
              refine lv_goto (tgt := 104) hx hb dX12_runCommands_183 (by decide) ?_
              exact ih104 x41 M25 kk H _ _ hf hI (lv_sub hl [2, 0] rfl) hk
      refine hL104 1000 (0 : Int32) M18 _ _ _ _ hf hI (lv_sub hl [1, 0] rfl) ?_
      intro M42 H locs ls hf hI hl
      try dsimp only at hf
      refine lv_aload_n hx hb dX12_runCommands_186 rfl (lv_at hl 0 rfl) ?_
      refine lv_aload_n hx hb dX12_runCommands_187 rfl (lv_at hl 0 rfl) ?_
      refine m_get (g := 12) (i := 47) (ci := 10) (k := 21) (v := .int (M42 12 47 21)) hx hb hI hown (mokX (by decide) (by decide)) rfl rfl (by decide) lyX12 (q1447 hI.T) rfl dX12_runCommands_188 ?_
      obtain ⟨r43, M44, hc, hf⟩ := mbnd_e hf
      refine m_callV (As := [.int (M42 12 47 21)]) (rest := []) hx hb hml hown hI (c_X12_changed l w H.size (M42 12 47 21) M42 _ _ hc) (kb_X12_changed hI.T (q1528 hI.T) (Nat.le_of_ble_eq_true rfl) (Nat.le_of_ble_eq_true rfl)) (q1530 hI.T) (sel_X12_changed hI.T) (m_recv (g := 12) (i := 47) hI (mokX (by decide) (by decide)) rfl rfl) rfl hl.1 (Nat.le_of_ble_eq_true rfl) dX12_runCommands_191 ⟨Nat.le_of_ble_eq_true rfl, Nat.le_of_ble_eq_true rfl⟩ (fun H locs hI => ?_)
      exact m_iretf hx hb hr hlk hI hf dX12_runCommands_194
    · have hf := (if_neg c20).symm.trans hf
      exact hj88_45 () H _ _ hf hI (lv_sub hl [0] rfl)
abbrev rmX12_errorPosition : Room := { frames := 1, cells := 0, slots := 0, locals := 21 }
theorem kb_X12_errorPosition {R : Room} {s : State} {args : Array Value} {own : String} {idx : Nat} (hT : mT s) (hlink : (Cond.methodLink own idx yX12_errorPosition).before args s = true) (h1 : rmX12_errorPosition.frames + 1 ≤ R.frames) (h2 : 8 + (1 + 11) + rmX12_errorPosition.locals ≤ R.locals) : CallB R s args own idx yX12_errorPosition cX12_errorPosition 1 (some .int) [Cond.code yX12_errorPosition cX12_errorPosition 1 (some .int)] rmX12_errorPosition 0 0 0 := m_callB hT kc_X12_errorPosition ki_X12_errorPosition hlink (by decide +kernel) ⟨rfl, rfl, h1, h2⟩
set_option maxHeartbeats 4000000 in
set_option maxRecDepth 100000 in
theorem c_X12_errorPosition (l : Launch) (w : WD) (sz : Nat)  (M : Mem) (r : Int32) (M9 : Mem) (hf : f_X12_errorPosition  M = some (r, M9)) : mMet l yX12_errorPosition cX12_errorPosition 1 (some .int) rmX12_errorPosition w sz M [.ref (w.1 12 47)] (some (.int r)) M9 := by
  refine m_of (by decide) (Nat.le_of_ble_eq_true rfl) ?_
  intro p e s m args below meth c hx hb hr hml hown hlk hI ls hl
  have hl : lv_has ls 1 [(0, .ref (w.1 12 47))] := hl
  unfold f_X12_errorPosition at hf
  refine lv_aload_n hx hb dX12_errorPosition_0 rfl (lv_at hl 0 rfl) ?_
  refine lv_iconst (v := 0) hx hb dX12_errorPosition_1 (by decide) ?_
  obtain ⟨M1, eM1, hf⟩ := mlet_e hf
  refine m_put (g := 12) (i := 47) (ci := 10) (k := 0) (ty := .int) (M1 := M1) hx hb hI hown (mokX (by decide) (by decide)) rfl rfl (by decide) lyX12 tyX12 tyX12_ok nmX12 (q1426 hI.T) rfl rfl rfl rfl (Nat.le_of_ble_eq_true rfl) rfl eM1 dX12_errorPosition_2 (fun H locs hI => ?_)
  refine lv_aload_n hx hb dX12_errorPosition_5 rfl (lv_at hl 0 rfl) ?_
  refine m_get (g := 12) (i := 47) (ci := 10) (k := 14) (v := .int (M1 12 47 14)) hx hb hI hown (mokX (by decide) (by decide)) rfl rfl (by decide) lyX12 (q1440 hI.T) rfl dX12_errorPosition_6 ?_
  refine lv_iconst (v := (-1)) hx hb dX12_errorPosition_9 (by decide) ?_
  refine lv_icmp_ne (tgt := 21) hx hb dX12_errorPosition_10 (by decide) (fun c2 => ?_) (fun c2 => ?_)
  · have hf := (if_neg c2).symm.trans hf
    refine lv_aload_n hx hb dX12_errorPosition_21 rfl (lv_at hl 0 rfl) ?_
    refine m_get (g := 12) (i := 47) (ci := 10) (k := 14) (v := .int (M1 12 47 14)) hx hb hI hown (mokX (by decide) (by decide)) rfl rfl (by decide) lyX12 (q1440 hI.T) rfl dX12_errorPosition_22 ?_
    exact m_iretf hx hb hr hlk hI hf dX12_errorPosition_25
  · have hf := (if_pos c2).symm.trans hf
    refine lv_aload_n hx hb dX12_errorPosition_13 rfl (lv_at hl 0 rfl) ?_
    refine lv_iconst (v := 1) hx hb dX12_errorPosition_14 (by decide) ?_
    obtain ⟨r3, M4, hc, hf⟩ := mbnd_e hf
    refine m_callV (As := [.int (1 : Int32)]) (rest := []) hx hb hml hown hI (c_X12_fails l w H.size (1 : Int32) M1 _ _ hc) (kb_X12_fails hI.T (q1532 hI.T) (Nat.le_of_ble_eq_true rfl) (Nat.le_of_ble_eq_true rfl)) (q1534 hI.T) (sel_X12_fails hI.T) (m_recv (g := 12) (i := 47) hI (mokX (by decide) (by decide)) rfl rfl) rfl hl.1 (Nat.le_of_ble_eq_true rfl) dX12_errorPosition_15 ⟨Nat.le_of_ble_eq_true rfl, Nat.le_of_ble_eq_true rfl⟩ (fun H locs hI => ?_)
    refine lv_goto (tgt := 25) hx hb dX12_errorPosition_18 (by decide) ?_
    exact m_iretf hx hb hr hlk hI hf dX12_errorPosition_25
abbrev rmX12_writes : Room := { frames := 0, cells := 0, slots := 0, locals := 0 }
theorem kb_X12_writes {R : Room} {s : State} {args : Array Value} {own : String} {idx : Nat} (hT : mT s) (hlink : (Cond.methodLink own idx yX12_writes).before args s = true) (h1 : rmX12_writes.frames + 1 ≤ R.frames) (h2 : 8 + (2 + 11) + rmX12_writes.locals ≤ R.locals) : CallB R s args own idx yX12_writes cX12_writes 2 (none) [Cond.code yX12_writes cX12_writes 2 (none)] rmX12_writes 0 0 1 := m_callB hT kc_X12_writes ki_X12_writes hlink (by decide +kernel) ⟨rfl, rfl, h1, h2⟩
set_option maxHeartbeats 4000000 in
set_option maxRecDepth 100000 in
theorem c_X12_writes (l : Launch) (w : WD) (sz : Nat) (a1 : Int32) (M : Mem) (r : Unit) (M9 : Mem) (hf : f_X12_writes a1 M = some (r, M9)) : mMet l yX12_writes cX12_writes 2 (none) rmX12_writes w sz M [.ref (w.1 12 47), .int a1] none M9 := by
  refine m_of (by decide) (Nat.le_of_ble_eq_true rfl) ?_
  intro p e s m args below meth c hx hb hr hml hown hlk hI ls hl
  have hl : lv_has ls 2 [(0, .ref (w.1 12 47)), (1, .int a1)] := hl
  unfold f_X12_writes at hf
  refine lv_aload_n hx hb dX12_writes_0 rfl (lv_at hl 0 rfl) ?_
  refine m_get (g := 12) (i := 47) (ci := 10) (k := 10) (v := .ref (w.1 12 55)) hx hb hI hown (mokX (by decide) (by decide)) rfl rfl (by decide) lyX12 (q1436 hI.T) rfl dX12_writes_1 ?_
  refine lv_aload_n hx hb dX12_writes_4 rfl (lv_at hl 0 rfl) ?_
  refine m_get (g := 12) (i := 47) (ci := 10) (k := 13) (v := .int (M 12 47 13)) hx hb hI hown (mokX (by decide) (by decide)) rfl rfl (by decide) lyX12 (q1439 hI.T) rfl dX12_writes_5 ?_
  refine lv_iload_n hx hb dX12_writes_8 rfl (lv_at hl 1 rfl) ?_
  obtain ⟨hi, hf⟩ := mix_e hf
  obtain ⟨M1, eM1, hf⟩ := mlet_e hf
  refine m_iast (g := 12) (i := 55) (M1 := M1) hx hb hI (mokX (by decide) (by decide)) rfl hi eM1 dX12_writes_9 (fun H locs hI => ?_)
  refine lv_aload_n hx hb dX12_writes_10 rfl (lv_at hl 0 rfl) ?_
  refine lv_dup hx hb dX12_writes_11 rfl ?_
  refine m_get (g := 12) (i := 47) (ci := 10) (k := 13) (v := .int (M1 12 47 13)) hx hb hI hown (mokX (by decide) (by decide)) rfl rfl (by decide) lyX12 (q1439 hI.T) rfl dX12_writes_12 ?_
  refine lv_iconst (v := 1) hx hb dX12_writes_15 (by decide) ?_
  refine lv_iadd hx hb dX12_writes_16 ?_
  obtain ⟨M2, eM2, hf⟩ := mlet_e hf
  refine m_put (g := 12) (i := 47) (ci := 10) (k := 13) (ty := .int) (M1 := M2) hx hb hI hown (mokX (by decide) (by decide)) rfl rfl (by decide) lyX12 tyX12 tyX12_ok nmX12 (q1439 hI.T) rfl rfl rfl rfl (Nat.le_of_ble_eq_true rfl) rfl eM2 dX12_writes_17 (fun H locs hI => ?_)
  exact m_vretf hx hb hr hlk hI hf dX12_writes_20
abbrev rmX12_writesNumber : Room := { frames := 1, cells := 0, slots := 0, locals := 21 }
theorem kb_X12_writesNumber {R : Room} {s : State} {args : Array Value} {own : String} {idx : Nat} (hT : mT s) (hlink : (Cond.methodLink own idx yX12_writesNumber).before args s = true) (h1 : rmX12_writesNumber.frames + 1 ≤ R.frames) (h2 : 8 + (2 + 11) + rmX12_writesNumber.locals ≤ R.locals) : CallB R s args own idx yX12_writesNumber cX12_writesNumber 2 (none) [Cond.code yX12_writesNumber cX12_writesNumber 2 (none)] rmX12_writesNumber 0 0 1 := m_callB hT kc_X12_writesNumber ki_X12_writesNumber hlink (by decide +kernel) ⟨rfl, rfl, h1, h2⟩
set_option maxHeartbeats 4000000 in
set_option maxRecDepth 100000 in
theorem c_X12_writesNumber (l : Launch) (w : WD) (sz : Nat) (a1 : Int32) (M : Mem) (r : Unit) (M9 : Mem) (hf : f_X12_writesNumber a1 M = some (r, M9)) : mMet l yX12_writesNumber cX12_writesNumber 2 (none) rmX12_writesNumber w sz M [.ref (w.1 12 47), .int a1] none M9 := by
  refine m_of (by decide) (Nat.le_of_ble_eq_true rfl) ?_
  intro p e s m args below meth c hx hb hr hml hown hlk hI ls hl
  have hl : lv_has ls 2 [(0, .ref (w.1 12 47)), (1, .int a1)] := hl
  unfold f_X12_writesNumber at hf
  refine lv_iload_n hx hb dX12_writesNumber_0 rfl (lv_at hl 1 rfl) ?_
  refine lv_sipush (v := 9999) hx hb dX12_writesNumber_1 (by decide) ?_
  obtain ⟨k22_5, ek22_5, hf⟩ := mlet_e hf
  have hj22_5 : ∀ (M4 : Mem) (H : Heap) (locs : List Loc) (ls : Array Slot), k22_5 M4 = some (r, M9) → mI w s (mA w s.heap.size) H locs M4 → lv_has ls 2 [(0, .ref (w.1 12 47)), (1, .int a1)] → W p l e rmX12_writesNumber s m args below meth c H locs 0 0 (MQ below (mQ w s.heap.size none M9) args s 0 0 (mA w s.heap.size)) (F0 m 22 ls []) := by
    intro M4 H locs ls hf hI hl
    rw [ek22_5] at hf
    try dsimp only at hf
    refine lv_iload_n hx hb dX12_writesNumber_22 rfl (lv_at hl 1 rfl) ?_
    refine lv_sipush (v := 999) hx hb dX12_writesNumber_23 (by decide) ?_
    obtain ⟨k44_11, ek44_11, hf⟩ := mlet_e hf
    have hj44_11 : ∀ (M10 : Mem) (H : Heap) (locs : List Loc) (ls : Array Slot), k44_11 M10 = some (r, M9) → mI w s (mA w s.heap.size) H locs M10 → lv_has ls 2 [(0, .ref (w.1 12 47)), (1, .int a1)] → W p l e rmX12_writesNumber s m args below meth c H locs 0 0 (MQ below (mQ w s.heap.size none M9) args s 0 0 (mA w s.heap.size)) (F0 m 44 ls []) := by
      intro M10 H locs ls hf hI hl
      rw [ek44_11] at hf
      try dsimp only at hf
      refine lv_iload_n hx hb dX12_writesNumber_44 rfl (lv_at hl 1 rfl) ?_
      refine lv_bipush (v := 99) hx hb dX12_writesNumber_45 (by decide) ?_
      obtain ⟨k64_16, ek64_16, hf⟩ := mlet_e hf
      have hj64_16 : ∀ (M15 : Mem) (H : Heap) (locs : List Loc) (ls : Array Slot), k64_16 M15 = some (r, M9) → mI w s (mA w s.heap.size) H locs M15 → lv_has ls 2 [(0, .ref (w.1 12 47)), (1, .int a1)] → W p l e rmX12_writesNumber s m args below meth c H locs 0 0 (MQ below (mQ w s.heap.size none M9) args s 0 0 (mA w s.heap.size)) (F0 m 64 ls []) := by
        intro M15 H locs ls hf hI hl
        rw [ek64_16] at hf
        try dsimp only at hf
        refine lv_iload_n hx hb dX12_writesNumber_64 rfl (lv_at hl 1 rfl) ?_
        refine lv_bipush (v := 9) hx hb dX12_writesNumber_65 (by decide) ?_
        obtain ⟨k84_21, ek84_21, hf⟩ := mlet_e hf
        have hj84_21 : ∀ (M20 : Mem) (H : Heap) (locs : List Loc) (ls : Array Slot), k84_21 M20 = some (r, M9) → mI w s (mA w s.heap.size) H locs M20 → lv_has ls 2 [(0, .ref (w.1 12 47)), (1, .int a1)] → W p l e rmX12_writesNumber s m args below meth c H locs 0 0 (MQ below (mQ w s.heap.size none M9) args s 0 0 (mA w s.heap.size)) (F0 m 84 ls []) := by
          intro M20 H locs ls hf hI hl
          rw [ek84_21] at hf
          try dsimp only at hf
          refine lv_aload_n hx hb dX12_writesNumber_84 rfl (lv_at hl 0 rfl) ?_
          refine lv_bipush (v := 48) hx hb dX12_writesNumber_85 (by decide) ?_
          refine lv_iload_n hx hb dX12_writesNumber_87 rfl (lv_at hl 1 rfl) ?_
          refine lv_bipush (v := 10) hx hb dX12_writesNumber_88 (by decide) ?_
          refine lv_irem hx hb dX12_writesNumber_90 (by decide) ?_
          refine lv_iadd hx hb dX12_writesNumber_91 ?_
          obtain ⟨r22, M23, hc, hf⟩ := mbnd_e hf
          refine m_callV (As := [.int ((48 : Int32) + (mrem a1 (10 : Int32)))]) (rest := []) hx hb hml hown hI (c_X12_writes l w H.size ((48 : Int32) + (mrem a1 (10 : Int32))) M20 _ _ hc) (kb_X12_writes hI.T (q1936 hI.T) (Nat.le_of_ble_eq_true rfl) (Nat.le_of_ble_eq_true rfl)) (q1938 hI.T) (sel_X12_writes hI.T) (m_recv (g := 12) (i := 47) hI (mokX (by decide) (by decide)) rfl rfl) rfl hl.1 (Nat.le_of_ble_eq_true rfl) dX12_writesNumber_92 ⟨Nat.le_of_ble_eq_true rfl, Nat.le_of_ble_eq_true rfl⟩ (fun H locs hI => ?_)
          exact m_vretf hx hb hr hlk hI hf dX12_writesNumber_95
        refine lv_icmp_le (tgt := 84) hx hb dX12_writesNumber_67 (by decide) (fun c17 => ?_) (fun c17 => ?_)
        · have hf := (if_pos c17).symm.trans hf
          exact hj84_21 M15 H _ _ hf hI (lv_sub hl [0, 1] rfl)
        · have hf := (if_neg c17).symm.trans hf
          refine lv_aload_n hx hb dX12_writesNumber_70 rfl (lv_at hl 0 rfl) ?_
          refine lv_bipush (v := 48) hx hb dX12_writesNumber_71 (by decide) ?_
          refine lv_iload_n hx hb dX12_writesNumber_73 rfl (lv_at hl 1 rfl) ?_
          refine lv_bipush (v := 10) hx hb dX12_writesNumber_74 (by decide) ?_
          refine lv_idiv hx hb dX12_writesNumber_76 (by decide) ?_
          refine lv_bipush (v := 10) hx hb dX12_writesNumber_77 (by decide) ?_
          refine lv_irem hx hb dX12_writesNumber_79 (by decide) ?_
          refine lv_iadd hx hb dX12_writesNumber_80 ?_
          obtain ⟨r18, M19, hc, hf⟩ := mbnd_e hf
          refine m_callV (As := [.int ((48 : Int32) + (mrem (a1 / (10 : Int32)) (10 : Int32)))]) (rest := []) hx hb hml hown hI (c_X12_writes l w H.size ((48 : Int32) + (mrem (a1 / (10 : Int32)) (10 : Int32))) M15 _ _ hc) (kb_X12_writes hI.T (q1936 hI.T) (Nat.le_of_ble_eq_true rfl) (Nat.le_of_ble_eq_true rfl)) (q1938 hI.T) (sel_X12_writes hI.T) (m_recv (g := 12) (i := 47) hI (mokX (by decide) (by decide)) rfl rfl) rfl hl.1 (Nat.le_of_ble_eq_true rfl) dX12_writesNumber_81 ⟨Nat.le_of_ble_eq_true rfl, Nat.le_of_ble_eq_true rfl⟩ (fun H locs hI => ?_)
          exact hj84_21 M19 H _ _ hf hI (lv_sub hl [0, 1] rfl)
      refine lv_icmp_le (tgt := 64) hx hb dX12_writesNumber_47 (by decide) (fun c12 => ?_) (fun c12 => ?_)
      · have hf := (if_pos c12).symm.trans hf
        exact hj64_16 M10 H _ _ hf hI (lv_sub hl [0, 1] rfl)
      · have hf := (if_neg c12).symm.trans hf
        refine lv_aload_n hx hb dX12_writesNumber_50 rfl (lv_at hl 0 rfl) ?_
        refine lv_bipush (v := 48) hx hb dX12_writesNumber_51 (by decide) ?_
        refine lv_iload_n hx hb dX12_writesNumber_53 rfl (lv_at hl 1 rfl) ?_
        refine lv_bipush (v := 100) hx hb dX12_writesNumber_54 (by decide) ?_
        refine lv_idiv hx hb dX12_writesNumber_56 (by decide) ?_
        refine lv_bipush (v := 10) hx hb dX12_writesNumber_57 (by decide) ?_
        refine lv_irem hx hb dX12_writesNumber_59 (by decide) ?_
        refine lv_iadd hx hb dX12_writesNumber_60 ?_
        obtain ⟨r13, M14, hc, hf⟩ := mbnd_e hf
        refine m_callV (As := [.int ((48 : Int32) + (mrem (a1 / (100 : Int32)) (10 : Int32)))]) (rest := []) hx hb hml hown hI (c_X12_writes l w H.size ((48 : Int32) + (mrem (a1 / (100 : Int32)) (10 : Int32))) M10 _ _ hc) (kb_X12_writes hI.T (q1936 hI.T) (Nat.le_of_ble_eq_true rfl) (Nat.le_of_ble_eq_true rfl)) (q1938 hI.T) (sel_X12_writes hI.T) (m_recv (g := 12) (i := 47) hI (mokX (by decide) (by decide)) rfl rfl) rfl hl.1 (Nat.le_of_ble_eq_true rfl) dX12_writesNumber_61 ⟨Nat.le_of_ble_eq_true rfl, Nat.le_of_ble_eq_true rfl⟩ (fun H locs hI => ?_)
        exact hj64_16 M14 H _ _ hf hI (lv_sub hl [0, 1] rfl)
    refine lv_icmp_le (tgt := 44) hx hb dX12_writesNumber_26 (by decide) (fun c6 => ?_) (fun c6 => ?_)
    · have hf := (if_pos c6).symm.trans hf
      exact hj44_11 M4 H _ _ hf hI (lv_sub hl [0, 1] rfl)
    · have hf := (if_neg c6).symm.trans hf
      refine lv_aload_n hx hb dX12_writesNumber_29 rfl (lv_at hl 0 rfl) ?_
      refine lv_bipush (v := 48) hx hb dX12_writesNumber_30 (by decide) ?_
      refine lv_iload_n hx hb dX12_writesNumber_32 rfl (lv_at hl 1 rfl) ?_
      refine lv_sipush (v := 1000) hx hb dX12_writesNumber_33 (by decide) ?_
      refine lv_idiv hx hb dX12_writesNumber_36 (by decide) ?_
      refine lv_bipush (v := 10) hx hb dX12_writesNumber_37 (by decide) ?_
      refine lv_irem hx hb dX12_writesNumber_39 (by decide) ?_
      refine lv_iadd hx hb dX12_writesNumber_40 ?_
      obtain ⟨r7, M8, hc, hf⟩ := mbnd_e hf
      refine m_callV (As := [.int ((48 : Int32) + (mrem (a1 / (1000 : Int32)) (10 : Int32)))]) (rest := []) hx hb hml hown hI (c_X12_writes l w H.size ((48 : Int32) + (mrem (a1 / (1000 : Int32)) (10 : Int32))) M4 _ _ hc) (kb_X12_writes hI.T (q1936 hI.T) (Nat.le_of_ble_eq_true rfl) (Nat.le_of_ble_eq_true rfl)) (q1938 hI.T) (sel_X12_writes hI.T) (m_recv (g := 12) (i := 47) hI (mokX (by decide) (by decide)) rfl rfl) rfl hl.1 (Nat.le_of_ble_eq_true rfl) dX12_writesNumber_41 ⟨Nat.le_of_ble_eq_true rfl, Nat.le_of_ble_eq_true rfl⟩ (fun H locs hI => ?_)
      exact hj44_11 M8 H _ _ hf hI (lv_sub hl [0, 1] rfl)
  refine lv_icmp_le (tgt := 22) hx hb dX12_writesNumber_4 (by decide) (fun c1 => ?_) (fun c1 => ?_)
  · have hf := (if_pos c1).symm.trans hf
    exact hj22_5 M s.heap _ _ hf hI (lv_sub hl [0, 1] rfl)
  · have hf := (if_neg c1).symm.trans hf
    refine lv_aload_n hx hb dX12_writesNumber_7 rfl (lv_at hl 0 rfl) ?_
    refine lv_bipush (v := 48) hx hb dX12_writesNumber_8 (by decide) ?_
    refine lv_iload_n hx hb dX12_writesNumber_10 rfl (lv_at hl 1 rfl) ?_
    refine lv_sipush (v := 10000) hx hb dX12_writesNumber_11 (by decide) ?_
    refine lv_idiv hx hb dX12_writesNumber_14 (by decide) ?_
    refine lv_bipush (v := 10) hx hb dX12_writesNumber_15 (by decide) ?_
    refine lv_irem hx hb dX12_writesNumber_17 (by decide) ?_
    refine lv_iadd hx hb dX12_writesNumber_18 ?_
    obtain ⟨r2, M3, hc, hf⟩ := mbnd_e hf
    refine m_callV (As := [.int ((48 : Int32) + (mrem (a1 / (10000 : Int32)) (10 : Int32)))]) (rest := []) hx hb hml hown hI (c_X12_writes l w s.heap.size ((48 : Int32) + (mrem (a1 / (10000 : Int32)) (10 : Int32))) M _ _ hc) (kb_X12_writes hI.T (q1936 hI.T) (Nat.le_of_ble_eq_true rfl) (Nat.le_of_ble_eq_true rfl)) (q1938 hI.T) (sel_X12_writes hI.T) (m_recv (g := 12) (i := 47) hI (mokX (by decide) (by decide)) rfl rfl) rfl hl.1 (Nat.le_of_ble_eq_true rfl) dX12_writesNumber_19 ⟨Nat.le_of_ble_eq_true rfl, Nat.le_of_ble_eq_true rfl⟩ (fun H locs hI => ?_)
    exact hj22_5 M3 H _ _ hf hI (lv_sub hl [0, 1] rfl)
abbrev rmX12_writeZones : Room := { frames := 2, cells := 0, slots := 0, locals := 42 }
theorem kb_X12_writeZones {R : Room} {s : State} {args : Array Value} {own : String} {idx : Nat} (hT : mT s) (hlink : (Cond.methodLink own idx yX12_writeZones).before args s = true) (h1 : rmX12_writeZones.frames + 1 ≤ R.frames) (h2 : 8 + (3 + 11) + rmX12_writeZones.locals ≤ R.locals) : CallB R s args own idx yX12_writeZones cX12_writeZones 3 (some .int) [Cond.code yX12_writeZones cX12_writeZones 3 (some .int)] rmX12_writeZones 0 0 0 := m_callB hT kc_X12_writeZones ki_X12_writeZones hlink (by decide +kernel) ⟨rfl, rfl, h1, h2⟩
set_option maxHeartbeats 4000000 in
set_option maxRecDepth 100000 in
theorem c_X12_writeZones (l : Launch) (w : WD) (sz : Nat)  (M : Mem) (r : Int32) (M9 : Mem) (hf : f_X12_writeZones  M = some (r, M9)) : mMet l yX12_writeZones cX12_writeZones 3 (some .int) rmX12_writeZones w sz M [.ref (w.1 12 47)] (some (.int r)) M9 := by
  refine m_of (by decide) (Nat.le_of_ble_eq_true rfl) ?_
  intro p e s m args below meth c hx hb hr hml hown hlk hI ls hl
  have hl : lv_has ls 3 [(0, .ref (w.1 12 47))] := hl
  unfold f_X12_writeZones at hf
  refine lv_aload_n hx hb dX12_writeZones_0 rfl (lv_at hl 0 rfl) ?_
  refine lv_iconst (v := 0) hx hb dX12_writeZones_1 (by decide) ?_
  obtain ⟨M1, eM1, hf⟩ := mlet_e hf
  refine m_put (g := 12) (i := 47) (ci := 10) (k := 0) (ty := .int) (M1 := M1) hx hb hI hown (mokX (by decide) (by decide)) rfl rfl (by decide) lyX12 tyX12 tyX12_ok nmX12 (q1426 hI.T) rfl rfl rfl rfl (Nat.le_of_ble_eq_true rfl) rfl eM1 dX12_writeZones_2 (fun H locs hI => ?_)
  refine lv_aload_n hx hb dX12_writeZones_5 rfl (lv_at hl 0 rfl) ?_
  refine lv_iconst (v := 0) hx hb dX12_writeZones_6 (by decide) ?_
  obtain ⟨M2, eM2, hf⟩ := mlet_e hf
  refine m_put (g := 12) (i := 47) (ci := 10) (k := 13) (ty := .int) (M1 := M2) hx hb hI hown (mokX (by decide) (by decide)) rfl rfl (by decide) lyX12 tyX12 tyX12_ok nmX12 (q1439 hI.T) rfl rfl rfl rfl (Nat.le_of_ble_eq_true rfl) rfl eM2 dX12_writeZones_7 (fun H locs hI => ?_)
  refine lv_iconst (v := 0) hx hb dX12_writeZones_10 (by decide) ?_
  refine lv_istore_n (lv' := [(1, .int (0 : Int32)), (0, .ref (w.1 12 47))]) hx hb dX12_writeZones_11 rfl hl (by decide) rfl (fun ls hl => ?_)
  have hL12 : ∀ (n : Nat) (x3 : Int32) (M4 : Mem) (kk : Mem → Option (Int32 × Mem)) (H : Heap) (locs : List Loc) (ls : Array Slot), f_X12_writeZones_L12 n x3 M4 kk = some (r, M9) → mI w s (mA w s.heap.size) H locs M4 → lv_has ls 3 [(0, .ref (w.1 12 47)), (1, .int x3)] → (∀  (M4 : Mem) (H : Heap) (locs : List Loc) (ls : Array Slot), kk M4 = some (r, M9) → mI w s (mA w s.heap.size) H locs M4 → lv_has ls 3 [(0, .ref (w.1 12 47))] → W p l e rmX12_writeZones s m args below meth c H locs 0 0 (MQ below (mQ w s.heap.size (some (.int r)) M9) args s 0 0 (mA w s.heap.size)) (F0 m 97 ls [])) → W p l e rmX12_writeZones s m args below meth c H locs 0 0 (MQ below (mQ w s.heap.size (some (.int r)) M9) args s 0 0 (mA w s.heap.size)) (F0 m 12 ls []) := by
    intro n
    induction n with
    | zero => intro x3 M4 kk H locs ls hf hI hl hk; rw [f_X12_writeZones_L12.eq_1] at hf; cases hf
    | succ n ih12 =>
      intro x3 M4 kk H locs ls hf hI hl hk
      rw [f_X12_writeZones_L12.eq_2] at hf
      refine lv_iload_n hx hb dX12_writeZones_12 rfl (lv_at hl 1 rfl) ?_
      refine lv_bipush (v := 8) hx hb dX12_writeZones_13 (by decide) ?_
      refine lv_icmp_ge (tgt := 97) hx hb dX12_writeZones_15 (by decide) (fun c5 => ?_) (fun c5 => ?_)
      · have hf := (if_pos c5).symm.trans hf
        exact hk M4 H _ _ hf hI (lv_sub hl [0] rfl)
      · have hf := (if_neg c5).symm.trans hf
        refine lv_iload_n hx hb dX12_writeZones_18 rfl (lv_at hl 1 rfl) ?_
        obtain ⟨k28_11, ek28_11, hf⟩ := mlet_e hf
        have hj28_11 : ∀ (M10 : Mem) (H : Heap) (locs : List Loc) (ls : Array Slot), k28_11 M10 = some (r, M9) → mI w s (mA w s.heap.size) H locs M10 → lv_has ls 3 [(0, .ref (w.1 12 47)), (1, .int x3)] → W p l e rmX12_writeZones s m args below meth c H locs 0 0 (MQ below (mQ w s.heap.size (some (.int r)) M9) args s 0 0 (mA w s.heap.size)) (F0 m 28 ls []) := by
          intro M10 H locs ls hf hI hl
          rw [ek28_11] at hf
          try dsimp only at hf
          refine lv_aload_n hx hb dX12_writeZones_28 rfl (lv_at hl 0 rfl) ?_
          refine lv_aload_n hx hb dX12_writeZones_29 rfl (lv_at hl 0 rfl) ?_
          refine m_get (g := 12) (i := 47) (ci := 10) (k := 1) (v := .ref (w.1 12 48)) hx hb hI hown (mokX (by decide) (by decide)) rfl rfl (by decide) lyX12 (q1427 hI.T) rfl dX12_writeZones_30 ?_
          refine lv_bipush (v := 31) hx hb dX12_writeZones_33 (by decide) ?_
          refine lv_iload_n hx hb dX12_writeZones_35 rfl (lv_at hl 1 rfl) ?_
          refine lv_iadd hx hb dX12_writeZones_36 ?_
          obtain ⟨hi, hf⟩ := mix_e hf
          refine m_iald (g := 12) (i := 48) hx hb hI (mokX (by decide) (by decide)) rfl hi dX12_writeZones_37 ?_
          obtain ⟨r12, M13, hc, hf⟩ := mbnd_e hf
          refine m_callV (As := [.int (M10 12 48 ((31 : Int32) + x3).toNatClampNeg)]) (rest := []) hx hb hml hown hI (c_X12_writesNumber l w H.size (M10 12 48 ((31 : Int32) + x3).toNatClampNeg) M10 _ _ hc) (kb_X12_writesNumber hI.T (q1940 hI.T) (Nat.le_of_ble_eq_true rfl) (Nat.le_of_ble_eq_true rfl)) (q1942 hI.T) (sel_X12_writesNumber hI.T) (m_recv (g := 12) (i := 47) hI (mokX (by decide) (by decide)) rfl rfl) rfl hl.1 (Nat.le_of_ble_eq_true rfl) dX12_writeZones_38 ⟨Nat.le_of_ble_eq_true rfl, Nat.le_of_ble_eq_true rfl⟩ (fun H locs hI => ?_)
          refine lv_iconst (v := 0) hx hb dX12_writeZones_41 (by decide) ?_
          refine lv_istore_n (lv' := [(2, .int (0 : Int32)), (0, .ref (w.1 12 47)), (1, .int x3)]) hx hb dX12_writeZones_42 rfl hl (by decide) rfl (fun ls hl => ?_)
          have hL43 : ∀ (n : Nat) (x14 : Int32) (M15 : Mem) (kk : Mem → Option (Int32 × Mem)) (H : Heap) (locs : List Loc) (ls : Array Slot), f_X12_writeZones_L43 x3 n x14 M15 kk = some (r, M9) → mI w s (mA w s.heap.size) H locs M15 → lv_has ls 3 [(0, .ref (w.1 12 47)), (1, .int x3), (2, .int x14)] → (∀  (M15 : Mem) (H : Heap) (locs : List Loc) (ls : Array Slot), kk M15 = some (r, M9) → mI w s (mA w s.heap.size) H locs M15 → lv_has ls 3 [(0, .ref (w.1 12 47)), (1, .int x3)] → W p l e rmX12_writeZones s m args below meth c H locs 0 0 (MQ below (mQ w s.heap.size (some (.int r)) M9) args s 0 0 (mA w s.heap.size)) (F0 m 91 ls [])) → W p l e rmX12_writeZones s m args below meth c H locs 0 0 (MQ below (mQ w s.heap.size (some (.int r)) M9) args s 0 0 (mA w s.heap.size)) (F0 m 43 ls []) := by
            intro n
            induction n with
            | zero => intro x14 M15 kk H locs ls hf hI hl hk; rw [f_X12_writeZones_L43.eq_1] at hf; cases hf
            | succ n ih43 =>
              intro x14 M15 kk H locs ls hf hI hl hk
              rw [f_X12_writeZones_L43.eq_2] at hf
              refine lv_iload_n hx hb dX12_writeZones_43 rfl (lv_at hl 2 rfl) ?_
              refine lv_aload_n hx hb dX12_writeZones_44 rfl (lv_at hl 0 rfl) ?_
              refine m_get (g := 12) (i := 47) (ci := 10) (k := 1) (v := .ref (w.1 12 48)) hx hb hI hown (mokX (by decide) (by decide)) rfl rfl (by decide) lyX12 (q1427 hI.T) rfl dX12_writeZones_45 ?_
              refine lv_bipush (v := 10) hx hb dX12_writeZones_48 (by decide) ?_
              obtain ⟨hi, hf⟩ := mix_e hf
              refine m_iald (g := 12) (i := 48) hx hb hI (mokX (by decide) (by decide)) rfl hi dX12_writeZones_50 ?_
              refine lv_icmp_ge (tgt := 91) hx hb dX12_writeZones_51 (by decide) (fun c16 => ?_) (fun c16 => ?_)
              · have hf := (if_pos c16).symm.trans hf
                exact hk M15 H _ _ hf hI (lv_sub hl [0, 1] rfl)
              · have hf := (if_neg c16).symm.trans hf
                refine lv_aload_n hx hb dX12_writeZones_54 rfl (lv_at hl 0 rfl) ?_
                refine lv_iload_n hx hb dX12_writeZones_55 rfl (lv_at hl 2 rfl) ?_
                refine lv_iconst (v := 0) hx hb dX12_writeZones_56 (by decide) ?_
                obtain ⟨r17, hc, hf⟩ := mbp_e hf
                refine m_callV (As := [.int x14, .int (0 : Int32)]) (rest := []) hx hb hml hown hI (c_X12_guard l w H.size x14 (0 : Int32) M15 _ hc) (kb_X12_guard hI.T (q1595 hI.T) (Nat.le_of_ble_eq_true rfl) (Nat.le_of_ble_eq_true rfl)) (q1597 hI.T) (sel_X12_guard hI.T) (m_recv (g := 12) (i := 47) hI (mokX (by decide) (by decide)) rfl rfl) rfl hl.1 (Nat.le_of_ble_eq_true rfl) dX12_writeZones_57 ⟨Nat.le_of_ble_eq_true rfl, Nat.le_of_ble_eq_true rfl⟩ (fun H locs hI => ?_)
                refine lv_iload_n hx hb dX12_writeZones_60 rfl (lv_at hl 1 rfl) ?_
                obtain ⟨k85_26, ek85_26, hf⟩ := mlet_e hf
                have hj85_26 : ∀ (M25 : Mem) (H : Heap) (locs : List Loc) (ls : Array Slot), k85_26 M25 = some (r, M9) → mI w s (mA w s.heap.size) H locs M25 → lv_has ls 3 [(0, .ref (w.1 12 47)), (1, .int x3), (2, .int x14)] → W p l e rmX12_writeZones s m args below meth c H locs 0 0 (MQ below (mQ w s.heap.size (some (.int r)) M9) args s 0 0 (mA w s.heap.size)) (F0 m 85 ls []) := by
                  intro M25 H locs ls hf hI hl
                  rw [ek85_26] at hf
                  try dsimp only at hf
                  obtain ⟨x27, ex27, hf⟩ := mlet_e hf
                  refine lv_iinc (v := x27) (lv' := [(2, .int x27), (0, .ref (w.1 12 47)), (1, .int x3)]) hx hb dX12_writeZones_85 hl (k := 2) rfl (by rw [ex27]; rfl) (by decide) rfl (fun ls hl => ?_)
                  refine lv_goto (tgt := 43) hx hb dX12_writeZones_88 (by decide) ?_
                  exact ih43 x27 M25 kk H _ _ hf hI (lv_sub hl [1, 2, 0] rfl) hk
                refine lv_icmp_ne (tgt := 85) hx hb dX12_writeZones_61 (by decide) (fun c18 => ?_) (fun c18 => ?_)
                · have hf := (if_neg c18).symm.trans hf
                  exact hj85_26 M15 H _ _ hf hI (lv_sub hl [0, 1, 2] rfl)
                · have hf := (if_pos c18).symm.trans hf
                  refine lv_aload_n hx hb dX12_writeZones_64 rfl (lv_at hl 0 rfl) ?_
                  refine lv_aload_n hx hb dX12_writeZones_65 rfl (lv_at hl 0 rfl) ?_
                  refine lv_iload_n hx hb dX12_writeZones_66 rfl (lv_at hl 2 rfl) ?_
                  refine lv_iconst (v := 1) hx hb dX12_writeZones_67 (by decide) ?_
                  obtain ⟨r19, hc, hf⟩ := mbp_e hf
                  refine m_callV (As := [.int x14, .int (1 : Int32)]) (rest := [.ref (w.1 12 47)]) hx hb hml hown hI (c_X12_guard l w H.size x14 (1 : Int32) M15 _ hc) (kb_X12_guard hI.T (q1595 hI.T) (Nat.le_of_ble_eq_true rfl) (Nat.le_of_ble_eq_true rfl)) (q1597 hI.T) (sel_X12_guard hI.T) (m_recv (g := 12) (i := 47) hI (mokX (by decide) (by decide)) rfl rfl) rfl hl.1 (Nat.le_of_ble_eq_true rfl) dX12_writeZones_68 ⟨Nat.le_of_ble_eq_true rfl, Nat.le_of_ble_eq_true rfl⟩ (fun H locs hI => ?_)
                  refine lv_iconst (v := 1) hx hb dX12_writeZones_71 (by decide) ?_
                  obtain ⟨k82_22, ek82_22, hf⟩ := mlet_e hf
                  have hj82_22 : ∀ (x21 : Int32) (H : Heap) (locs : List Loc) (ls : Array Slot), k82_22 x21 = some (r, M9) → mI w s (mA w s.heap.size) H locs M15 → lv_has ls 3 [(0, .ref (w.1 12 47)), (1, .int x3), (2, .int x14)] → W p l e rmX12_writeZones s m args below meth c H locs 0 0 (MQ below (mQ w s.heap.size (some (.int r)) M9) args s 0 0 (mA w s.heap.size)) (F0 m 82 ls [.int x21, .ref (w.1 12 47)]) := by
                    intro x21 H locs ls hf hI hl
                    rw [ek82_22] at hf
                    try dsimp only at hf
                    obtain ⟨r23, M24, hc, hf⟩ := mbnd_e hf
                    refine m_callV (As := [.int x21]) (rest := []) hx hb hml hown hI (c_X12_writes l w H.size x21 M15 _ _ hc) (kb_X12_writes hI.T (q1936 hI.T) (Nat.le_of_ble_eq_true rfl) (Nat.le_of_ble_eq_true rfl)) (q1938 hI.T) (sel_X12_writes hI.T) (m_recv (g := 12) (i := 47) hI (mokX (by decide) (by decide)) rfl rfl) rfl hl.1 (Nat.le_of_ble_eq_true rfl) dX12_writeZones_82 ⟨Nat.le_of_ble_eq_true rfl, Nat.le_of_ble_eq_true rfl⟩ (fun H locs hI => ?_)
                    exact hj85_26 M24 H _ _ hf hI (lv_sub hl [0, 1, 2] rfl)
                  refine lv_icmp_ne (tgt := 80) hx hb dX12_writeZones_72 (by decide) (fun c20 => ?_) (fun c20 => ?_)
                  · have hf := (if_neg c20).symm.trans hf
                    refine lv_bipush (v := 60) hx hb dX12_writeZones_80 (by decide) ?_
                    exact hj82_22 (60 : Int32) H _ _ hf hI (lv_sub hl [0, 1, 2] rfl)
                  · have hf := (if_pos c20).symm.trans hf
                    refine lv_bipush (v := 62) hx hb dX12_writeZones_75 (by decide) ?_
                    refine lv_goto (tgt := 82) hx hb dX12_writeZones_77 (by decide) ?_
                    exact hj82_22 (62 : Int32) H _ _ hf hI (lv_sub hl [0, 1, 2] rfl)
          refine hL43 1000 (0 : Int32) M13 _ _ _ _ hf hI (lv_sub hl [1, 2, 0] rfl) ?_
          intro M28 H locs ls hf hI hl
          try dsimp only at hf
          obtain ⟨x29, ex29, hf⟩ := mlet_e hf
          refine lv_iinc (v := x29) (lv' := [(1, .int x29), (0, .ref (w.1 12 47))]) hx hb dX12_writeZones_91 hl (k := 1) rfl (by rw [ex29]; rfl) (by decide) rfl (fun ls hl => ?_)
          refine lv_goto (tgt := 12) hx hb dX12_writeZones_94 (by decide) ?_
          exact ih12 x29 M28 kk H _ _ hf hI (lv_sub hl [1, 0] rfl) hk
        refine lv_if_le (tgt := 28) hx hb dX12_writeZones_19 (by decide) (fun c6 => ?_) (fun c6 => ?_)
        · have hf := (if_pos c6).symm.trans hf
          exact hj28_11 M4 H _ _ hf hI (lv_sub hl [0, 1] rfl)
        · have hf := (if_neg c6).symm.trans hf
          refine lv_aload_n hx hb dX12_writeZones_22 rfl (lv_at hl 0 rfl) ?_
          refine lv_bipush (v := 32) hx hb dX12_writeZones_23 (by decide) ?_
          obtain ⟨r7, M8, hc, hf⟩ := mbnd_e hf
          refine m_callV (As := [.int (32 : Int32)]) (rest := []) hx hb hml hown hI (c_X12_writes l w H.size (32 : Int32) M4 _ _ hc) (kb_X12_writes hI.T (q1936 hI.T) (Nat.le_of_ble_eq_true rfl) (Nat.le_of_ble_eq_true rfl)) (q1938 hI.T) (sel_X12_writes hI.T) (m_recv (g := 12) (i := 47) hI (mokX (by decide) (by decide)) rfl rfl) rfl hl.1 (Nat.le_of_ble_eq_true rfl) dX12_writeZones_25 ⟨Nat.le_of_ble_eq_true rfl, Nat.le_of_ble_eq_true rfl⟩ (fun H locs hI => ?_)
          exact hj28_11 M8 H _ _ hf hI (lv_sub hl [0, 1] rfl)
  refine hL12 1000 (0 : Int32) M2 _ _ _ _ hf hI (lv_sub hl [1, 0] rfl) ?_
  intro M30 H locs ls hf hI hl
  try dsimp only at hf
  refine lv_aload_n hx hb dX12_writeZones_97 rfl (lv_at hl 0 rfl) ?_
  refine m_get (g := 12) (i := 47) (ci := 10) (k := 13) (v := .int (M30 12 47 13)) hx hb hI hown (mokX (by decide) (by decide)) rfl rfl (by decide) lyX12 (q1439 hI.T) rfl dX12_writeZones_98 ?_
  exact m_iretf hx hb hr hlk hI hf dX12_writeZones_101
abbrev rmX12_writeLog : Room := { frames := 2, cells := 0, slots := 0, locals := 42 }
theorem kb_X12_writeLog {R : Room} {s : State} {args : Array Value} {own : String} {idx : Nat} (hT : mT s) (hlink : (Cond.methodLink own idx yX12_writeLog).before args s = true) (h1 : rmX12_writeLog.frames + 1 ≤ R.frames) (h2 : 8 + (2 + 11) + rmX12_writeLog.locals ≤ R.locals) : CallB R s args own idx yX12_writeLog cX12_writeLog 2 (some .int) [Cond.code yX12_writeLog cX12_writeLog 2 (some .int)] rmX12_writeLog 0 0 0 := m_callB hT kc_X12_writeLog ki_X12_writeLog hlink (by decide +kernel) ⟨rfl, rfl, h1, h2⟩
set_option maxHeartbeats 4000000 in
set_option maxRecDepth 100000 in
theorem c_X12_writeLog (l : Launch) (w : WD) (sz : Nat)  (M : Mem) (r : Int32) (M9 : Mem) (hf : f_X12_writeLog  M = some (r, M9)) : mMet l yX12_writeLog cX12_writeLog 2 (some .int) rmX12_writeLog w sz M [.ref (w.1 12 47)] (some (.int r)) M9 := by
  refine m_of (by decide) (Nat.le_of_ble_eq_true rfl) ?_
  intro p e s m args below meth c hx hb hr hml hown hlk hI ls hl
  have hl : lv_has ls 2 [(0, .ref (w.1 12 47))] := hl
  unfold f_X12_writeLog at hf
  refine lv_aload_n hx hb dX12_writeLog_0 rfl (lv_at hl 0 rfl) ?_
  refine lv_iconst (v := 0) hx hb dX12_writeLog_1 (by decide) ?_
  obtain ⟨M1, eM1, hf⟩ := mlet_e hf
  refine m_put (g := 12) (i := 47) (ci := 10) (k := 0) (ty := .int) (M1 := M1) hx hb hI hown (mokX (by decide) (by decide)) rfl rfl (by decide) lyX12 tyX12 tyX12_ok nmX12 (q1426 hI.T) rfl rfl rfl rfl (Nat.le_of_ble_eq_true rfl) rfl eM1 dX12_writeLog_2 (fun H locs hI => ?_)
  refine lv_aload_n hx hb dX12_writeLog_5 rfl (lv_at hl 0 rfl) ?_
  refine lv_iconst (v := 0) hx hb dX12_writeLog_6 (by decide) ?_
  obtain ⟨M2, eM2, hf⟩ := mlet_e hf
  refine m_put (g := 12) (i := 47) (ci := 10) (k := 13) (ty := .int) (M1 := M2) hx hb hI hown (mokX (by decide) (by decide)) rfl rfl (by decide) lyX12 tyX12 tyX12_ok nmX12 (q1439 hI.T) rfl rfl rfl rfl (Nat.le_of_ble_eq_true rfl) rfl eM2 dX12_writeLog_7 (fun H locs hI => ?_)
  refine lv_iconst (v := 0) hx hb dX12_writeLog_10 (by decide) ?_
  refine lv_istore_n (lv' := [(1, .int (0 : Int32)), (0, .ref (w.1 12 47))]) hx hb dX12_writeLog_11 rfl hl (by decide) rfl (fun ls hl => ?_)
  have hL12 : ∀ (n : Nat) (x3 : Int32) (M4 : Mem) (kk : Mem → Option (Int32 × Mem)) (H : Heap) (locs : List Loc) (ls : Array Slot), f_X12_writeLog_L12 n x3 M4 kk = some (r, M9) → mI w s (mA w s.heap.size) H locs M4 → lv_has ls 2 [(0, .ref (w.1 12 47)), (1, .int x3)] → (∀  (M4 : Mem) (H : Heap) (locs : List Loc) (ls : Array Slot), kk M4 = some (r, M9) → mI w s (mA w s.heap.size) H locs M4 → lv_has ls 2 [(0, .ref (w.1 12 47))] → W p l e rmX12_writeLog s m args below meth c H locs 0 0 (MQ below (mQ w s.heap.size (some (.int r)) M9) args s 0 0 (mA w s.heap.size)) (F0 m 88 ls [])) → W p l e rmX12_writeLog s m args below meth c H locs 0 0 (MQ below (mQ w s.heap.size (some (.int r)) M9) args s 0 0 (mA w s.heap.size)) (F0 m 12 ls []) := by
    intro n
    induction n with
    | zero => intro x3 M4 kk H locs ls hf hI hl hk; rw [f_X12_writeLog_L12.eq_1] at hf; cases hf
    | succ n ih12 =>
      intro x3 M4 kk H locs ls hf hI hl hk
      rw [f_X12_writeLog_L12.eq_2] at hf
      refine lv_iload_n hx hb dX12_writeLog_12 rfl (lv_at hl 1 rfl) ?_
      refine lv_aload_n hx hb dX12_writeLog_13 rfl (lv_at hl 0 rfl) ?_
      refine m_get (g := 12) (i := 47) (ci := 10) (k := 1) (v := .ref (w.1 12 48)) hx hb hI hown (mokX (by decide) (by decide)) rfl rfl (by decide) lyX12 (q1427 hI.T) rfl dX12_writeLog_14 ?_
      refine lv_bipush (v := 14) hx hb dX12_writeLog_17 (by decide) ?_
      obtain ⟨hi, hf⟩ := mix_e hf
      refine m_iald (g := 12) (i := 48) hx hb hI (mokX (by decide) (by decide)) rfl hi dX12_writeLog_19 ?_
      refine lv_icmp_ge (tgt := 88) hx hb dX12_writeLog_20 (by decide) (fun c5 => ?_) (fun c5 => ?_)
      · have hf := (if_pos c5).symm.trans hf
        exact hk M4 H _ _ hf hI (lv_sub hl [0] rfl)
      · have hf := (if_neg c5).symm.trans hf
        refine lv_iload_n hx hb dX12_writeLog_23 rfl (lv_at hl 1 rfl) ?_
        obtain ⟨k33_11, ek33_11, hf⟩ := mlet_e hf
        have hj33_11 : ∀ (M10 : Mem) (H : Heap) (locs : List Loc) (ls : Array Slot), k33_11 M10 = some (r, M9) → mI w s (mA w s.heap.size) H locs M10 → lv_has ls 2 [(0, .ref (w.1 12 47)), (1, .int x3)] → W p l e rmX12_writeLog s m args below meth c H locs 0 0 (MQ below (mQ w s.heap.size (some (.int r)) M9) args s 0 0 (mA w s.heap.size)) (F0 m 33 ls []) := by
          intro M10 H locs ls hf hI hl
          rw [ek33_11] at hf
          try dsimp only at hf
          refine lv_aload_n hx hb dX12_writeLog_33 rfl (lv_at hl 0 rfl) ?_
          refine lv_aload_n hx hb dX12_writeLog_34 rfl (lv_at hl 0 rfl) ?_
          refine m_get (g := 12) (i := 47) (ci := 10) (k := 1) (v := .ref (w.1 12 48)) hx hb hI hown (mokX (by decide) (by decide)) rfl rfl (by decide) lyX12 (q1427 hI.T) rfl dX12_writeLog_35 ?_
          refine lv_bipush (v := 56) hx hb dX12_writeLog_38 (by decide) ?_
          refine lv_iconst (v := 3) hx hb dX12_writeLog_40 (by decide) ?_
          refine lv_iload_n hx hb dX12_writeLog_41 rfl (lv_at hl 1 rfl) ?_
          refine lv_imul hx hb dX12_writeLog_42 ?_
          refine lv_iadd hx hb dX12_writeLog_43 ?_
          obtain ⟨hi, hf⟩ := mix_e hf
          refine m_iald (g := 12) (i := 48) hx hb hI (mokX (by decide) (by decide)) rfl hi dX12_writeLog_44 ?_
          obtain ⟨r12, M13, hc, hf⟩ := mbnd_e hf
          refine m_callV (As := [.int (M10 12 48 ((56 : Int32) + ((3 : Int32) * x3)).toNatClampNeg)]) (rest := []) hx hb hml hown hI (c_X12_writesNumber l w H.size (M10 12 48 ((56 : Int32) + ((3 : Int32) * x3)).toNatClampNeg) M10 _ _ hc) (kb_X12_writesNumber hI.T (q1940 hI.T) (Nat.le_of_ble_eq_true rfl) (Nat.le_of_ble_eq_true rfl)) (q1942 hI.T) (sel_X12_writesNumber hI.T) (m_recv (g := 12) (i := 47) hI (mokX (by decide) (by decide)) rfl rfl) rfl hl.1 (Nat.le_of_ble_eq_true rfl) dX12_writeLog_45 ⟨Nat.le_of_ble_eq_true rfl, Nat.le_of_ble_eq_true rfl⟩ (fun H locs hI => ?_)
          refine lv_aload_n hx hb dX12_writeLog_48 rfl (lv_at hl 0 rfl) ?_
          refine lv_aload_n hx hb dX12_writeLog_49 rfl (lv_at hl 0 rfl) ?_
          refine m_get (g := 12) (i := 47) (ci := 10) (k := 1) (v := .ref (w.1 12 48)) hx hb hI hown (mokX (by decide) (by decide)) rfl rfl (by decide) lyX12 (q1427 hI.T) rfl dX12_writeLog_50 ?_
          refine lv_bipush (v := 56) hx hb dX12_writeLog_53 (by decide) ?_
          refine lv_iconst (v := 3) hx hb dX12_writeLog_55 (by decide) ?_
          refine lv_iload_n hx hb dX12_writeLog_56 rfl (lv_at hl 1 rfl) ?_
          refine lv_imul hx hb dX12_writeLog_57 ?_
          refine lv_iadd hx hb dX12_writeLog_58 ?_
          refine lv_iconst (v := 1) hx hb dX12_writeLog_59 (by decide) ?_
          refine lv_iadd hx hb dX12_writeLog_60 ?_
          obtain ⟨hi, hf⟩ := mix_e hf
          refine m_iald (g := 12) (i := 48) hx hb hI (mokX (by decide) (by decide)) rfl hi dX12_writeLog_61 ?_
          obtain ⟨r14, M15, hc, hf⟩ := mbnd_e hf
          refine m_callV (As := [.int (M13 12 48 (((56 : Int32) + ((3 : Int32) * x3)) + (1 : Int32)).toNatClampNeg)]) (rest := []) hx hb hml hown hI (c_X12_writes l w H.size (M13 12 48 (((56 : Int32) + ((3 : Int32) * x3)) + (1 : Int32)).toNatClampNeg) M13 _ _ hc) (kb_X12_writes hI.T (q1936 hI.T) (Nat.le_of_ble_eq_true rfl) (Nat.le_of_ble_eq_true rfl)) (q1938 hI.T) (sel_X12_writes hI.T) (m_recv (g := 12) (i := 47) hI (mokX (by decide) (by decide)) rfl rfl) rfl hl.1 (Nat.le_of_ble_eq_true rfl) dX12_writeLog_62 ⟨Nat.le_of_ble_eq_true rfl, Nat.le_of_ble_eq_true rfl⟩ (fun H locs hI => ?_)
          refine lv_aload_n hx hb dX12_writeLog_65 rfl (lv_at hl 0 rfl) ?_
          refine lv_aload_n hx hb dX12_writeLog_66 rfl (lv_at hl 0 rfl) ?_
          refine m_get (g := 12) (i := 47) (ci := 10) (k := 1) (v := .ref (w.1 12 48)) hx hb hI hown (mokX (by decide) (by decide)) rfl rfl (by decide) lyX12 (q1427 hI.T) rfl dX12_writeLog_67 ?_
          refine lv_bipush (v := 56) hx hb dX12_writeLog_70 (by decide) ?_
          refine lv_iconst (v := 3) hx hb dX12_writeLog_72 (by decide) ?_
          refine lv_iload_n hx hb dX12_writeLog_73 rfl (lv_at hl 1 rfl) ?_
          refine lv_imul hx hb dX12_writeLog_74 ?_
          refine lv_iadd hx hb dX12_writeLog_75 ?_
          refine lv_iconst (v := 2) hx hb dX12_writeLog_76 (by decide) ?_
          refine lv_iadd hx hb dX12_writeLog_77 ?_
          obtain ⟨hi, hf⟩ := mix_e hf
          refine m_iald (g := 12) (i := 48) hx hb hI (mokX (by decide) (by decide)) rfl hi dX12_writeLog_78 ?_
          obtain ⟨r16, M17, hc, hf⟩ := mbnd_e hf
          refine m_callV (As := [.int (M15 12 48 (((56 : Int32) + ((3 : Int32) * x3)) + (2 : Int32)).toNatClampNeg)]) (rest := []) hx hb hml hown hI (c_X12_writesNumber l w H.size (M15 12 48 (((56 : Int32) + ((3 : Int32) * x3)) + (2 : Int32)).toNatClampNeg) M15 _ _ hc) (kb_X12_writesNumber hI.T (q1940 hI.T) (Nat.le_of_ble_eq_true rfl) (Nat.le_of_ble_eq_true rfl)) (q1942 hI.T) (sel_X12_writesNumber hI.T) (m_recv (g := 12) (i := 47) hI (mokX (by decide) (by decide)) rfl rfl) rfl hl.1 (Nat.le_of_ble_eq_true rfl) dX12_writeLog_79 ⟨Nat.le_of_ble_eq_true rfl, Nat.le_of_ble_eq_true rfl⟩ (fun H locs hI => ?_)
          obtain ⟨x18, ex18, hf⟩ := mlet_e hf
          refine lv_iinc (v := x18) (lv' := [(1, .int x18), (0, .ref (w.1 12 47))]) hx hb dX12_writeLog_82 hl (k := 1) rfl (by rw [ex18]; rfl) (by decide) rfl (fun ls hl => ?_)
          refine lv_goto (tgt := 12) hx hb dX12_writeLog_85 (by decide) ?_
          exact ih12 x18 M17 kk H _ _ hf hI (lv_sub hl [1, 0] rfl) hk
        refine lv_if_le (tgt := 33) hx hb dX12_writeLog_24 (by decide) (fun c6 => ?_) (fun c6 => ?_)
        · have hf := (if_pos c6).symm.trans hf
          exact hj33_11 M4 H _ _ hf hI (lv_sub hl [0, 1] rfl)
        · have hf := (if_neg c6).symm.trans hf
          refine lv_aload_n hx hb dX12_writeLog_27 rfl (lv_at hl 0 rfl) ?_
          refine lv_bipush (v := 32) hx hb dX12_writeLog_28 (by decide) ?_
          obtain ⟨r7, M8, hc, hf⟩ := mbnd_e hf
          refine m_callV (As := [.int (32 : Int32)]) (rest := []) hx hb hml hown hI (c_X12_writes l w H.size (32 : Int32) M4 _ _ hc) (kb_X12_writes hI.T (q1936 hI.T) (Nat.le_of_ble_eq_true rfl) (Nat.le_of_ble_eq_true rfl)) (q1938 hI.T) (sel_X12_writes hI.T) (m_recv (g := 12) (i := 47) hI (mokX (by decide) (by decide)) rfl rfl) rfl hl.1 (Nat.le_of_ble_eq_true rfl) dX12_writeLog_30 ⟨Nat.le_of_ble_eq_true rfl, Nat.le_of_ble_eq_true rfl⟩ (fun H locs hI => ?_)
          exact hj33_11 M8 H _ _ hf hI (lv_sub hl [0, 1] rfl)
  refine hL12 1000 (0 : Int32) M2 _ _ _ _ hf hI (lv_sub hl [1, 0] rfl) ?_
  intro M19 H locs ls hf hI hl
  try dsimp only at hf
  refine lv_aload_n hx hb dX12_writeLog_88 rfl (lv_at hl 0 rfl) ?_
  refine m_get (g := 12) (i := 47) (ci := 10) (k := 13) (v := .int (M19 12 47 13)) hx hb hI hown (mokX (by decide) (by decide)) rfl rfl (by decide) lyX12 (q1439 hI.T) rfl dX12_writeLog_89 ?_
  exact m_iretf hx hb hr hlk hI hf dX12_writeLog_92
abbrev rmX12_outputChar : Room := { frames := 1, cells := 0, slots := 0, locals := 22 }
theorem kb_X12_outputChar {R : Room} {s : State} {args : Array Value} {own : String} {idx : Nat} (hT : mT s) (hlink : (Cond.methodLink own idx yX12_outputChar).before args s = true) (h1 : rmX12_outputChar.frames + 1 ≤ R.frames) (h2 : 8 + (2 + 11) + rmX12_outputChar.locals ≤ R.locals) : CallB R s args own idx yX12_outputChar cX12_outputChar 2 (some .char) [Cond.code yX12_outputChar cX12_outputChar 2 (some .char)] rmX12_outputChar 0 0 1 := m_callB hT kc_X12_outputChar ki_X12_outputChar hlink (by decide +kernel) ⟨rfl, rfl, h1, h2⟩
set_option maxHeartbeats 4000000 in
set_option maxRecDepth 100000 in
theorem c_X12_outputChar (l : Launch) (w : WD) (sz : Nat) (a1 : Int32) (M : Mem) (r : Int32) (M9 : Mem) (hf : f_X12_outputChar a1 M = some (r, M9)) : mMet l yX12_outputChar cX12_outputChar 2 (some .char) rmX12_outputChar w sz M [.ref (w.1 12 47), .int a1] (some (.int r)) M9 := by
  refine m_of (by decide) (Nat.le_of_ble_eq_true rfl) ?_
  intro p e s m args below meth c hx hb hr hml hown hlk hI ls hl
  have hl : lv_has ls 2 [(0, .ref (w.1 12 47)), (1, .int a1)] := hl
  unfold f_X12_outputChar at hf
  refine lv_aload_n hx hb dX12_outputChar_0 rfl (lv_at hl 0 rfl) ?_
  refine lv_iload_n hx hb dX12_outputChar_1 rfl (lv_at hl 1 rfl) ?_
  refine lv_iconst (v := 0) hx hb dX12_outputChar_2 (by decide) ?_
  refine lv_aload_n hx hb dX12_outputChar_3 rfl (lv_at hl 0 rfl) ?_
  refine m_get (g := 12) (i := 47) (ci := 10) (k := 13) (v := .int (M 12 47 13)) hx hb hI hown (mokX (by decide) (by decide)) rfl rfl (by decide) lyX12 (q1439 hI.T) rfl dX12_outputChar_4 ?_
  refine lv_iconst (v := 1) hx hb dX12_outputChar_7 (by decide) ?_
  refine lv_isub hx hb dX12_outputChar_8 ?_
  obtain ⟨r1, hc, hf⟩ := mbp_e hf
  refine m_callS (As := [.int a1, .int (0 : Int32), .int ((M 12 47 13) - (1 : Int32))]) (rest := [.ref (w.1 12 47)]) hx hb hml hown hI (c_X12_in l w s.heap.size a1 (0 : Int32) ((M 12 47 13) - (1 : Int32)) M _ hc) (kb_X12_in hI.T (q1544 hI.T) (Nat.le_of_ble_eq_true rfl) (Nat.le_of_ble_eq_true rfl)) (q1545 hI.T) rfl hl.1 (Nat.le_of_ble_eq_true rfl) dX12_outputChar_9 ⟨Nat.le_of_ble_eq_true rfl, Nat.le_of_ble_eq_true rfl⟩ (fun H locs hI => ?_)
  obtain ⟨k20_4, ek20_4, hf⟩ := mlet_e hf
  have hj20_4 : ∀ (x3 : Int32) (H : Heap) (locs : List Loc) (ls : Array Slot), k20_4 x3 = some (r, M9) → mI w s (mA w s.heap.size) H locs M → lv_has ls 2 [(0, .ref (w.1 12 47)), (1, .int a1)] → W p l e rmX12_outputChar s m args below meth c H locs 0 0 (MQ below (mQ w s.heap.size (some (.int r)) M9) args s 0 0 (mA w s.heap.size)) (F0 m 20 ls [.int x3, .ref (w.1 12 47)]) := by
    intro x3 H locs ls hf hI hl
    rw [ek20_4] at hf
    try dsimp only at hf
    obtain ⟨M5, eM5, hf⟩ := mlet_e hf
    refine m_put (g := 12) (i := 47) (ci := 10) (k := 0) (ty := .int) (M1 := M5) hx hb hI hown (mokX (by decide) (by decide)) rfl rfl (by decide) lyX12 tyX12 tyX12_ok nmX12 (q1426 hI.T) rfl rfl rfl rfl (Nat.le_of_ble_eq_true rfl) rfl eM5 dX12_outputChar_20 (fun H locs hI => ?_)
    refine lv_aload_n hx hb dX12_outputChar_23 rfl (lv_at hl 0 rfl) ?_
    refine m_get (g := 12) (i := 47) (ci := 10) (k := 0) (v := .int (M5 12 47 0)) hx hb hI hown (mokX (by decide) (by decide)) rfl rfl (by decide) lyX12 (q1426 hI.T) rfl dX12_outputChar_24 ?_
    refine lv_if_le (tgt := 34) hx hb dX12_outputChar_27 (by decide) (fun c6 => ?_) (fun c6 => ?_)
    · have hf := (if_pos c6).symm.trans hf
      refine lv_aload_n hx hb dX12_outputChar_34 rfl (lv_at hl 0 rfl) ?_
      refine m_get (g := 12) (i := 47) (ci := 10) (k := 10) (v := .ref (w.1 12 55)) hx hb hI hown (mokX (by decide) (by decide)) rfl rfl (by decide) lyX12 (q1436 hI.T) rfl dX12_outputChar_35 ?_
      refine lv_iload_n hx hb dX12_outputChar_38 rfl (lv_at hl 1 rfl) ?_
      obtain ⟨hi, hf⟩ := mix_e hf
      refine m_iald (g := 12) (i := 55) hx hb hI (mokX (by decide) (by decide)) rfl hi dX12_outputChar_39 ?_
      refine lv_i2c hx hb dX12_outputChar_40 rfl ?_
      obtain ⟨hz, hf⟩ := mnc_e hf
      exact m_zretf hx hb hr hlk hI hz hf dX12_outputChar_41
    · have hf := (if_neg c6).symm.trans hf
      refine lv_iconst (v := 0) hx hb dX12_outputChar_30 (by decide) ?_
      refine lv_goto (tgt := 41) hx hb dX12_outputChar_31 (by decide) ?_
      obtain ⟨hz, hf⟩ := mnc_e hf
      exact m_zretf hx hb hr hlk hI hz hf dX12_outputChar_41
  refine lv_if_eq (tgt := 19) hx hb dX12_outputChar_12 (by decide) (fun c2 => ?_) (fun c2 => ?_)
  · have hf := (if_pos c2).symm.trans hf
    refine lv_iconst (v := 1) hx hb dX12_outputChar_19 (by decide) ?_
    exact hj20_4 (1 : Int32) H _ _ hf hI (lv_sub hl [0, 1] rfl)
  · have hf := (if_neg c2).symm.trans hf
    refine lv_iconst (v := 0) hx hb dX12_outputChar_15 (by decide) ?_
    refine lv_goto (tgt := 20) hx hb dX12_outputChar_16 (by decide) ?_
    exact hj20_4 (0 : Int32) H _ _ hf hI (lv_sub hl [0, 1] rfl)
abbrev rmX12_undoCount : Room := { frames := 0, cells := 0, slots := 0, locals := 0 }
theorem kb_X12_undoCount {R : Room} {s : State} {args : Array Value} {own : String} {idx : Nat} (hT : mT s) (hlink : (Cond.methodLink own idx yX12_undoCount).before args s = true) (h1 : rmX12_undoCount.frames + 1 ≤ R.frames) (h2 : 8 + (1 + 11) + rmX12_undoCount.locals ≤ R.locals) : CallB R s args own idx yX12_undoCount cX12_undoCount 1 (some .int) [Cond.code yX12_undoCount cX12_undoCount 1 (some .int)] rmX12_undoCount 0 0 0 := m_callB hT kc_X12_undoCount ki_X12_undoCount hlink (by decide +kernel) ⟨rfl, rfl, h1, h2⟩
set_option maxHeartbeats 4000000 in
set_option maxRecDepth 100000 in
theorem c_X12_undoCount (l : Launch) (w : WD) (sz : Nat)  (M : Mem) (r : Int32) (M9 : Mem) (hf : f_X12_undoCount  M = some (r, M9)) : mMet l yX12_undoCount cX12_undoCount 1 (some .int) rmX12_undoCount w sz M [.ref (w.1 12 47)] (some (.int r)) M9 := by
  refine m_of (by decide) (Nat.le_of_ble_eq_true rfl) ?_
  intro p e s m args below meth c hx hb hr hml hown hlk hI ls hl
  have hl : lv_has ls 1 [(0, .ref (w.1 12 47))] := hl
  unfold f_X12_undoCount at hf
  refine lv_aload_n hx hb dX12_undoCount_0 rfl (lv_at hl 0 rfl) ?_
  refine lv_iconst (v := 0) hx hb dX12_undoCount_1 (by decide) ?_
  obtain ⟨M1, eM1, hf⟩ := mlet_e hf
  refine m_put (g := 12) (i := 47) (ci := 10) (k := 0) (ty := .int) (M1 := M1) hx hb hI hown (mokX (by decide) (by decide)) rfl rfl (by decide) lyX12 tyX12 tyX12_ok nmX12 (q1426 hI.T) rfl rfl rfl rfl (Nat.le_of_ble_eq_true rfl) rfl eM1 dX12_undoCount_2 (fun H locs hI => ?_)
  refine lv_aload_n hx hb dX12_undoCount_5 rfl (lv_at hl 0 rfl) ?_
  refine m_get (g := 12) (i := 47) (ci := 10) (k := 6) (v := .int (M1 12 47 6)) hx hb hI hown (mokX (by decide) (by decide)) rfl rfl (by decide) lyX12 (q1432 hI.T) rfl dX12_undoCount_6 ?_
  exact m_iretf hx hb hr hlk hI hf dX12_undoCount_9
abbrev rmX12_undo : Room := { frames := 1, cells := 0, slots := 0, locals := 21 }
theorem kb_X12_undo {R : Room} {s : State} {args : Array Value} {own : String} {idx : Nat} (hT : mT s) (hlink : (Cond.methodLink own idx yX12_undo).before args s = true) (h1 : rmX12_undo.frames + 1 ≤ R.frames) (h2 : 8 + (2 + 11) + rmX12_undo.locals ≤ R.locals) : CallB R s args own idx yX12_undo cX12_undo 2 (some .int) [Cond.code yX12_undo cX12_undo 2 (some .int)] rmX12_undo 0 0 0 := m_callB hT kc_X12_undo ki_X12_undo hlink (by decide +kernel) ⟨rfl, rfl, h1, h2⟩
set_option maxHeartbeats 4000000 in
set_option maxRecDepth 100000 in
theorem c_X12_undo (l : Launch) (w : WD) (sz : Nat)  (M : Mem) (r : Int32) (M9 : Mem) (hf : f_X12_undo  M = some (r, M9)) : mMet l yX12_undo cX12_undo 2 (some .int) rmX12_undo w sz M [.ref (w.1 12 47)] (some (.int r)) M9 := by
  refine m_of (by decide) (Nat.le_of_ble_eq_true rfl) ?_
  intro p e s m args below meth c hx hb hr hml hown hlk hI ls hl
  have hl : lv_has ls 2 [(0, .ref (w.1 12 47))] := hl
  unfold f_X12_undo at hf
  refine lv_aload_n hx hb dX12_undo_0 rfl (lv_at hl 0 rfl) ?_
  refine lv_iconst (v := 0) hx hb dX12_undo_1 (by decide) ?_
  obtain ⟨M1, eM1, hf⟩ := mlet_e hf
  refine m_put (g := 12) (i := 47) (ci := 10) (k := 0) (ty := .int) (M1 := M1) hx hb hI hown (mokX (by decide) (by decide)) rfl rfl (by decide) lyX12 tyX12 tyX12_ok nmX12 (q1426 hI.T) rfl rfl rfl rfl (Nat.le_of_ble_eq_true rfl) rfl eM1 dX12_undo_2 (fun H locs hI => ?_)
  refine lv_aload_n hx hb dX12_undo_5 rfl (lv_at hl 0 rfl) ?_
  refine m_get (g := 12) (i := 47) (ci := 10) (k := 6) (v := .int (M1 12 47 6)) hx hb hI hown (mokX (by decide) (by decide)) rfl rfl (by decide) lyX12 (q1432 hI.T) rfl dX12_undo_6 ?_
  refine lv_if_ne (tgt := 18) hx hb dX12_undo_9 (by decide) (fun c2 => ?_) (fun c2 => ?_)
  · have hf := (if_neg c2).symm.trans hf
    refine lv_aload_n hx hb dX12_undo_18 rfl (lv_at hl 0 rfl) ?_
    refine lv_dup hx hb dX12_undo_19 rfl ?_
    refine m_get (g := 12) (i := 47) (ci := 10) (k := 6) (v := .int (M1 12 47 6)) hx hb hI hown (mokX (by decide) (by decide)) rfl rfl (by decide) lyX12 (q1432 hI.T) rfl dX12_undo_20 ?_
    refine lv_iconst (v := 1) hx hb dX12_undo_23 (by decide) ?_
    refine lv_isub hx hb dX12_undo_24 ?_
    obtain ⟨M3, eM3, hf⟩ := mlet_e hf
    refine m_put (g := 12) (i := 47) (ci := 10) (k := 6) (ty := .int) (M1 := M3) hx hb hI hown (mokX (by decide) (by decide)) rfl rfl (by decide) lyX12 tyX12 tyX12_ok nmX12 (q1432 hI.T) rfl rfl rfl rfl (Nat.le_of_ble_eq_true rfl) rfl eM3 dX12_undo_25 (fun H locs hI => ?_)
    refine lv_iconst (v := 0) hx hb dX12_undo_28 (by decide) ?_
    refine lv_istore_n (lv' := [(1, .int (0 : Int32)), (0, .ref (w.1 12 47))]) hx hb dX12_undo_29 rfl hl (by decide) rfl (fun ls hl => ?_)
    have hL30 : ∀ (n : Nat) (x4 : Int32) (M5 : Mem) (kk : Mem → Option (Int32 × Mem)) (H : Heap) (locs : List Loc) (ls : Array Slot), f_X12_undo_L30 n x4 M5 kk = some (r, M9) → mI w s (mA w s.heap.size) H locs M5 → lv_has ls 2 [(0, .ref (w.1 12 47)), (1, .int x4)] → (∀  (M5 : Mem) (H : Heap) (locs : List Loc) (ls : Array Slot), kk M5 = some (r, M9) → mI w s (mA w s.heap.size) H locs M5 → lv_has ls 2 [(0, .ref (w.1 12 47))] → W p l e rmX12_undo s m args below meth c H locs 0 0 (MQ below (mQ w s.heap.size (some (.int r)) M9) args s 0 0 (mA w s.heap.size)) (F0 m 62 ls [])) → W p l e rmX12_undo s m args below meth c H locs 0 0 (MQ below (mQ w s.heap.size (some (.int r)) M9) args s 0 0 (mA w s.heap.size)) (F0 m 30 ls []) := by
      intro n
      induction n with
      | zero => intro x4 M5 kk H locs ls hf hI hl hk; rw [f_X12_undo_L30.eq_1] at hf; cases hf
      | succ n ih30 =>
        intro x4 M5 kk H locs ls hf hI hl hk
        rw [f_X12_undo_L30.eq_2] at hf
        refine lv_iload_n hx hb dX12_undo_30 rfl (lv_at hl 1 rfl) ?_
        refine lv_bipush (v := 92) hx hb dX12_undo_31 (by decide) ?_
        refine lv_icmp_ge (tgt := 62) hx hb dX12_undo_33 (by decide) (fun c6 => ?_) (fun c6 => ?_)
        · have hf := (if_pos c6).symm.trans hf
          exact hk M5 H _ _ hf hI (lv_sub hl [0] rfl)
        · have hf := (if_neg c6).symm.trans hf
          refine lv_aload_n hx hb dX12_undo_36 rfl (lv_at hl 0 rfl) ?_
          refine m_get (g := 12) (i := 47) (ci := 10) (k := 1) (v := .ref (w.1 12 48)) hx hb hI hown (mokX (by decide) (by decide)) rfl rfl (by decide) lyX12 (q1427 hI.T) rfl dX12_undo_37 ?_
          refine lv_iload_n hx hb dX12_undo_40 rfl (lv_at hl 1 rfl) ?_
          refine lv_aload_n hx hb dX12_undo_41 rfl (lv_at hl 0 rfl) ?_
          refine m_get (g := 12) (i := 47) (ci := 10) (k := 4) (v := .ref (w.1 12 51)) hx hb hI hown (mokX (by decide) (by decide)) rfl rfl (by decide) lyX12 (q1430 hI.T) rfl dX12_undo_42 ?_
          refine lv_bipush (v := 92) hx hb dX12_undo_45 (by decide) ?_
          refine lv_aload_n hx hb dX12_undo_47 rfl (lv_at hl 0 rfl) ?_
          refine m_get (g := 12) (i := 47) (ci := 10) (k := 6) (v := .int (M5 12 47 6)) hx hb hI hown (mokX (by decide) (by decide)) rfl rfl (by decide) lyX12 (q1432 hI.T) rfl dX12_undo_48 ?_
          refine lv_imul hx hb dX12_undo_51 ?_
          refine lv_iload_n hx hb dX12_undo_52 rfl (lv_at hl 1 rfl) ?_
          refine lv_iadd hx hb dX12_undo_53 ?_
          obtain ⟨hi, hf⟩ := mix_e hf
          refine m_iald (g := 12) (i := 51) hx hb hI (mokX (by decide) (by decide)) rfl hi dX12_undo_54 ?_
          obtain ⟨hi, hf⟩ := mix_e hf
          obtain ⟨M7, eM7, hf⟩ := mlet_e hf
          refine m_iast (g := 12) (i := 48) (M1 := M7) hx hb hI (mokX (by decide) (by decide)) rfl hi eM7 dX12_undo_55 (fun H locs hI => ?_)
          obtain ⟨x8, ex8, hf⟩ := mlet_e hf
          refine lv_iinc (v := x8) (lv' := [(1, .int x8), (0, .ref (w.1 12 47))]) hx hb dX12_undo_56 hl (k := 1) rfl (by rw [ex8]; rfl) (by decide) rfl (fun ls hl => ?_)
          refine lv_goto (tgt := 30) hx hb dX12_undo_59 (by decide) ?_
          exact ih30 x8 M7 kk H _ _ hf hI (lv_sub hl [1, 0] rfl) hk
    refine hL30 1000 (0 : Int32) M3 _ _ _ _ hf hI (lv_sub hl [1, 0] rfl) ?_
    intro M10 H locs ls hf hI hl
    try dsimp only at hf
    refine lv_aload_n hx hb dX12_undo_62 rfl (lv_at hl 0 rfl) ?_
    refine m_get (g := 12) (i := 47) (ci := 10) (k := 6) (v := .int (M10 12 47 6)) hx hb hI hown (mokX (by decide) (by decide)) rfl rfl (by decide) lyX12 (q1432 hI.T) rfl dX12_undo_63 ?_
    exact m_iretf hx hb hr hlk hI hf dX12_undo_66
  · have hf := (if_pos c2).symm.trans hf
    refine lv_aload_n hx hb dX12_undo_12 rfl (lv_at hl 0 rfl) ?_
    refine lv_iconst (v := 1) hx hb dX12_undo_13 (by decide) ?_
    obtain ⟨r11, M12, hc, hf⟩ := mbnd_e hf
    refine m_callV (As := [.int (1 : Int32)]) (rest := []) hx hb hml hown hI (c_X12_fails l w H.size (1 : Int32) M1 _ _ hc) (kb_X12_fails hI.T (q1532 hI.T) (Nat.le_of_ble_eq_true rfl) (Nat.le_of_ble_eq_true rfl)) (q1534 hI.T) (sel_X12_fails hI.T) (m_recv (g := 12) (i := 47) hI (mokX (by decide) (by decide)) rfl rfl) rfl hl.1 (Nat.le_of_ble_eq_true rfl) dX12_undo_14 ⟨Nat.le_of_ble_eq_true rfl, Nat.le_of_ble_eq_true rfl⟩ (fun H locs hI => ?_)
    exact m_iretf hx hb hr hlk hI hf dX12_undo_17
abbrev rmX12_save : Room := { frames := 0, cells := 0, slots := 0, locals := 0 }
theorem kb_X12_save {R : Room} {s : State} {args : Array Value} {own : String} {idx : Nat} (hT : mT s) (hlink : (Cond.methodLink own idx yX12_save).before args s = true) (h1 : rmX12_save.frames + 1 ≤ R.frames) (h2 : 8 + (2 + 11) + rmX12_save.locals ≤ R.locals) : CallB R s args own idx yX12_save cX12_save 2 (some .int) [Cond.code yX12_save cX12_save 2 (some .int)] rmX12_save 0 0 0 := m_callB hT kc_X12_save ki_X12_save hlink (by decide +kernel) ⟨rfl, rfl, h1, h2⟩
set_option maxHeartbeats 4000000 in
set_option maxRecDepth 100000 in
theorem c_X12_save (l : Launch) (w : WD) (sz : Nat)  (M : Mem) (r : Int32) (M9 : Mem) (hf : f_X12_save  M = some (r, M9)) : mMet l yX12_save cX12_save 2 (some .int) rmX12_save w sz M [.ref (w.1 12 47)] (some (.int r)) M9 := by
  refine m_of (by decide) (Nat.le_of_ble_eq_true rfl) ?_
  intro p e s m args below meth c hx hb hr hml hown hlk hI ls hl
  have hl : lv_has ls 2 [(0, .ref (w.1 12 47))] := hl
  unfold f_X12_save at hf
  refine lv_aload_n hx hb dX12_save_0 rfl (lv_at hl 0 rfl) ?_
  refine lv_iconst (v := 0) hx hb dX12_save_1 (by decide) ?_
  obtain ⟨M1, eM1, hf⟩ := mlet_e hf
  refine m_put (g := 12) (i := 47) (ci := 10) (k := 0) (ty := .int) (M1 := M1) hx hb hI hown (mokX (by decide) (by decide)) rfl rfl (by decide) lyX12 tyX12 tyX12_ok nmX12 (q1426 hI.T) rfl rfl rfl rfl (Nat.le_of_ble_eq_true rfl) rfl eM1 dX12_save_2 (fun H locs hI => ?_)
  refine lv_iconst (v := 0) hx hb dX12_save_5 (by decide) ?_
  refine lv_istore_n (lv' := [(1, .int (0 : Int32)), (0, .ref (w.1 12 47))]) hx hb dX12_save_6 rfl hl (by decide) rfl (fun ls hl => ?_)
  have hL7 : ∀ (n : Nat) (x2 : Int32) (M3 : Mem) (kk : Mem → Option (Int32 × Mem)) (H : Heap) (locs : List Loc) (ls : Array Slot), f_X12_save_L7 n x2 M3 kk = some (r, M9) → mI w s (mA w s.heap.size) H locs M3 → lv_has ls 2 [(0, .ref (w.1 12 47)), (1, .int x2)] → (∀  (M3 : Mem) (H : Heap) (locs : List Loc) (ls : Array Slot), kk M3 = some (r, M9) → mI w s (mA w s.heap.size) H locs M3 → lv_has ls 2 [(0, .ref (w.1 12 47))] → W p l e rmX12_save s m args below meth c H locs 0 0 (MQ below (mQ w s.heap.size (some (.int r)) M9) args s 0 0 (mA w s.heap.size)) (F0 m 31 ls [])) → W p l e rmX12_save s m args below meth c H locs 0 0 (MQ below (mQ w s.heap.size (some (.int r)) M9) args s 0 0 (mA w s.heap.size)) (F0 m 7 ls []) := by
    intro n
    induction n with
    | zero => intro x2 M3 kk H locs ls hf hI hl hk; rw [f_X12_save_L7.eq_1] at hf; cases hf
    | succ n ih7 =>
      intro x2 M3 kk H locs ls hf hI hl hk
      rw [f_X12_save_L7.eq_2] at hf
      refine lv_iload_n hx hb dX12_save_7 rfl (lv_at hl 1 rfl) ?_
      refine lv_bipush (v := 92) hx hb dX12_save_8 (by decide) ?_
      refine lv_icmp_ge (tgt := 31) hx hb dX12_save_10 (by decide) (fun c4 => ?_) (fun c4 => ?_)
      · have hf := (if_pos c4).symm.trans hf
        exact hk M3 H _ _ hf hI (lv_sub hl [0] rfl)
      · have hf := (if_neg c4).symm.trans hf
        refine lv_aload_n hx hb dX12_save_13 rfl (lv_at hl 0 rfl) ?_
        refine m_get (g := 12) (i := 47) (ci := 10) (k := 3) (v := .ref (w.1 12 50)) hx hb hI hown (mokX (by decide) (by decide)) rfl rfl (by decide) lyX12 (q1429 hI.T) rfl dX12_save_14 ?_
        refine lv_iload_n hx hb dX12_save_17 rfl (lv_at hl 1 rfl) ?_
        refine lv_aload_n hx hb dX12_save_18 rfl (lv_at hl 0 rfl) ?_
        refine m_get (g := 12) (i := 47) (ci := 10) (k := 1) (v := .ref (w.1 12 48)) hx hb hI hown (mokX (by decide) (by decide)) rfl rfl (by decide) lyX12 (q1427 hI.T) rfl dX12_save_19 ?_
        refine lv_iload_n hx hb dX12_save_22 rfl (lv_at hl 1 rfl) ?_
        obtain ⟨hi, hf⟩ := mix_e hf
        refine m_iald (g := 12) (i := 48) hx hb hI (mokX (by decide) (by decide)) rfl hi dX12_save_23 ?_
        obtain ⟨hi, hf⟩ := mix_e hf
        obtain ⟨M5, eM5, hf⟩ := mlet_e hf
        refine m_iast (g := 12) (i := 50) (M1 := M5) hx hb hI (mokX (by decide) (by decide)) rfl hi eM5 dX12_save_24 (fun H locs hI => ?_)
        obtain ⟨x6, ex6, hf⟩ := mlet_e hf
        refine lv_iinc (v := x6) (lv' := [(1, .int x6), (0, .ref (w.1 12 47))]) hx hb dX12_save_25 hl (k := 1) rfl (by rw [ex6]; rfl) (by decide) rfl (fun ls hl => ?_)
        refine lv_goto (tgt := 7) hx hb dX12_save_28 (by decide) ?_
        exact ih7 x6 M5 kk H _ _ hf hI (lv_sub hl [1, 0] rfl) hk
  refine hL7 1000 (0 : Int32) M1 _ _ _ _ hf hI (lv_sub hl [1, 0] rfl) ?_
  intro M7 H locs ls hf hI hl
  try dsimp only at hf
  refine lv_aload_n hx hb dX12_save_31 rfl (lv_at hl 0 rfl) ?_
  refine lv_iconst (v := 1) hx hb dX12_save_32 (by decide) ?_
  obtain ⟨M8, eM8, hf⟩ := mlet_e hf
  refine m_put (g := 12) (i := 47) (ci := 10) (k := 7) (ty := .boolean) (M1 := M8) hx hb hI hown (mokX (by decide) (by decide)) rfl rfl (by decide) lyX12 tyX12 tyX12_ok nmX12 (q1433 hI.T) rfl rfl rfl rfl (Nat.le_of_ble_eq_true rfl) rfl eM8 dX12_save_33 (fun H locs hI => ?_)
  refine lv_aload_n hx hb dX12_save_36 rfl (lv_at hl 0 rfl) ?_
  refine m_get (g := 12) (i := 47) (ci := 10) (k := 1) (v := .ref (w.1 12 48)) hx hb hI hown (mokX (by decide) (by decide)) rfl rfl (by decide) lyX12 (q1427 hI.T) rfl dX12_save_37 ?_
  refine lv_iconst (v := 0) hx hb dX12_save_40 (by decide) ?_
  obtain ⟨hi, hf⟩ := mix_e hf
  refine m_iald (g := 12) (i := 48) hx hb hI (mokX (by decide) (by decide)) rfl hi dX12_save_41 ?_
  exact m_iretf hx hb hr hlk hI hf dX12_save_42
abbrev rmX12_restore : Room := { frames := 1, cells := 0, slots := 0, locals := 21 }
theorem kb_X12_restore {R : Room} {s : State} {args : Array Value} {own : String} {idx : Nat} (hT : mT s) (hlink : (Cond.methodLink own idx yX12_restore).before args s = true) (h1 : rmX12_restore.frames + 1 ≤ R.frames) (h2 : 8 + (2 + 11) + rmX12_restore.locals ≤ R.locals) : CallB R s args own idx yX12_restore cX12_restore 2 (some .int) [Cond.code yX12_restore cX12_restore 2 (some .int)] rmX12_restore 0 0 0 := m_callB hT kc_X12_restore ki_X12_restore hlink (by decide +kernel) ⟨rfl, rfl, h1, h2⟩
set_option maxHeartbeats 4000000 in
set_option maxRecDepth 100000 in
theorem c_X12_restore (l : Launch) (w : WD) (sz : Nat)  (M : Mem) (r : Int32) (M9 : Mem) (hf : f_X12_restore  M = some (r, M9)) : mMet l yX12_restore cX12_restore 2 (some .int) rmX12_restore w sz M [.ref (w.1 12 47)] (some (.int r)) M9 := by
  refine m_of (by decide) (Nat.le_of_ble_eq_true rfl) ?_
  intro p e s m args below meth c hx hb hr hml hown hlk hI ls hl
  have hl : lv_has ls 2 [(0, .ref (w.1 12 47))] := hl
  unfold f_X12_restore at hf
  refine lv_aload_n hx hb dX12_restore_0 rfl (lv_at hl 0 rfl) ?_
  refine lv_iconst (v := 0) hx hb dX12_restore_1 (by decide) ?_
  obtain ⟨M1, eM1, hf⟩ := mlet_e hf
  refine m_put (g := 12) (i := 47) (ci := 10) (k := 0) (ty := .int) (M1 := M1) hx hb hI hown (mokX (by decide) (by decide)) rfl rfl (by decide) lyX12 tyX12 tyX12_ok nmX12 (q1426 hI.T) rfl rfl rfl rfl (Nat.le_of_ble_eq_true rfl) rfl eM1 dX12_restore_2 (fun H locs hI => ?_)
  refine lv_aload_n hx hb dX12_restore_5 rfl (lv_at hl 0 rfl) ?_
  refine m_get (g := 12) (i := 47) (ci := 10) (k := 7) (v := .int (M1 12 47 7)) hx hb hI hown (mokX (by decide) (by decide)) rfl rfl (by decide) lyX12 (q1433 hI.T) rfl dX12_restore_6 ?_
  refine lv_if_ne (tgt := 18) hx hb dX12_restore_9 (by decide) (fun c2 => ?_) (fun c2 => ?_)
  · have hf := (if_neg c2).symm.trans hf
    refine lv_iconst (v := 0) hx hb dX12_restore_18 (by decide) ?_
    refine lv_istore_n (lv' := [(1, .int (0 : Int32)), (0, .ref (w.1 12 47))]) hx hb dX12_restore_19 rfl hl (by decide) rfl (fun ls hl => ?_)
    have hL20 : ∀ (n : Nat) (x3 : Int32) (M4 : Mem) (kk : Mem → Option (Int32 × Mem)) (H : Heap) (locs : List Loc) (ls : Array Slot), f_X12_restore_L20 n x3 M4 kk = some (r, M9) → mI w s (mA w s.heap.size) H locs M4 → lv_has ls 2 [(0, .ref (w.1 12 47)), (1, .int x3)] → (∀  (M4 : Mem) (H : Heap) (locs : List Loc) (ls : Array Slot), kk M4 = some (r, M9) → mI w s (mA w s.heap.size) H locs M4 → lv_has ls 2 [(0, .ref (w.1 12 47))] → W p l e rmX12_restore s m args below meth c H locs 0 0 (MQ below (mQ w s.heap.size (some (.int r)) M9) args s 0 0 (mA w s.heap.size)) (F0 m 44 ls [])) → W p l e rmX12_restore s m args below meth c H locs 0 0 (MQ below (mQ w s.heap.size (some (.int r)) M9) args s 0 0 (mA w s.heap.size)) (F0 m 20 ls []) := by
      intro n
      induction n with
      | zero => intro x3 M4 kk H locs ls hf hI hl hk; rw [f_X12_restore_L20.eq_1] at hf; cases hf
      | succ n ih20 =>
        intro x3 M4 kk H locs ls hf hI hl hk
        rw [f_X12_restore_L20.eq_2] at hf
        refine lv_iload_n hx hb dX12_restore_20 rfl (lv_at hl 1 rfl) ?_
        refine lv_bipush (v := 92) hx hb dX12_restore_21 (by decide) ?_
        refine lv_icmp_ge (tgt := 44) hx hb dX12_restore_23 (by decide) (fun c5 => ?_) (fun c5 => ?_)
        · have hf := (if_pos c5).symm.trans hf
          exact hk M4 H _ _ hf hI (lv_sub hl [0] rfl)
        · have hf := (if_neg c5).symm.trans hf
          refine lv_aload_n hx hb dX12_restore_26 rfl (lv_at hl 0 rfl) ?_
          refine m_get (g := 12) (i := 47) (ci := 10) (k := 1) (v := .ref (w.1 12 48)) hx hb hI hown (mokX (by decide) (by decide)) rfl rfl (by decide) lyX12 (q1427 hI.T) rfl dX12_restore_27 ?_
          refine lv_iload_n hx hb dX12_restore_30 rfl (lv_at hl 1 rfl) ?_
          refine lv_aload_n hx hb dX12_restore_31 rfl (lv_at hl 0 rfl) ?_
          refine m_get (g := 12) (i := 47) (ci := 10) (k := 3) (v := .ref (w.1 12 50)) hx hb hI hown (mokX (by decide) (by decide)) rfl rfl (by decide) lyX12 (q1429 hI.T) rfl dX12_restore_32 ?_
          refine lv_iload_n hx hb dX12_restore_35 rfl (lv_at hl 1 rfl) ?_
          obtain ⟨hi, hf⟩ := mix_e hf
          refine m_iald (g := 12) (i := 50) hx hb hI (mokX (by decide) (by decide)) rfl hi dX12_restore_36 ?_
          obtain ⟨hi, hf⟩ := mix_e hf
          obtain ⟨M6, eM6, hf⟩ := mlet_e hf
          refine m_iast (g := 12) (i := 48) (M1 := M6) hx hb hI (mokX (by decide) (by decide)) rfl hi eM6 dX12_restore_37 (fun H locs hI => ?_)
          obtain ⟨x7, ex7, hf⟩ := mlet_e hf
          refine lv_iinc (v := x7) (lv' := [(1, .int x7), (0, .ref (w.1 12 47))]) hx hb dX12_restore_38 hl (k := 1) rfl (by rw [ex7]; rfl) (by decide) rfl (fun ls hl => ?_)
          refine lv_goto (tgt := 20) hx hb dX12_restore_41 (by decide) ?_
          exact ih20 x7 M6 kk H _ _ hf hI (lv_sub hl [1, 0] rfl) hk
    refine hL20 1000 (0 : Int32) M1 _ _ _ _ hf hI (lv_sub hl [1, 0] rfl) ?_
    intro M8 H locs ls hf hI hl
    try dsimp only at hf
    refine lv_aload_n hx hb dX12_restore_44 rfl (lv_at hl 0 rfl) ?_
    refine lv_iconst (v := 0) hx hb dX12_restore_45 (by decide) ?_
    obtain ⟨M10, eM10, hf⟩ := mlet_e hf
    refine m_put (g := 12) (i := 47) (ci := 10) (k := 6) (ty := .int) (M1 := M10) hx hb hI hown (mokX (by decide) (by decide)) rfl rfl (by decide) lyX12 tyX12 tyX12_ok nmX12 (q1432 hI.T) rfl rfl rfl rfl (Nat.le_of_ble_eq_true rfl) rfl eM10 dX12_restore_46 (fun H locs hI => ?_)
    refine lv_aload_n hx hb dX12_restore_49 rfl (lv_at hl 0 rfl) ?_
    refine m_get (g := 12) (i := 47) (ci := 10) (k := 1) (v := .ref (w.1 12 48)) hx hb hI hown (mokX (by decide) (by decide)) rfl rfl (by decide) lyX12 (q1427 hI.T) rfl dX12_restore_50 ?_
    refine lv_iconst (v := 0) hx hb dX12_restore_53 (by decide) ?_
    obtain ⟨hi, hf⟩ := mix_e hf
    refine m_iald (g := 12) (i := 48) hx hb hI (mokX (by decide) (by decide)) rfl hi dX12_restore_54 ?_
    exact m_iretf hx hb hr hlk hI hf dX12_restore_55
  · have hf := (if_pos c2).symm.trans hf
    refine lv_aload_n hx hb dX12_restore_12 rfl (lv_at hl 0 rfl) ?_
    refine lv_iconst (v := 1) hx hb dX12_restore_13 (by decide) ?_
    obtain ⟨r11, M12, hc, hf⟩ := mbnd_e hf
    refine m_callV (As := [.int (1 : Int32)]) (rest := []) hx hb hml hown hI (c_X12_fails l w H.size (1 : Int32) M1 _ _ hc) (kb_X12_fails hI.T (q1532 hI.T) (Nat.le_of_ble_eq_true rfl) (Nat.le_of_ble_eq_true rfl)) (q1534 hI.T) (sel_X12_fails hI.T) (m_recv (g := 12) (i := 47) hI (mokX (by decide) (by decide)) rfl rfl) rfl hl.1 (Nat.le_of_ble_eq_true rfl) dX12_restore_14 ⟨Nat.le_of_ble_eq_true rfl, Nat.le_of_ble_eq_true rfl⟩ (fun H locs hI => ?_)
    exact m_iretf hx hb hr hlk hI hf dX12_restore_17
