abbrev rmX12_closes : Room := { frames := 1, cells := 0, slots := 0, locals := 23 }
theorem kb_X12_closes {R : Room} {s : State} {args : Array Value} {own : String} {idx : Nat} (hT : mT s) (hlink : (Cond.methodLink own idx yX12_closes).before args s = true) (h1 : rmX12_closes.frames + 1 ≤ R.frames) (h2 : 8 + (2 + 11) + rmX12_closes.locals ≤ R.locals) : CallB R s args own idx yX12_closes cX12_closes 2 (some .int) [Cond.code yX12_closes cX12_closes 2 (some .int)] rmX12_closes 0 0 0 := m_callB hT kc_X12_closes ki_X12_closes hlink (by decide +kernel) ⟨rfl, rfl, h1, h2⟩
set_option maxHeartbeats 4000000 in
set_option maxRecDepth 100000 in
theorem c_X12_closes (l : Launch) (w : WD) (sz : Nat)  (M : Mem) (r : Int32) (M9 : Mem) (hf : f_X12_closes  M = some (r, M9)) : mMet l yX12_closes cX12_closes 2 (some .int) rmX12_closes w sz M [.ref (w.1 12 47)] (some (.int r)) M9 := by
  refine m_of (by decide) (Nat.le_of_ble_eq_true rfl) ?_
  intro p e s m args below meth c hx hb hr hml hown hlk hI ls hl
  have hl : lv_has ls 2 [(0, .ref (w.1 12 47))] := hl
  unfold f_X12_closes at hf
  refine lv_aload_n hx hb dX12_closes_0 rfl (lv_at hl 0 rfl) ?_
  refine m_get (g := 12) (i := 47) (ci := 10) (k := 1) (v := .ref (w.1 12 48)) hx hb hI hown (mokX (by decide) (by decide)) rfl rfl (by decide) lyX12 (q1427 hI.T) rfl dX12_closes_1 ?_
  refine lv_iconst (v := 1) hx hb dX12_closes_4 (by decide) ?_
  obtain ⟨hi, hf⟩ := mix_e hf
  refine m_iald (g := 12) (i := 48) hx hb hI (mokX (by decide) (by decide)) rfl hi dX12_closes_5 ?_
  refine lv_if_ne (tgt := 16) hx hb dX12_closes_6 (by decide) (fun c1 => ?_) (fun c1 => ?_)
  · have hf := (if_neg c1).symm.trans hf
    refine lv_aload_n hx hb dX12_closes_16 rfl (lv_at hl 0 rfl) ?_
    refine m_get (g := 12) (i := 47) (ci := 10) (k := 1) (v := .ref (w.1 12 48)) hx hb hI hown (mokX (by decide) (by decide)) rfl rfl (by decide) lyX12 (q1427 hI.T) rfl dX12_closes_17 ?_
    refine lv_bipush (v := 6) hx hb dX12_closes_20 (by decide) ?_
    obtain ⟨hi, hf⟩ := mix_e hf
    refine m_iald (g := 12) (i := 48) hx hb hI (mokX (by decide) (by decide)) rfl hi dX12_closes_22 ?_
    refine lv_if_ne (tgt := 40) hx hb dX12_closes_23 (by decide) (fun c2 => ?_) (fun c2 => ?_)
    · have hf := (if_neg c2).symm.trans hf
      refine lv_aload_n hx hb dX12_closes_40 rfl (lv_at hl 0 rfl) ?_
      refine m_get (g := 12) (i := 47) (ci := 10) (k := 1) (v := .ref (w.1 12 48)) hx hb hI hown (mokX (by decide) (by decide)) rfl rfl (by decide) lyX12 (q1427 hI.T) rfl dX12_closes_41 ?_
      refine lv_bipush (v := 9) hx hb dX12_closes_44 (by decide) ?_
      obtain ⟨hi, hf⟩ := mix_e hf
      refine m_iald (g := 12) (i := 48) hx hb hI (mokX (by decide) (by decide)) rfl hi dX12_closes_46 ?_
      refine lv_topi (fun x3 ex3 => ?_)
      have hf := mlet_s ex3 hf
      refine lv_istore_n (lv' := [(1, .int x3), (0, .ref (w.1 12 47))]) hx hb dX12_closes_47 rfl hl (by decide) rfl (fun ls hl => ?_)
      refine lv_aload_n hx hb dX12_closes_48 rfl (lv_at hl 1 rfl) ?_
      refine m_get (g := 12) (i := 47) (ci := 10) (k := 1) (v := .ref (w.1 12 48)) hx hb hI hown (mokX (by decide) (by decide)) rfl rfl (by decide) lyX12 (q1427 hI.T) rfl dX12_closes_49 ?_
      refine lv_bipush (v := 6) hx hb dX12_closes_52 (by decide) ?_
      refine lv_iconst (v := 0) hx hb dX12_closes_54 (by decide) ?_
      obtain ⟨hi, hf⟩ := mix_e hf
      obtain ⟨M4, eM4, hf⟩ := mlet_e hf
      refine m_iast (g := 12) (i := 48) (M1 := M4) hx hb hI (mokX (by decide) (by decide)) rfl hi eM4 dX12_closes_55 (fun H locs hI => ?_)
      refine lv_aload_n hx hb dX12_closes_56 rfl (lv_at hl 1 rfl) ?_
      obtain ⟨r5, M6, hc, hf⟩ := mbnd_e hf
      refine m_callV (As := []) (rest := []) hx hb hml hown hI (c_X12_clears l w H.size M4 _ _ hc) (kb_X12_clears hI.T (q1547 hI.T) (Nat.le_of_ble_eq_true rfl) (Nat.le_of_ble_eq_true rfl)) (q1549 hI.T) (sel_X12_clears hI.T) (m_recv (g := 12) (i := 47) hI (mokX (by decide) (by decide)) rfl rfl) rfl hl.1 (Nat.le_of_ble_eq_true rfl) dX12_closes_57 ⟨Nat.le_of_ble_eq_true rfl, Nat.le_of_ble_eq_true rfl⟩ (fun H locs hI => ?_)
      refine lv_aload_n hx hb dX12_closes_60 rfl (lv_at hl 1 rfl) ?_
      refine lv_bipush (v := 99) hx hb dX12_closes_61 (by decide) ?_
      refine lv_iconst (v := 0) hx hb dX12_closes_63 (by decide) ?_
      obtain ⟨r7, M8, hc, hf⟩ := mbnd_e hf
      refine m_callV (As := [.int (99 : Int32), .int (0 : Int32)]) (rest := []) hx hb hml hown hI (c_X12_logs l w H.size (99 : Int32) (0 : Int32) M6 _ _ hc) (kb_X12_logs hI.T (q1614 hI.T) (Nat.le_of_ble_eq_true rfl) (Nat.le_of_ble_eq_true rfl)) (q1616 hI.T) (sel_X12_logs hI.T) (m_recv (g := 12) (i := 47) hI (mokX (by decide) (by decide)) rfl rfl) rfl hl.1 (Nat.le_of_ble_eq_true rfl) dX12_closes_64 ⟨Nat.le_of_ble_eq_true rfl, Nat.le_of_ble_eq_true rfl⟩ (fun H locs hI => ?_)
      refine lv_aload_n hx hb dX12_closes_67 rfl (lv_at hl 1 rfl) ?_
      refine lv_iload_n hx hb dX12_closes_68 rfl (lv_at hl 0 rfl) ?_
      obtain ⟨r9, M10, hc, hf⟩ := mbnd_e hf
      refine m_callV (As := [.int x3]) (rest := []) hx hb hml hown hI (c_X12_done l w H.size x3 M8 _ _ hc) (kb_X12_done hI.T (q1520 hI.T) (Nat.le_of_ble_eq_true rfl) (Nat.le_of_ble_eq_true rfl)) (q1522 hI.T) (sel_X12_done hI.T) (m_recv (g := 12) (i := 47) hI (mokX (by decide) (by decide)) rfl rfl) rfl hl.1 (Nat.le_of_ble_eq_true rfl) dX12_closes_69 ⟨Nat.le_of_ble_eq_true rfl, Nat.le_of_ble_eq_true rfl⟩ (fun H locs hI => ?_)
      exact m_iretf hx hb hr hlk hI hf dX12_closes_72
    · have hf := (if_pos c2).symm.trans hf
      refine lv_aload_n hx hb dX12_closes_26 rfl (lv_at hl 0 rfl) ?_
      refine lv_bipush (v := 10) hx hb dX12_closes_27 (by decide) ?_
      refine lv_aload_n hx hb dX12_closes_29 rfl (lv_at hl 0 rfl) ?_
      refine m_get (g := 12) (i := 47) (ci := 10) (k := 1) (v := .ref (w.1 12 48)) hx hb hI hown (mokX (by decide) (by decide)) rfl rfl (by decide) lyX12 (q1427 hI.T) rfl dX12_closes_30 ?_
      refine lv_bipush (v := 8) hx hb dX12_closes_33 (by decide) ?_
      obtain ⟨hi, hf⟩ := mix_e hf
      refine m_iald (g := 12) (i := 48) hx hb hI (mokX (by decide) (by decide)) rfl hi dX12_closes_35 ?_
      obtain ⟨r11, M12, hc, hf⟩ := mbnd_e hf
      refine m_callV (As := [.int (10 : Int32), .int (M 12 48 (8 : Int32).toNatClampNeg)]) (rest := []) hx hb hml hown hI (c_X12_refused l w s.heap.size (10 : Int32) (M 12 48 (8 : Int32).toNatClampNeg) M _ _ hc) (kb_X12_refused hI.T (q1512 hI.T) (Nat.le_of_ble_eq_true rfl) (Nat.le_of_ble_eq_true rfl)) (q1514 hI.T) (sel_X12_refused hI.T) (m_recv (g := 12) (i := 47) hI (mokX (by decide) (by decide)) rfl rfl) rfl hl.1 (Nat.le_of_ble_eq_true rfl) dX12_closes_36 ⟨Nat.le_of_ble_eq_true rfl, Nat.le_of_ble_eq_true rfl⟩ (fun H locs hI => ?_)
      exact m_iretf hx hb hr hlk hI hf dX12_closes_39
  · have hf := (if_pos c1).symm.trans hf
    refine lv_aload_n hx hb dX12_closes_9 rfl (lv_at hl 0 rfl) ?_
    refine lv_iconst (v := 3) hx hb dX12_closes_10 (by decide) ?_
    refine lv_iconst (v := 0) hx hb dX12_closes_11 (by decide) ?_
    obtain ⟨r13, M14, hc, hf⟩ := mbnd_e hf
    refine m_callV (As := [.int (3 : Int32), .int (0 : Int32)]) (rest := []) hx hb hml hown hI (c_X12_refused l w s.heap.size (3 : Int32) (0 : Int32) M _ _ hc) (kb_X12_refused hI.T (q1512 hI.T) (Nat.le_of_ble_eq_true rfl) (Nat.le_of_ble_eq_true rfl)) (q1514 hI.T) (sel_X12_refused hI.T) (m_recv (g := 12) (i := 47) hI (mokX (by decide) (by decide)) rfl rfl) rfl hl.1 (Nat.le_of_ble_eq_true rfl) dX12_closes_12 ⟨Nat.le_of_ble_eq_true rfl, Nat.le_of_ble_eq_true rfl⟩ (fun H locs hI => ?_)
    exact m_iretf hx hb hr hlk hI hf dX12_closes_15
abbrev rmX12_guards : Room := { frames := 2, cells := 0, slots := 0, locals := 42 }
theorem kb_X12_guards {R : Room} {s : State} {args : Array Value} {own : String} {idx : Nat} (hT : mT s) (hlink : (Cond.methodLink own idx yX12_guards).before args s = true) (h1 : rmX12_guards.frames + 1 ≤ R.frames) (h2 : 8 + (5 + 11) + rmX12_guards.locals ≤ R.locals) : CallB R s args own idx yX12_guards cX12_guards 5 (some .int) [Cond.code yX12_guards cX12_guards 5 (some .int)] rmX12_guards 0 0 3 := m_callB hT kc_X12_guards ki_X12_guards hlink (by decide +kernel) ⟨rfl, rfl, h1, h2⟩
set_option maxHeartbeats 4000000 in
set_option maxRecDepth 100000 in
theorem c_X12_guards (l : Launch) (w : WD) (sz : Nat) (a1 : Int32) (a2 : Int32) (a3 : Int32) (M : Mem) (r : Int32) (M9 : Mem) (hf : f_X12_guards a1 a2 a3 M = some (r, M9)) : mMet l yX12_guards cX12_guards 5 (some .int) rmX12_guards w sz M [.ref (w.1 12 47), .int a1, .int a2, .int a3] (some (.int r)) M9 := by
  refine m_of (by decide) (Nat.le_of_ble_eq_true rfl) ?_
  intro p e s m args below meth c hx hb hr hml hown hlk hI ls hl
  have hl : lv_has ls 5 [(0, .ref (w.1 12 47)), (1, .int a1), (2, .int a2), (3, .int a3)] := hl
  unfold f_X12_guards at hf
  refine lv_iload_n hx hb dX12_guards_0 rfl (lv_at hl 1 rfl) ?_
  obtain ⟨r1, hc, hf⟩ := mbp_e hf
  refine m_callS (As := [.int a1]) (rest := []) hx hb hml hown hI (c_X12_isZone l w s.heap.size a1 M _ hc) (kb_X12_isZone hI.T (q1634 hI.T) (Nat.le_of_ble_eq_true rfl) (Nat.le_of_ble_eq_true rfl)) (q1635 hI.T) rfl hl.1 (Nat.le_of_ble_eq_true rfl) dX12_guards_1 ⟨Nat.le_of_ble_eq_true rfl, Nat.le_of_ble_eq_true rfl⟩ (fun H locs hI => ?_)
  refine lv_if_eq (tgt := 16) hx hb dX12_guards_4 (by decide) (fun c2 => ?_) (fun c2 => ?_)
  · have hf := (if_pos c2).symm.trans hf
    refine lv_iconst (v := 1) hx hb dX12_guards_16 (by decide) ?_
    exact m_iretf hx hb hr hlk hI hf dX12_guards_17
  · have hf := (if_neg c2).symm.trans hf
    refine lv_iload_n hx hb dX12_guards_7 rfl (lv_at hl 3 rfl) ?_
    refine lv_iconst (v := 1) hx hb dX12_guards_8 (by decide) ?_
    refine lv_iconst (v := 4) hx hb dX12_guards_9 (by decide) ?_
    obtain ⟨r3, hc, hf⟩ := mbp_e hf
    refine m_callS (As := [.int a3, .int (1 : Int32), .int (4 : Int32)]) (rest := []) hx hb hml hown hI (c_X12_in l w H.size a3 (1 : Int32) (4 : Int32) M _ hc) (kb_X12_in hI.T (q1544 hI.T) (Nat.le_of_ble_eq_true rfl) (Nat.le_of_ble_eq_true rfl)) (q1545 hI.T) rfl hl.1 (Nat.le_of_ble_eq_true rfl) dX12_guards_10 ⟨Nat.le_of_ble_eq_true rfl, Nat.le_of_ble_eq_true rfl⟩ (fun H locs hI => ?_)
    refine lv_if_ne (tgt := 18) hx hb dX12_guards_13 (by decide) (fun c4 => ?_) (fun c4 => ?_)
    · have hf := (if_neg c4).symm.trans hf
      refine lv_aload_n hx hb dX12_guards_18 rfl (lv_at hl 0 rfl) ?_
      refine m_get (g := 12) (i := 47) (ci := 10) (k := 1) (v := .ref (w.1 12 48)) hx hb hI hown (mokX (by decide) (by decide)) rfl rfl (by decide) lyX12 (q1427 hI.T) rfl dX12_guards_19 ?_
      refine lv_bipush (v := 10) hx hb dX12_guards_22 (by decide) ?_
      obtain ⟨hi, hf⟩ := mix_e hf
      refine m_iald (g := 12) (i := 48) hx hb hI (mokX (by decide) (by decide)) rfl hi dX12_guards_24 ?_
      refine lv_topi (fun x5 ex5 => ?_)
      have hf := mlet_s ex5 hf
      refine lv_istore (lv' := [(4, .int x5), (0, .ref (w.1 12 47)), (1, .int a1), (2, .int a2), (3, .int a3)]) hx hb dX12_guards_25 hl (by decide) rfl (fun ls hl => ?_)
      refine lv_iload hx hb dX12_guards_27 (lv_at hl 0 rfl) ?_
      refine lv_iconst (v := 3) hx hb dX12_guards_29 (by decide) ?_
      refine lv_icmp_ne (tgt := 40) hx hb dX12_guards_30 (by decide) (fun c6 => ?_) (fun c6 => ?_)
      · have hf := (if_neg c6).symm.trans hf
        refine lv_aload_n hx hb dX12_guards_40 rfl (lv_at hl 1 rfl) ?_
        refine m_get (g := 12) (i := 47) (ci := 10) (k := 1) (v := .ref (w.1 12 48)) hx hb hI hown (mokX (by decide) (by decide)) rfl rfl (by decide) lyX12 (q1427 hI.T) rfl dX12_guards_41 ?_
        refine lv_bipush (v := 47) hx hb dX12_guards_44 (by decide) ?_
        refine lv_iconst (v := 3) hx hb dX12_guards_46 (by decide) ?_
        refine lv_iload hx hb dX12_guards_47 (lv_at hl 0 rfl) ?_
        refine lv_imul hx hb dX12_guards_49 ?_
        refine lv_iadd hx hb dX12_guards_50 ?_
        refine lv_iconst (v := 0) hx hb dX12_guards_51 (by decide) ?_
        refine lv_iadd hx hb dX12_guards_52 ?_
        refine lv_iload_n hx hb dX12_guards_53 rfl (lv_at hl 2 rfl) ?_
        obtain ⟨hi, hf⟩ := mix_e hf
        obtain ⟨M7, eM7, hf⟩ := mlet_e hf
        refine m_iast (g := 12) (i := 48) (M1 := M7) hx hb hI (mokX (by decide) (by decide)) rfl hi eM7 dX12_guards_54 (fun H locs hI => ?_)
        refine lv_aload_n hx hb dX12_guards_55 rfl (lv_at hl 1 rfl) ?_
        refine m_get (g := 12) (i := 47) (ci := 10) (k := 1) (v := .ref (w.1 12 48)) hx hb hI hown (mokX (by decide) (by decide)) rfl rfl (by decide) lyX12 (q1427 hI.T) rfl dX12_guards_56 ?_
        refine lv_bipush (v := 47) hx hb dX12_guards_59 (by decide) ?_
        refine lv_iconst (v := 3) hx hb dX12_guards_61 (by decide) ?_
        refine lv_iload hx hb dX12_guards_62 (lv_at hl 0 rfl) ?_
        refine lv_imul hx hb dX12_guards_64 ?_
        refine lv_iadd hx hb dX12_guards_65 ?_
        refine lv_iconst (v := 1) hx hb dX12_guards_66 (by decide) ?_
        refine lv_iadd hx hb dX12_guards_67 ?_
        refine lv_iload_n hx hb dX12_guards_68 rfl (lv_at hl 3 rfl) ?_
        obtain ⟨k77_10, ek77_10, hf⟩ := mlet_e hf
        have hj77_10 : ∀ (x9 : Int32) (H : Heap) (locs : List Loc) (ls : Array Slot), k77_10 x9 = some (r, M9) → mI w s (mA w s.heap.size) H locs M7 → lv_has ls 5 [(0, .ref (w.1 12 47)), (3, .int a3), (4, .int x5)] → W p l e rmX12_guards s m args below meth c H locs 0 0 (MQ below (mQ w s.heap.size (some (.int r)) M9) args s 0 0 (mA w s.heap.size)) (F0 m 77 ls [.int x9, .int (((47 : Int32) + ((3 : Int32) * x5)) + (1 : Int32)), .ref (w.1 12 48)]) := by
          intro x9 H locs ls hf hI hl
          rw [ek77_10] at hf
          try dsimp only at hf
          obtain ⟨hi, hf⟩ := mix_e hf
          obtain ⟨M11, eM11, hf⟩ := mlet_e hf
          refine m_iast (g := 12) (i := 48) (M1 := M11) hx hb hI (mokX (by decide) (by decide)) rfl hi eM11 dX12_guards_77 (fun H locs hI => ?_)
          refine lv_aload_n hx hb dX12_guards_78 rfl (lv_at hl 0 rfl) ?_
          refine m_get (g := 12) (i := 47) (ci := 10) (k := 1) (v := .ref (w.1 12 48)) hx hb hI hown (mokX (by decide) (by decide)) rfl rfl (by decide) lyX12 (q1427 hI.T) rfl dX12_guards_79 ?_
          refine lv_bipush (v := 47) hx hb dX12_guards_82 (by decide) ?_
          refine lv_iconst (v := 3) hx hb dX12_guards_84 (by decide) ?_
          refine lv_iload hx hb dX12_guards_85 (lv_at hl 2 rfl) ?_
          refine lv_imul hx hb dX12_guards_87 ?_
          refine lv_iadd hx hb dX12_guards_88 ?_
          refine lv_iconst (v := 2) hx hb dX12_guards_89 (by decide) ?_
          refine lv_iadd hx hb dX12_guards_90 ?_
          refine lv_iload_n hx hb dX12_guards_91 rfl (lv_at hl 1 rfl) ?_
          obtain ⟨hi, hf⟩ := mix_e hf
          obtain ⟨M12, eM12, hf⟩ := mlet_e hf
          refine m_iast (g := 12) (i := 48) (M1 := M12) hx hb hI (mokX (by decide) (by decide)) rfl hi eM12 dX12_guards_92 (fun H locs hI => ?_)
          refine lv_aload_n hx hb dX12_guards_93 rfl (lv_at hl 0 rfl) ?_
          refine m_get (g := 12) (i := 47) (ci := 10) (k := 1) (v := .ref (w.1 12 48)) hx hb hI hown (mokX (by decide) (by decide)) rfl rfl (by decide) lyX12 (q1427 hI.T) rfl dX12_guards_94 ?_
          refine lv_bipush (v := 10) hx hb dX12_guards_97 (by decide) ?_
          refine lv_iload hx hb dX12_guards_99 (lv_at hl 2 rfl) ?_
          refine lv_iconst (v := 1) hx hb dX12_guards_101 (by decide) ?_
          refine lv_iadd hx hb dX12_guards_102 ?_
          obtain ⟨hi, hf⟩ := mix_e hf
          obtain ⟨M13, eM13, hf⟩ := mlet_e hf
          refine m_iast (g := 12) (i := 48) (M1 := M13) hx hb hI (mokX (by decide) (by decide)) rfl hi eM13 dX12_guards_103 (fun H locs hI => ?_)
          refine lv_aload_n hx hb dX12_guards_104 rfl (lv_at hl 0 rfl) ?_
          refine lv_iload hx hb dX12_guards_105 (lv_at hl 2 rfl) ?_
          obtain ⟨r14, M15, hc, hf⟩ := mbnd_e hf
          refine m_callV (As := [.int x5]) (rest := []) hx hb hml hown hI (c_X12_done l w H.size x5 M13 _ _ hc) (kb_X12_done hI.T (q1520 hI.T) (Nat.le_of_ble_eq_true rfl) (Nat.le_of_ble_eq_true rfl)) (q1522 hI.T) (sel_X12_done hI.T) (m_recv (g := 12) (i := 47) hI (mokX (by decide) (by decide)) rfl rfl) rfl hl.1 (Nat.le_of_ble_eq_true rfl) dX12_guards_107 ⟨Nat.le_of_ble_eq_true rfl, Nat.le_of_ble_eq_true rfl⟩ (fun H locs hI => ?_)
          exact m_iretf hx hb hr hlk hI hf dX12_guards_110
        refine lv_if_eq (tgt := 76) hx hb dX12_guards_69 (by decide) (fun c8 => ?_) (fun c8 => ?_)
        · have hf := (if_pos c8).symm.trans hf
          refine lv_iconst (v := (-1)) hx hb dX12_guards_76 (by decide) ?_
          exact hj77_10 (-1 : Int32) H _ _ hf hI (lv_sub hl [1, 4, 0] rfl)
        · have hf := (if_neg c8).symm.trans hf
          refine lv_iconst (v := 1) hx hb dX12_guards_72 (by decide) ?_
          refine lv_goto (tgt := 77) hx hb dX12_guards_73 (by decide) ?_
          exact hj77_10 (1 : Int32) H _ _ hf hI (lv_sub hl [1, 4, 0] rfl)
      · have hf := (if_pos c6).symm.trans hf
        refine lv_aload_n hx hb dX12_guards_33 rfl (lv_at hl 1 rfl) ?_
        refine lv_iconst (v := 1) hx hb dX12_guards_34 (by decide) ?_
        refine lv_iconst (v := 3) hx hb dX12_guards_35 (by decide) ?_
        obtain ⟨r16, M17, hc, hf⟩ := mbnd_e hf
        refine m_callV (As := [.int (1 : Int32), .int (3 : Int32)]) (rest := []) hx hb hml hown hI (c_X12_refused l w H.size (1 : Int32) (3 : Int32) M _ _ hc) (kb_X12_refused hI.T (q1512 hI.T) (Nat.le_of_ble_eq_true rfl) (Nat.le_of_ble_eq_true rfl)) (q1514 hI.T) (sel_X12_refused hI.T) (m_recv (g := 12) (i := 47) hI (mokX (by decide) (by decide)) rfl rfl) rfl hl.1 (Nat.le_of_ble_eq_true rfl) dX12_guards_36 ⟨Nat.le_of_ble_eq_true rfl, Nat.le_of_ble_eq_true rfl⟩ (fun H locs hI => ?_)
        exact m_iretf hx hb hr hlk hI hf dX12_guards_39
    · have hf := (if_pos c4).symm.trans hf
      refine lv_iconst (v := 1) hx hb dX12_guards_16 (by decide) ?_
      exact m_iretf hx hb hr hlk hI hf dX12_guards_17
abbrev rmX12_turns : Room := { frames := 2, cells := 0, slots := 0, locals := 43 }
theorem kb_X12_turns {R : Room} {s : State} {args : Array Value} {own : String} {idx : Nat} (hT : mT s) (hlink : (Cond.methodLink own idx yX12_turns).before args s = true) (h1 : rmX12_turns.frames + 1 ≤ R.frames) (h2 : 8 + (2 + 11) + rmX12_turns.locals ≤ R.locals) : CallB R s args own idx yX12_turns cX12_turns 2 (some .int) [Cond.code yX12_turns cX12_turns 2 (some .int)] rmX12_turns 0 0 1 := m_callB hT kc_X12_turns ki_X12_turns hlink (by decide +kernel) ⟨rfl, rfl, h1, h2⟩
set_option maxHeartbeats 4000000 in
set_option maxRecDepth 100000 in
theorem c_X12_turns (l : Launch) (w : WD) (sz : Nat) (a1 : Int32) (M : Mem) (r : Int32) (M9 : Mem) (hf : f_X12_turns a1 M = some (r, M9)) : mMet l yX12_turns cX12_turns 2 (some .int) rmX12_turns w sz M [.ref (w.1 12 47), .int a1] (some (.int r)) M9 := by
  refine m_of (by decide) (Nat.le_of_ble_eq_true rfl) ?_
  intro p e s m args below meth c hx hb hr hml hown hlk hI ls hl
  have hl : lv_has ls 2 [(0, .ref (w.1 12 47)), (1, .int a1)] := hl
  unfold f_X12_turns at hf
  refine lv_aload_n hx hb dX12_turns_0 rfl (lv_at hl 0 rfl) ?_
  refine lv_iload_n hx hb dX12_turns_1 rfl (lv_at hl 1 rfl) ?_
  obtain ⟨r1, hc, hf⟩ := mbp_e hf
  refine m_callV (As := [.int a1]) (rest := []) hx hb hml hown hI (c_X12_isGuard l w s.heap.size a1 M _ hc) (kb_X12_isGuard hI.T (q1645 hI.T) (Nat.le_of_ble_eq_true rfl) (Nat.le_of_ble_eq_true rfl)) (q1647 hI.T) (sel_X12_isGuard hI.T) (m_recv (g := 12) (i := 47) hI (mokX (by decide) (by decide)) rfl rfl) rfl hl.1 (Nat.le_of_ble_eq_true rfl) dX12_turns_2 ⟨Nat.le_of_ble_eq_true rfl, Nat.le_of_ble_eq_true rfl⟩ (fun H locs hI => ?_)
  refine lv_if_ne (tgt := 10) hx hb dX12_turns_5 (by decide) (fun c2 => ?_) (fun c2 => ?_)
  · have hf := (if_neg c2).symm.trans hf
    refine lv_aload_n hx hb dX12_turns_10 rfl (lv_at hl 0 rfl) ?_
    refine m_get (g := 12) (i := 47) (ci := 10) (k := 1) (v := .ref (w.1 12 48)) hx hb hI hown (mokX (by decide) (by decide)) rfl rfl (by decide) lyX12 (q1427 hI.T) rfl dX12_turns_11 ?_
    refine lv_bipush (v := 47) hx hb dX12_turns_14 (by decide) ?_
    refine lv_iconst (v := 3) hx hb dX12_turns_16 (by decide) ?_
    refine lv_iload_n hx hb dX12_turns_17 rfl (lv_at hl 1 rfl) ?_
    refine lv_imul hx hb dX12_turns_18 ?_
    refine lv_iadd hx hb dX12_turns_19 ?_
    refine lv_iconst (v := 1) hx hb dX12_turns_20 (by decide) ?_
    refine lv_iadd hx hb dX12_turns_21 ?_
    refine lv_aload_n hx hb dX12_turns_22 rfl (lv_at hl 0 rfl) ?_
    refine lv_iload_n hx hb dX12_turns_23 rfl (lv_at hl 1 rfl) ?_
    refine lv_iconst (v := 1) hx hb dX12_turns_24 (by decide) ?_
    obtain ⟨r3, hc, hf⟩ := mbp_e hf
    refine m_callV (As := [.int a1, .int (1 : Int32)]) (rest := [.int (((47 : Int32) + ((3 : Int32) * a1)) + (1 : Int32)), .ref (w.1 12 48)]) hx hb hml hown hI (c_X12_guard l w H.size a1 (1 : Int32) M _ hc) (kb_X12_guard hI.T (q1595 hI.T) (Nat.le_of_ble_eq_true rfl) (Nat.le_of_ble_eq_true rfl)) (q1597 hI.T) (sel_X12_guard hI.T) (m_recv (g := 12) (i := 47) hI (mokX (by decide) (by decide)) rfl rfl) rfl hl.1 (Nat.le_of_ble_eq_true rfl) dX12_turns_25 ⟨Nat.le_of_ble_eq_true rfl, Nat.le_of_ble_eq_true rfl⟩ (fun H locs hI => ?_)
    refine lv_ineg hx hb dX12_turns_28 ?_
    obtain ⟨hi, hf⟩ := mix_e hf
    obtain ⟨M4, eM4, hf⟩ := mlet_e hf
    refine m_iast (g := 12) (i := 48) (M1 := M4) hx hb hI (mokX (by decide) (by decide)) rfl hi eM4 dX12_turns_29 (fun H locs hI => ?_)
    refine lv_aload_n hx hb dX12_turns_30 rfl (lv_at hl 0 rfl) ?_
    refine lv_aload_n hx hb dX12_turns_31 rfl (lv_at hl 0 rfl) ?_
    refine lv_iload_n hx hb dX12_turns_32 rfl (lv_at hl 1 rfl) ?_
    refine lv_iconst (v := 1) hx hb dX12_turns_33 (by decide) ?_
    obtain ⟨r5, hc, hf⟩ := mbp_e hf
    refine m_callV (As := [.int a1, .int (1 : Int32)]) (rest := [.ref (w.1 12 47)]) hx hb hml hown hI (c_X12_guard l w H.size a1 (1 : Int32) M4 _ hc) (kb_X12_guard hI.T (q1595 hI.T) (Nat.le_of_ble_eq_true rfl) (Nat.le_of_ble_eq_true rfl)) (q1597 hI.T) (sel_X12_guard hI.T) (m_recv (g := 12) (i := 47) hI (mokX (by decide) (by decide)) rfl rfl) rfl hl.1 (Nat.le_of_ble_eq_true rfl) dX12_turns_34 ⟨Nat.le_of_ble_eq_true rfl, Nat.le_of_ble_eq_true rfl⟩ (fun H locs hI => ?_)
    refine lv_iconst (v := 1) hx hb dX12_turns_37 (by decide) ?_
    obtain ⟨k46_8, ek46_8, hf⟩ := mlet_e hf
    have hj46_8 : ∀ (x7 : Int32) (H : Heap) (locs : List Loc) (ls : Array Slot), k46_8 x7 = some (r, M9) → mI w s (mA w s.heap.size) H locs M4 → lv_has ls 2 [] → W p l e rmX12_turns s m args below meth c H locs 0 0 (MQ below (mQ w s.heap.size (some (.int r)) M9) args s 0 0 (mA w s.heap.size)) (F0 m 46 ls [.int x7, .ref (w.1 12 47)]) := by
      intro x7 H locs ls hf hI hl
      rw [ek46_8] at hf
      try dsimp only at hf
      obtain ⟨r9, M10, hc, hf⟩ := mbnd_e hf
      refine m_callV (As := [.int x7]) (rest := []) hx hb hml hown hI (c_X12_done l w H.size x7 M4 _ _ hc) (kb_X12_done hI.T (q1520 hI.T) (Nat.le_of_ble_eq_true rfl) (Nat.le_of_ble_eq_true rfl)) (q1522 hI.T) (sel_X12_done hI.T) (m_recv (g := 12) (i := 47) hI (mokX (by decide) (by decide)) rfl rfl) rfl hl.1 (Nat.le_of_ble_eq_true rfl) dX12_turns_46 ⟨Nat.le_of_ble_eq_true rfl, Nat.le_of_ble_eq_true rfl⟩ (fun H locs hI => ?_)
      exact m_iretf hx hb hr hlk hI hf dX12_turns_49
    refine lv_icmp_ne (tgt := 45) hx hb dX12_turns_38 (by decide) (fun c6 => ?_) (fun c6 => ?_)
    · have hf := (if_neg c6).symm.trans hf
      refine lv_iconst (v := 0) hx hb dX12_turns_45 (by decide) ?_
      exact hj46_8 (0 : Int32) H _ _ hf hI (lv_sub hl [] rfl)
    · have hf := (if_pos c6).symm.trans hf
      refine lv_iconst (v := 1) hx hb dX12_turns_41 (by decide) ?_
      refine lv_goto (tgt := 46) hx hb dX12_turns_42 (by decide) ?_
      exact hj46_8 (1 : Int32) H _ _ hf hI (lv_sub hl [] rfl)
  · have hf := (if_pos c2).symm.trans hf
    refine lv_iconst (v := 1) hx hb dX12_turns_8 (by decide) ?_
    exact m_iretf hx hb hr hlk hI hf dX12_turns_9
abbrev rmX12_hums : Room := { frames := 2, cells := 0, slots := 0, locals := 42 }
theorem kb_X12_hums {R : Room} {s : State} {args : Array Value} {own : String} {idx : Nat} (hT : mT s) (hlink : (Cond.methodLink own idx yX12_hums).before args s = true) (h1 : rmX12_hums.frames + 1 ≤ R.frames) (h2 : 8 + (4 + 11) + rmX12_hums.locals ≤ R.locals) : CallB R s args own idx yX12_hums cX12_hums 4 (some .int) [Cond.code yX12_hums cX12_hums 4 (some .int)] rmX12_hums 0 0 2 := m_callB hT kc_X12_hums ki_X12_hums hlink (by decide +kernel) ⟨rfl, rfl, h1, h2⟩
set_option maxHeartbeats 4000000 in
set_option maxRecDepth 100000 in
theorem c_X12_hums (l : Launch) (w : WD) (sz : Nat) (a1 : Int32) (a2 : Int32) (M : Mem) (r : Int32) (M9 : Mem) (hf : f_X12_hums a1 a2 M = some (r, M9)) : mMet l yX12_hums cX12_hums 4 (some .int) rmX12_hums w sz M [.ref (w.1 12 47), .int a1, .int a2] (some (.int r)) M9 := by
  refine m_of (by decide) (Nat.le_of_ble_eq_true rfl) ?_
  intro p e s m args below meth c hx hb hr hml hown hlk hI ls hl
  have hl : lv_has ls 4 [(0, .ref (w.1 12 47)), (1, .int a1), (2, .int a2)] := hl
  unfold f_X12_hums at hf
  refine lv_iload_n hx hb dX12_hums_0 rfl (lv_at hl 1 rfl) ?_
  obtain ⟨r1, hc, hf⟩ := mbp_e hf
  refine m_callS (As := [.int a1]) (rest := []) hx hb hml hown hI (c_X12_isZone l w s.heap.size a1 M _ hc) (kb_X12_isZone hI.T (q1634 hI.T) (Nat.le_of_ble_eq_true rfl) (Nat.le_of_ble_eq_true rfl)) (q1635 hI.T) rfl hl.1 (Nat.le_of_ble_eq_true rfl) dX12_hums_1 ⟨Nat.le_of_ble_eq_true rfl, Nat.le_of_ble_eq_true rfl⟩ (fun H locs hI => ?_)
  refine lv_if_eq (tgt := 17) hx hb dX12_hums_4 (by decide) (fun c2 => ?_) (fun c2 => ?_)
  · have hf := (if_pos c2).symm.trans hf
    refine lv_iconst (v := 1) hx hb dX12_hums_17 (by decide) ?_
    exact m_iretf hx hb hr hlk hI hf dX12_hums_18
  · have hf := (if_neg c2).symm.trans hf
    refine lv_iload_n hx hb dX12_hums_7 rfl (lv_at hl 2 rfl) ?_
    refine lv_iconst (v := 1) hx hb dX12_hums_8 (by decide) ?_
    refine lv_bipush (v := 9) hx hb dX12_hums_9 (by decide) ?_
    obtain ⟨r3, hc, hf⟩ := mbp_e hf
    refine m_callS (As := [.int a2, .int (1 : Int32), .int (9 : Int32)]) (rest := []) hx hb hml hown hI (c_X12_in l w H.size a2 (1 : Int32) (9 : Int32) M _ hc) (kb_X12_in hI.T (q1544 hI.T) (Nat.le_of_ble_eq_true rfl) (Nat.le_of_ble_eq_true rfl)) (q1545 hI.T) rfl hl.1 (Nat.le_of_ble_eq_true rfl) dX12_hums_11 ⟨Nat.le_of_ble_eq_true rfl, Nat.le_of_ble_eq_true rfl⟩ (fun H locs hI => ?_)
    refine lv_if_ne (tgt := 19) hx hb dX12_hums_14 (by decide) (fun c4 => ?_) (fun c4 => ?_)
    · have hf := (if_neg c4).symm.trans hf
      refine lv_aload_n hx hb dX12_hums_19 rfl (lv_at hl 0 rfl) ?_
      refine m_get (g := 12) (i := 47) (ci := 10) (k := 1) (v := .ref (w.1 12 48)) hx hb hI hown (mokX (by decide) (by decide)) rfl rfl (by decide) lyX12 (q1427 hI.T) rfl dX12_hums_20 ?_
      refine lv_bipush (v := 31) hx hb dX12_hums_23 (by decide) ?_
      refine lv_iload_n hx hb dX12_hums_25 rfl (lv_at hl 1 rfl) ?_
      refine lv_iadd hx hb dX12_hums_26 ?_
      obtain ⟨hi, hf⟩ := mix_e hf
      refine m_iald (g := 12) (i := 48) hx hb hI (mokX (by decide) (by decide)) rfl hi dX12_hums_27 ?_
      refine lv_iload_n hx hb dX12_hums_28 rfl (lv_at hl 2 rfl) ?_
      refine lv_iadd hx hb dX12_hums_29 ?_
      refine lv_topi (fun x5 ex5 => ?_)
      have hf := mlet_s ex5 hf
      refine lv_istore_n (lv' := [(3, .int x5), (0, .ref (w.1 12 47)), (1, .int a1), (2, .int a2)]) hx hb dX12_hums_30 rfl hl (by decide) rfl (fun ls hl => ?_)
      refine lv_aload_n hx hb dX12_hums_31 rfl (lv_at hl 1 rfl) ?_
      refine m_get (g := 12) (i := 47) (ci := 10) (k := 1) (v := .ref (w.1 12 48)) hx hb hI hown (mokX (by decide) (by decide)) rfl rfl (by decide) lyX12 (q1427 hI.T) rfl dX12_hums_32 ?_
      refine lv_bipush (v := 31) hx hb dX12_hums_35 (by decide) ?_
      refine lv_iload_n hx hb dX12_hums_37 rfl (lv_at hl 2 rfl) ?_
      refine lv_iadd hx hb dX12_hums_38 ?_
      refine lv_iload_n hx hb dX12_hums_39 rfl (lv_at hl 0 rfl) ?_
      refine lv_bipush (v := 20) hx hb dX12_hums_40 (by decide) ?_
      obtain ⟨k51_8, ek51_8, hf⟩ := mlet_e hf
      have hj51_8 : ∀ (x7 : Int32) (H : Heap) (locs : List Loc) (ls : Array Slot), k51_8 x7 = some (r, M9) → mI w s (mA w s.heap.size) H locs M → lv_has ls 4 [(0, .ref (w.1 12 47)), (1, .int a1)] → W p l e rmX12_hums s m args below meth c H locs 0 0 (MQ below (mQ w s.heap.size (some (.int r)) M9) args s 0 0 (mA w s.heap.size)) (F0 m 51 ls [.int x7, .int ((31 : Int32) + a1), .ref (w.1 12 48)]) := by
        intro x7 H locs ls hf hI hl
        rw [ek51_8] at hf
        try dsimp only at hf
        obtain ⟨hi, hf⟩ := mix_e hf
        obtain ⟨M10, eM10, hf⟩ := mlet_e hf
        refine m_iast (g := 12) (i := 48) (M1 := M10) hx hb hI (mokX (by decide) (by decide)) rfl hi eM10 dX12_hums_51 (fun H locs hI => ?_)
        refine lv_aload_n hx hb dX12_hums_52 rfl (lv_at hl 0 rfl) ?_
        refine lv_aload_n hx hb dX12_hums_53 rfl (lv_at hl 0 rfl) ?_
        refine m_get (g := 12) (i := 47) (ci := 10) (k := 1) (v := .ref (w.1 12 48)) hx hb hI hown (mokX (by decide) (by decide)) rfl rfl (by decide) lyX12 (q1427 hI.T) rfl dX12_hums_54 ?_
        refine lv_bipush (v := 31) hx hb dX12_hums_57 (by decide) ?_
        refine lv_iload_n hx hb dX12_hums_59 rfl (lv_at hl 1 rfl) ?_
        refine lv_iadd hx hb dX12_hums_60 ?_
        obtain ⟨hi, hf⟩ := mix_e hf
        refine m_iald (g := 12) (i := 48) hx hb hI (mokX (by decide) (by decide)) rfl hi dX12_hums_61 ?_
        obtain ⟨r11, M12, hc, hf⟩ := mbnd_e hf
        refine m_callV (As := [.int (M10 12 48 ((31 : Int32) + a1).toNatClampNeg)]) (rest := []) hx hb hml hown hI (c_X12_done l w H.size (M10 12 48 ((31 : Int32) + a1).toNatClampNeg) M10 _ _ hc) (kb_X12_done hI.T (q1520 hI.T) (Nat.le_of_ble_eq_true rfl) (Nat.le_of_ble_eq_true rfl)) (q1522 hI.T) (sel_X12_done hI.T) (m_recv (g := 12) (i := 47) hI (mokX (by decide) (by decide)) rfl rfl) rfl hl.1 (Nat.le_of_ble_eq_true rfl) dX12_hums_62 ⟨Nat.le_of_ble_eq_true rfl, Nat.le_of_ble_eq_true rfl⟩ (fun H locs hI => ?_)
        exact m_iretf hx hb hr hlk hI hf dX12_hums_65
      refine lv_icmp_le (tgt := 50) hx hb dX12_hums_42 (by decide) (fun c6 => ?_) (fun c6 => ?_)
      · have hf := (if_pos c6).symm.trans hf
        refine lv_iload_n hx hb dX12_hums_50 rfl (lv_at hl 0 rfl) ?_
        exact hj51_8 x5 H _ _ hf hI (lv_sub hl [1, 2] rfl)
      · have hf := (if_neg c6).symm.trans hf
        refine lv_bipush (v := 20) hx hb dX12_hums_45 (by decide) ?_
        refine lv_goto (tgt := 51) hx hb dX12_hums_47 (by decide) ?_
        exact hj51_8 (20 : Int32) H _ _ hf hI (lv_sub hl [1, 2] rfl)
    · have hf := (if_pos c4).symm.trans hf
      refine lv_iconst (v := 1) hx hb dX12_hums_17 (by decide) ?_
      exact m_iretf hx hb hr hlk hI hf dX12_hums_18
abbrev rmX12_passes : Room := { frames := 4, cells := 0, slots := 0, locals := 89 }
theorem kb_X12_passes {R : Room} {s : State} {args : Array Value} {own : String} {idx : Nat} (hT : mT s) (hlink : (Cond.methodLink own idx yX12_passes).before args s = true) (h1 : rmX12_passes.frames + 1 ≤ R.frames) (h2 : 8 + (4 + 11) + rmX12_passes.locals ≤ R.locals) : CallB R s args own idx yX12_passes cX12_passes 4 (some .int) [Cond.code yX12_passes cX12_passes 4 (some .int)] rmX12_passes 0 0 1 := m_callB hT kc_X12_passes ki_X12_passes hlink (by decide +kernel) ⟨rfl, rfl, h1, h2⟩
set_option maxHeartbeats 4000000 in
set_option maxRecDepth 100000 in
theorem c_X12_passes (l : Launch) (w : WD) (sz : Nat) (a1 : Int32) (M : Mem) (r : Int32) (M9 : Mem) (hf : f_X12_passes a1 M = some (r, M9)) : mMet l yX12_passes cX12_passes 4 (some .int) rmX12_passes w sz M [.ref (w.1 12 47), .int a1] (some (.int r)) M9 := by
  refine m_of (by decide) (Nat.le_of_ble_eq_true rfl) ?_
  intro p e s m args below meth c hx hb hr hml hown hlk hI ls hl
  have hl : lv_has ls 4 [(0, .ref (w.1 12 47)), (1, .int a1)] := hl
  unfold f_X12_passes at hf
  refine lv_iload_n hx hb dX12_passes_0 rfl (lv_at hl 1 rfl) ?_
  refine lv_iconst (v := 1) hx hb dX12_passes_1 (by decide) ?_
  refine lv_bipush (v := 24) hx hb dX12_passes_2 (by decide) ?_
  obtain ⟨r1, hc, hf⟩ := mbp_e hf
  refine m_callS (As := [.int a1, .int (1 : Int32), .int (24 : Int32)]) (rest := []) hx hb hml hown hI (c_X12_in l w s.heap.size a1 (1 : Int32) (24 : Int32) M _ hc) (kb_X12_in hI.T (q1544 hI.T) (Nat.le_of_ble_eq_true rfl) (Nat.le_of_ble_eq_true rfl)) (q1545 hI.T) rfl hl.1 (Nat.le_of_ble_eq_true rfl) dX12_passes_4 ⟨Nat.le_of_ble_eq_true rfl, Nat.le_of_ble_eq_true rfl⟩ (fun H locs hI => ?_)
  refine lv_if_ne (tgt := 12) hx hb dX12_passes_7 (by decide) (fun c2 => ?_) (fun c2 => ?_)
  · have hf := (if_neg c2).symm.trans hf
    refine lv_iconst (v := 0) hx hb dX12_passes_12 (by decide) ?_
    refine lv_istore_n (lv' := [(2, .int (0 : Int32)), (0, .ref (w.1 12 47)), (1, .int a1)]) hx hb dX12_passes_13 rfl hl (by decide) rfl (fun ls hl => ?_)
    refine lv_iconst (v := 0) hx hb dX12_passes_14 (by decide) ?_
    refine lv_istore_n (lv' := [(3, .int (0 : Int32)), (2, .int (0 : Int32)), (0, .ref (w.1 12 47)), (1, .int a1)]) hx hb dX12_passes_15 rfl hl (by decide) rfl (fun ls hl => ?_)
    have hL16 : ∀ (n : Nat) (x3 : Int32) (x4 : Int32) (M5 : Mem) (kk : Int32 → Mem → Option (Int32 × Mem)) (H : Heap) (locs : List Loc) (ls : Array Slot), f_X12_passes_L16 a1 n x3 x4 M5 kk = some (r, M9) → mI w s (mA w s.heap.size) H locs M5 → lv_has ls 4 [(0, .ref (w.1 12 47)), (1, .int a1), (2, .int x3), (3, .int x4)] → (∀ (x3 : Int32) (M5 : Mem) (H : Heap) (locs : List Loc) (ls : Array Slot), kk x3 M5 = some (r, M9) → mI w s (mA w s.heap.size) H locs M5 → lv_has ls 4 [(0, .ref (w.1 12 47)), (2, .int x3)] → W p l e rmX12_passes s m args below meth c H locs 0 0 (MQ below (mQ w s.heap.size (some (.int r)) M9) args s 0 0 (mA w s.heap.size)) (F0 m 34 ls [])) → W p l e rmX12_passes s m args below meth c H locs 0 0 (MQ below (mQ w s.heap.size (some (.int r)) M9) args s 0 0 (mA w s.heap.size)) (F0 m 16 ls []) := by
      intro n
      induction n with
      | zero => intro x3 x4 M5 kk H locs ls hf hI hl hk; rw [f_X12_passes_L16.eq_1] at hf; cases hf
      | succ n ih16 =>
        intro x3 x4 M5 kk H locs ls hf hI hl hk
        rw [f_X12_passes_L16.eq_2] at hf
        refine lv_iload_n hx hb dX12_passes_16 rfl (lv_at hl 3 rfl) ?_
        refine lv_iload_n hx hb dX12_passes_17 rfl (lv_at hl 1 rfl) ?_
        refine lv_icmp_ge (tgt := 34) hx hb dX12_passes_18 (by decide) (fun c6 => ?_) (fun c6 => ?_)
        · have hf := (if_pos c6).symm.trans hf
          exact hk x3 M5 H _ _ hf hI (lv_sub hl [0, 2] rfl)
        · have hf := (if_neg c6).symm.trans hf
          refine lv_iload_n hx hb dX12_passes_21 rfl (lv_at hl 2 rfl) ?_
          refine lv_aload_n hx hb dX12_passes_22 rfl (lv_at hl 0 rfl) ?_
          obtain ⟨r7, M8, hc, hf⟩ := mbnd_e hf
          refine m_callV (As := []) (rest := [.int x3]) hx hb hml hown hI (c_X12_oneHour l w H.size M5 _ _ hc) (kb_X12_oneHour hI.T (q1665 hI.T) (Nat.le_of_ble_eq_true rfl) (Nat.le_of_ble_eq_true rfl)) (q1667 hI.T) (sel_X12_oneHour hI.T) (m_recv (g := 12) (i := 47) hI (mokX (by decide) (by decide)) rfl rfl) rfl hl.1 (Nat.le_of_ble_eq_true rfl) dX12_passes_23 ⟨Nat.le_of_ble_eq_true rfl, Nat.le_of_ble_eq_true rfl⟩ (fun H locs hI => ?_)
          refine lv_iadd hx hb dX12_passes_26 ?_
          refine lv_topi (fun x9 ex9 => ?_)
          have hf := mlet_s ex9 hf
          refine lv_istore_n (lv' := [(2, .int x9), (0, .ref (w.1 12 47)), (1, .int a1), (3, .int x4)]) hx hb dX12_passes_27 rfl hl (by decide) rfl (fun ls hl => ?_)
          obtain ⟨x10, ex10, hf⟩ := mlet_e hf
          refine lv_iinc (v := x10) (lv' := [(3, .int x10), (2, .int x9), (0, .ref (w.1 12 47)), (1, .int a1)]) hx hb dX12_passes_28 hl (k := 3) rfl (by rw [ex10]; rfl) (by decide) rfl (fun ls hl => ?_)
          refine lv_goto (tgt := 16) hx hb dX12_passes_31 (by decide) ?_
          exact ih16 x9 x10 M8 kk H _ _ hf hI (lv_sub hl [2, 3, 1, 0] rfl) hk
    refine hL16 1000 (0 : Int32) (0 : Int32) M _ _ _ _ hf hI (lv_sub hl [2, 3, 1, 0] rfl) ?_
    intro x11 M12 H locs ls hf hI hl
    try dsimp only at hf
    refine lv_aload_n hx hb dX12_passes_34 rfl (lv_at hl 0 rfl) ?_
    refine lv_iload_n hx hb dX12_passes_35 rfl (lv_at hl 1 rfl) ?_
    obtain ⟨r13, M14, hc, hf⟩ := mbnd_e hf
    refine m_callV (As := [.int x11]) (rest := []) hx hb hml hown hI (c_X12_done l w H.size x11 M12 _ _ hc) (kb_X12_done hI.T (q1520 hI.T) (Nat.le_of_ble_eq_true rfl) (Nat.le_of_ble_eq_true rfl)) (q1522 hI.T) (sel_X12_done hI.T) (m_recv (g := 12) (i := 47) hI (mokX (by decide) (by decide)) rfl rfl) rfl hl.1 (Nat.le_of_ble_eq_true rfl) dX12_passes_36 ⟨Nat.le_of_ble_eq_true rfl, Nat.le_of_ble_eq_true rfl⟩ (fun H locs hI => ?_)
    exact m_iretf hx hb hr hlk hI hf dX12_passes_39
  · have hf := (if_pos c2).symm.trans hf
    refine lv_iconst (v := 1) hx hb dX12_passes_10 (by decide) ?_
    exact m_iretf hx hb hr hlk hI hf dX12_passes_11
abbrev rmX12_addHolder : Room := { frames := 2, cells := 0, slots := 0, locals := 44 }
theorem kb_X12_addHolder {R : Room} {s : State} {args : Array Value} {own : String} {idx : Nat} (hT : mT s) (hlink : (Cond.methodLink own idx yX12_addHolder).before args s = true) (h1 : rmX12_addHolder.frames + 1 ≤ R.frames) (h2 : 8 + (1 + 11) + rmX12_addHolder.locals ≤ R.locals) : CallB R s args own idx yX12_addHolder cX12_addHolder 1 (some .int) [Cond.code yX12_addHolder cX12_addHolder 1 (some .int)] rmX12_addHolder 0 0 0 := m_callB hT kc_X12_addHolder ki_X12_addHolder hlink (by decide +kernel) ⟨rfl, rfl, h1, h2⟩
set_option maxHeartbeats 4000000 in
set_option maxRecDepth 100000 in
theorem c_X12_addHolder (l : Launch) (w : WD) (sz : Nat)  (M : Mem) (r : Int32) (M9 : Mem) (hf : f_X12_addHolder  M = some (r, M9)) : mMet l yX12_addHolder cX12_addHolder 1 (some .int) rmX12_addHolder w sz M [.ref (w.1 12 47)] (some (.int r)) M9 := by
  refine m_of (by decide) (Nat.le_of_ble_eq_true rfl) ?_
  intro p e s m args below meth c hx hb hr hml hown hlk hI ls hl
  have hl : lv_has ls 1 [(0, .ref (w.1 12 47))] := hl
  unfold f_X12_addHolder at hf
  refine lv_aload_n hx hb dX12_addHolder_0 rfl (lv_at hl 0 rfl) ?_
  obtain ⟨r1, M2, hc, hf⟩ := mbnd_e hf
  refine m_callV (As := []) (rest := []) hx hb hml hown hI (c_X12_remembers l w s.heap.size M _ _ hc) (kb_X12_remembers hI.T (q1504 hI.T) (Nat.le_of_ble_eq_true rfl) (Nat.le_of_ble_eq_true rfl)) (q1506 hI.T) (sel_X12_remembers hI.T) (m_recv (g := 12) (i := 47) hI (mokX (by decide) (by decide)) rfl rfl) rfl hl.1 (Nat.le_of_ble_eq_true rfl) dX12_addHolder_1 ⟨Nat.le_of_ble_eq_true rfl, Nat.le_of_ble_eq_true rfl⟩ (fun H locs hI => ?_)
  refine lv_aload_n hx hb dX12_addHolder_4 rfl (lv_at hl 0 rfl) ?_
  refine lv_aload_n hx hb dX12_addHolder_5 rfl (lv_at hl 0 rfl) ?_
  obtain ⟨r3, M4, hc, hf⟩ := mbnd_e hf
  refine m_callV (As := []) (rest := [.ref (w.1 12 47)]) hx hb hml hown hI (c_X12_adds l w H.size M2 _ _ hc) (kb_X12_adds hI.T (q1508 hI.T) (Nat.le_of_ble_eq_true rfl) (Nat.le_of_ble_eq_true rfl)) (q1510 hI.T) (sel_X12_adds hI.T) (m_recv (g := 12) (i := 47) hI (mokX (by decide) (by decide)) rfl rfl) rfl hl.1 (Nat.le_of_ble_eq_true rfl) dX12_addHolder_6 ⟨Nat.le_of_ble_eq_true rfl, Nat.le_of_ble_eq_true rfl⟩ (fun H locs hI => ?_)
  refine lv_iconst (v := 1) hx hb dX12_addHolder_9 (by decide) ?_
  obtain ⟨r5, M6, hc, hf⟩ := mbnd_e hf
  refine m_callV (As := [.int r3, .int (1 : Int32)]) (rest := []) hx hb hml hown hI (c_X12_ends l w H.size r3 (1 : Int32) M4 _ _ hc) (kb_X12_ends hI.T (q1524 hI.T) (Nat.le_of_ble_eq_true rfl) (Nat.le_of_ble_eq_true rfl)) (q1526 hI.T) (sel_X12_ends hI.T) (m_recv (g := 12) (i := 47) hI (mokX (by decide) (by decide)) rfl rfl) rfl hl.1 (Nat.le_of_ble_eq_true rfl) dX12_addHolder_10 ⟨Nat.le_of_ble_eq_true rfl, Nat.le_of_ble_eq_true rfl⟩ (fun H locs hI => ?_)
  exact m_iretf hx hb hr hlk hI hf dX12_addHolder_13
abbrev rmX12_seal : Room := { frames := 2, cells := 0, slots := 0, locals := 47 }
theorem kb_X12_seal {R : Room} {s : State} {args : Array Value} {own : String} {idx : Nat} (hT : mT s) (hlink : (Cond.methodLink own idx yX12_seal).before args s = true) (h1 : rmX12_seal.frames + 1 ≤ R.frames) (h2 : 8 + (5 + 11) + rmX12_seal.locals ≤ R.locals) : CallB R s args own idx yX12_seal cX12_seal 5 (some .int) [Cond.code yX12_seal cX12_seal 5 (some .int)] rmX12_seal 0 0 4 := m_callB hT kc_X12_seal ki_X12_seal hlink (by decide +kernel) ⟨rfl, rfl, h1, h2⟩
set_option maxHeartbeats 4000000 in
set_option maxRecDepth 100000 in
theorem c_X12_seal (l : Launch) (w : WD) (sz : Nat) (a1 : Int32) (a2 : Int32) (a3 : Int32) (a4 : Int32) (M : Mem) (r : Int32) (M9 : Mem) (hf : f_X12_seal a1 a2 a3 a4 M = some (r, M9)) : mMet l yX12_seal cX12_seal 5 (some .int) rmX12_seal w sz M [.ref (w.1 12 47), .int a1, .int a2, .int a3, .int a4] (some (.int r)) M9 := by
  refine m_of (by decide) (Nat.le_of_ble_eq_true rfl) ?_
  intro p e s m args below meth c hx hb hr hml hown hlk hI ls hl
  have hl : lv_has ls 5 [(0, .ref (w.1 12 47)), (1, .int a1), (2, .int a2), (3, .int a3), (4, .int a4)] := hl
  unfold f_X12_seal at hf
  refine lv_aload_n hx hb dX12_seal_0 rfl (lv_at hl 0 rfl) ?_
  obtain ⟨r1, M2, hc, hf⟩ := mbnd_e hf
  refine m_callV (As := []) (rest := []) hx hb hml hown hI (c_X12_remembers l w s.heap.size M _ _ hc) (kb_X12_remembers hI.T (q1504 hI.T) (Nat.le_of_ble_eq_true rfl) (Nat.le_of_ble_eq_true rfl)) (q1506 hI.T) (sel_X12_remembers hI.T) (m_recv (g := 12) (i := 47) hI (mokX (by decide) (by decide)) rfl rfl) rfl hl.1 (Nat.le_of_ble_eq_true rfl) dX12_seal_1 ⟨Nat.le_of_ble_eq_true rfl, Nat.le_of_ble_eq_true rfl⟩ (fun H locs hI => ?_)
  refine lv_aload_n hx hb dX12_seal_4 rfl (lv_at hl 0 rfl) ?_
  refine lv_aload_n hx hb dX12_seal_5 rfl (lv_at hl 0 rfl) ?_
  refine lv_iload_n hx hb dX12_seal_6 rfl (lv_at hl 1 rfl) ?_
  refine lv_iload_n hx hb dX12_seal_7 rfl (lv_at hl 2 rfl) ?_
  refine lv_iload_n hx hb dX12_seal_8 rfl (lv_at hl 3 rfl) ?_
  refine lv_iload hx hb dX12_seal_9 (lv_at hl 4 rfl) ?_
  obtain ⟨r3, M4, hc, hf⟩ := mbnd_e hf
  refine m_callV (As := [.int a1, .int a2, .int a3, .int a4]) (rest := [.ref (w.1 12 47)]) hx hb hml hown hI (c_X12_seals l w H.size a1 a2 a3 a4 M2 _ _ hc) (kb_X12_seals hI.T (q1540 hI.T) (Nat.le_of_ble_eq_true rfl) (Nat.le_of_ble_eq_true rfl)) (q1542 hI.T) (sel_X12_seals hI.T) (m_recv (g := 12) (i := 47) hI (mokX (by decide) (by decide)) rfl rfl) rfl hl.1 (Nat.le_of_ble_eq_true rfl) dX12_seal_11 ⟨Nat.le_of_ble_eq_true rfl, Nat.le_of_ble_eq_true rfl⟩ (fun H locs hI => ?_)
  refine lv_iconst (v := 2) hx hb dX12_seal_14 (by decide) ?_
  obtain ⟨r5, M6, hc, hf⟩ := mbnd_e hf
  refine m_callV (As := [.int r3, .int (2 : Int32)]) (rest := []) hx hb hml hown hI (c_X12_ends l w H.size r3 (2 : Int32) M4 _ _ hc) (kb_X12_ends hI.T (q1524 hI.T) (Nat.le_of_ble_eq_true rfl) (Nat.le_of_ble_eq_true rfl)) (q1526 hI.T) (sel_X12_ends hI.T) (m_recv (g := 12) (i := 47) hI (mokX (by decide) (by decide)) rfl rfl) rfl hl.1 (Nat.le_of_ble_eq_true rfl) dX12_seal_15 ⟨Nat.le_of_ble_eq_true rfl, Nat.le_of_ble_eq_true rfl⟩ (fun H locs hI => ?_)
  exact m_iretf hx hb hr hlk hI hf dX12_seal_18
abbrev rmX12_setShare : Room := { frames := 3, cells := 0, slots := 0, locals := 66 }
theorem kb_X12_setShare {R : Room} {s : State} {args : Array Value} {own : String} {idx : Nat} (hT : mT s) (hlink : (Cond.methodLink own idx yX12_setShare).before args s = true) (h1 : rmX12_setShare.frames + 1 ≤ R.frames) (h2 : 8 + (3 + 11) + rmX12_setShare.locals ≤ R.locals) : CallB R s args own idx yX12_setShare cX12_setShare 3 (some .int) [Cond.code yX12_setShare cX12_setShare 3 (some .int)] rmX12_setShare 0 0 2 := m_callB hT kc_X12_setShare ki_X12_setShare hlink (by decide +kernel) ⟨rfl, rfl, h1, h2⟩
set_option maxHeartbeats 4000000 in
set_option maxRecDepth 100000 in
theorem c_X12_setShare (l : Launch) (w : WD) (sz : Nat) (a1 : Int32) (a2 : Int32) (M : Mem) (r : Int32) (M9 : Mem) (hf : f_X12_setShare a1 a2 M = some (r, M9)) : mMet l yX12_setShare cX12_setShare 3 (some .int) rmX12_setShare w sz M [.ref (w.1 12 47), .int a1, .int a2] (some (.int r)) M9 := by
  refine m_of (by decide) (Nat.le_of_ble_eq_true rfl) ?_
  intro p e s m args below meth c hx hb hr hml hown hlk hI ls hl
  have hl : lv_has ls 3 [(0, .ref (w.1 12 47)), (1, .int a1), (2, .int a2)] := hl
  unfold f_X12_setShare at hf
  refine lv_aload_n hx hb dX12_setShare_0 rfl (lv_at hl 0 rfl) ?_
  obtain ⟨r1, M2, hc, hf⟩ := mbnd_e hf
  refine m_callV (As := []) (rest := []) hx hb hml hown hI (c_X12_remembers l w s.heap.size M _ _ hc) (kb_X12_remembers hI.T (q1504 hI.T) (Nat.le_of_ble_eq_true rfl) (Nat.le_of_ble_eq_true rfl)) (q1506 hI.T) (sel_X12_remembers hI.T) (m_recv (g := 12) (i := 47) hI (mokX (by decide) (by decide)) rfl rfl) rfl hl.1 (Nat.le_of_ble_eq_true rfl) dX12_setShare_1 ⟨Nat.le_of_ble_eq_true rfl, Nat.le_of_ble_eq_true rfl⟩ (fun H locs hI => ?_)
  refine lv_aload_n hx hb dX12_setShare_4 rfl (lv_at hl 0 rfl) ?_
  refine lv_aload_n hx hb dX12_setShare_5 rfl (lv_at hl 0 rfl) ?_
  refine lv_iload_n hx hb dX12_setShare_6 rfl (lv_at hl 1 rfl) ?_
  refine lv_iload_n hx hb dX12_setShare_7 rfl (lv_at hl 2 rfl) ?_
  obtain ⟨r3, M4, hc, hf⟩ := mbnd_e hf
  refine m_callV (As := [.int a1, .int a2]) (rest := [.ref (w.1 12 47)]) hx hb hml hown hI (c_X12_shares l w H.size a1 a2 M2 _ _ hc) (kb_X12_shares hI.T (q1555 hI.T) (Nat.le_of_ble_eq_true rfl) (Nat.le_of_ble_eq_true rfl)) (q1557 hI.T) (sel_X12_shares hI.T) (m_recv (g := 12) (i := 47) hI (mokX (by decide) (by decide)) rfl rfl) rfl hl.1 (Nat.le_of_ble_eq_true rfl) dX12_setShare_8 ⟨Nat.le_of_ble_eq_true rfl, Nat.le_of_ble_eq_true rfl⟩ (fun H locs hI => ?_)
  refine lv_iconst (v := 3) hx hb dX12_setShare_11 (by decide) ?_
  obtain ⟨r5, M6, hc, hf⟩ := mbnd_e hf
  refine m_callV (As := [.int r3, .int (3 : Int32)]) (rest := []) hx hb hml hown hI (c_X12_ends l w H.size r3 (3 : Int32) M4 _ _ hc) (kb_X12_ends hI.T (q1524 hI.T) (Nat.le_of_ble_eq_true rfl) (Nat.le_of_ble_eq_true rfl)) (q1526 hI.T) (sel_X12_ends hI.T) (m_recv (g := 12) (i := 47) hI (mokX (by decide) (by decide)) rfl rfl) rfl hl.1 (Nat.le_of_ble_eq_true rfl) dX12_setShare_12 ⟨Nat.le_of_ble_eq_true rfl, Nat.le_of_ble_eq_true rfl⟩ (fun H locs hI => ?_)
  exact m_iretf hx hb hr hlk hI hf dX12_setShare_15
abbrev rmX12_present : Room := { frames := 3, cells := 0, slots := 0, locals := 64 }
theorem kb_X12_present {R : Room} {s : State} {args : Array Value} {own : String} {idx : Nat} (hT : mT s) (hlink : (Cond.methodLink own idx yX12_present).before args s = true) (h1 : rmX12_present.frames + 1 ≤ R.frames) (h2 : 8 + (2 + 11) + rmX12_present.locals ≤ R.locals) : CallB R s args own idx yX12_present cX12_present 2 (some .int) [Cond.code yX12_present cX12_present 2 (some .int)] rmX12_present 0 0 1 := m_callB hT kc_X12_present ki_X12_present hlink (by decide +kernel) ⟨rfl, rfl, h1, h2⟩
set_option maxHeartbeats 4000000 in
set_option maxRecDepth 100000 in
theorem c_X12_present (l : Launch) (w : WD) (sz : Nat) (a1 : Int32) (M : Mem) (r : Int32) (M9 : Mem) (hf : f_X12_present a1 M = some (r, M9)) : mMet l yX12_present cX12_present 2 (some .int) rmX12_present w sz M [.ref (w.1 12 47), .int a1] (some (.int r)) M9 := by
  refine m_of (by decide) (Nat.le_of_ble_eq_true rfl) ?_
  intro p e s m args below meth c hx hb hr hml hown hlk hI ls hl
  have hl : lv_has ls 2 [(0, .ref (w.1 12 47)), (1, .int a1)] := hl
  unfold f_X12_present at hf
  refine lv_aload_n hx hb dX12_present_0 rfl (lv_at hl 0 rfl) ?_
  obtain ⟨r1, M2, hc, hf⟩ := mbnd_e hf
  refine m_callV (As := []) (rest := []) hx hb hml hown hI (c_X12_remembers l w s.heap.size M _ _ hc) (kb_X12_remembers hI.T (q1504 hI.T) (Nat.le_of_ble_eq_true rfl) (Nat.le_of_ble_eq_true rfl)) (q1506 hI.T) (sel_X12_remembers hI.T) (m_recv (g := 12) (i := 47) hI (mokX (by decide) (by decide)) rfl rfl) rfl hl.1 (Nat.le_of_ble_eq_true rfl) dX12_present_1 ⟨Nat.le_of_ble_eq_true rfl, Nat.le_of_ble_eq_true rfl⟩ (fun H locs hI => ?_)
  refine lv_aload_n hx hb dX12_present_4 rfl (lv_at hl 0 rfl) ?_
  refine lv_aload_n hx hb dX12_present_5 rfl (lv_at hl 0 rfl) ?_
  refine lv_iload_n hx hb dX12_present_6 rfl (lv_at hl 1 rfl) ?_
  obtain ⟨r3, M4, hc, hf⟩ := mbnd_e hf
  refine m_callV (As := [.int a1]) (rest := [.ref (w.1 12 47)]) hx hb hml hown hI (c_X12_presents l w H.size a1 M2 _ _ hc) (kb_X12_presents hI.T (q1567 hI.T) (Nat.le_of_ble_eq_true rfl) (Nat.le_of_ble_eq_true rfl)) (q1569 hI.T) (sel_X12_presents hI.T) (m_recv (g := 12) (i := 47) hI (mokX (by decide) (by decide)) rfl rfl) rfl hl.1 (Nat.le_of_ble_eq_true rfl) dX12_present_7 ⟨Nat.le_of_ble_eq_true rfl, Nat.le_of_ble_eq_true rfl⟩ (fun H locs hI => ?_)
  refine lv_iconst (v := 2) hx hb dX12_present_10 (by decide) ?_
  obtain ⟨r5, M6, hc, hf⟩ := mbnd_e hf
  refine m_callV (As := [.int r3, .int (2 : Int32)]) (rest := []) hx hb hml hown hI (c_X12_ends l w H.size r3 (2 : Int32) M4 _ _ hc) (kb_X12_ends hI.T (q1524 hI.T) (Nat.le_of_ble_eq_true rfl) (Nat.le_of_ble_eq_true rfl)) (q1526 hI.T) (sel_X12_ends hI.T) (m_recv (g := 12) (i := 47) hI (mokX (by decide) (by decide)) rfl rfl) rfl hl.1 (Nat.le_of_ble_eq_true rfl) dX12_present_11 ⟨Nat.le_of_ble_eq_true rfl, Nat.le_of_ble_eq_true rfl⟩ (fun H locs hI => ?_)
  exact m_iretf hx hb hr hlk hI hf dX12_present_14
abbrev rmX12_takeBack : Room := { frames := 3, cells := 0, slots := 0, locals := 66 }
theorem kb_X12_takeBack {R : Room} {s : State} {args : Array Value} {own : String} {idx : Nat} (hT : mT s) (hlink : (Cond.methodLink own idx yX12_takeBack).before args s = true) (h1 : rmX12_takeBack.frames + 1 ≤ R.frames) (h2 : 8 + (2 + 11) + rmX12_takeBack.locals ≤ R.locals) : CallB R s args own idx yX12_takeBack cX12_takeBack 2 (some .int) [Cond.code yX12_takeBack cX12_takeBack 2 (some .int)] rmX12_takeBack 0 0 1 := m_callB hT kc_X12_takeBack ki_X12_takeBack hlink (by decide +kernel) ⟨rfl, rfl, h1, h2⟩
set_option maxHeartbeats 4000000 in
set_option maxRecDepth 100000 in
theorem c_X12_takeBack (l : Launch) (w : WD) (sz : Nat) (a1 : Int32) (M : Mem) (r : Int32) (M9 : Mem) (hf : f_X12_takeBack a1 M = some (r, M9)) : mMet l yX12_takeBack cX12_takeBack 2 (some .int) rmX12_takeBack w sz M [.ref (w.1 12 47), .int a1] (some (.int r)) M9 := by
  refine m_of (by decide) (Nat.le_of_ble_eq_true rfl) ?_
  intro p e s m args below meth c hx hb hr hml hown hlk hI ls hl
  have hl : lv_has ls 2 [(0, .ref (w.1 12 47)), (1, .int a1)] := hl
  unfold f_X12_takeBack at hf
  refine lv_aload_n hx hb dX12_takeBack_0 rfl (lv_at hl 0 rfl) ?_
  obtain ⟨r1, M2, hc, hf⟩ := mbnd_e hf
  refine m_callV (As := []) (rest := []) hx hb hml hown hI (c_X12_remembers l w s.heap.size M _ _ hc) (kb_X12_remembers hI.T (q1504 hI.T) (Nat.le_of_ble_eq_true rfl) (Nat.le_of_ble_eq_true rfl)) (q1506 hI.T) (sel_X12_remembers hI.T) (m_recv (g := 12) (i := 47) hI (mokX (by decide) (by decide)) rfl rfl) rfl hl.1 (Nat.le_of_ble_eq_true rfl) dX12_takeBack_1 ⟨Nat.le_of_ble_eq_true rfl, Nat.le_of_ble_eq_true rfl⟩ (fun H locs hI => ?_)
  refine lv_aload_n hx hb dX12_takeBack_4 rfl (lv_at hl 0 rfl) ?_
  refine lv_aload_n hx hb dX12_takeBack_5 rfl (lv_at hl 0 rfl) ?_
  refine lv_iload_n hx hb dX12_takeBack_6 rfl (lv_at hl 1 rfl) ?_
  obtain ⟨r3, M4, hc, hf⟩ := mbnd_e hf
  refine m_callV (As := [.int a1]) (rest := [.ref (w.1 12 47)]) hx hb hml hown hI (c_X12_takes l w H.size a1 M2 _ _ hc) (kb_X12_takes hI.T (q1579 hI.T) (Nat.le_of_ble_eq_true rfl) (Nat.le_of_ble_eq_true rfl)) (q1581 hI.T) (sel_X12_takes hI.T) (m_recv (g := 12) (i := 47) hI (mokX (by decide) (by decide)) rfl rfl) rfl hl.1 (Nat.le_of_ble_eq_true rfl) dX12_takeBack_7 ⟨Nat.le_of_ble_eq_true rfl, Nat.le_of_ble_eq_true rfl⟩ (fun H locs hI => ?_)
  refine lv_iconst (v := 2) hx hb dX12_takeBack_10 (by decide) ?_
  obtain ⟨r5, M6, hc, hf⟩ := mbnd_e hf
  refine m_callV (As := [.int r3, .int (2 : Int32)]) (rest := []) hx hb hml hown hI (c_X12_ends l w H.size r3 (2 : Int32) M4 _ _ hc) (kb_X12_ends hI.T (q1524 hI.T) (Nat.le_of_ble_eq_true rfl) (Nat.le_of_ble_eq_true rfl)) (q1526 hI.T) (sel_X12_ends hI.T) (m_recv (g := 12) (i := 47) hI (mokX (by decide) (by decide)) rfl rfl) rfl hl.1 (Nat.le_of_ble_eq_true rfl) dX12_takeBack_11 ⟨Nat.le_of_ble_eq_true rfl, Nat.le_of_ble_eq_true rfl⟩ (fun H locs hI => ?_)
  exact m_iretf hx hb hr hlk hI hf dX12_takeBack_14
abbrev rmX12_openVault : Room := { frames := 4, cells := 0, slots := 0, locals := 91 }
theorem kb_X12_openVault {R : Room} {s : State} {args : Array Value} {own : String} {idx : Nat} (hT : mT s) (hlink : (Cond.methodLink own idx yX12_openVault).before args s = true) (h1 : rmX12_openVault.frames + 1 ≤ R.frames) (h2 : 8 + (1 + 11) + rmX12_openVault.locals ≤ R.locals) : CallB R s args own idx yX12_openVault cX12_openVault 1 (some .boolean) [Cond.code yX12_openVault cX12_openVault 1 (some .boolean)] rmX12_openVault 0 0 0 := m_callB hT kc_X12_openVault ki_X12_openVault hlink (by decide +kernel) ⟨rfl, rfl, h1, h2⟩
set_option maxHeartbeats 4000000 in
set_option maxRecDepth 100000 in
theorem c_X12_openVault (l : Launch) (w : WD) (sz : Nat)  (M : Mem) (r : Int32) (M9 : Mem) (hf : f_X12_openVault  M = some (r, M9)) : mMet l yX12_openVault cX12_openVault 1 (some .boolean) rmX12_openVault w sz M [.ref (w.1 12 47)] (some (.int r)) M9 := by
  refine m_of (by decide) (Nat.le_of_ble_eq_true rfl) ?_
  intro p e s m args below meth c hx hb hr hml hown hlk hI ls hl
  have hl : lv_has ls 1 [(0, .ref (w.1 12 47))] := hl
  unfold f_X12_openVault at hf
  refine lv_aload_n hx hb dX12_openVault_0 rfl (lv_at hl 0 rfl) ?_
  obtain ⟨r1, M2, hc, hf⟩ := mbnd_e hf
  refine m_callV (As := []) (rest := []) hx hb hml hown hI (c_X12_remembers l w s.heap.size M _ _ hc) (kb_X12_remembers hI.T (q1504 hI.T) (Nat.le_of_ble_eq_true rfl) (Nat.le_of_ble_eq_true rfl)) (q1506 hI.T) (sel_X12_remembers hI.T) (m_recv (g := 12) (i := 47) hI (mokX (by decide) (by decide)) rfl rfl) rfl hl.1 (Nat.le_of_ble_eq_true rfl) dX12_openVault_1 ⟨Nat.le_of_ble_eq_true rfl, Nat.le_of_ble_eq_true rfl⟩ (fun H locs hI => ?_)
  refine lv_aload_n hx hb dX12_openVault_4 rfl (lv_at hl 0 rfl) ?_
  refine lv_aload_n hx hb dX12_openVault_5 rfl (lv_at hl 0 rfl) ?_
  obtain ⟨r3, M4, hc, hf⟩ := mbnd_e hf
  refine m_callV (As := []) (rest := [.ref (w.1 12 47)]) hx hb hml hown hI (c_X12_tries l w H.size M2 _ _ hc) (kb_X12_tries hI.T (q1587 hI.T) (Nat.le_of_ble_eq_true rfl) (Nat.le_of_ble_eq_true rfl)) (q1589 hI.T) (sel_X12_tries hI.T) (m_recv (g := 12) (i := 47) hI (mokX (by decide) (by decide)) rfl rfl) rfl hl.1 (Nat.le_of_ble_eq_true rfl) dX12_openVault_6 ⟨Nat.le_of_ble_eq_true rfl, Nat.le_of_ble_eq_true rfl⟩ (fun H locs hI => ?_)
  refine lv_iconst (v := 1) hx hb dX12_openVault_9 (by decide) ?_
  obtain ⟨r5, M6, hc, hf⟩ := mbnd_e hf
  refine m_callV (As := [.int r3, .int (1 : Int32)]) (rest := []) hx hb hml hown hI (c_X12_ends l w H.size r3 (1 : Int32) M4 _ _ hc) (kb_X12_ends hI.T (q1524 hI.T) (Nat.le_of_ble_eq_true rfl) (Nat.le_of_ble_eq_true rfl)) (q1526 hI.T) (sel_X12_ends hI.T) (m_recv (g := 12) (i := 47) hI (mokX (by decide) (by decide)) rfl rfl) rfl hl.1 (Nat.le_of_ble_eq_true rfl) dX12_openVault_10 ⟨Nat.le_of_ble_eq_true rfl, Nat.le_of_ble_eq_true rfl⟩ (fun H locs hI => ?_)
  refine lv_iconst (v := 1) hx hb dX12_openVault_13 (by decide) ?_
  refine lv_icmp_ne (tgt := 21) hx hb dX12_openVault_14 (by decide) (fun c7 => ?_) (fun c7 => ?_)
  · have hf := (if_neg c7).symm.trans hf
    refine lv_iconst (v := 0) hx hb dX12_openVault_21 (by decide) ?_
    exact m_zretf hx hb hr hlk hI rfl hf dX12_openVault_22
  · have hf := (if_pos c7).symm.trans hf
    refine lv_iconst (v := 1) hx hb dX12_openVault_17 (by decide) ?_
    refine lv_goto (tgt := 22) hx hb dX12_openVault_18 (by decide) ?_
    exact m_zretf hx hb hr hlk hI rfl hf dX12_openVault_22
abbrev rmX12_closeVault : Room := { frames := 2, cells := 0, slots := 0, locals := 44 }
theorem kb_X12_closeVault {R : Room} {s : State} {args : Array Value} {own : String} {idx : Nat} (hT : mT s) (hlink : (Cond.methodLink own idx yX12_closeVault).before args s = true) (h1 : rmX12_closeVault.frames + 1 ≤ R.frames) (h2 : 8 + (1 + 11) + rmX12_closeVault.locals ≤ R.locals) : CallB R s args own idx yX12_closeVault cX12_closeVault 1 (some .int) [Cond.code yX12_closeVault cX12_closeVault 1 (some .int)] rmX12_closeVault 0 0 0 := m_callB hT kc_X12_closeVault ki_X12_closeVault hlink (by decide +kernel) ⟨rfl, rfl, h1, h2⟩
set_option maxHeartbeats 4000000 in
set_option maxRecDepth 100000 in
theorem c_X12_closeVault (l : Launch) (w : WD) (sz : Nat)  (M : Mem) (r : Int32) (M9 : Mem) (hf : f_X12_closeVault  M = some (r, M9)) : mMet l yX12_closeVault cX12_closeVault 1 (some .int) rmX12_closeVault w sz M [.ref (w.1 12 47)] (some (.int r)) M9 := by
  refine m_of (by decide) (Nat.le_of_ble_eq_true rfl) ?_
  intro p e s m args below meth c hx hb hr hml hown hlk hI ls hl
  have hl : lv_has ls 1 [(0, .ref (w.1 12 47))] := hl
  unfold f_X12_closeVault at hf
  refine lv_aload_n hx hb dX12_closeVault_0 rfl (lv_at hl 0 rfl) ?_
  obtain ⟨r1, M2, hc, hf⟩ := mbnd_e hf
  refine m_callV (As := []) (rest := []) hx hb hml hown hI (c_X12_remembers l w s.heap.size M _ _ hc) (kb_X12_remembers hI.T (q1504 hI.T) (Nat.le_of_ble_eq_true rfl) (Nat.le_of_ble_eq_true rfl)) (q1506 hI.T) (sel_X12_remembers hI.T) (m_recv (g := 12) (i := 47) hI (mokX (by decide) (by decide)) rfl rfl) rfl hl.1 (Nat.le_of_ble_eq_true rfl) dX12_closeVault_1 ⟨Nat.le_of_ble_eq_true rfl, Nat.le_of_ble_eq_true rfl⟩ (fun H locs hI => ?_)
  refine lv_aload_n hx hb dX12_closeVault_4 rfl (lv_at hl 0 rfl) ?_
  refine lv_aload_n hx hb dX12_closeVault_5 rfl (lv_at hl 0 rfl) ?_
  obtain ⟨r3, M4, hc, hf⟩ := mbnd_e hf
  refine m_callV (As := []) (rest := [.ref (w.1 12 47)]) hx hb hml hown hI (c_X12_closes l w H.size M2 _ _ hc) (kb_X12_closes hI.T (q1622 hI.T) (Nat.le_of_ble_eq_true rfl) (Nat.le_of_ble_eq_true rfl)) (q1624 hI.T) (sel_X12_closes hI.T) (m_recv (g := 12) (i := 47) hI (mokX (by decide) (by decide)) rfl rfl) rfl hl.1 (Nat.le_of_ble_eq_true rfl) dX12_closeVault_6 ⟨Nat.le_of_ble_eq_true rfl, Nat.le_of_ble_eq_true rfl⟩ (fun H locs hI => ?_)
  refine lv_iconst (v := 1) hx hb dX12_closeVault_9 (by decide) ?_
  obtain ⟨r5, M6, hc, hf⟩ := mbnd_e hf
  refine m_callV (As := [.int r3, .int (1 : Int32)]) (rest := []) hx hb hml hown hI (c_X12_ends l w H.size r3 (1 : Int32) M4 _ _ hc) (kb_X12_ends hI.T (q1524 hI.T) (Nat.le_of_ble_eq_true rfl) (Nat.le_of_ble_eq_true rfl)) (q1526 hI.T) (sel_X12_ends hI.T) (m_recv (g := 12) (i := 47) hI (mokX (by decide) (by decide)) rfl rfl) rfl hl.1 (Nat.le_of_ble_eq_true rfl) dX12_closeVault_10 ⟨Nat.le_of_ble_eq_true rfl, Nat.le_of_ble_eq_true rfl⟩ (fun H locs hI => ?_)
  exact m_iretf hx hb hr hlk hI hf dX12_closeVault_13
abbrev rmX12_addGuard : Room := { frames := 3, cells := 0, slots := 0, locals := 66 }
theorem kb_X12_addGuard {R : Room} {s : State} {args : Array Value} {own : String} {idx : Nat} (hT : mT s) (hlink : (Cond.methodLink own idx yX12_addGuard).before args s = true) (h1 : rmX12_addGuard.frames + 1 ≤ R.frames) (h2 : 8 + (4 + 11) + rmX12_addGuard.locals ≤ R.locals) : CallB R s args own idx yX12_addGuard cX12_addGuard 4 (some .int) [Cond.code yX12_addGuard cX12_addGuard 4 (some .int)] rmX12_addGuard 0 0 3 := m_callB hT kc_X12_addGuard ki_X12_addGuard hlink (by decide +kernel) ⟨rfl, rfl, h1, h2⟩
set_option maxHeartbeats 4000000 in
set_option maxRecDepth 100000 in
theorem c_X12_addGuard (l : Launch) (w : WD) (sz : Nat) (a1 : Int32) (a2 : Int32) (a3 : Int32) (M : Mem) (r : Int32) (M9 : Mem) (hf : f_X12_addGuard a1 a2 a3 M = some (r, M9)) : mMet l yX12_addGuard cX12_addGuard 4 (some .int) rmX12_addGuard w sz M [.ref (w.1 12 47), .int a1, .int a2, .int a3] (some (.int r)) M9 := by
  refine m_of (by decide) (Nat.le_of_ble_eq_true rfl) ?_
  intro p e s m args below meth c hx hb hr hml hown hlk hI ls hl
  have hl : lv_has ls 4 [(0, .ref (w.1 12 47)), (1, .int a1), (2, .int a2), (3, .int a3)] := hl
  unfold f_X12_addGuard at hf
  refine lv_aload_n hx hb dX12_addGuard_0 rfl (lv_at hl 0 rfl) ?_
  obtain ⟨r1, M2, hc, hf⟩ := mbnd_e hf
  refine m_callV (As := []) (rest := []) hx hb hml hown hI (c_X12_remembers l w s.heap.size M _ _ hc) (kb_X12_remembers hI.T (q1504 hI.T) (Nat.le_of_ble_eq_true rfl) (Nat.le_of_ble_eq_true rfl)) (q1506 hI.T) (sel_X12_remembers hI.T) (m_recv (g := 12) (i := 47) hI (mokX (by decide) (by decide)) rfl rfl) rfl hl.1 (Nat.le_of_ble_eq_true rfl) dX12_addGuard_1 ⟨Nat.le_of_ble_eq_true rfl, Nat.le_of_ble_eq_true rfl⟩ (fun H locs hI => ?_)
  refine lv_aload_n hx hb dX12_addGuard_4 rfl (lv_at hl 0 rfl) ?_
  refine lv_aload_n hx hb dX12_addGuard_5 rfl (lv_at hl 0 rfl) ?_
  refine lv_iload_n hx hb dX12_addGuard_6 rfl (lv_at hl 1 rfl) ?_
  refine lv_iload_n hx hb dX12_addGuard_7 rfl (lv_at hl 2 rfl) ?_
  refine lv_iload_n hx hb dX12_addGuard_8 rfl (lv_at hl 3 rfl) ?_
  obtain ⟨r3, M4, hc, hf⟩ := mbnd_e hf
  refine m_callV (As := [.int a1, .int a2, .int a3]) (rest := [.ref (w.1 12 47)]) hx hb hml hown hI (c_X12_guards l w H.size a1 a2 a3 M2 _ _ hc) (kb_X12_guards hI.T (q1630 hI.T) (Nat.le_of_ble_eq_true rfl) (Nat.le_of_ble_eq_true rfl)) (q1632 hI.T) (sel_X12_guards hI.T) (m_recv (g := 12) (i := 47) hI (mokX (by decide) (by decide)) rfl rfl) rfl hl.1 (Nat.le_of_ble_eq_true rfl) dX12_addGuard_9 ⟨Nat.le_of_ble_eq_true rfl, Nat.le_of_ble_eq_true rfl⟩ (fun H locs hI => ?_)
  refine lv_iconst (v := 2) hx hb dX12_addGuard_12 (by decide) ?_
  obtain ⟨r5, M6, hc, hf⟩ := mbnd_e hf
  refine m_callV (As := [.int r3, .int (2 : Int32)]) (rest := []) hx hb hml hown hI (c_X12_ends l w H.size r3 (2 : Int32) M4 _ _ hc) (kb_X12_ends hI.T (q1524 hI.T) (Nat.le_of_ble_eq_true rfl) (Nat.le_of_ble_eq_true rfl)) (q1526 hI.T) (sel_X12_ends hI.T) (m_recv (g := 12) (i := 47) hI (mokX (by decide) (by decide)) rfl rfl) rfl hl.1 (Nat.le_of_ble_eq_true rfl) dX12_addGuard_13 ⟨Nat.le_of_ble_eq_true rfl, Nat.le_of_ble_eq_true rfl⟩ (fun H locs hI => ?_)
  exact m_iretf hx hb hr hlk hI hf dX12_addGuard_16
abbrev rmX12_turnGuard : Room := { frames := 3, cells := 0, slots := 0, locals := 64 }
theorem kb_X12_turnGuard {R : Room} {s : State} {args : Array Value} {own : String} {idx : Nat} (hT : mT s) (hlink : (Cond.methodLink own idx yX12_turnGuard).before args s = true) (h1 : rmX12_turnGuard.frames + 1 ≤ R.frames) (h2 : 8 + (2 + 11) + rmX12_turnGuard.locals ≤ R.locals) : CallB R s args own idx yX12_turnGuard cX12_turnGuard 2 (some .boolean) [Cond.code yX12_turnGuard cX12_turnGuard 2 (some .boolean)] rmX12_turnGuard 0 0 1 := m_callB hT kc_X12_turnGuard ki_X12_turnGuard hlink (by decide +kernel) ⟨rfl, rfl, h1, h2⟩
set_option maxHeartbeats 4000000 in
set_option maxRecDepth 100000 in
theorem c_X12_turnGuard (l : Launch) (w : WD) (sz : Nat) (a1 : Int32) (M : Mem) (r : Int32) (M9 : Mem) (hf : f_X12_turnGuard a1 M = some (r, M9)) : mMet l yX12_turnGuard cX12_turnGuard 2 (some .boolean) rmX12_turnGuard w sz M [.ref (w.1 12 47), .int a1] (some (.int r)) M9 := by
  refine m_of (by decide) (Nat.le_of_ble_eq_true rfl) ?_
  intro p e s m args below meth c hx hb hr hml hown hlk hI ls hl
  have hl : lv_has ls 2 [(0, .ref (w.1 12 47)), (1, .int a1)] := hl
  unfold f_X12_turnGuard at hf
  refine lv_aload_n hx hb dX12_turnGuard_0 rfl (lv_at hl 0 rfl) ?_
  obtain ⟨r1, M2, hc, hf⟩ := mbnd_e hf
  refine m_callV (As := []) (rest := []) hx hb hml hown hI (c_X12_remembers l w s.heap.size M _ _ hc) (kb_X12_remembers hI.T (q1504 hI.T) (Nat.le_of_ble_eq_true rfl) (Nat.le_of_ble_eq_true rfl)) (q1506 hI.T) (sel_X12_remembers hI.T) (m_recv (g := 12) (i := 47) hI (mokX (by decide) (by decide)) rfl rfl) rfl hl.1 (Nat.le_of_ble_eq_true rfl) dX12_turnGuard_1 ⟨Nat.le_of_ble_eq_true rfl, Nat.le_of_ble_eq_true rfl⟩ (fun H locs hI => ?_)
  refine lv_aload_n hx hb dX12_turnGuard_4 rfl (lv_at hl 0 rfl) ?_
  refine lv_aload_n hx hb dX12_turnGuard_5 rfl (lv_at hl 0 rfl) ?_
  refine lv_iload_n hx hb dX12_turnGuard_6 rfl (lv_at hl 1 rfl) ?_
  obtain ⟨r3, M4, hc, hf⟩ := mbnd_e hf
  refine m_callV (As := [.int a1]) (rest := [.ref (w.1 12 47)]) hx hb hml hown hI (c_X12_turns l w H.size a1 M2 _ _ hc) (kb_X12_turns hI.T (q1641 hI.T) (Nat.le_of_ble_eq_true rfl) (Nat.le_of_ble_eq_true rfl)) (q1643 hI.T) (sel_X12_turns hI.T) (m_recv (g := 12) (i := 47) hI (mokX (by decide) (by decide)) rfl rfl) rfl hl.1 (Nat.le_of_ble_eq_true rfl) dX12_turnGuard_7 ⟨Nat.le_of_ble_eq_true rfl, Nat.le_of_ble_eq_true rfl⟩ (fun H locs hI => ?_)
  refine lv_iconst (v := 2) hx hb dX12_turnGuard_10 (by decide) ?_
  obtain ⟨r5, M6, hc, hf⟩ := mbnd_e hf
  refine m_callV (As := [.int r3, .int (2 : Int32)]) (rest := []) hx hb hml hown hI (c_X12_ends l w H.size r3 (2 : Int32) M4 _ _ hc) (kb_X12_ends hI.T (q1524 hI.T) (Nat.le_of_ble_eq_true rfl) (Nat.le_of_ble_eq_true rfl)) (q1526 hI.T) (sel_X12_ends hI.T) (m_recv (g := 12) (i := 47) hI (mokX (by decide) (by decide)) rfl rfl) rfl hl.1 (Nat.le_of_ble_eq_true rfl) dX12_turnGuard_11 ⟨Nat.le_of_ble_eq_true rfl, Nat.le_of_ble_eq_true rfl⟩ (fun H locs hI => ?_)
  refine lv_iconst (v := 1) hx hb dX12_turnGuard_14 (by decide) ?_
  refine lv_icmp_ne (tgt := 22) hx hb dX12_turnGuard_15 (by decide) (fun c7 => ?_) (fun c7 => ?_)
  · have hf := (if_neg c7).symm.trans hf
    refine lv_iconst (v := 0) hx hb dX12_turnGuard_22 (by decide) ?_
    exact m_zretf hx hb hr hlk hI rfl hf dX12_turnGuard_23
  · have hf := (if_pos c7).symm.trans hf
    refine lv_iconst (v := 1) hx hb dX12_turnGuard_18 (by decide) ?_
    refine lv_goto (tgt := 23) hx hb dX12_turnGuard_19 (by decide) ?_
    exact m_zretf hx hb hr hlk hI rfl hf dX12_turnGuard_23
abbrev rmX12_hum : Room := { frames := 3, cells := 0, slots := 0, locals := 65 }
theorem kb_X12_hum {R : Room} {s : State} {args : Array Value} {own : String} {idx : Nat} (hT : mT s) (hlink : (Cond.methodLink own idx yX12_hum).before args s = true) (h1 : rmX12_hum.frames + 1 ≤ R.frames) (h2 : 8 + (3 + 11) + rmX12_hum.locals ≤ R.locals) : CallB R s args own idx yX12_hum cX12_hum 3 (some .int) [Cond.code yX12_hum cX12_hum 3 (some .int)] rmX12_hum 0 0 2 := m_callB hT kc_X12_hum ki_X12_hum hlink (by decide +kernel) ⟨rfl, rfl, h1, h2⟩
set_option maxHeartbeats 4000000 in
set_option maxRecDepth 100000 in
theorem c_X12_hum (l : Launch) (w : WD) (sz : Nat) (a1 : Int32) (a2 : Int32) (M : Mem) (r : Int32) (M9 : Mem) (hf : f_X12_hum a1 a2 M = some (r, M9)) : mMet l yX12_hum cX12_hum 3 (some .int) rmX12_hum w sz M [.ref (w.1 12 47), .int a1, .int a2] (some (.int r)) M9 := by
  refine m_of (by decide) (Nat.le_of_ble_eq_true rfl) ?_
  intro p e s m args below meth c hx hb hr hml hown hlk hI ls hl
  have hl : lv_has ls 3 [(0, .ref (w.1 12 47)), (1, .int a1), (2, .int a2)] := hl
  unfold f_X12_hum at hf
  refine lv_aload_n hx hb dX12_hum_0 rfl (lv_at hl 0 rfl) ?_
  obtain ⟨r1, M2, hc, hf⟩ := mbnd_e hf
  refine m_callV (As := []) (rest := []) hx hb hml hown hI (c_X12_remembers l w s.heap.size M _ _ hc) (kb_X12_remembers hI.T (q1504 hI.T) (Nat.le_of_ble_eq_true rfl) (Nat.le_of_ble_eq_true rfl)) (q1506 hI.T) (sel_X12_remembers hI.T) (m_recv (g := 12) (i := 47) hI (mokX (by decide) (by decide)) rfl rfl) rfl hl.1 (Nat.le_of_ble_eq_true rfl) dX12_hum_1 ⟨Nat.le_of_ble_eq_true rfl, Nat.le_of_ble_eq_true rfl⟩ (fun H locs hI => ?_)
  refine lv_aload_n hx hb dX12_hum_4 rfl (lv_at hl 0 rfl) ?_
  refine lv_aload_n hx hb dX12_hum_5 rfl (lv_at hl 0 rfl) ?_
  refine lv_iload_n hx hb dX12_hum_6 rfl (lv_at hl 1 rfl) ?_
  refine lv_iload_n hx hb dX12_hum_7 rfl (lv_at hl 2 rfl) ?_
  obtain ⟨r3, M4, hc, hf⟩ := mbnd_e hf
  refine m_callV (As := [.int a1, .int a2]) (rest := [.ref (w.1 12 47)]) hx hb hml hown hI (c_X12_hums l w H.size a1 a2 M2 _ _ hc) (kb_X12_hums hI.T (q1653 hI.T) (Nat.le_of_ble_eq_true rfl) (Nat.le_of_ble_eq_true rfl)) (q1655 hI.T) (sel_X12_hums hI.T) (m_recv (g := 12) (i := 47) hI (mokX (by decide) (by decide)) rfl rfl) rfl hl.1 (Nat.le_of_ble_eq_true rfl) dX12_hum_8 ⟨Nat.le_of_ble_eq_true rfl, Nat.le_of_ble_eq_true rfl⟩ (fun H locs hI => ?_)
  refine lv_iconst (v := 2) hx hb dX12_hum_11 (by decide) ?_
  obtain ⟨r5, M6, hc, hf⟩ := mbnd_e hf
  refine m_callV (As := [.int r3, .int (2 : Int32)]) (rest := []) hx hb hml hown hI (c_X12_ends l w H.size r3 (2 : Int32) M4 _ _ hc) (kb_X12_ends hI.T (q1524 hI.T) (Nat.le_of_ble_eq_true rfl) (Nat.le_of_ble_eq_true rfl)) (q1526 hI.T) (sel_X12_ends hI.T) (m_recv (g := 12) (i := 47) hI (mokX (by decide) (by decide)) rfl rfl) rfl hl.1 (Nat.le_of_ble_eq_true rfl) dX12_hum_12 ⟨Nat.le_of_ble_eq_true rfl, Nat.le_of_ble_eq_true rfl⟩ (fun H locs hI => ?_)
  exact m_iretf hx hb hr hlk hI hf dX12_hum_15
abbrev rmX12_passHours : Room := { frames := 5, cells := 0, slots := 0, locals := 112 }
theorem kb_X12_passHours {R : Room} {s : State} {args : Array Value} {own : String} {idx : Nat} (hT : mT s) (hlink : (Cond.methodLink own idx yX12_passHours).before args s = true) (h1 : rmX12_passHours.frames + 1 ≤ R.frames) (h2 : 8 + (2 + 11) + rmX12_passHours.locals ≤ R.locals) : CallB R s args own idx yX12_passHours cX12_passHours 2 (some .int) [Cond.code yX12_passHours cX12_passHours 2 (some .int)] rmX12_passHours 0 0 1 := m_callB hT kc_X12_passHours ki_X12_passHours hlink (by decide +kernel) ⟨rfl, rfl, h1, h2⟩
set_option maxHeartbeats 4000000 in
set_option maxRecDepth 100000 in
theorem c_X12_passHours (l : Launch) (w : WD) (sz : Nat) (a1 : Int32) (M : Mem) (r : Int32) (M9 : Mem) (hf : f_X12_passHours a1 M = some (r, M9)) : mMet l yX12_passHours cX12_passHours 2 (some .int) rmX12_passHours w sz M [.ref (w.1 12 47), .int a1] (some (.int r)) M9 := by
  refine m_of (by decide) (Nat.le_of_ble_eq_true rfl) ?_
  intro p e s m args below meth c hx hb hr hml hown hlk hI ls hl
  have hl : lv_has ls 2 [(0, .ref (w.1 12 47)), (1, .int a1)] := hl
  unfold f_X12_passHours at hf
  refine lv_aload_n hx hb dX12_passHours_0 rfl (lv_at hl 0 rfl) ?_
  obtain ⟨r1, M2, hc, hf⟩ := mbnd_e hf
  refine m_callV (As := []) (rest := []) hx hb hml hown hI (c_X12_remembers l w s.heap.size M _ _ hc) (kb_X12_remembers hI.T (q1504 hI.T) (Nat.le_of_ble_eq_true rfl) (Nat.le_of_ble_eq_true rfl)) (q1506 hI.T) (sel_X12_remembers hI.T) (m_recv (g := 12) (i := 47) hI (mokX (by decide) (by decide)) rfl rfl) rfl hl.1 (Nat.le_of_ble_eq_true rfl) dX12_passHours_1 ⟨Nat.le_of_ble_eq_true rfl, Nat.le_of_ble_eq_true rfl⟩ (fun H locs hI => ?_)
  refine lv_aload_n hx hb dX12_passHours_4 rfl (lv_at hl 0 rfl) ?_
  refine lv_aload_n hx hb dX12_passHours_5 rfl (lv_at hl 0 rfl) ?_
  refine lv_iload_n hx hb dX12_passHours_6 rfl (lv_at hl 1 rfl) ?_
  obtain ⟨r3, M4, hc, hf⟩ := mbnd_e hf
  refine m_callV (As := [.int a1]) (rest := [.ref (w.1 12 47)]) hx hb hml hown hI (c_X12_passes l w H.size a1 M2 _ _ hc) (kb_X12_passes hI.T (q1661 hI.T) (Nat.le_of_ble_eq_true rfl) (Nat.le_of_ble_eq_true rfl)) (q1663 hI.T) (sel_X12_passes hI.T) (m_recv (g := 12) (i := 47) hI (mokX (by decide) (by decide)) rfl rfl) rfl hl.1 (Nat.le_of_ble_eq_true rfl) dX12_passHours_7 ⟨Nat.le_of_ble_eq_true rfl, Nat.le_of_ble_eq_true rfl⟩ (fun H locs hI => ?_)
  refine lv_iconst (v := 2) hx hb dX12_passHours_10 (by decide) ?_
  obtain ⟨r5, M6, hc, hf⟩ := mbnd_e hf
  refine m_callV (As := [.int r3, .int (2 : Int32)]) (rest := []) hx hb hml hown hI (c_X12_ends l w H.size r3 (2 : Int32) M4 _ _ hc) (kb_X12_ends hI.T (q1524 hI.T) (Nat.le_of_ble_eq_true rfl) (Nat.le_of_ble_eq_true rfl)) (q1526 hI.T) (sel_X12_ends hI.T) (m_recv (g := 12) (i := 47) hI (mokX (by decide) (by decide)) rfl rfl) rfl hl.1 (Nat.le_of_ble_eq_true rfl) dX12_passHours_11 ⟨Nat.le_of_ble_eq_true rfl, Nat.le_of_ble_eq_true rfl⟩ (fun H locs hI => ?_)
  exact m_iretf hx hb hr hlk hI hf dX12_passHours_14
abbrev rmX12_hour : Room := { frames := 0, cells := 0, slots := 0, locals := 0 }
theorem kb_X12_hour {R : Room} {s : State} {args : Array Value} {own : String} {idx : Nat} (hT : mT s) (hlink : (Cond.methodLink own idx yX12_hour).before args s = true) (h1 : rmX12_hour.frames + 1 ≤ R.frames) (h2 : 8 + (1 + 11) + rmX12_hour.locals ≤ R.locals) : CallB R s args own idx yX12_hour cX12_hour 1 (some .int) [Cond.code yX12_hour cX12_hour 1 (some .int)] rmX12_hour 0 0 0 := m_callB hT kc_X12_hour ki_X12_hour hlink (by decide +kernel) ⟨rfl, rfl, h1, h2⟩
set_option maxHeartbeats 4000000 in
set_option maxRecDepth 100000 in
theorem c_X12_hour (l : Launch) (w : WD) (sz : Nat)  (M : Mem) (r : Int32) (M9 : Mem) (hf : f_X12_hour  M = some (r, M9)) : mMet l yX12_hour cX12_hour 1 (some .int) rmX12_hour w sz M [.ref (w.1 12 47)] (some (.int r)) M9 := by
  refine m_of (by decide) (Nat.le_of_ble_eq_true rfl) ?_
  intro p e s m args below meth c hx hb hr hml hown hlk hI ls hl
  have hl : lv_has ls 1 [(0, .ref (w.1 12 47))] := hl
  unfold f_X12_hour at hf
  refine lv_aload_n hx hb dX12_hour_0 rfl (lv_at hl 0 rfl) ?_
  refine lv_iconst (v := 0) hx hb dX12_hour_1 (by decide) ?_
  obtain ⟨M1, eM1, hf⟩ := mlet_e hf
  refine m_put (g := 12) (i := 47) (ci := 10) (k := 0) (ty := .int) (M1 := M1) hx hb hI hown (mokX (by decide) (by decide)) rfl rfl (by decide) lyX12 tyX12 tyX12_ok nmX12 (q1426 hI.T) rfl rfl rfl rfl (Nat.le_of_ble_eq_true rfl) rfl eM1 dX12_hour_2 (fun H locs hI => ?_)
  refine lv_aload_n hx hb dX12_hour_5 rfl (lv_at hl 0 rfl) ?_
  refine m_get (g := 12) (i := 47) (ci := 10) (k := 1) (v := .ref (w.1 12 48)) hx hb hI hown (mokX (by decide) (by decide)) rfl rfl (by decide) lyX12 (q1427 hI.T) rfl dX12_hour_6 ?_
  refine lv_bipush (v := 11) hx hb dX12_hour_9 (by decide) ?_
  obtain ⟨hi, hf⟩ := mix_e hf
  refine m_iald (g := 12) (i := 48) hx hb hI (mokX (by decide) (by decide)) rfl hi dX12_hour_11 ?_
  exact m_iretf hx hb hr hlk hI hf dX12_hour_12
abbrev rmX12_holderCount : Room := { frames := 0, cells := 0, slots := 0, locals := 0 }
theorem kb_X12_holderCount {R : Room} {s : State} {args : Array Value} {own : String} {idx : Nat} (hT : mT s) (hlink : (Cond.methodLink own idx yX12_holderCount).before args s = true) (h1 : rmX12_holderCount.frames + 1 ≤ R.frames) (h2 : 8 + (1 + 11) + rmX12_holderCount.locals ≤ R.locals) : CallB R s args own idx yX12_holderCount cX12_holderCount 1 (some .int) [Cond.code yX12_holderCount cX12_holderCount 1 (some .int)] rmX12_holderCount 0 0 0 := m_callB hT kc_X12_holderCount ki_X12_holderCount hlink (by decide +kernel) ⟨rfl, rfl, h1, h2⟩
set_option maxHeartbeats 4000000 in
set_option maxRecDepth 100000 in
theorem c_X12_holderCount (l : Launch) (w : WD) (sz : Nat)  (M : Mem) (r : Int32) (M9 : Mem) (hf : f_X12_holderCount  M = some (r, M9)) : mMet l yX12_holderCount cX12_holderCount 1 (some .int) rmX12_holderCount w sz M [.ref (w.1 12 47)] (some (.int r)) M9 := by
  refine m_of (by decide) (Nat.le_of_ble_eq_true rfl) ?_
  intro p e s m args below meth c hx hb hr hml hown hlk hI ls hl
  have hl : lv_has ls 1 [(0, .ref (w.1 12 47))] := hl
  unfold f_X12_holderCount at hf
  refine lv_aload_n hx hb dX12_holderCount_0 rfl (lv_at hl 0 rfl) ?_
  refine lv_iconst (v := 0) hx hb dX12_holderCount_1 (by decide) ?_
  obtain ⟨M1, eM1, hf⟩ := mlet_e hf
  refine m_put (g := 12) (i := 47) (ci := 10) (k := 0) (ty := .int) (M1 := M1) hx hb hI hown (mokX (by decide) (by decide)) rfl rfl (by decide) lyX12 tyX12 tyX12_ok nmX12 (q1426 hI.T) rfl rfl rfl rfl (Nat.le_of_ble_eq_true rfl) rfl eM1 dX12_holderCount_2 (fun H locs hI => ?_)
  refine lv_aload_n hx hb dX12_holderCount_5 rfl (lv_at hl 0 rfl) ?_
  refine m_get (g := 12) (i := 47) (ci := 10) (k := 1) (v := .ref (w.1 12 48)) hx hb hI hown (mokX (by decide) (by decide)) rfl rfl (by decide) lyX12 (q1427 hI.T) rfl dX12_holderCount_6 ?_
  refine lv_iconst (v := 0) hx hb dX12_holderCount_9 (by decide) ?_
  obtain ⟨hi, hf⟩ := mix_e hf
  refine m_iald (g := 12) (i := 48) hx hb hI (mokX (by decide) (by decide)) rfl hi dX12_holderCount_10 ?_
  exact m_iretf hx hb hr hlk hI hf dX12_holderCount_11
abbrev rmX12_isSealed : Room := { frames := 0, cells := 0, slots := 0, locals := 0 }
theorem kb_X12_isSealed {R : Room} {s : State} {args : Array Value} {own : String} {idx : Nat} (hT : mT s) (hlink : (Cond.methodLink own idx yX12_isSealed).before args s = true) (h1 : rmX12_isSealed.frames + 1 ≤ R.frames) (h2 : 8 + (1 + 11) + rmX12_isSealed.locals ≤ R.locals) : CallB R s args own idx yX12_isSealed cX12_isSealed 1 (some .boolean) [Cond.code yX12_isSealed cX12_isSealed 1 (some .boolean)] rmX12_isSealed 0 0 0 := m_callB hT kc_X12_isSealed ki_X12_isSealed hlink (by decide +kernel) ⟨rfl, rfl, h1, h2⟩
set_option maxHeartbeats 4000000 in
set_option maxRecDepth 100000 in
theorem c_X12_isSealed (l : Launch) (w : WD) (sz : Nat)  (M : Mem) (r : Int32) (M9 : Mem) (hf : f_X12_isSealed  M = some (r, M9)) : mMet l yX12_isSealed cX12_isSealed 1 (some .boolean) rmX12_isSealed w sz M [.ref (w.1 12 47)] (some (.int r)) M9 := by
  refine m_of (by decide) (Nat.le_of_ble_eq_true rfl) ?_
  intro p e s m args below meth c hx hb hr hml hown hlk hI ls hl
  have hl : lv_has ls 1 [(0, .ref (w.1 12 47))] := hl
  unfold f_X12_isSealed at hf
  refine lv_aload_n hx hb dX12_isSealed_0 rfl (lv_at hl 0 rfl) ?_
  refine lv_iconst (v := 0) hx hb dX12_isSealed_1 (by decide) ?_
  obtain ⟨M1, eM1, hf⟩ := mlet_e hf
  refine m_put (g := 12) (i := 47) (ci := 10) (k := 0) (ty := .int) (M1 := M1) hx hb hI hown (mokX (by decide) (by decide)) rfl rfl (by decide) lyX12 tyX12 tyX12_ok nmX12 (q1426 hI.T) rfl rfl rfl rfl (Nat.le_of_ble_eq_true rfl) rfl eM1 dX12_isSealed_2 (fun H locs hI => ?_)
  refine lv_aload_n hx hb dX12_isSealed_5 rfl (lv_at hl 0 rfl) ?_
  refine m_get (g := 12) (i := 47) (ci := 10) (k := 1) (v := .ref (w.1 12 48)) hx hb hI hown (mokX (by decide) (by decide)) rfl rfl (by decide) lyX12 (q1427 hI.T) rfl dX12_isSealed_6 ?_
  refine lv_iconst (v := 1) hx hb dX12_isSealed_9 (by decide) ?_
  obtain ⟨hi, hf⟩ := mix_e hf
  refine m_iald (g := 12) (i := 48) hx hb hI (mokX (by decide) (by decide)) rfl hi dX12_isSealed_10 ?_
  refine lv_iconst (v := 1) hx hb dX12_isSealed_11 (by decide) ?_
  refine lv_icmp_ne (tgt := 19) hx hb dX12_isSealed_12 (by decide) (fun c2 => ?_) (fun c2 => ?_)
  · have hf := (if_neg c2).symm.trans hf
    refine lv_iconst (v := 0) hx hb dX12_isSealed_19 (by decide) ?_
    exact m_zretf hx hb hr hlk hI rfl hf dX12_isSealed_20
  · have hf := (if_pos c2).symm.trans hf
    refine lv_iconst (v := 1) hx hb dX12_isSealed_15 (by decide) ?_
    refine lv_goto (tgt := 20) hx hb dX12_isSealed_16 (by decide) ?_
    exact m_zretf hx hb hr hlk hI rfl hf dX12_isSealed_20
abbrev rmX12_threshold : Room := { frames := 0, cells := 0, slots := 0, locals := 0 }
theorem kb_X12_threshold {R : Room} {s : State} {args : Array Value} {own : String} {idx : Nat} (hT : mT s) (hlink : (Cond.methodLink own idx yX12_threshold).before args s = true) (h1 : rmX12_threshold.frames + 1 ≤ R.frames) (h2 : 8 + (1 + 11) + rmX12_threshold.locals ≤ R.locals) : CallB R s args own idx yX12_threshold cX12_threshold 1 (some .int) [Cond.code yX12_threshold cX12_threshold 1 (some .int)] rmX12_threshold 0 0 0 := m_callB hT kc_X12_threshold ki_X12_threshold hlink (by decide +kernel) ⟨rfl, rfl, h1, h2⟩
set_option maxHeartbeats 4000000 in
set_option maxRecDepth 100000 in
theorem c_X12_threshold (l : Launch) (w : WD) (sz : Nat)  (M : Mem) (r : Int32) (M9 : Mem) (hf : f_X12_threshold  M = some (r, M9)) : mMet l yX12_threshold cX12_threshold 1 (some .int) rmX12_threshold w sz M [.ref (w.1 12 47)] (some (.int r)) M9 := by
  refine m_of (by decide) (Nat.le_of_ble_eq_true rfl) ?_
  intro p e s m args below meth c hx hb hr hml hown hlk hI ls hl
  have hl : lv_has ls 1 [(0, .ref (w.1 12 47))] := hl
  unfold f_X12_threshold at hf
  refine lv_aload_n hx hb dX12_threshold_0 rfl (lv_at hl 0 rfl) ?_
  refine lv_aload_n hx hb dX12_threshold_1 rfl (lv_at hl 0 rfl) ?_
  refine m_get (g := 12) (i := 47) (ci := 10) (k := 1) (v := .ref (w.1 12 48)) hx hb hI hown (mokX (by decide) (by decide)) rfl rfl (by decide) lyX12 (q1427 hI.T) rfl dX12_threshold_2 ?_
  refine lv_iconst (v := 1) hx hb dX12_threshold_5 (by decide) ?_
  obtain ⟨hi, hf⟩ := mix_e hf
  refine m_iald (g := 12) (i := 48) hx hb hI (mokX (by decide) (by decide)) rfl hi dX12_threshold_6 ?_
  refine lv_iconst (v := 1) hx hb dX12_threshold_7 (by decide) ?_
  obtain ⟨k16_3, ek16_3, hf⟩ := mlet_e hf
  have hj16_3 : ∀ (x2 : Int32) (H : Heap) (locs : List Loc) (ls : Array Slot), k16_3 x2 = some (r, M9) → mI w s (mA w s.heap.size) H locs M → lv_has ls 1 [(0, .ref (w.1 12 47))] → W p l e rmX12_threshold s m args below meth c H locs 0 0 (MQ below (mQ w s.heap.size (some (.int r)) M9) args s 0 0 (mA w s.heap.size)) (F0 m 16 ls [.int x2, .ref (w.1 12 47)]) := by
    intro x2 H locs ls hf hI hl
    rw [ek16_3] at hf
    try dsimp only at hf
    obtain ⟨M4, eM4, hf⟩ := mlet_e hf
    refine m_put (g := 12) (i := 47) (ci := 10) (k := 0) (ty := .int) (M1 := M4) hx hb hI hown (mokX (by decide) (by decide)) rfl rfl (by decide) lyX12 tyX12 tyX12_ok nmX12 (q1426 hI.T) rfl rfl rfl rfl (Nat.le_of_ble_eq_true rfl) rfl eM4 dX12_threshold_16 (fun H locs hI => ?_)
    refine lv_aload_n hx hb dX12_threshold_19 rfl (lv_at hl 0 rfl) ?_
    refine m_get (g := 12) (i := 47) (ci := 10) (k := 1) (v := .ref (w.1 12 48)) hx hb hI hown (mokX (by decide) (by decide)) rfl rfl (by decide) lyX12 (q1427 hI.T) rfl dX12_threshold_20 ?_
    refine lv_iconst (v := 5) hx hb dX12_threshold_23 (by decide) ?_
    obtain ⟨hi, hf⟩ := mix_e hf
    refine m_iald (g := 12) (i := 48) hx hb hI (mokX (by decide) (by decide)) rfl hi dX12_threshold_24 ?_
    exact m_iretf hx hb hr hlk hI hf dX12_threshold_25
  refine lv_icmp_ne (tgt := 15) hx hb dX12_threshold_8 (by decide) (fun c1 => ?_) (fun c1 => ?_)
  · have hf := (if_neg c1).symm.trans hf
    refine lv_iconst (v := 1) hx hb dX12_threshold_15 (by decide) ?_
    exact hj16_3 (1 : Int32) s.heap _ _ hf hI (lv_sub hl [0] rfl)
  · have hf := (if_pos c1).symm.trans hf
    refine lv_iconst (v := 0) hx hb dX12_threshold_11 (by decide) ?_
    refine lv_goto (tgt := 16) hx hb dX12_threshold_12 (by decide) ?_
    exact hj16_3 (0 : Int32) s.heap _ _ hf hI (lv_sub hl [0] rfl)
abbrev rmX12_isShare : Room := { frames := 2, cells := 0, slots := 0, locals := 43 }
theorem kb_X12_isShare {R : Room} {s : State} {args : Array Value} {own : String} {idx : Nat} (hT : mT s) (hlink : (Cond.methodLink own idx yX12_isShare).before args s = true) (h1 : rmX12_isShare.frames + 1 ≤ R.frames) (h2 : 8 + (2 + 11) + rmX12_isShare.locals ≤ R.locals) : CallB R s args own idx yX12_isShare cX12_isShare 2 (some .boolean) [Cond.code yX12_isShare cX12_isShare 2 (some .boolean)] rmX12_isShare 0 0 1 := m_callB hT kc_X12_isShare ki_X12_isShare hlink (by decide +kernel) ⟨rfl, rfl, h1, h2⟩
set_option maxHeartbeats 4000000 in
set_option maxRecDepth 100000 in
theorem c_X12_isShare (l : Launch) (w : WD) (sz : Nat) (a1 : Int32) (M : Mem) (r : Int32) (M9 : Mem) (hf : f_X12_isShare a1 M = some (r, M9)) : mMet l yX12_isShare cX12_isShare 2 (some .boolean) rmX12_isShare w sz M [.ref (w.1 12 47), .int a1] (some (.int r)) M9 := by
  refine m_of (by decide) (Nat.le_of_ble_eq_true rfl) ?_
  intro p e s m args below meth c hx hb hr hml hown hlk hI ls hl
  have hl : lv_has ls 2 [(0, .ref (w.1 12 47)), (1, .int a1)] := hl
  unfold f_X12_isShare at hf
  refine lv_aload_n hx hb dX12_isShare_0 rfl (lv_at hl 0 rfl) ?_
  refine lv_aload_n hx hb dX12_isShare_1 rfl (lv_at hl 0 rfl) ?_
  refine lv_iload_n hx hb dX12_isShare_2 rfl (lv_at hl 1 rfl) ?_
  obtain ⟨r1, hc, hf⟩ := mbp_e hf
  refine m_callV (As := [.int a1]) (rest := [.ref (w.1 12 47)]) hx hb hml hown hI (c_X12_isHolder l w s.heap.size a1 M _ hc) (kb_X12_isHolder hI.T (q1559 hI.T) (Nat.le_of_ble_eq_true rfl) (Nat.le_of_ble_eq_true rfl)) (q1561 hI.T) (sel_X12_isHolder hI.T) (m_recv (g := 12) (i := 47) hI (mokX (by decide) (by decide)) rfl rfl) rfl hl.1 (Nat.le_of_ble_eq_true rfl) dX12_isShare_3 ⟨Nat.le_of_ble_eq_true rfl, Nat.le_of_ble_eq_true rfl⟩ (fun H locs hI => ?_)
  obtain ⟨k28_5, ek28_5, hf⟩ := mlet_e hf
  have hj28_5 : ∀ (x4 : Int32) (H : Heap) (locs : List Loc) (ls : Array Slot), k28_5 x4 = some (r, M9) → mI w s (mA w s.heap.size) H locs M → lv_has ls 2 [(0, .ref (w.1 12 47))] → W p l e rmX12_isShare s m args below meth c H locs 0 0 (MQ below (mQ w s.heap.size (some (.int r)) M9) args s 0 0 (mA w s.heap.size)) (F0 m 28 ls [.int x4, .ref (w.1 12 47)]) := by
    intro x4 H locs ls hf hI hl
    rw [ek28_5] at hf
    try dsimp only at hf
    obtain ⟨M6, eM6, hf⟩ := mlet_e hf
    refine m_put (g := 12) (i := 47) (ci := 10) (k := 0) (ty := .int) (M1 := M6) hx hb hI hown (mokX (by decide) (by decide)) rfl rfl (by decide) lyX12 tyX12 tyX12_ok nmX12 (q1426 hI.T) rfl rfl rfl rfl (Nat.le_of_ble_eq_true rfl) rfl eM6 dX12_isShare_28 (fun H locs hI => ?_)
    refine lv_aload_n hx hb dX12_isShare_31 rfl (lv_at hl 0 rfl) ?_
    refine m_get (g := 12) (i := 47) (ci := 10) (k := 0) (v := .int (M6 12 47 0)) hx hb hI hown (mokX (by decide) (by decide)) rfl rfl (by decide) lyX12 (q1426 hI.T) rfl dX12_isShare_32 ?_
    refine lv_if_ne (tgt := 42) hx hb dX12_isShare_35 (by decide) (fun c7 => ?_) (fun c7 => ?_)
    · have hf := (if_neg c7).symm.trans hf
      refine lv_iconst (v := 0) hx hb dX12_isShare_42 (by decide) ?_
      exact m_zretf hx hb hr hlk hI rfl hf dX12_isShare_43
    · have hf := (if_pos c7).symm.trans hf
      refine lv_iconst (v := 1) hx hb dX12_isShare_38 (by decide) ?_
      refine lv_goto (tgt := 43) hx hb dX12_isShare_39 (by decide) ?_
      exact m_zretf hx hb hr hlk hI rfl hf dX12_isShare_43
  refine lv_if_ne (tgt := 13) hx hb dX12_isShare_6 (by decide) (fun c2 => ?_) (fun c2 => ?_)
  · have hf := (if_neg c2).symm.trans hf
    refine lv_aload_n hx hb dX12_isShare_13 rfl (lv_at hl 0 rfl) ?_
    refine m_get (g := 12) (i := 47) (ci := 10) (k := 1) (v := .ref (w.1 12 48)) hx hb hI hown (mokX (by decide) (by decide)) rfl rfl (by decide) lyX12 (q1427 hI.T) rfl dX12_isShare_14 ?_
    refine lv_iconst (v := 1) hx hb dX12_isShare_17 (by decide) ?_
    obtain ⟨hi, hf⟩ := mix_e hf
    refine m_iald (g := 12) (i := 48) hx hb hI (mokX (by decide) (by decide)) rfl hi dX12_isShare_18 ?_
    refine lv_iconst (v := 1) hx hb dX12_isShare_19 (by decide) ?_
    refine lv_icmp_ne (tgt := 27) hx hb dX12_isShare_20 (by decide) (fun c3 => ?_) (fun c3 => ?_)
    · have hf := (if_neg c3).symm.trans hf
      refine lv_iconst (v := 2) hx hb dX12_isShare_27 (by decide) ?_
      exact hj28_5 (2 : Int32) H _ _ hf hI (lv_sub hl [0] rfl)
    · have hf := (if_pos c3).symm.trans hf
      refine lv_iconst (v := 0) hx hb dX12_isShare_23 (by decide) ?_
      refine lv_goto (tgt := 28) hx hb dX12_isShare_24 (by decide) ?_
      exact hj28_5 (0 : Int32) H _ _ hf hI (lv_sub hl [0] rfl)
  · have hf := (if_pos c2).symm.trans hf
    refine lv_iconst (v := 1) hx hb dX12_isShare_9 (by decide) ?_
    refine lv_goto (tgt := 28) hx hb dX12_isShare_10 (by decide) ?_
    exact hj28_5 (1 : Int32) H _ _ hf hI (lv_sub hl [0] rfl)
abbrev rmX12_share : Room := { frames := 3, cells := 0, slots := 0, locals := 64 }
theorem kb_X12_share {R : Room} {s : State} {args : Array Value} {own : String} {idx : Nat} (hT : mT s) (hlink : (Cond.methodLink own idx yX12_share).before args s = true) (h1 : rmX12_share.frames + 1 ≤ R.frames) (h2 : 8 + (2 + 11) + rmX12_share.locals ≤ R.locals) : CallB R s args own idx yX12_share cX12_share 2 (some .int) [Cond.code yX12_share cX12_share 2 (some .int)] rmX12_share 0 0 1 := m_callB hT kc_X12_share ki_X12_share hlink (by decide +kernel) ⟨rfl, rfl, h1, h2⟩
set_option maxHeartbeats 4000000 in
set_option maxRecDepth 100000 in
theorem c_X12_share (l : Launch) (w : WD) (sz : Nat) (a1 : Int32) (M : Mem) (r : Int32) (M9 : Mem) (hf : f_X12_share a1 M = some (r, M9)) : mMet l yX12_share cX12_share 2 (some .int) rmX12_share w sz M [.ref (w.1 12 47), .int a1] (some (.int r)) M9 := by
  refine m_of (by decide) (Nat.le_of_ble_eq_true rfl) ?_
  intro p e s m args below meth c hx hb hr hml hown hlk hI ls hl
  have hl : lv_has ls 2 [(0, .ref (w.1 12 47)), (1, .int a1)] := hl
  unfold f_X12_share at hf
  refine lv_aload_n hx hb dX12_share_0 rfl (lv_at hl 0 rfl) ?_
  refine lv_iload_n hx hb dX12_share_1 rfl (lv_at hl 1 rfl) ?_
  obtain ⟨r1, M2, hc, hf⟩ := mbnd_e hf
  refine m_callV (As := [.int a1]) (rest := []) hx hb hml hown hI (c_X12_isShare l w s.heap.size a1 M _ _ hc) (kb_X12_isShare hI.T (q1693 hI.T) (Nat.le_of_ble_eq_true rfl) (Nat.le_of_ble_eq_true rfl)) (q1695 hI.T) (sel_X12_isShare hI.T) (m_recv (g := 12) (i := 47) hI (mokX (by decide) (by decide)) rfl rfl) rfl hl.1 (Nat.le_of_ble_eq_true rfl) dX12_share_2 ⟨Nat.le_of_ble_eq_true rfl, Nat.le_of_ble_eq_true rfl⟩ (fun H locs hI => ?_)
  refine lv_if_eq (tgt := 20) hx hb dX12_share_5 (by decide) (fun c3 => ?_) (fun c3 => ?_)
  · have hf := (if_pos c3).symm.trans hf
    refine lv_iconst (v := 0) hx hb dX12_share_20 (by decide) ?_
    exact m_iretf hx hb hr hlk hI hf dX12_share_21
  · have hf := (if_neg c3).symm.trans hf
    refine lv_aload_n hx hb dX12_share_8 rfl (lv_at hl 0 rfl) ?_
    refine m_get (g := 12) (i := 47) (ci := 10) (k := 1) (v := .ref (w.1 12 48)) hx hb hI hown (mokX (by decide) (by decide)) rfl rfl (by decide) lyX12 (q1427 hI.T) rfl dX12_share_9 ?_
    refine lv_bipush (v := 15) hx hb dX12_share_12 (by decide) ?_
    refine lv_iload_n hx hb dX12_share_14 rfl (lv_at hl 1 rfl) ?_
    refine lv_iadd hx hb dX12_share_15 ?_
    obtain ⟨hi, hf⟩ := mix_e hf
    refine m_iald (g := 12) (i := 48) hx hb hI (mokX (by decide) (by decide)) rfl hi dX12_share_16 ?_
    refine lv_goto (tgt := 21) hx hb dX12_share_17 (by decide) ?_
    exact m_iretf hx hb hr hlk hI hf dX12_share_21
abbrev rmX12_isCorrect : Room := { frames := 3, cells := 0, slots := 0, locals := 64 }
theorem kb_X12_isCorrect {R : Room} {s : State} {args : Array Value} {own : String} {idx : Nat} (hT : mT s) (hlink : (Cond.methodLink own idx yX12_isCorrect).before args s = true) (h1 : rmX12_isCorrect.frames + 1 ≤ R.frames) (h2 : 8 + (2 + 11) + rmX12_isCorrect.locals ≤ R.locals) : CallB R s args own idx yX12_isCorrect cX12_isCorrect 2 (some .boolean) [Cond.code yX12_isCorrect cX12_isCorrect 2 (some .boolean)] rmX12_isCorrect 0 0 1 := m_callB hT kc_X12_isCorrect ki_X12_isCorrect hlink (by decide +kernel) ⟨rfl, rfl, h1, h2⟩
set_option maxHeartbeats 4000000 in
set_option maxRecDepth 100000 in
theorem c_X12_isCorrect (l : Launch) (w : WD) (sz : Nat) (a1 : Int32) (M : Mem) (r : Int32) (M9 : Mem) (hf : f_X12_isCorrect a1 M = some (r, M9)) : mMet l yX12_isCorrect cX12_isCorrect 2 (some .boolean) rmX12_isCorrect w sz M [.ref (w.1 12 47), .int a1] (some (.int r)) M9 := by
  refine m_of (by decide) (Nat.le_of_ble_eq_true rfl) ?_
  intro p e s m args below meth c hx hb hr hml hown hlk hI ls hl
  have hl : lv_has ls 2 [(0, .ref (w.1 12 47)), (1, .int a1)] := hl
  unfold f_X12_isCorrect at hf
  refine lv_aload_n hx hb dX12_isCorrect_0 rfl (lv_at hl 0 rfl) ?_
  refine lv_iload_n hx hb dX12_isCorrect_1 rfl (lv_at hl 1 rfl) ?_
  obtain ⟨r1, M2, hc, hf⟩ := mbnd_e hf
  refine m_callV (As := [.int a1]) (rest := []) hx hb hml hown hI (c_X12_isShare l w s.heap.size a1 M _ _ hc) (kb_X12_isShare hI.T (q1693 hI.T) (Nat.le_of_ble_eq_true rfl) (Nat.le_of_ble_eq_true rfl)) (q1695 hI.T) (sel_X12_isShare hI.T) (m_recv (g := 12) (i := 47) hI (mokX (by decide) (by decide)) rfl rfl) rfl hl.1 (Nat.le_of_ble_eq_true rfl) dX12_isCorrect_2 ⟨Nat.le_of_ble_eq_true rfl, Nat.le_of_ble_eq_true rfl⟩ (fun H locs hI => ?_)
  refine lv_if_eq (tgt := 29) hx hb dX12_isCorrect_5 (by decide) (fun c3 => ?_) (fun c3 => ?_)
  · have hf := (if_pos c3).symm.trans hf
    refine lv_iconst (v := 0) hx hb dX12_isCorrect_29 (by decide) ?_
    exact m_zretf hx hb hr hlk hI rfl hf dX12_isCorrect_30
  · have hf := (if_neg c3).symm.trans hf
    refine lv_aload_n hx hb dX12_isCorrect_8 rfl (lv_at hl 0 rfl) ?_
    refine m_get (g := 12) (i := 47) (ci := 10) (k := 1) (v := .ref (w.1 12 48)) hx hb hI hown (mokX (by decide) (by decide)) rfl rfl (by decide) lyX12 (q1427 hI.T) rfl dX12_isCorrect_9 ?_
    refine lv_bipush (v := 15) hx hb dX12_isCorrect_12 (by decide) ?_
    refine lv_iload_n hx hb dX12_isCorrect_14 rfl (lv_at hl 1 rfl) ?_
    refine lv_iadd hx hb dX12_isCorrect_15 ?_
    obtain ⟨hi, hf⟩ := mix_e hf
    refine m_iald (g := 12) (i := 48) hx hb hI (mokX (by decide) (by decide)) rfl hi dX12_isCorrect_16 ?_
    refine lv_aload_n hx hb dX12_isCorrect_17 rfl (lv_at hl 0 rfl) ?_
    refine lv_iload_n hx hb dX12_isCorrect_18 rfl (lv_at hl 1 rfl) ?_
    obtain ⟨r4, hc, hf⟩ := mbp_e hf
    refine m_callV (As := [.int a1]) (rest := [.int (M2 12 48 ((15 : Int32) + a1).toNatClampNeg)]) hx hb hml hown hI (c_X12_curve l w H.size a1 M2 _ hc) (kb_X12_curve hI.T (q1516 hI.T) (Nat.le_of_ble_eq_true rfl) (Nat.le_of_ble_eq_true rfl)) (q1518 hI.T) (sel_X12_curve hI.T) (m_recv (g := 12) (i := 47) hI (mokX (by decide) (by decide)) rfl rfl) rfl hl.1 (Nat.le_of_ble_eq_true rfl) dX12_isCorrect_19 ⟨Nat.le_of_ble_eq_true rfl, Nat.le_of_ble_eq_true rfl⟩ (fun H locs hI => ?_)
    refine lv_icmp_ne (tgt := 29) hx hb dX12_isCorrect_22 (by decide) (fun c5 => ?_) (fun c5 => ?_)
    · have hf := (if_neg c5).symm.trans hf
      refine lv_iconst (v := 0) hx hb dX12_isCorrect_29 (by decide) ?_
      exact m_zretf hx hb hr hlk hI rfl hf dX12_isCorrect_30
    · have hf := (if_pos c5).symm.trans hf
      refine lv_iconst (v := 1) hx hb dX12_isCorrect_25 (by decide) ?_
      refine lv_goto (tgt := 30) hx hb dX12_isCorrect_26 (by decide) ?_
      exact m_zretf hx hb hr hlk hI rfl hf dX12_isCorrect_30
abbrev rmX12_isPresented : Room := { frames := 2, cells := 0, slots := 0, locals := 43 }
theorem kb_X12_isPresented {R : Room} {s : State} {args : Array Value} {own : String} {idx : Nat} (hT : mT s) (hlink : (Cond.methodLink own idx yX12_isPresented).before args s = true) (h1 : rmX12_isPresented.frames + 1 ≤ R.frames) (h2 : 8 + (2 + 11) + rmX12_isPresented.locals ≤ R.locals) : CallB R s args own idx yX12_isPresented cX12_isPresented 2 (some .boolean) [Cond.code yX12_isPresented cX12_isPresented 2 (some .boolean)] rmX12_isPresented 0 0 1 := m_callB hT kc_X12_isPresented ki_X12_isPresented hlink (by decide +kernel) ⟨rfl, rfl, h1, h2⟩
set_option maxHeartbeats 4000000 in
set_option maxRecDepth 100000 in
theorem c_X12_isPresented (l : Launch) (w : WD) (sz : Nat) (a1 : Int32) (M : Mem) (r : Int32) (M9 : Mem) (hf : f_X12_isPresented a1 M = some (r, M9)) : mMet l yX12_isPresented cX12_isPresented 2 (some .boolean) rmX12_isPresented w sz M [.ref (w.1 12 47), .int a1] (some (.int r)) M9 := by
  refine m_of (by decide) (Nat.le_of_ble_eq_true rfl) ?_
  intro p e s m args below meth c hx hb hr hml hown hlk hI ls hl
  have hl : lv_has ls 2 [(0, .ref (w.1 12 47)), (1, .int a1)] := hl
  unfold f_X12_isPresented at hf
  refine lv_aload_n hx hb dX12_isPresented_0 rfl (lv_at hl 0 rfl) ?_
  refine lv_aload_n hx hb dX12_isPresented_1 rfl (lv_at hl 0 rfl) ?_
  refine lv_iload_n hx hb dX12_isPresented_2 rfl (lv_at hl 1 rfl) ?_
  obtain ⟨r1, hc, hf⟩ := mbp_e hf
  refine m_callV (As := [.int a1]) (rest := [.ref (w.1 12 47)]) hx hb hml hown hI (c_X12_isHolder l w s.heap.size a1 M _ hc) (kb_X12_isHolder hI.T (q1559 hI.T) (Nat.le_of_ble_eq_true rfl) (Nat.le_of_ble_eq_true rfl)) (q1561 hI.T) (sel_X12_isHolder hI.T) (m_recv (g := 12) (i := 47) hI (mokX (by decide) (by decide)) rfl rfl) rfl hl.1 (Nat.le_of_ble_eq_true rfl) dX12_isPresented_3 ⟨Nat.le_of_ble_eq_true rfl, Nat.le_of_ble_eq_true rfl⟩ (fun H locs hI => ?_)
  obtain ⟨k14_4, ek14_4, hf⟩ := mlet_e hf
  have hj14_4 : ∀ (x3 : Int32) (H : Heap) (locs : List Loc) (ls : Array Slot), k14_4 x3 = some (r, M9) → mI w s (mA w s.heap.size) H locs M → lv_has ls 2 [(0, .ref (w.1 12 47)), (1, .int a1)] → W p l e rmX12_isPresented s m args below meth c H locs 0 0 (MQ below (mQ w s.heap.size (some (.int r)) M9) args s 0 0 (mA w s.heap.size)) (F0 m 14 ls [.int x3, .ref (w.1 12 47)]) := by
    intro x3 H locs ls hf hI hl
    rw [ek14_4] at hf
    try dsimp only at hf
    obtain ⟨M5, eM5, hf⟩ := mlet_e hf
    refine m_put (g := 12) (i := 47) (ci := 10) (k := 0) (ty := .int) (M1 := M5) hx hb hI hown (mokX (by decide) (by decide)) rfl rfl (by decide) lyX12 tyX12 tyX12_ok nmX12 (q1426 hI.T) rfl rfl rfl rfl (Nat.le_of_ble_eq_true rfl) rfl eM5 dX12_isPresented_14 (fun H locs hI => ?_)
    refine lv_aload_n hx hb dX12_isPresented_17 rfl (lv_at hl 0 rfl) ?_
    refine m_get (g := 12) (i := 47) (ci := 10) (k := 0) (v := .int (M5 12 47 0)) hx hb hI hown (mokX (by decide) (by decide)) rfl rfl (by decide) lyX12 (q1426 hI.T) rfl dX12_isPresented_18 ?_
    refine lv_if_ne (tgt := 37) hx hb dX12_isPresented_21 (by decide) (fun c6 => ?_) (fun c6 => ?_)
    · have hf := (if_neg c6).symm.trans hf
      refine lv_iconst (v := 0) hx hb dX12_isPresented_37 (by decide) ?_
      exact m_zretf hx hb hr hlk hI rfl hf dX12_isPresented_38
    · have hf := (if_pos c6).symm.trans hf
      refine lv_aload_n hx hb dX12_isPresented_24 rfl (lv_at hl 0 rfl) ?_
      refine lv_iload_n hx hb dX12_isPresented_25 rfl (lv_at hl 1 rfl) ?_
      obtain ⟨r7, hc, hf⟩ := mbp_e hf
      refine m_callV (As := [.int a1]) (rest := []) hx hb hml hown hI (c_X12_placeOf l w H.size a1 M5 _ hc) (kb_X12_placeOf hI.T (q1571 hI.T) (Nat.le_of_ble_eq_true rfl) (Nat.le_of_ble_eq_true rfl)) (q1573 hI.T) (sel_X12_placeOf hI.T) (m_recv (g := 12) (i := 47) hI (mokX (by decide) (by decide)) rfl rfl) rfl hl.1 (Nat.le_of_ble_eq_true rfl) dX12_isPresented_26 ⟨Nat.le_of_ble_eq_true rfl, Nat.le_of_ble_eq_true rfl⟩ (fun H locs hI => ?_)
      refine lv_iconst (v := (-1)) hx hb dX12_isPresented_29 (by decide) ?_
      refine lv_icmp_eq (tgt := 37) hx hb dX12_isPresented_30 (by decide) (fun c8 => ?_) (fun c8 => ?_)
      · have hf := (if_pos c8).symm.trans hf
        refine lv_iconst (v := 0) hx hb dX12_isPresented_37 (by decide) ?_
        exact m_zretf hx hb hr hlk hI rfl hf dX12_isPresented_38
      · have hf := (if_neg c8).symm.trans hf
        refine lv_iconst (v := 1) hx hb dX12_isPresented_33 (by decide) ?_
        refine lv_goto (tgt := 38) hx hb dX12_isPresented_34 (by decide) ?_
        exact m_zretf hx hb hr hlk hI rfl hf dX12_isPresented_38
  refine lv_if_eq (tgt := 13) hx hb dX12_isPresented_6 (by decide) (fun c2 => ?_) (fun c2 => ?_)
  · have hf := (if_pos c2).symm.trans hf
    refine lv_iconst (v := 1) hx hb dX12_isPresented_13 (by decide) ?_
    exact hj14_4 (1 : Int32) H _ _ hf hI (lv_sub hl [0, 1] rfl)
  · have hf := (if_neg c2).symm.trans hf
    refine lv_iconst (v := 0) hx hb dX12_isPresented_9 (by decide) ?_
    refine lv_goto (tgt := 14) hx hb dX12_isPresented_10 (by decide) ?_
    exact hj14_4 (0 : Int32) H _ _ hf hI (lv_sub hl [0, 1] rfl)
abbrev rmX12_presentedCount : Room := { frames := 0, cells := 0, slots := 0, locals := 0 }
theorem kb_X12_presentedCount {R : Room} {s : State} {args : Array Value} {own : String} {idx : Nat} (hT : mT s) (hlink : (Cond.methodLink own idx yX12_presentedCount).before args s = true) (h1 : rmX12_presentedCount.frames + 1 ≤ R.frames) (h2 : 8 + (1 + 11) + rmX12_presentedCount.locals ≤ R.locals) : CallB R s args own idx yX12_presentedCount cX12_presentedCount 1 (some .int) [Cond.code yX12_presentedCount cX12_presentedCount 1 (some .int)] rmX12_presentedCount 0 0 0 := m_callB hT kc_X12_presentedCount ki_X12_presentedCount hlink (by decide +kernel) ⟨rfl, rfl, h1, h2⟩
set_option maxHeartbeats 4000000 in
set_option maxRecDepth 100000 in
theorem c_X12_presentedCount (l : Launch) (w : WD) (sz : Nat)  (M : Mem) (r : Int32) (M9 : Mem) (hf : f_X12_presentedCount  M = some (r, M9)) : mMet l yX12_presentedCount cX12_presentedCount 1 (some .int) rmX12_presentedCount w sz M [.ref (w.1 12 47)] (some (.int r)) M9 := by
  refine m_of (by decide) (Nat.le_of_ble_eq_true rfl) ?_
  intro p e s m args below meth c hx hb hr hml hown hlk hI ls hl
  have hl : lv_has ls 1 [(0, .ref (w.1 12 47))] := hl
  unfold f_X12_presentedCount at hf
  refine lv_aload_n hx hb dX12_presentedCount_0 rfl (lv_at hl 0 rfl) ?_
  refine lv_iconst (v := 0) hx hb dX12_presentedCount_1 (by decide) ?_
  obtain ⟨M1, eM1, hf⟩ := mlet_e hf
  refine m_put (g := 12) (i := 47) (ci := 10) (k := 0) (ty := .int) (M1 := M1) hx hb hI hown (mokX (by decide) (by decide)) rfl rfl (by decide) lyX12 tyX12 tyX12_ok nmX12 (q1426 hI.T) rfl rfl rfl rfl (Nat.le_of_ble_eq_true rfl) rfl eM1 dX12_presentedCount_2 (fun H locs hI => ?_)
  refine lv_aload_n hx hb dX12_presentedCount_5 rfl (lv_at hl 0 rfl) ?_
  refine m_get (g := 12) (i := 47) (ci := 10) (k := 1) (v := .ref (w.1 12 48)) hx hb hI hown (mokX (by decide) (by decide)) rfl rfl (by decide) lyX12 (q1427 hI.T) rfl dX12_presentedCount_6 ?_
  refine lv_bipush (v := 9) hx hb dX12_presentedCount_9 (by decide) ?_
  obtain ⟨hi, hf⟩ := mix_e hf
  refine m_iald (g := 12) (i := 48) hx hb hI (mokX (by decide) (by decide)) rfl hi dX12_presentedCount_11 ?_
  exact m_iretf hx hb hr hlk hI hf dX12_presentedCount_12
abbrev rmX12_presentedAt : Room := { frames := 1, cells := 0, slots := 0, locals := 22 }
theorem kb_X12_presentedAt {R : Room} {s : State} {args : Array Value} {own : String} {idx : Nat} (hT : mT s) (hlink : (Cond.methodLink own idx yX12_presentedAt).before args s = true) (h1 : rmX12_presentedAt.frames + 1 ≤ R.frames) (h2 : 8 + (2 + 11) + rmX12_presentedAt.locals ≤ R.locals) : CallB R s args own idx yX12_presentedAt cX12_presentedAt 2 (some .int) [Cond.code yX12_presentedAt cX12_presentedAt 2 (some .int)] rmX12_presentedAt 0 0 1 := m_callB hT kc_X12_presentedAt ki_X12_presentedAt hlink (by decide +kernel) ⟨rfl, rfl, h1, h2⟩
set_option maxHeartbeats 4000000 in
set_option maxRecDepth 100000 in
theorem c_X12_presentedAt (l : Launch) (w : WD) (sz : Nat) (a1 : Int32) (M : Mem) (r : Int32) (M9 : Mem) (hf : f_X12_presentedAt a1 M = some (r, M9)) : mMet l yX12_presentedAt cX12_presentedAt 2 (some .int) rmX12_presentedAt w sz M [.ref (w.1 12 47), .int a1] (some (.int r)) M9 := by
  refine m_of (by decide) (Nat.le_of_ble_eq_true rfl) ?_
  intro p e s m args below meth c hx hb hr hml hown hlk hI ls hl
  have hl : lv_has ls 2 [(0, .ref (w.1 12 47)), (1, .int a1)] := hl
  unfold f_X12_presentedAt at hf
  refine lv_aload_n hx hb dX12_presentedAt_0 rfl (lv_at hl 0 rfl) ?_
  refine lv_iload_n hx hb dX12_presentedAt_1 rfl (lv_at hl 1 rfl) ?_
  refine lv_iconst (v := 0) hx hb dX12_presentedAt_2 (by decide) ?_
  refine lv_aload_n hx hb dX12_presentedAt_3 rfl (lv_at hl 0 rfl) ?_
  refine m_get (g := 12) (i := 47) (ci := 10) (k := 1) (v := .ref (w.1 12 48)) hx hb hI hown (mokX (by decide) (by decide)) rfl rfl (by decide) lyX12 (q1427 hI.T) rfl dX12_presentedAt_4 ?_
  refine lv_bipush (v := 9) hx hb dX12_presentedAt_7 (by decide) ?_
  obtain ⟨hi, hf⟩ := mix_e hf
  refine m_iald (g := 12) (i := 48) hx hb hI (mokX (by decide) (by decide)) rfl hi dX12_presentedAt_9 ?_
  refine lv_iconst (v := 1) hx hb dX12_presentedAt_10 (by decide) ?_
  refine lv_isub hx hb dX12_presentedAt_11 ?_
  obtain ⟨r1, hc, hf⟩ := mbp_e hf
  refine m_callS (As := [.int a1, .int (0 : Int32), .int ((M 12 48 (9 : Int32).toNatClampNeg) - (1 : Int32))]) (rest := [.ref (w.1 12 47)]) hx hb hml hown hI (c_X12_in l w s.heap.size a1 (0 : Int32) ((M 12 48 (9 : Int32).toNatClampNeg) - (1 : Int32)) M _ hc) (kb_X12_in hI.T (q1544 hI.T) (Nat.le_of_ble_eq_true rfl) (Nat.le_of_ble_eq_true rfl)) (q1545 hI.T) rfl hl.1 (Nat.le_of_ble_eq_true rfl) dX12_presentedAt_12 ⟨Nat.le_of_ble_eq_true rfl, Nat.le_of_ble_eq_true rfl⟩ (fun H locs hI => ?_)
  obtain ⟨k23_4, ek23_4, hf⟩ := mlet_e hf
  have hj23_4 : ∀ (x3 : Int32) (H : Heap) (locs : List Loc) (ls : Array Slot), k23_4 x3 = some (r, M9) → mI w s (mA w s.heap.size) H locs M → lv_has ls 2 [(0, .ref (w.1 12 47)), (1, .int a1)] → W p l e rmX12_presentedAt s m args below meth c H locs 0 0 (MQ below (mQ w s.heap.size (some (.int r)) M9) args s 0 0 (mA w s.heap.size)) (F0 m 23 ls [.int x3, .ref (w.1 12 47)]) := by
    intro x3 H locs ls hf hI hl
    rw [ek23_4] at hf
    try dsimp only at hf
    obtain ⟨M5, eM5, hf⟩ := mlet_e hf
    refine m_put (g := 12) (i := 47) (ci := 10) (k := 0) (ty := .int) (M1 := M5) hx hb hI hown (mokX (by decide) (by decide)) rfl rfl (by decide) lyX12 tyX12 tyX12_ok nmX12 (q1426 hI.T) rfl rfl rfl rfl (Nat.le_of_ble_eq_true rfl) rfl eM5 dX12_presentedAt_23 (fun H locs hI => ?_)
    refine lv_aload_n hx hb dX12_presentedAt_26 rfl (lv_at hl 0 rfl) ?_
    refine m_get (g := 12) (i := 47) (ci := 10) (k := 0) (v := .int (M5 12 47 0)) hx hb hI hown (mokX (by decide) (by decide)) rfl rfl (by decide) lyX12 (q1426 hI.T) rfl dX12_presentedAt_27 ?_
    refine lv_if_le (tgt := 37) hx hb dX12_presentedAt_30 (by decide) (fun c6 => ?_) (fun c6 => ?_)
    · have hf := (if_pos c6).symm.trans hf
      refine lv_aload_n hx hb dX12_presentedAt_37 rfl (lv_at hl 0 rfl) ?_
      refine m_get (g := 12) (i := 47) (ci := 10) (k := 1) (v := .ref (w.1 12 48)) hx hb hI hown (mokX (by decide) (by decide)) rfl rfl (by decide) lyX12 (q1427 hI.T) rfl dX12_presentedAt_38 ?_
      refine lv_bipush (v := 23) hx hb dX12_presentedAt_41 (by decide) ?_
      refine lv_iload_n hx hb dX12_presentedAt_43 rfl (lv_at hl 1 rfl) ?_
      refine lv_iadd hx hb dX12_presentedAt_44 ?_
      obtain ⟨hi, hf⟩ := mix_e hf
      refine m_iald (g := 12) (i := 48) hx hb hI (mokX (by decide) (by decide)) rfl hi dX12_presentedAt_45 ?_
      exact m_iretf hx hb hr hlk hI hf dX12_presentedAt_46
    · have hf := (if_neg c6).symm.trans hf
      refine lv_iconst (v := 0) hx hb dX12_presentedAt_33 (by decide) ?_
      refine lv_goto (tgt := 46) hx hb dX12_presentedAt_34 (by decide) ?_
      exact m_iretf hx hb hr hlk hI hf dX12_presentedAt_46
  refine lv_if_eq (tgt := 22) hx hb dX12_presentedAt_15 (by decide) (fun c2 => ?_) (fun c2 => ?_)
  · have hf := (if_pos c2).symm.trans hf
    refine lv_iconst (v := 1) hx hb dX12_presentedAt_22 (by decide) ?_
    exact hj23_4 (1 : Int32) H _ _ hf hI (lv_sub hl [0, 1] rfl)
  · have hf := (if_neg c2).symm.trans hf
    refine lv_iconst (v := 0) hx hb dX12_presentedAt_18 (by decide) ?_
    refine lv_goto (tgt := 23) hx hb dX12_presentedAt_19 (by decide) ?_
    exact hj23_4 (0 : Int32) H _ _ hf hI (lv_sub hl [0, 1] rfl)
abbrev rmX12_areEnough : Room := { frames := 0, cells := 0, slots := 0, locals := 0 }
theorem kb_X12_areEnough {R : Room} {s : State} {args : Array Value} {own : String} {idx : Nat} (hT : mT s) (hlink : (Cond.methodLink own idx yX12_areEnough).before args s = true) (h1 : rmX12_areEnough.frames + 1 ≤ R.frames) (h2 : 8 + (1 + 11) + rmX12_areEnough.locals ≤ R.locals) : CallB R s args own idx yX12_areEnough cX12_areEnough 1 (some .boolean) [Cond.code yX12_areEnough cX12_areEnough 1 (some .boolean)] rmX12_areEnough 0 0 0 := m_callB hT kc_X12_areEnough ki_X12_areEnough hlink (by decide +kernel) ⟨rfl, rfl, h1, h2⟩
set_option maxHeartbeats 4000000 in
set_option maxRecDepth 100000 in
theorem c_X12_areEnough (l : Launch) (w : WD) (sz : Nat)  (M : Mem) (r : Int32) (M9 : Mem) (hf : f_X12_areEnough  M = some (r, M9)) : mMet l yX12_areEnough cX12_areEnough 1 (some .boolean) rmX12_areEnough w sz M [.ref (w.1 12 47)] (some (.int r)) M9 := by
  refine m_of (by decide) (Nat.le_of_ble_eq_true rfl) ?_
  intro p e s m args below meth c hx hb hr hml hown hlk hI ls hl
  have hl : lv_has ls 1 [(0, .ref (w.1 12 47))] := hl
  unfold f_X12_areEnough at hf
  refine lv_aload_n hx hb dX12_areEnough_0 rfl (lv_at hl 0 rfl) ?_
  refine lv_aload_n hx hb dX12_areEnough_1 rfl (lv_at hl 0 rfl) ?_
  refine m_get (g := 12) (i := 47) (ci := 10) (k := 1) (v := .ref (w.1 12 48)) hx hb hI hown (mokX (by decide) (by decide)) rfl rfl (by decide) lyX12 (q1427 hI.T) rfl dX12_areEnough_2 ?_
  refine lv_iconst (v := 1) hx hb dX12_areEnough_5 (by decide) ?_
  obtain ⟨hi, hf⟩ := mix_e hf
  refine m_iald (g := 12) (i := 48) hx hb hI (mokX (by decide) (by decide)) rfl hi dX12_areEnough_6 ?_
  refine lv_iconst (v := 1) hx hb dX12_areEnough_7 (by decide) ?_
  obtain ⟨k32_5, ek32_5, hf⟩ := mlet_e hf
  have hj32_5 : ∀ (x4 : Int32) (H : Heap) (locs : List Loc) (ls : Array Slot), k32_5 x4 = some (r, M9) → mI w s (mA w s.heap.size) H locs M → lv_has ls 1 [(0, .ref (w.1 12 47))] → W p l e rmX12_areEnough s m args below meth c H locs 0 0 (MQ below (mQ w s.heap.size (some (.int r)) M9) args s 0 0 (mA w s.heap.size)) (F0 m 32 ls [.int x4, .ref (w.1 12 47)]) := by
    intro x4 H locs ls hf hI hl
    rw [ek32_5] at hf
    try dsimp only at hf
    obtain ⟨M6, eM6, hf⟩ := mlet_e hf
    refine m_put (g := 12) (i := 47) (ci := 10) (k := 0) (ty := .int) (M1 := M6) hx hb hI hown (mokX (by decide) (by decide)) rfl rfl (by decide) lyX12 tyX12 tyX12_ok nmX12 (q1426 hI.T) rfl rfl rfl rfl (Nat.le_of_ble_eq_true rfl) rfl eM6 dX12_areEnough_32 (fun H locs hI => ?_)
    refine lv_aload_n hx hb dX12_areEnough_35 rfl (lv_at hl 0 rfl) ?_
    refine m_get (g := 12) (i := 47) (ci := 10) (k := 0) (v := .int (M6 12 47 0)) hx hb hI hown (mokX (by decide) (by decide)) rfl rfl (by decide) lyX12 (q1426 hI.T) rfl dX12_areEnough_36 ?_
    refine lv_if_ne (tgt := 46) hx hb dX12_areEnough_39 (by decide) (fun c7 => ?_) (fun c7 => ?_)
    · have hf := (if_neg c7).symm.trans hf
      refine lv_iconst (v := 0) hx hb dX12_areEnough_46 (by decide) ?_
      exact m_zretf hx hb hr hlk hI rfl hf dX12_areEnough_47
    · have hf := (if_pos c7).symm.trans hf
      refine lv_iconst (v := 1) hx hb dX12_areEnough_42 (by decide) ?_
      refine lv_goto (tgt := 47) hx hb dX12_areEnough_43 (by decide) ?_
      exact m_zretf hx hb hr hlk hI rfl hf dX12_areEnough_47
  obtain ⟨k31_3, ek31_3, hf⟩ := mlet_e hf
  have hj31_3 : ∀ (_u : Unit) (H : Heap) (locs : List Loc) (ls : Array Slot), k31_3 _u = some (r, M9) → mI w s (mA w s.heap.size) H locs M → lv_has ls 1 [(0, .ref (w.1 12 47))] → W p l e rmX12_areEnough s m args below meth c H locs 0 0 (MQ below (mQ w s.heap.size (some (.int r)) M9) args s 0 0 (mA w s.heap.size)) (F0 m 31 ls [.ref (w.1 12 47)]) := by
    intro _u H locs ls hf hI hl
    rw [ek31_3] at hf
    try dsimp only at hf
    refine lv_iconst (v := 1) hx hb dX12_areEnough_31 (by decide) ?_
    exact hj32_5 (1 : Int32) H _ _ hf hI (lv_sub hl [0] rfl)
  refine lv_icmp_ne (tgt := 31) hx hb dX12_areEnough_8 (by decide) (fun c1 => ?_) (fun c1 => ?_)
  · have hf := (if_neg c1).symm.trans hf
    exact hj31_3 () s.heap _ _ hf hI (lv_sub hl [0] rfl)
  · have hf := (if_pos c1).symm.trans hf
    refine lv_aload_n hx hb dX12_areEnough_11 rfl (lv_at hl 0 rfl) ?_
    refine m_get (g := 12) (i := 47) (ci := 10) (k := 1) (v := .ref (w.1 12 48)) hx hb hI hown (mokX (by decide) (by decide)) rfl rfl (by decide) lyX12 (q1427 hI.T) rfl dX12_areEnough_12 ?_
    refine lv_bipush (v := 9) hx hb dX12_areEnough_15 (by decide) ?_
    obtain ⟨hi, hf⟩ := mix_e hf
    refine m_iald (g := 12) (i := 48) hx hb hI (mokX (by decide) (by decide)) rfl hi dX12_areEnough_17 ?_
    refine lv_aload_n hx hb dX12_areEnough_18 rfl (lv_at hl 0 rfl) ?_
    refine m_get (g := 12) (i := 47) (ci := 10) (k := 1) (v := .ref (w.1 12 48)) hx hb hI hown (mokX (by decide) (by decide)) rfl rfl (by decide) lyX12 (q1427 hI.T) rfl dX12_areEnough_19 ?_
    refine lv_iconst (v := 5) hx hb dX12_areEnough_22 (by decide) ?_
    obtain ⟨hi, hf⟩ := mix_e hf
    refine m_iald (g := 12) (i := 48) hx hb hI (mokX (by decide) (by decide)) rfl hi dX12_areEnough_23 ?_
    refine lv_icmp_lt (tgt := 31) hx hb dX12_areEnough_24 (by decide) (fun c2 => ?_) (fun c2 => ?_)
    · have hf := (if_pos c2).symm.trans hf
      exact hj31_3 () s.heap _ _ hf hI (lv_sub hl [0] rfl)
    · have hf := (if_neg c2).symm.trans hf
      refine lv_iconst (v := 0) hx hb dX12_areEnough_27 (by decide) ?_
      refine lv_goto (tgt := 32) hx hb dX12_areEnough_28 (by decide) ?_
      exact hj32_5 (0 : Int32) s.heap _ _ hf hI (lv_sub hl [0] rfl)
abbrev rmX12_toldSecret : Room := { frames := 2, cells := 0, slots := 0, locals := 48 }
theorem kb_X12_toldSecret {R : Room} {s : State} {args : Array Value} {own : String} {idx : Nat} (hT : mT s) (hlink : (Cond.methodLink own idx yX12_toldSecret).before args s = true) (h1 : rmX12_toldSecret.frames + 1 ≤ R.frames) (h2 : 8 + (1 + 11) + rmX12_toldSecret.locals ≤ R.locals) : CallB R s args own idx yX12_toldSecret cX12_toldSecret 1 (some .int) [Cond.code yX12_toldSecret cX12_toldSecret 1 (some .int)] rmX12_toldSecret 0 0 0 := m_callB hT kc_X12_toldSecret ki_X12_toldSecret hlink (by decide +kernel) ⟨rfl, rfl, h1, h2⟩
set_option maxHeartbeats 4000000 in
set_option maxRecDepth 100000 in
theorem c_X12_toldSecret (l : Launch) (w : WD) (sz : Nat)  (M : Mem) (r : Int32) (M9 : Mem) (hf : f_X12_toldSecret  M = some (r, M9)) : mMet l yX12_toldSecret cX12_toldSecret 1 (some .int) rmX12_toldSecret w sz M [.ref (w.1 12 47)] (some (.int r)) M9 := by
  refine m_of (by decide) (Nat.le_of_ble_eq_true rfl) ?_
  intro p e s m args below meth c hx hb hr hml hown hlk hI ls hl
  have hl : lv_has ls 1 [(0, .ref (w.1 12 47))] := hl
  unfold f_X12_toldSecret at hf
  refine lv_aload_n hx hb dX12_toldSecret_0 rfl (lv_at hl 0 rfl) ?_
  obtain ⟨r1, M2, hc, hf⟩ := mbnd_e hf
  refine m_callV (As := []) (rest := []) hx hb hml hown hI (c_X12_areEnough l w s.heap.size M _ _ hc) (kb_X12_areEnough hI.T (q1717 hI.T) (Nat.le_of_ble_eq_true rfl) (Nat.le_of_ble_eq_true rfl)) (q1719 hI.T) (sel_X12_areEnough hI.T) (m_recv (g := 12) (i := 47) hI (mokX (by decide) (by decide)) rfl rfl) rfl hl.1 (Nat.le_of_ble_eq_true rfl) dX12_toldSecret_1 ⟨Nat.le_of_ble_eq_true rfl, Nat.le_of_ble_eq_true rfl⟩ (fun H locs hI => ?_)
  refine lv_if_ne (tgt := 9) hx hb dX12_toldSecret_4 (by decide) (fun c3 => ?_) (fun c3 => ?_)
  · have hf := (if_neg c3).symm.trans hf
    refine lv_aload_n hx hb dX12_toldSecret_9 rfl (lv_at hl 0 rfl) ?_
    obtain ⟨r4, M5, hc, hf⟩ := mbnd_e hf
    refine m_callV (As := []) (rest := []) hx hb hml hown hI (c_X12_takesFirst l w H.size M2 _ _ hc) (kb_X12_takesFirst hI.T (q1599 hI.T) (Nat.le_of_ble_eq_true rfl) (Nat.le_of_ble_eq_true rfl)) (q1601 hI.T) (sel_X12_takesFirst hI.T) (m_recv (g := 12) (i := 47) hI (mokX (by decide) (by decide)) rfl rfl) rfl hl.1 (Nat.le_of_ble_eq_true rfl) dX12_toldSecret_10 ⟨Nat.le_of_ble_eq_true rfl, Nat.le_of_ble_eq_true rfl⟩ (fun H locs hI => ?_)
    refine lv_aload_n hx hb dX12_toldSecret_13 rfl (lv_at hl 0 rfl) ?_
    refine lv_iconst (v := 0) hx hb dX12_toldSecret_14 (by decide) ?_
    obtain ⟨r6, hc, hf⟩ := mbp_e hf
    refine m_callV (As := [.int (0 : Int32)]) (rest := []) hx hb hml hown hI (c_X12_through l w H.size (0 : Int32) M5 _ hc) (kb_X12_through hI.T (q1607 hI.T) (Nat.le_of_ble_eq_true rfl) (Nat.le_of_ble_eq_true rfl)) (q1609 hI.T) (sel_X12_through hI.T) (m_recv (g := 12) (i := 47) hI (mokX (by decide) (by decide)) rfl rfl) rfl hl.1 (Nat.le_of_ble_eq_true rfl) dX12_toldSecret_15 ⟨Nat.le_of_ble_eq_true rfl, Nat.le_of_ble_eq_true rfl⟩ (fun H locs hI => ?_)
    exact m_iretf hx hb hr hlk hI hf dX12_toldSecret_18
  · have hf := (if_pos c3).symm.trans hf
    refine lv_iconst (v := 0) hx hb dX12_toldSecret_7 (by decide) ?_
    exact m_iretf hx hb hr hlk hI hf dX12_toldSecret_8
abbrev rmX12_toldSecretByElimination : Room := { frames := 3, cells := 0, slots := 0, locals := 68 }
theorem kb_X12_toldSecretByElimination {R : Room} {s : State} {args : Array Value} {own : String} {idx : Nat} (hT : mT s) (hlink : (Cond.methodLink own idx yX12_toldSecretByElimination).before args s = true) (h1 : rmX12_toldSecretByElimination.frames + 1 ≤ R.frames) (h2 : 8 + (1 + 11) + rmX12_toldSecretByElimination.locals ≤ R.locals) : CallB R s args own idx yX12_toldSecretByElimination cX12_toldSecretByElimination 1 (some .int) [Cond.code yX12_toldSecretByElimination cX12_toldSecretByElimination 1 (some .int)] rmX12_toldSecretByElimination 0 0 0 := m_callB hT kc_X12_toldSecretByElimination ki_X12_toldSecretByElimination hlink (by decide +kernel) ⟨rfl, rfl, h1, h2⟩
set_option maxHeartbeats 4000000 in
set_option maxRecDepth 100000 in
theorem c_X12_toldSecretByElimination (l : Launch) (w : WD) (sz : Nat)  (M : Mem) (r : Int32) (M9 : Mem) (hf : f_X12_toldSecretByElimination  M = some (r, M9)) : mMet l yX12_toldSecretByElimination cX12_toldSecretByElimination 1 (some .int) rmX12_toldSecretByElimination w sz M [.ref (w.1 12 47)] (some (.int r)) M9 := by
  refine m_of (by decide) (Nat.le_of_ble_eq_true rfl) ?_
  intro p e s m args below meth c hx hb hr hml hown hlk hI ls hl
  have hl : lv_has ls 1 [(0, .ref (w.1 12 47))] := hl
  unfold f_X12_toldSecretByElimination at hf
  refine lv_aload_n hx hb dX12_toldSecretByElimination_0 rfl (lv_at hl 0 rfl) ?_
  obtain ⟨r1, M2, hc, hf⟩ := mbnd_e hf
  refine m_callV (As := []) (rest := []) hx hb hml hown hI (c_X12_toldSecret l w s.heap.size M _ _ hc) (kb_X12_toldSecret hI.T (q1725 hI.T) (Nat.le_of_ble_eq_true rfl) (Nat.le_of_ble_eq_true rfl)) (q1714 hI.T) (q1715 hI.T) (m_recv (g := 12) (i := 47) hI (mokX (by decide) (by decide)) rfl rfl) rfl hl.1 (Nat.le_of_ble_eq_true rfl) dX12_toldSecretByElimination_1 ⟨Nat.le_of_ble_eq_true rfl, Nat.le_of_ble_eq_true rfl⟩ (fun H locs hI => ?_)
  exact m_iretf hx hb hr hlk hI hf dX12_toldSecretByElimination_4
abbrev rmX12_toldValue : Room := { frames := 2, cells := 0, slots := 0, locals := 48 }
theorem kb_X12_toldValue {R : Room} {s : State} {args : Array Value} {own : String} {idx : Nat} (hT : mT s) (hlink : (Cond.methodLink own idx yX12_toldValue).before args s = true) (h1 : rmX12_toldValue.frames + 1 ≤ R.frames) (h2 : 8 + (3 + 11) + rmX12_toldValue.locals ≤ R.locals) : CallB R s args own idx yX12_toldValue cX12_toldValue 3 (some .int) [Cond.code yX12_toldValue cX12_toldValue 3 (some .int)] rmX12_toldValue 0 0 1 := m_callB hT kc_X12_toldValue ki_X12_toldValue hlink (by decide +kernel) ⟨rfl, rfl, h1, h2⟩
set_option maxHeartbeats 4000000 in
set_option maxRecDepth 100000 in
theorem c_X12_toldValue (l : Launch) (w : WD) (sz : Nat) (a1 : Int32) (M : Mem) (r : Int32) (M9 : Mem) (hf : f_X12_toldValue a1 M = some (r, M9)) : mMet l yX12_toldValue cX12_toldValue 3 (some .int) rmX12_toldValue w sz M [.ref (w.1 12 47), .int a1] (some (.int r)) M9 := by
  refine m_of (by decide) (Nat.le_of_ble_eq_true rfl) ?_
  intro p e s m args below meth c hx hb hr hml hown hlk hI ls hl
  have hl : lv_has ls 3 [(0, .ref (w.1 12 47)), (1, .int a1)] := hl
  unfold f_X12_toldValue at hf
  refine lv_aload_n hx hb dX12_toldValue_0 rfl (lv_at hl 0 rfl) ?_
  obtain ⟨r1, M2, hc, hf⟩ := mbnd_e hf
  refine m_callV (As := []) (rest := []) hx hb hml hown hI (c_X12_areEnough l w s.heap.size M _ _ hc) (kb_X12_areEnough hI.T (q1717 hI.T) (Nat.le_of_ble_eq_true rfl) (Nat.le_of_ble_eq_true rfl)) (q1719 hI.T) (sel_X12_areEnough hI.T) (m_recv (g := 12) (i := 47) hI (mokX (by decide) (by decide)) rfl rfl) rfl hl.1 (Nat.le_of_ble_eq_true rfl) dX12_toldValue_1 ⟨Nat.le_of_ble_eq_true rfl, Nat.le_of_ble_eq_true rfl⟩ (fun H locs hI => ?_)
  refine lv_istore_n (lv' := [(2, .int r1), (0, .ref (w.1 12 47)), (1, .int a1)]) hx hb dX12_toldValue_4 rfl hl (by decide) rfl (fun ls hl => ?_)
  refine lv_aload_n hx hb dX12_toldValue_5 rfl (lv_at hl 1 rfl) ?_
  refine lv_iload_n hx hb dX12_toldValue_6 rfl (lv_at hl 2 rfl) ?_
  refine lv_iconst (v := 0) hx hb dX12_toldValue_7 (by decide) ?_
  refine lv_bipush (v := 96) hx hb dX12_toldValue_8 (by decide) ?_
  obtain ⟨r3, hc, hf⟩ := mbp_e hf
  refine m_callS (As := [.int a1, .int (0 : Int32), .int (96 : Int32)]) (rest := [.ref (w.1 12 47)]) hx hb hml hown hI (c_X12_in l w H.size a1 (0 : Int32) (96 : Int32) M2 _ hc) (kb_X12_in hI.T (q1544 hI.T) (Nat.le_of_ble_eq_true rfl) (Nat.le_of_ble_eq_true rfl)) (q1545 hI.T) rfl hl.1 (Nat.le_of_ble_eq_true rfl) dX12_toldValue_10 ⟨Nat.le_of_ble_eq_true rfl, Nat.le_of_ble_eq_true rfl⟩ (fun H locs hI => ?_)
  obtain ⟨k29_7, ek29_7, hf⟩ := mlet_e hf
  have hj29_7 : ∀ (x6 : Int32) (H : Heap) (locs : List Loc) (ls : Array Slot), k29_7 x6 = some (r, M9) → mI w s (mA w s.heap.size) H locs M2 → lv_has ls 3 [(0, .ref (w.1 12 47)), (1, .int a1)] → W p l e rmX12_toldValue s m args below meth c H locs 0 0 (MQ below (mQ w s.heap.size (some (.int r)) M9) args s 0 0 (mA w s.heap.size)) (F0 m 29 ls [.int x6, .ref (w.1 12 47)]) := by
    intro x6 H locs ls hf hI hl
    rw [ek29_7] at hf
    try dsimp only at hf
    obtain ⟨M8, eM8, hf⟩ := mlet_e hf
    refine m_put (g := 12) (i := 47) (ci := 10) (k := 0) (ty := .int) (M1 := M8) hx hb hI hown (mokX (by decide) (by decide)) rfl rfl (by decide) lyX12 tyX12 tyX12_ok nmX12 (q1426 hI.T) rfl rfl rfl rfl (Nat.le_of_ble_eq_true rfl) rfl eM8 dX12_toldValue_29 (fun H locs hI => ?_)
    refine lv_aload_n hx hb dX12_toldValue_32 rfl (lv_at hl 0 rfl) ?_
    refine m_get (g := 12) (i := 47) (ci := 10) (k := 0) (v := .int (M8 12 47 0)) hx hb hI hown (mokX (by decide) (by decide)) rfl rfl (by decide) lyX12 (q1426 hI.T) rfl dX12_toldValue_33 ?_
    refine lv_if_le (tgt := 41) hx hb dX12_toldValue_36 (by decide) (fun c9 => ?_) (fun c9 => ?_)
    · have hf := (if_pos c9).symm.trans hf
      refine lv_aload_n hx hb dX12_toldValue_41 rfl (lv_at hl 0 rfl) ?_
      obtain ⟨r10, M11, hc, hf⟩ := mbnd_e hf
      refine m_callV (As := []) (rest := []) hx hb hml hown hI (c_X12_takesFirst l w H.size M8 _ _ hc) (kb_X12_takesFirst hI.T (q1599 hI.T) (Nat.le_of_ble_eq_true rfl) (Nat.le_of_ble_eq_true rfl)) (q1601 hI.T) (sel_X12_takesFirst hI.T) (m_recv (g := 12) (i := 47) hI (mokX (by decide) (by decide)) rfl rfl) rfl hl.1 (Nat.le_of_ble_eq_true rfl) dX12_toldValue_42 ⟨Nat.le_of_ble_eq_true rfl, Nat.le_of_ble_eq_true rfl⟩ (fun H locs hI => ?_)
      refine lv_aload_n hx hb dX12_toldValue_45 rfl (lv_at hl 0 rfl) ?_
      refine lv_iload_n hx hb dX12_toldValue_46 rfl (lv_at hl 1 rfl) ?_
      obtain ⟨r12, hc, hf⟩ := mbp_e hf
      refine m_callV (As := [.int a1]) (rest := []) hx hb hml hown hI (c_X12_through l w H.size a1 M11 _ hc) (kb_X12_through hI.T (q1607 hI.T) (Nat.le_of_ble_eq_true rfl) (Nat.le_of_ble_eq_true rfl)) (q1609 hI.T) (sel_X12_through hI.T) (m_recv (g := 12) (i := 47) hI (mokX (by decide) (by decide)) rfl rfl) rfl hl.1 (Nat.le_of_ble_eq_true rfl) dX12_toldValue_47 ⟨Nat.le_of_ble_eq_true rfl, Nat.le_of_ble_eq_true rfl⟩ (fun H locs hI => ?_)
      exact m_iretf hx hb hr hlk hI hf dX12_toldValue_50
    · have hf := (if_neg c9).symm.trans hf
      refine lv_iconst (v := 0) hx hb dX12_toldValue_39 (by decide) ?_
      exact m_iretf hx hb hr hlk hI hf dX12_toldValue_40
  refine lv_if_ne (tgt := 20) hx hb dX12_toldValue_13 (by decide) (fun c4 => ?_) (fun c4 => ?_)
  · have hf := (if_neg c4).symm.trans hf
    refine lv_iload_n hx hb dX12_toldValue_20 rfl (lv_at hl 0 rfl) ?_
    refine lv_if_eq (tgt := 28) hx hb dX12_toldValue_21 (by decide) (fun c5 => ?_) (fun c5 => ?_)
    · have hf := (if_pos c5).symm.trans hf
      refine lv_iconst (v := 2) hx hb dX12_toldValue_28 (by decide) ?_
      exact hj29_7 (2 : Int32) H _ _ hf hI (lv_sub hl [1, 2] rfl)
    · have hf := (if_neg c5).symm.trans hf
      refine lv_iconst (v := 0) hx hb dX12_toldValue_24 (by decide) ?_
      refine lv_goto (tgt := 29) hx hb dX12_toldValue_25 (by decide) ?_
      exact hj29_7 (0 : Int32) H _ _ hf hI (lv_sub hl [1, 2] rfl)
  · have hf := (if_pos c4).symm.trans hf
    refine lv_iconst (v := 1) hx hb dX12_toldValue_16 (by decide) ?_
    refine lv_goto (tgt := 29) hx hb dX12_toldValue_17 (by decide) ?_
    exact hj29_7 (1 : Int32) H _ _ hf hI (lv_sub hl [1, 2] rfl)
abbrev rmX12_doAgree : Room := { frames := 3, cells := 0, slots := 0, locals := 70 }
theorem kb_X12_doAgree {R : Room} {s : State} {args : Array Value} {own : String} {idx : Nat} (hT : mT s) (hlink : (Cond.methodLink own idx yX12_doAgree).before args s = true) (h1 : rmX12_doAgree.frames + 1 ≤ R.frames) (h2 : 8 + (1 + 11) + rmX12_doAgree.locals ≤ R.locals) : CallB R s args own idx yX12_doAgree cX12_doAgree 1 (some .boolean) [Cond.code yX12_doAgree cX12_doAgree 1 (some .boolean)] rmX12_doAgree 0 0 0 := m_callB hT kc_X12_doAgree ki_X12_doAgree hlink (by decide +kernel) ⟨rfl, rfl, h1, h2⟩
set_option maxHeartbeats 4000000 in
set_option maxRecDepth 100000 in
theorem c_X12_doAgree (l : Launch) (w : WD) (sz : Nat)  (M : Mem) (r : Int32) (M9 : Mem) (hf : f_X12_doAgree  M = some (r, M9)) : mMet l yX12_doAgree cX12_doAgree 1 (some .boolean) rmX12_doAgree w sz M [.ref (w.1 12 47)] (some (.int r)) M9 := by
  refine m_of (by decide) (Nat.le_of_ble_eq_true rfl) ?_
  intro p e s m args below meth c hx hb hr hml hown hlk hI ls hl
  have hl : lv_has ls 1 [(0, .ref (w.1 12 47))] := hl
  unfold f_X12_doAgree at hf
  refine lv_aload_n hx hb dX12_doAgree_0 rfl (lv_at hl 0 rfl) ?_
  obtain ⟨r1, M2, hc, hf⟩ := mbnd_e hf
  refine m_callV (As := []) (rest := []) hx hb hml hown hI (c_X12_areEnough l w s.heap.size M _ _ hc) (kb_X12_areEnough hI.T (q1717 hI.T) (Nat.le_of_ble_eq_true rfl) (Nat.le_of_ble_eq_true rfl)) (q1719 hI.T) (sel_X12_areEnough hI.T) (m_recv (g := 12) (i := 47) hI (mokX (by decide) (by decide)) rfl rfl) rfl hl.1 (Nat.le_of_ble_eq_true rfl) dX12_doAgree_1 ⟨Nat.le_of_ble_eq_true rfl, Nat.le_of_ble_eq_true rfl⟩ (fun H locs hI => ?_)
  refine lv_if_ne (tgt := 9) hx hb dX12_doAgree_4 (by decide) (fun c3 => ?_) (fun c3 => ?_)
  · have hf := (if_neg c3).symm.trans hf
    refine lv_aload_n hx hb dX12_doAgree_9 rfl (lv_at hl 0 rfl) ?_
    obtain ⟨r4, M5, hc, hf⟩ := mbnd_e hf
    refine m_callV (As := []) (rest := []) hx hb hml hown hI (c_X12_takesFirst l w H.size M2 _ _ hc) (kb_X12_takesFirst hI.T (q1599 hI.T) (Nat.le_of_ble_eq_true rfl) (Nat.le_of_ble_eq_true rfl)) (q1601 hI.T) (sel_X12_takesFirst hI.T) (m_recv (g := 12) (i := 47) hI (mokX (by decide) (by decide)) rfl rfl) rfl hl.1 (Nat.le_of_ble_eq_true rfl) dX12_doAgree_10 ⟨Nat.le_of_ble_eq_true rfl, Nat.le_of_ble_eq_true rfl⟩ (fun H locs hI => ?_)
    refine lv_aload_n hx hb dX12_doAgree_13 rfl (lv_at hl 0 rfl) ?_
    obtain ⟨r6, hc, hf⟩ := mbp_e hf
    refine m_callV (As := []) (rest := []) hx hb hml hown hI (c_X12_onIt l w H.size M5 _ hc) (kb_X12_onIt hI.T (q1603 hI.T) (Nat.le_of_ble_eq_true rfl) (Nat.le_of_ble_eq_true rfl)) (q1605 hI.T) (sel_X12_onIt hI.T) (m_recv (g := 12) (i := 47) hI (mokX (by decide) (by decide)) rfl rfl) rfl hl.1 (Nat.le_of_ble_eq_true rfl) dX12_doAgree_14 ⟨Nat.le_of_ble_eq_true rfl, Nat.le_of_ble_eq_true rfl⟩ (fun H locs hI => ?_)
    refine lv_aload_n hx hb dX12_doAgree_17 rfl (lv_at hl 0 rfl) ?_
    refine m_get (g := 12) (i := 47) (ci := 10) (k := 1) (v := .ref (w.1 12 48)) hx hb hI hown (mokX (by decide) (by decide)) rfl rfl (by decide) lyX12 (q1427 hI.T) rfl dX12_doAgree_18 ?_
    refine lv_bipush (v := 9) hx hb dX12_doAgree_21 (by decide) ?_
    obtain ⟨hi, hf⟩ := mix_e hf
    refine m_iald (g := 12) (i := 48) hx hb hI (mokX (by decide) (by decide)) rfl hi dX12_doAgree_23 ?_
    refine lv_icmp_ne (tgt := 31) hx hb dX12_doAgree_24 (by decide) (fun c7 => ?_) (fun c7 => ?_)
    · have hf := (if_neg c7).symm.trans hf
      refine lv_iconst (v := 0) hx hb dX12_doAgree_31 (by decide) ?_
      exact m_zretf hx hb hr hlk hI rfl hf dX12_doAgree_32
    · have hf := (if_pos c7).symm.trans hf
      refine lv_iconst (v := 1) hx hb dX12_doAgree_27 (by decide) ?_
      refine lv_goto (tgt := 32) hx hb dX12_doAgree_28 (by decide) ?_
      exact m_zretf hx hb hr hlk hI rfl hf dX12_doAgree_32
  · have hf := (if_pos c3).symm.trans hf
    refine lv_iconst (v := 0) hx hb dX12_doAgree_7 (by decide) ?_
    exact m_zretf hx hb hr hlk hI rfl hf dX12_doAgree_8
abbrev rmX12_mostAgreeing : Room := { frames := 7, cells := 0, slots := 0, locals := 170 }
theorem kb_X12_mostAgreeing {R : Room} {s : State} {args : Array Value} {own : String} {idx : Nat} (hT : mT s) (hlink : (Cond.methodLink own idx yX12_mostAgreeing).before args s = true) (h1 : rmX12_mostAgreeing.frames + 1 ≤ R.frames) (h2 : 8 + (1 + 11) + rmX12_mostAgreeing.locals ≤ R.locals) : CallB R s args own idx yX12_mostAgreeing cX12_mostAgreeing 1 (some .int) [Cond.code yX12_mostAgreeing cX12_mostAgreeing 1 (some .int)] rmX12_mostAgreeing 0 0 0 := m_callB hT kc_X12_mostAgreeing ki_X12_mostAgreeing hlink (by decide +kernel) ⟨rfl, rfl, h1, h2⟩
set_option maxHeartbeats 4000000 in
set_option maxRecDepth 100000 in
theorem c_X12_mostAgreeing (l : Launch) (w : WD) (sz : Nat)  (M : Mem) (r : Int32) (M9 : Mem) (hf : f_X12_mostAgreeing  M = some (r, M9)) : mMet l yX12_mostAgreeing cX12_mostAgreeing 1 (some .int) rmX12_mostAgreeing w sz M [.ref (w.1 12 47)] (some (.int r)) M9 := by
  refine m_of (by decide) (Nat.le_of_ble_eq_true rfl) ?_
  intro p e s m args below meth c hx hb hr hml hown hlk hI ls hl
  have hl : lv_has ls 1 [(0, .ref (w.1 12 47))] := hl
  unfold f_X12_mostAgreeing at hf
  refine lv_aload_n hx hb dX12_mostAgreeing_0 rfl (lv_at hl 0 rfl) ?_
  obtain ⟨r1, M2, hc, hf⟩ := mbnd_e hf
  refine m_callV (As := []) (rest := []) hx hb hml hown hI (c_X12_areEnough l w s.heap.size M _ _ hc) (kb_X12_areEnough hI.T (q1717 hI.T) (Nat.le_of_ble_eq_true rfl) (Nat.le_of_ble_eq_true rfl)) (q1719 hI.T) (sel_X12_areEnough hI.T) (m_recv (g := 12) (i := 47) hI (mokX (by decide) (by decide)) rfl rfl) rfl hl.1 (Nat.le_of_ble_eq_true rfl) dX12_mostAgreeing_1 ⟨Nat.le_of_ble_eq_true rfl, Nat.le_of_ble_eq_true rfl⟩ (fun H locs hI => ?_)
  refine lv_if_eq (tgt := 16) hx hb dX12_mostAgreeing_4 (by decide) (fun c3 => ?_) (fun c3 => ?_)
  · have hf := (if_pos c3).symm.trans hf
    refine lv_iconst (v := 0) hx hb dX12_mostAgreeing_16 (by decide) ?_
    exact m_iretf hx hb hr hlk hI hf dX12_mostAgreeing_17
  · have hf := (if_neg c3).symm.trans hf
    refine lv_aload_n hx hb dX12_mostAgreeing_7 rfl (lv_at hl 0 rfl) ?_
    refine lv_iconst (v := 0) hx hb dX12_mostAgreeing_8 (by decide) ?_
    refine lv_iconst (v := 0) hx hb dX12_mostAgreeing_9 (by decide) ?_
    obtain ⟨r4, M5, hc, hf⟩ := mbnd_e hf
    refine m_callV (As := [.int (0 : Int32), .int (0 : Int32)]) (rest := []) hx hb hml hown hI (c_X12_most_3 l w H.size (0 : Int32) (0 : Int32) M2 _ _ hc) (kb_X12_most_3 hI.T (q1738 hI.T) (Nat.le_of_ble_eq_true rfl) (Nat.le_of_ble_eq_true rfl)) (q1740 hI.T) (sel_X12_most hI.T) (m_recv (g := 12) (i := 47) hI (mokX (by decide) (by decide)) rfl rfl) rfl hl.1 (Nat.le_of_ble_eq_true rfl) dX12_mostAgreeing_10 ⟨Nat.le_of_ble_eq_true rfl, Nat.le_of_ble_eq_true rfl⟩ (fun H locs hI => ?_)
    refine lv_goto (tgt := 17) hx hb dX12_mostAgreeing_13 (by decide) ?_
    exact m_iretf hx hb hr hlk hI hf dX12_mostAgreeing_17
abbrev rmX12_mostAgreeingBySets : Room := { frames := 8, cells := 0, slots := 0, locals := 190 }
theorem kb_X12_mostAgreeingBySets {R : Room} {s : State} {args : Array Value} {own : String} {idx : Nat} (hT : mT s) (hlink : (Cond.methodLink own idx yX12_mostAgreeingBySets).before args s = true) (h1 : rmX12_mostAgreeingBySets.frames + 1 ≤ R.frames) (h2 : 8 + (1 + 11) + rmX12_mostAgreeingBySets.locals ≤ R.locals) : CallB R s args own idx yX12_mostAgreeingBySets cX12_mostAgreeingBySets 1 (some .int) [Cond.code yX12_mostAgreeingBySets cX12_mostAgreeingBySets 1 (some .int)] rmX12_mostAgreeingBySets 0 0 0 := m_callB hT kc_X12_mostAgreeingBySets ki_X12_mostAgreeingBySets hlink (by decide +kernel) ⟨rfl, rfl, h1, h2⟩
set_option maxHeartbeats 4000000 in
set_option maxRecDepth 100000 in
theorem c_X12_mostAgreeingBySets (l : Launch) (w : WD) (sz : Nat)  (M : Mem) (r : Int32) (M9 : Mem) (hf : f_X12_mostAgreeingBySets  M = some (r, M9)) : mMet l yX12_mostAgreeingBySets cX12_mostAgreeingBySets 1 (some .int) rmX12_mostAgreeingBySets w sz M [.ref (w.1 12 47)] (some (.int r)) M9 := by
  refine m_of (by decide) (Nat.le_of_ble_eq_true rfl) ?_
  intro p e s m args below meth c hx hb hr hml hown hlk hI ls hl
  have hl : lv_has ls 1 [(0, .ref (w.1 12 47))] := hl
  unfold f_X12_mostAgreeingBySets at hf
  refine lv_aload_n hx hb dX12_mostAgreeingBySets_0 rfl (lv_at hl 0 rfl) ?_
  obtain ⟨r1, M2, hc, hf⟩ := mbnd_e hf
  refine m_callV (As := []) (rest := []) hx hb hml hown hI (c_X12_mostAgreeing l w s.heap.size M _ _ hc) (kb_X12_mostAgreeing hI.T (q1746 hI.T) (Nat.le_of_ble_eq_true rfl) (Nat.le_of_ble_eq_true rfl)) (q1735 hI.T) (q1736 hI.T) (m_recv (g := 12) (i := 47) hI (mokX (by decide) (by decide)) rfl rfl) rfl hl.1 (Nat.le_of_ble_eq_true rfl) dX12_mostAgreeingBySets_1 ⟨Nat.le_of_ble_eq_true rfl, Nat.le_of_ble_eq_true rfl⟩ (fun H locs hI => ?_)
  exact m_iretf hx hb hr hlk hI hf dX12_mostAgreeingBySets_4
abbrev rmX12_isOpen : Room := { frames := 0, cells := 0, slots := 0, locals := 0 }
theorem kb_X12_isOpen {R : Room} {s : State} {args : Array Value} {own : String} {idx : Nat} (hT : mT s) (hlink : (Cond.methodLink own idx yX12_isOpen).before args s = true) (h1 : rmX12_isOpen.frames + 1 ≤ R.frames) (h2 : 8 + (1 + 11) + rmX12_isOpen.locals ≤ R.locals) : CallB R s args own idx yX12_isOpen cX12_isOpen 1 (some .boolean) [Cond.code yX12_isOpen cX12_isOpen 1 (some .boolean)] rmX12_isOpen 0 0 0 := m_callB hT kc_X12_isOpen ki_X12_isOpen hlink (by decide +kernel) ⟨rfl, rfl, h1, h2⟩
set_option maxHeartbeats 4000000 in
set_option maxRecDepth 100000 in
theorem c_X12_isOpen (l : Launch) (w : WD) (sz : Nat)  (M : Mem) (r : Int32) (M9 : Mem) (hf : f_X12_isOpen  M = some (r, M9)) : mMet l yX12_isOpen cX12_isOpen 1 (some .boolean) rmX12_isOpen w sz M [.ref (w.1 12 47)] (some (.int r)) M9 := by
  refine m_of (by decide) (Nat.le_of_ble_eq_true rfl) ?_
  intro p e s m args below meth c hx hb hr hml hown hlk hI ls hl
  have hl : lv_has ls 1 [(0, .ref (w.1 12 47))] := hl
  unfold f_X12_isOpen at hf
  refine lv_aload_n hx hb dX12_isOpen_0 rfl (lv_at hl 0 rfl) ?_
  refine lv_iconst (v := 0) hx hb dX12_isOpen_1 (by decide) ?_
  obtain ⟨M1, eM1, hf⟩ := mlet_e hf
  refine m_put (g := 12) (i := 47) (ci := 10) (k := 0) (ty := .int) (M1 := M1) hx hb hI hown (mokX (by decide) (by decide)) rfl rfl (by decide) lyX12 tyX12 tyX12_ok nmX12 (q1426 hI.T) rfl rfl rfl rfl (Nat.le_of_ble_eq_true rfl) rfl eM1 dX12_isOpen_2 (fun H locs hI => ?_)
  refine lv_aload_n hx hb dX12_isOpen_5 rfl (lv_at hl 0 rfl) ?_
  refine m_get (g := 12) (i := 47) (ci := 10) (k := 1) (v := .ref (w.1 12 48)) hx hb hI hown (mokX (by decide) (by decide)) rfl rfl (by decide) lyX12 (q1427 hI.T) rfl dX12_isOpen_6 ?_
  refine lv_bipush (v := 6) hx hb dX12_isOpen_9 (by decide) ?_
  obtain ⟨hi, hf⟩ := mix_e hf
  refine m_iald (g := 12) (i := 48) hx hb hI (mokX (by decide) (by decide)) rfl hi dX12_isOpen_11 ?_
  refine lv_iconst (v := 1) hx hb dX12_isOpen_12 (by decide) ?_
  refine lv_icmp_ne (tgt := 20) hx hb dX12_isOpen_13 (by decide) (fun c2 => ?_) (fun c2 => ?_)
  · have hf := (if_neg c2).symm.trans hf
    refine lv_iconst (v := 0) hx hb dX12_isOpen_20 (by decide) ?_
    exact m_zretf hx hb hr hlk hI rfl hf dX12_isOpen_21
  · have hf := (if_pos c2).symm.trans hf
    refine lv_iconst (v := 1) hx hb dX12_isOpen_16 (by decide) ?_
    refine lv_goto (tgt := 21) hx hb dX12_isOpen_17 (by decide) ?_
    exact m_zretf hx hb hr hlk hI rfl hf dX12_isOpen_21
abbrev rmX12_lockedHours : Room := { frames := 0, cells := 0, slots := 0, locals := 0 }
theorem kb_X12_lockedHours {R : Room} {s : State} {args : Array Value} {own : String} {idx : Nat} (hT : mT s) (hlink : (Cond.methodLink own idx yX12_lockedHours).before args s = true) (h1 : rmX12_lockedHours.frames + 1 ≤ R.frames) (h2 : 8 + (1 + 11) + rmX12_lockedHours.locals ≤ R.locals) : CallB R s args own idx yX12_lockedHours cX12_lockedHours 1 (some .int) [Cond.code yX12_lockedHours cX12_lockedHours 1 (some .int)] rmX12_lockedHours 0 0 0 := m_callB hT kc_X12_lockedHours ki_X12_lockedHours hlink (by decide +kernel) ⟨rfl, rfl, h1, h2⟩
set_option maxHeartbeats 4000000 in
set_option maxRecDepth 100000 in
theorem c_X12_lockedHours (l : Launch) (w : WD) (sz : Nat)  (M : Mem) (r : Int32) (M9 : Mem) (hf : f_X12_lockedHours  M = some (r, M9)) : mMet l yX12_lockedHours cX12_lockedHours 1 (some .int) rmX12_lockedHours w sz M [.ref (w.1 12 47)] (some (.int r)) M9 := by
  refine m_of (by decide) (Nat.le_of_ble_eq_true rfl) ?_
  intro p e s m args below meth c hx hb hr hml hown hlk hI ls hl
  have hl : lv_has ls 1 [(0, .ref (w.1 12 47))] := hl
  unfold f_X12_lockedHours at hf
  refine lv_aload_n hx hb dX12_lockedHours_0 rfl (lv_at hl 0 rfl) ?_
  refine lv_iconst (v := 0) hx hb dX12_lockedHours_1 (by decide) ?_
  obtain ⟨M1, eM1, hf⟩ := mlet_e hf
  refine m_put (g := 12) (i := 47) (ci := 10) (k := 0) (ty := .int) (M1 := M1) hx hb hI hown (mokX (by decide) (by decide)) rfl rfl (by decide) lyX12 tyX12 tyX12_ok nmX12 (q1426 hI.T) rfl rfl rfl rfl (Nat.le_of_ble_eq_true rfl) rfl eM1 dX12_lockedHours_2 (fun H locs hI => ?_)
  refine lv_aload_n hx hb dX12_lockedHours_5 rfl (lv_at hl 0 rfl) ?_
  refine m_get (g := 12) (i := 47) (ci := 10) (k := 1) (v := .ref (w.1 12 48)) hx hb hI hown (mokX (by decide) (by decide)) rfl rfl (by decide) lyX12 (q1427 hI.T) rfl dX12_lockedHours_6 ?_
  refine lv_bipush (v := 7) hx hb dX12_lockedHours_9 (by decide) ?_
  obtain ⟨hi, hf⟩ := mix_e hf
  refine m_iald (g := 12) (i := 48) hx hb hI (mokX (by decide) (by decide)) rfl hi dX12_lockedHours_11 ?_
  exact m_iretf hx hb hr hlk hI hf dX12_lockedHours_12
abbrev rmX12_failedAttempts : Room := { frames := 0, cells := 0, slots := 0, locals := 0 }
theorem kb_X12_failedAttempts {R : Room} {s : State} {args : Array Value} {own : String} {idx : Nat} (hT : mT s) (hlink : (Cond.methodLink own idx yX12_failedAttempts).before args s = true) (h1 : rmX12_failedAttempts.frames + 1 ≤ R.frames) (h2 : 8 + (1 + 11) + rmX12_failedAttempts.locals ≤ R.locals) : CallB R s args own idx yX12_failedAttempts cX12_failedAttempts 1 (some .int) [Cond.code yX12_failedAttempts cX12_failedAttempts 1 (some .int)] rmX12_failedAttempts 0 0 0 := m_callB hT kc_X12_failedAttempts ki_X12_failedAttempts hlink (by decide +kernel) ⟨rfl, rfl, h1, h2⟩
set_option maxHeartbeats 4000000 in
set_option maxRecDepth 100000 in
theorem c_X12_failedAttempts (l : Launch) (w : WD) (sz : Nat)  (M : Mem) (r : Int32) (M9 : Mem) (hf : f_X12_failedAttempts  M = some (r, M9)) : mMet l yX12_failedAttempts cX12_failedAttempts 1 (some .int) rmX12_failedAttempts w sz M [.ref (w.1 12 47)] (some (.int r)) M9 := by
  refine m_of (by decide) (Nat.le_of_ble_eq_true rfl) ?_
  intro p e s m args below meth c hx hb hr hml hown hlk hI ls hl
  have hl : lv_has ls 1 [(0, .ref (w.1 12 47))] := hl
  unfold f_X12_failedAttempts at hf
  refine lv_aload_n hx hb dX12_failedAttempts_0 rfl (lv_at hl 0 rfl) ?_
  refine lv_iconst (v := 0) hx hb dX12_failedAttempts_1 (by decide) ?_
  obtain ⟨M1, eM1, hf⟩ := mlet_e hf
  refine m_put (g := 12) (i := 47) (ci := 10) (k := 0) (ty := .int) (M1 := M1) hx hb hI hown (mokX (by decide) (by decide)) rfl rfl (by decide) lyX12 tyX12 tyX12_ok nmX12 (q1426 hI.T) rfl rfl rfl rfl (Nat.le_of_ble_eq_true rfl) rfl eM1 dX12_failedAttempts_2 (fun H locs hI => ?_)
  refine lv_aload_n hx hb dX12_failedAttempts_5 rfl (lv_at hl 0 rfl) ?_
  refine m_get (g := 12) (i := 47) (ci := 10) (k := 1) (v := .ref (w.1 12 48)) hx hb hI hown (mokX (by decide) (by decide)) rfl rfl (by decide) lyX12 (q1427 hI.T) rfl dX12_failedAttempts_6 ?_
  refine lv_bipush (v := 8) hx hb dX12_failedAttempts_9 (by decide) ?_
  obtain ⟨hi, hf⟩ := mix_e hf
  refine m_iald (g := 12) (i := 48) hx hb hI (mokX (by decide) (by decide)) rfl hi dX12_failedAttempts_11 ?_
  exact m_iretf hx hb hr hlk hI hf dX12_failedAttempts_12
abbrev rmX12_guardCount : Room := { frames := 0, cells := 0, slots := 0, locals := 0 }
theorem kb_X12_guardCount {R : Room} {s : State} {args : Array Value} {own : String} {idx : Nat} (hT : mT s) (hlink : (Cond.methodLink own idx yX12_guardCount).before args s = true) (h1 : rmX12_guardCount.frames + 1 ≤ R.frames) (h2 : 8 + (1 + 11) + rmX12_guardCount.locals ≤ R.locals) : CallB R s args own idx yX12_guardCount cX12_guardCount 1 (some .int) [Cond.code yX12_guardCount cX12_guardCount 1 (some .int)] rmX12_guardCount 0 0 0 := m_callB hT kc_X12_guardCount ki_X12_guardCount hlink (by decide +kernel) ⟨rfl, rfl, h1, h2⟩
set_option maxHeartbeats 4000000 in
set_option maxRecDepth 100000 in
theorem c_X12_guardCount (l : Launch) (w : WD) (sz : Nat)  (M : Mem) (r : Int32) (M9 : Mem) (hf : f_X12_guardCount  M = some (r, M9)) : mMet l yX12_guardCount cX12_guardCount 1 (some .int) rmX12_guardCount w sz M [.ref (w.1 12 47)] (some (.int r)) M9 := by
  refine m_of (by decide) (Nat.le_of_ble_eq_true rfl) ?_
  intro p e s m args below meth c hx hb hr hml hown hlk hI ls hl
  have hl : lv_has ls 1 [(0, .ref (w.1 12 47))] := hl
  unfold f_X12_guardCount at hf
  refine lv_aload_n hx hb dX12_guardCount_0 rfl (lv_at hl 0 rfl) ?_
  refine lv_iconst (v := 0) hx hb dX12_guardCount_1 (by decide) ?_
  obtain ⟨M1, eM1, hf⟩ := mlet_e hf
  refine m_put (g := 12) (i := 47) (ci := 10) (k := 0) (ty := .int) (M1 := M1) hx hb hI hown (mokX (by decide) (by decide)) rfl rfl (by decide) lyX12 tyX12 tyX12_ok nmX12 (q1426 hI.T) rfl rfl rfl rfl (Nat.le_of_ble_eq_true rfl) rfl eM1 dX12_guardCount_2 (fun H locs hI => ?_)
  refine lv_aload_n hx hb dX12_guardCount_5 rfl (lv_at hl 0 rfl) ?_
  refine m_get (g := 12) (i := 47) (ci := 10) (k := 1) (v := .ref (w.1 12 48)) hx hb hI hown (mokX (by decide) (by decide)) rfl rfl (by decide) lyX12 (q1427 hI.T) rfl dX12_guardCount_6 ?_
  refine lv_bipush (v := 10) hx hb dX12_guardCount_9 (by decide) ?_
  obtain ⟨hi, hf⟩ := mix_e hf
  refine m_iald (g := 12) (i := 48) hx hb hI (mokX (by decide) (by decide)) rfl hi dX12_guardCount_11 ?_
  exact m_iretf hx hb hr hlk hI hf dX12_guardCount_12
abbrev rmX12_zoneOf : Room := { frames := 2, cells := 0, slots := 0, locals := 43 }
theorem kb_X12_zoneOf {R : Room} {s : State} {args : Array Value} {own : String} {idx : Nat} (hT : mT s) (hlink : (Cond.methodLink own idx yX12_zoneOf).before args s = true) (h1 : rmX12_zoneOf.frames + 1 ≤ R.frames) (h2 : 8 + (2 + 11) + rmX12_zoneOf.locals ≤ R.locals) : CallB R s args own idx yX12_zoneOf cX12_zoneOf 2 (some .int) [Cond.code yX12_zoneOf cX12_zoneOf 2 (some .int)] rmX12_zoneOf 0 0 1 := m_callB hT kc_X12_zoneOf ki_X12_zoneOf hlink (by decide +kernel) ⟨rfl, rfl, h1, h2⟩
set_option maxHeartbeats 4000000 in
set_option maxRecDepth 100000 in
theorem c_X12_zoneOf (l : Launch) (w : WD) (sz : Nat) (a1 : Int32) (M : Mem) (r : Int32) (M9 : Mem) (hf : f_X12_zoneOf a1 M = some (r, M9)) : mMet l yX12_zoneOf cX12_zoneOf 2 (some .int) rmX12_zoneOf w sz M [.ref (w.1 12 47), .int a1] (some (.int r)) M9 := by
  refine m_of (by decide) (Nat.le_of_ble_eq_true rfl) ?_
  intro p e s m args below meth c hx hb hr hml hown hlk hI ls hl
  have hl : lv_has ls 2 [(0, .ref (w.1 12 47)), (1, .int a1)] := hl
  unfold f_X12_zoneOf at hf
  refine lv_aload_n hx hb dX12_zoneOf_0 rfl (lv_at hl 0 rfl) ?_
  refine lv_aload_n hx hb dX12_zoneOf_1 rfl (lv_at hl 0 rfl) ?_
  refine lv_iload_n hx hb dX12_zoneOf_2 rfl (lv_at hl 1 rfl) ?_
  obtain ⟨r1, hc, hf⟩ := mbp_e hf
  refine m_callV (As := [.int a1]) (rest := [.ref (w.1 12 47)]) hx hb hml hown hI (c_X12_isGuard l w s.heap.size a1 M _ hc) (kb_X12_isGuard hI.T (q1645 hI.T) (Nat.le_of_ble_eq_true rfl) (Nat.le_of_ble_eq_true rfl)) (q1647 hI.T) (sel_X12_isGuard hI.T) (m_recv (g := 12) (i := 47) hI (mokX (by decide) (by decide)) rfl rfl) rfl hl.1 (Nat.le_of_ble_eq_true rfl) dX12_zoneOf_3 ⟨Nat.le_of_ble_eq_true rfl, Nat.le_of_ble_eq_true rfl⟩ (fun H locs hI => ?_)
  obtain ⟨k14_4, ek14_4, hf⟩ := mlet_e hf
  have hj14_4 : ∀ (x3 : Int32) (H : Heap) (locs : List Loc) (ls : Array Slot), k14_4 x3 = some (r, M9) → mI w s (mA w s.heap.size) H locs M → lv_has ls 2 [(0, .ref (w.1 12 47)), (1, .int a1)] → W p l e rmX12_zoneOf s m args below meth c H locs 0 0 (MQ below (mQ w s.heap.size (some (.int r)) M9) args s 0 0 (mA w s.heap.size)) (F0 m 14 ls [.int x3, .ref (w.1 12 47)]) := by
    intro x3 H locs ls hf hI hl
    rw [ek14_4] at hf
    try dsimp only at hf
    obtain ⟨M5, eM5, hf⟩ := mlet_e hf
    refine m_put (g := 12) (i := 47) (ci := 10) (k := 0) (ty := .int) (M1 := M5) hx hb hI hown (mokX (by decide) (by decide)) rfl rfl (by decide) lyX12 tyX12 tyX12_ok nmX12 (q1426 hI.T) rfl rfl rfl rfl (Nat.le_of_ble_eq_true rfl) rfl eM5 dX12_zoneOf_14 (fun H locs hI => ?_)
    refine lv_aload_n hx hb dX12_zoneOf_17 rfl (lv_at hl 0 rfl) ?_
    refine m_get (g := 12) (i := 47) (ci := 10) (k := 0) (v := .int (M5 12 47 0)) hx hb hI hown (mokX (by decide) (by decide)) rfl rfl (by decide) lyX12 (q1426 hI.T) rfl dX12_zoneOf_18 ?_
    refine lv_if_le (tgt := 28) hx hb dX12_zoneOf_21 (by decide) (fun c6 => ?_) (fun c6 => ?_)
    · have hf := (if_pos c6).symm.trans hf
      refine lv_aload_n hx hb dX12_zoneOf_28 rfl (lv_at hl 0 rfl) ?_
      refine lv_iload_n hx hb dX12_zoneOf_29 rfl (lv_at hl 1 rfl) ?_
      refine lv_iconst (v := 0) hx hb dX12_zoneOf_30 (by decide) ?_
      obtain ⟨r7, hc, hf⟩ := mbp_e hf
      refine m_callV (As := [.int a1, .int (0 : Int32)]) (rest := []) hx hb hml hown hI (c_X12_guard l w H.size a1 (0 : Int32) M5 _ hc) (kb_X12_guard hI.T (q1595 hI.T) (Nat.le_of_ble_eq_true rfl) (Nat.le_of_ble_eq_true rfl)) (q1597 hI.T) (sel_X12_guard hI.T) (m_recv (g := 12) (i := 47) hI (mokX (by decide) (by decide)) rfl rfl) rfl hl.1 (Nat.le_of_ble_eq_true rfl) dX12_zoneOf_31 ⟨Nat.le_of_ble_eq_true rfl, Nat.le_of_ble_eq_true rfl⟩ (fun H locs hI => ?_)
      exact m_iretf hx hb hr hlk hI hf dX12_zoneOf_34
    · have hf := (if_neg c6).symm.trans hf
      refine lv_iconst (v := 0) hx hb dX12_zoneOf_24 (by decide) ?_
      refine lv_goto (tgt := 34) hx hb dX12_zoneOf_25 (by decide) ?_
      exact m_iretf hx hb hr hlk hI hf dX12_zoneOf_34
  refine lv_if_eq (tgt := 13) hx hb dX12_zoneOf_6 (by decide) (fun c2 => ?_) (fun c2 => ?_)
  · have hf := (if_pos c2).symm.trans hf
    refine lv_iconst (v := 1) hx hb dX12_zoneOf_13 (by decide) ?_
    exact hj14_4 (1 : Int32) H _ _ hf hI (lv_sub hl [0, 1] rfl)
  · have hf := (if_neg c2).symm.trans hf
    refine lv_iconst (v := 0) hx hb dX12_zoneOf_9 (by decide) ?_
    refine lv_goto (tgt := 14) hx hb dX12_zoneOf_10 (by decide) ?_
    exact hj14_4 (0 : Int32) H _ _ hf hI (lv_sub hl [0, 1] rfl)
abbrev rmX12_isForwards : Room := { frames := 2, cells := 0, slots := 0, locals := 43 }
theorem kb_X12_isForwards {R : Room} {s : State} {args : Array Value} {own : String} {idx : Nat} (hT : mT s) (hlink : (Cond.methodLink own idx yX12_isForwards).before args s = true) (h1 : rmX12_isForwards.frames + 1 ≤ R.frames) (h2 : 8 + (2 + 11) + rmX12_isForwards.locals ≤ R.locals) : CallB R s args own idx yX12_isForwards cX12_isForwards 2 (some .boolean) [Cond.code yX12_isForwards cX12_isForwards 2 (some .boolean)] rmX12_isForwards 0 0 1 := m_callB hT kc_X12_isForwards ki_X12_isForwards hlink (by decide +kernel) ⟨rfl, rfl, h1, h2⟩
set_option maxHeartbeats 4000000 in
set_option maxRecDepth 100000 in
theorem c_X12_isForwards (l : Launch) (w : WD) (sz : Nat) (a1 : Int32) (M : Mem) (r : Int32) (M9 : Mem) (hf : f_X12_isForwards a1 M = some (r, M9)) : mMet l yX12_isForwards cX12_isForwards 2 (some .boolean) rmX12_isForwards w sz M [.ref (w.1 12 47), .int a1] (some (.int r)) M9 := by
  refine m_of (by decide) (Nat.le_of_ble_eq_true rfl) ?_
  intro p e s m args below meth c hx hb hr hml hown hlk hI ls hl
  have hl : lv_has ls 2 [(0, .ref (w.1 12 47)), (1, .int a1)] := hl
  unfold f_X12_isForwards at hf
  refine lv_aload_n hx hb dX12_isForwards_0 rfl (lv_at hl 0 rfl) ?_
  refine lv_aload_n hx hb dX12_isForwards_1 rfl (lv_at hl 0 rfl) ?_
  refine lv_iload_n hx hb dX12_isForwards_2 rfl (lv_at hl 1 rfl) ?_
  obtain ⟨r1, hc, hf⟩ := mbp_e hf
  refine m_callV (As := [.int a1]) (rest := [.ref (w.1 12 47)]) hx hb hml hown hI (c_X12_isGuard l w s.heap.size a1 M _ hc) (kb_X12_isGuard hI.T (q1645 hI.T) (Nat.le_of_ble_eq_true rfl) (Nat.le_of_ble_eq_true rfl)) (q1647 hI.T) (sel_X12_isGuard hI.T) (m_recv (g := 12) (i := 47) hI (mokX (by decide) (by decide)) rfl rfl) rfl hl.1 (Nat.le_of_ble_eq_true rfl) dX12_isForwards_3 ⟨Nat.le_of_ble_eq_true rfl, Nat.le_of_ble_eq_true rfl⟩ (fun H locs hI => ?_)
  obtain ⟨k14_4, ek14_4, hf⟩ := mlet_e hf
  have hj14_4 : ∀ (x3 : Int32) (H : Heap) (locs : List Loc) (ls : Array Slot), k14_4 x3 = some (r, M9) → mI w s (mA w s.heap.size) H locs M → lv_has ls 2 [(0, .ref (w.1 12 47)), (1, .int a1)] → W p l e rmX12_isForwards s m args below meth c H locs 0 0 (MQ below (mQ w s.heap.size (some (.int r)) M9) args s 0 0 (mA w s.heap.size)) (F0 m 14 ls [.int x3, .ref (w.1 12 47)]) := by
    intro x3 H locs ls hf hI hl
    rw [ek14_4] at hf
    try dsimp only at hf
    obtain ⟨M5, eM5, hf⟩ := mlet_e hf
    refine m_put (g := 12) (i := 47) (ci := 10) (k := 0) (ty := .int) (M1 := M5) hx hb hI hown (mokX (by decide) (by decide)) rfl rfl (by decide) lyX12 tyX12 tyX12_ok nmX12 (q1426 hI.T) rfl rfl rfl rfl (Nat.le_of_ble_eq_true rfl) rfl eM5 dX12_isForwards_14 (fun H locs hI => ?_)
    refine lv_aload_n hx hb dX12_isForwards_17 rfl (lv_at hl 0 rfl) ?_
    refine m_get (g := 12) (i := 47) (ci := 10) (k := 0) (v := .int (M5 12 47 0)) hx hb hI hown (mokX (by decide) (by decide)) rfl rfl (by decide) lyX12 (q1426 hI.T) rfl dX12_isForwards_18 ?_
    refine lv_if_ne (tgt := 38) hx hb dX12_isForwards_21 (by decide) (fun c6 => ?_) (fun c6 => ?_)
    · have hf := (if_neg c6).symm.trans hf
      refine lv_iconst (v := 0) hx hb dX12_isForwards_38 (by decide) ?_
      exact m_zretf hx hb hr hlk hI rfl hf dX12_isForwards_39
    · have hf := (if_pos c6).symm.trans hf
      refine lv_aload_n hx hb dX12_isForwards_24 rfl (lv_at hl 0 rfl) ?_
      refine lv_iload_n hx hb dX12_isForwards_25 rfl (lv_at hl 1 rfl) ?_
      refine lv_iconst (v := 1) hx hb dX12_isForwards_26 (by decide) ?_
      obtain ⟨r7, hc, hf⟩ := mbp_e hf
      refine m_callV (As := [.int a1, .int (1 : Int32)]) (rest := []) hx hb hml hown hI (c_X12_guard l w H.size a1 (1 : Int32) M5 _ hc) (kb_X12_guard hI.T (q1595 hI.T) (Nat.le_of_ble_eq_true rfl) (Nat.le_of_ble_eq_true rfl)) (q1597 hI.T) (sel_X12_guard hI.T) (m_recv (g := 12) (i := 47) hI (mokX (by decide) (by decide)) rfl rfl) rfl hl.1 (Nat.le_of_ble_eq_true rfl) dX12_isForwards_27 ⟨Nat.le_of_ble_eq_true rfl, Nat.le_of_ble_eq_true rfl⟩ (fun H locs hI => ?_)
      refine lv_iconst (v := 1) hx hb dX12_isForwards_30 (by decide) ?_
      refine lv_icmp_ne (tgt := 38) hx hb dX12_isForwards_31 (by decide) (fun c8 => ?_) (fun c8 => ?_)
      · have hf := (if_neg c8).symm.trans hf
        refine lv_iconst (v := 0) hx hb dX12_isForwards_38 (by decide) ?_
        exact m_zretf hx hb hr hlk hI rfl hf dX12_isForwards_39
      · have hf := (if_pos c8).symm.trans hf
        refine lv_iconst (v := 1) hx hb dX12_isForwards_34 (by decide) ?_
        refine lv_goto (tgt := 39) hx hb dX12_isForwards_35 (by decide) ?_
        exact m_zretf hx hb hr hlk hI rfl hf dX12_isForwards_39
  refine lv_if_eq (tgt := 13) hx hb dX12_isForwards_6 (by decide) (fun c2 => ?_) (fun c2 => ?_)
  · have hf := (if_pos c2).symm.trans hf
    refine lv_iconst (v := 1) hx hb dX12_isForwards_13 (by decide) ?_
    exact hj14_4 (1 : Int32) H _ _ hf hI (lv_sub hl [0, 1] rfl)
  · have hf := (if_neg c2).symm.trans hf
    refine lv_iconst (v := 0) hx hb dX12_isForwards_9 (by decide) ?_
    refine lv_goto (tgt := 14) hx hb dX12_isForwards_10 (by decide) ?_
    exact hj14_4 (0 : Int32) H _ _ hf hI (lv_sub hl [0, 1] rfl)
abbrev rmX12_isAsked : Room := { frames := 2, cells := 0, slots := 0, locals := 42 }
theorem kb_X12_isAsked {R : Room} {s : State} {args : Array Value} {own : String} {idx : Nat} (hT : mT s) (hlink : (Cond.methodLink own idx yX12_isAsked).before args s = true) (h1 : rmX12_isAsked.frames + 1 ≤ R.frames) (h2 : 8 + (2 + 11) + rmX12_isAsked.locals ≤ R.locals) : CallB R s args own idx yX12_isAsked cX12_isAsked 2 (some .boolean) [Cond.code yX12_isAsked cX12_isAsked 2 (some .boolean)] rmX12_isAsked 0 0 1 := m_callB hT kc_X12_isAsked ki_X12_isAsked hlink (by decide +kernel) ⟨rfl, rfl, h1, h2⟩
set_option maxHeartbeats 4000000 in
set_option maxRecDepth 100000 in
theorem c_X12_isAsked (l : Launch) (w : WD) (sz : Nat) (a1 : Int32) (M : Mem) (r : Int32) (M9 : Mem) (hf : f_X12_isAsked a1 M = some (r, M9)) : mMet l yX12_isAsked cX12_isAsked 2 (some .boolean) rmX12_isAsked w sz M [.ref (w.1 12 47), .int a1] (some (.int r)) M9 := by
  refine m_of (by decide) (Nat.le_of_ble_eq_true rfl) ?_
  intro p e s m args below meth c hx hb hr hml hown hlk hI ls hl
  have hl : lv_has ls 2 [(0, .ref (w.1 12 47)), (1, .int a1)] := hl
  unfold f_X12_isAsked at hf
  refine lv_aload_n hx hb dX12_isAsked_0 rfl (lv_at hl 0 rfl) ?_
  refine lv_iload_n hx hb dX12_isAsked_1 rfl (lv_at hl 1 rfl) ?_
  obtain ⟨r1, hc, hf⟩ := mbp_e hf
  refine m_callS (As := [.int a1]) (rest := [.ref (w.1 12 47)]) hx hb hml hown hI (c_X12_isZone l w s.heap.size a1 M _ hc) (kb_X12_isZone hI.T (q1634 hI.T) (Nat.le_of_ble_eq_true rfl) (Nat.le_of_ble_eq_true rfl)) (q1635 hI.T) rfl hl.1 (Nat.le_of_ble_eq_true rfl) dX12_isAsked_2 ⟨Nat.le_of_ble_eq_true rfl, Nat.le_of_ble_eq_true rfl⟩ (fun H locs hI => ?_)
  obtain ⟨k13_4, ek13_4, hf⟩ := mlet_e hf
  have hj13_4 : ∀ (x3 : Int32) (H : Heap) (locs : List Loc) (ls : Array Slot), k13_4 x3 = some (r, M9) → mI w s (mA w s.heap.size) H locs M → lv_has ls 2 [(0, .ref (w.1 12 47))] → W p l e rmX12_isAsked s m args below meth c H locs 0 0 (MQ below (mQ w s.heap.size (some (.int r)) M9) args s 0 0 (mA w s.heap.size)) (F0 m 13 ls [.int x3, .ref (w.1 12 47)]) := by
    intro x3 H locs ls hf hI hl
    rw [ek13_4] at hf
    try dsimp only at hf
    obtain ⟨M5, eM5, hf⟩ := mlet_e hf
    refine m_put (g := 12) (i := 47) (ci := 10) (k := 0) (ty := .int) (M1 := M5) hx hb hI hown (mokX (by decide) (by decide)) rfl rfl (by decide) lyX12 tyX12 tyX12_ok nmX12 (q1426 hI.T) rfl rfl rfl rfl (Nat.le_of_ble_eq_true rfl) rfl eM5 dX12_isAsked_13 (fun H locs hI => ?_)
    refine lv_aload_n hx hb dX12_isAsked_16 rfl (lv_at hl 0 rfl) ?_
    refine m_get (g := 12) (i := 47) (ci := 10) (k := 0) (v := .int (M5 12 47 0)) hx hb hI hown (mokX (by decide) (by decide)) rfl rfl (by decide) lyX12 (q1426 hI.T) rfl dX12_isAsked_17 ?_
    refine lv_if_ne (tgt := 27) hx hb dX12_isAsked_20 (by decide) (fun c6 => ?_) (fun c6 => ?_)
    · have hf := (if_neg c6).symm.trans hf
      refine lv_iconst (v := 0) hx hb dX12_isAsked_27 (by decide) ?_
      exact m_zretf hx hb hr hlk hI rfl hf dX12_isAsked_28
    · have hf := (if_pos c6).symm.trans hf
      refine lv_iconst (v := 1) hx hb dX12_isAsked_23 (by decide) ?_
      refine lv_goto (tgt := 28) hx hb dX12_isAsked_24 (by decide) ?_
      exact m_zretf hx hb hr hlk hI rfl hf dX12_isAsked_28
  refine lv_if_eq (tgt := 12) hx hb dX12_isAsked_5 (by decide) (fun c2 => ?_) (fun c2 => ?_)
  · have hf := (if_pos c2).symm.trans hf
    refine lv_iconst (v := 1) hx hb dX12_isAsked_12 (by decide) ?_
    exact hj13_4 (1 : Int32) H _ _ hf hI (lv_sub hl [0] rfl)
  · have hf := (if_neg c2).symm.trans hf
    refine lv_iconst (v := 0) hx hb dX12_isAsked_8 (by decide) ?_
    refine lv_goto (tgt := 13) hx hb dX12_isAsked_9 (by decide) ?_
    exact hj13_4 (0 : Int32) H _ _ hf hI (lv_sub hl [0] rfl)
abbrev rmX12_noise : Room := { frames := 3, cells := 0, slots := 0, locals := 63 }
theorem kb_X12_noise {R : Room} {s : State} {args : Array Value} {own : String} {idx : Nat} (hT : mT s) (hlink : (Cond.methodLink own idx yX12_noise).before args s = true) (h1 : rmX12_noise.frames + 1 ≤ R.frames) (h2 : 8 + (2 + 11) + rmX12_noise.locals ≤ R.locals) : CallB R s args own idx yX12_noise cX12_noise 2 (some .int) [Cond.code yX12_noise cX12_noise 2 (some .int)] rmX12_noise 0 0 1 := m_callB hT kc_X12_noise ki_X12_noise hlink (by decide +kernel) ⟨rfl, rfl, h1, h2⟩
set_option maxHeartbeats 4000000 in
set_option maxRecDepth 100000 in
theorem c_X12_noise (l : Launch) (w : WD) (sz : Nat) (a1 : Int32) (M : Mem) (r : Int32) (M9 : Mem) (hf : f_X12_noise a1 M = some (r, M9)) : mMet l yX12_noise cX12_noise 2 (some .int) rmX12_noise w sz M [.ref (w.1 12 47), .int a1] (some (.int r)) M9 := by
  refine m_of (by decide) (Nat.le_of_ble_eq_true rfl) ?_
  intro p e s m args below meth c hx hb hr hml hown hlk hI ls hl
  have hl : lv_has ls 2 [(0, .ref (w.1 12 47)), (1, .int a1)] := hl
  unfold f_X12_noise at hf
  refine lv_aload_n hx hb dX12_noise_0 rfl (lv_at hl 0 rfl) ?_
  refine lv_iload_n hx hb dX12_noise_1 rfl (lv_at hl 1 rfl) ?_
  obtain ⟨r1, M2, hc, hf⟩ := mbnd_e hf
  refine m_callV (As := [.int a1]) (rest := []) hx hb hml hown hI (c_X12_isAsked l w s.heap.size a1 M _ _ hc) (kb_X12_isAsked hI.T (q1775 hI.T) (Nat.le_of_ble_eq_true rfl) (Nat.le_of_ble_eq_true rfl)) (q1777 hI.T) (sel_X12_isAsked hI.T) (m_recv (g := 12) (i := 47) hI (mokX (by decide) (by decide)) rfl rfl) rfl hl.1 (Nat.le_of_ble_eq_true rfl) dX12_noise_2 ⟨Nat.le_of_ble_eq_true rfl, Nat.le_of_ble_eq_true rfl⟩ (fun H locs hI => ?_)
  refine lv_if_eq (tgt := 20) hx hb dX12_noise_5 (by decide) (fun c3 => ?_) (fun c3 => ?_)
  · have hf := (if_pos c3).symm.trans hf
    refine lv_iconst (v := 0) hx hb dX12_noise_20 (by decide) ?_
    exact m_iretf hx hb hr hlk hI hf dX12_noise_21
  · have hf := (if_neg c3).symm.trans hf
    refine lv_aload_n hx hb dX12_noise_8 rfl (lv_at hl 0 rfl) ?_
    refine m_get (g := 12) (i := 47) (ci := 10) (k := 1) (v := .ref (w.1 12 48)) hx hb hI hown (mokX (by decide) (by decide)) rfl rfl (by decide) lyX12 (q1427 hI.T) rfl dX12_noise_9 ?_
    refine lv_bipush (v := 31) hx hb dX12_noise_12 (by decide) ?_
    refine lv_iload_n hx hb dX12_noise_14 rfl (lv_at hl 1 rfl) ?_
    refine lv_iadd hx hb dX12_noise_15 ?_
    obtain ⟨hi, hf⟩ := mix_e hf
    refine m_iald (g := 12) (i := 48) hx hb hI (mokX (by decide) (by decide)) rfl hi dX12_noise_16 ?_
    refine lv_goto (tgt := 21) hx hb dX12_noise_17 (by decide) ?_
    exact m_iretf hx hb hr hlk hI hf dX12_noise_21
abbrev rmX12_isGuarded : Room := { frames := 3, cells := 0, slots := 0, locals := 65 }
theorem kb_X12_isGuarded {R : Room} {s : State} {args : Array Value} {own : String} {idx : Nat} (hT : mT s) (hlink : (Cond.methodLink own idx yX12_isGuarded).before args s = true) (h1 : rmX12_isGuarded.frames + 1 ≤ R.frames) (h2 : 8 + (2 + 11) + rmX12_isGuarded.locals ≤ R.locals) : CallB R s args own idx yX12_isGuarded cX12_isGuarded 2 (some .boolean) [Cond.code yX12_isGuarded cX12_isGuarded 2 (some .boolean)] rmX12_isGuarded 0 0 1 := m_callB hT kc_X12_isGuarded ki_X12_isGuarded hlink (by decide +kernel) ⟨rfl, rfl, h1, h2⟩
set_option maxHeartbeats 4000000 in
set_option maxRecDepth 100000 in
theorem c_X12_isGuarded (l : Launch) (w : WD) (sz : Nat) (a1 : Int32) (M : Mem) (r : Int32) (M9 : Mem) (hf : f_X12_isGuarded a1 M = some (r, M9)) : mMet l yX12_isGuarded cX12_isGuarded 2 (some .boolean) rmX12_isGuarded w sz M [.ref (w.1 12 47), .int a1] (some (.int r)) M9 := by
  refine m_of (by decide) (Nat.le_of_ble_eq_true rfl) ?_
  intro p e s m args below meth c hx hb hr hml hown hlk hI ls hl
  have hl : lv_has ls 2 [(0, .ref (w.1 12 47)), (1, .int a1)] := hl
  unfold f_X12_isGuarded at hf
  refine lv_aload_n hx hb dX12_isGuarded_0 rfl (lv_at hl 0 rfl) ?_
  refine lv_iload_n hx hb dX12_isGuarded_1 rfl (lv_at hl 1 rfl) ?_
  obtain ⟨r1, M2, hc, hf⟩ := mbnd_e hf
  refine m_callV (As := [.int a1]) (rest := []) hx hb hml hown hI (c_X12_isAsked l w s.heap.size a1 M _ _ hc) (kb_X12_isAsked hI.T (q1775 hI.T) (Nat.le_of_ble_eq_true rfl) (Nat.le_of_ble_eq_true rfl)) (q1777 hI.T) (sel_X12_isAsked hI.T) (m_recv (g := 12) (i := 47) hI (mokX (by decide) (by decide)) rfl rfl) rfl hl.1 (Nat.le_of_ble_eq_true rfl) dX12_isGuarded_2 ⟨Nat.le_of_ble_eq_true rfl, Nat.le_of_ble_eq_true rfl⟩ (fun H locs hI => ?_)
  refine lv_if_eq (tgt := 28) hx hb dX12_isGuarded_5 (by decide) (fun c3 => ?_) (fun c3 => ?_)
  · have hf := (if_pos c3).symm.trans hf
    refine lv_iconst (v := 0) hx hb dX12_isGuarded_28 (by decide) ?_
    exact m_zretf hx hb hr hlk hI rfl hf dX12_isGuarded_29
  · have hf := (if_neg c3).symm.trans hf
    refine lv_aload_n hx hb dX12_isGuarded_8 rfl (lv_at hl 0 rfl) ?_
    refine lv_iload_n hx hb dX12_isGuarded_9 rfl (lv_at hl 1 rfl) ?_
    obtain ⟨r4, hc, hf⟩ := mbp_e hf
    refine m_callV (As := [.int a1]) (rest := []) hx hb hml hown hI (c_X12_isIn l w H.size a1 M2 _ hc) (kb_X12_isIn hI.T (q1591 hI.T) (Nat.le_of_ble_eq_true rfl) (Nat.le_of_ble_eq_true rfl)) (q1593 hI.T) (sel_X12_isIn hI.T) (m_recv (g := 12) (i := 47) hI (mokX (by decide) (by decide)) rfl rfl) rfl hl.1 (Nat.le_of_ble_eq_true rfl) dX12_isGuarded_10 ⟨Nat.le_of_ble_eq_true rfl, Nat.le_of_ble_eq_true rfl⟩ (fun H locs hI => ?_)
    obtain ⟨k24_8, ek24_8, hf⟩ := mlet_e hf
    have hj24_8 : ∀ (_u : Unit) (H : Heap) (locs : List Loc) (ls : Array Slot), k24_8 _u = some (r, M9) → mI w s (mA w s.heap.size) H locs M2 → lv_has ls 2 [] → W p l e rmX12_isGuarded s m args below meth c H locs 0 0 (MQ below (mQ w s.heap.size (some (.int r)) M9) args s 0 0 (mA w s.heap.size)) (F0 m 24 ls []) := by
      intro _u H locs ls hf hI hl
      rw [ek24_8] at hf
      try dsimp only at hf
      refine lv_iconst (v := 1) hx hb dX12_isGuarded_24 (by decide) ?_
      refine lv_goto (tgt := 29) hx hb dX12_isGuarded_25 (by decide) ?_
      exact m_zretf hx hb hr hlk hI rfl hf dX12_isGuarded_29
    refine lv_if_ne (tgt := 24) hx hb dX12_isGuarded_13 (by decide) (fun c5 => ?_) (fun c5 => ?_)
    · have hf := (if_neg c5).symm.trans hf
      exact hj24_8 () H _ _ hf hI (lv_sub hl [] rfl)
    · have hf := (if_pos c5).symm.trans hf
      refine lv_aload_n hx hb dX12_isGuarded_16 rfl (lv_at hl 0 rfl) ?_
      refine lv_iload_n hx hb dX12_isGuarded_17 rfl (lv_at hl 1 rfl) ?_
      obtain ⟨r6, hc, hf⟩ := mbp_e hf
      refine m_callV (As := [.int a1]) (rest := []) hx hb hml hown hI (c_X12_isNear l w H.size a1 M2 _ hc) (kb_X12_isNear hI.T (q1669 hI.T) (Nat.le_of_ble_eq_true rfl) (Nat.le_of_ble_eq_true rfl)) (q1671 hI.T) (sel_X12_isNear hI.T) (m_recv (g := 12) (i := 47) hI (mokX (by decide) (by decide)) rfl rfl) rfl hl.1 (Nat.le_of_ble_eq_true rfl) dX12_isGuarded_18 ⟨Nat.le_of_ble_eq_true rfl, Nat.le_of_ble_eq_true rfl⟩ (fun H locs hI => ?_)
      refine lv_if_eq (tgt := 28) hx hb dX12_isGuarded_21 (by decide) (fun c7 => ?_) (fun c7 => ?_)
      · have hf := (if_pos c7).symm.trans hf
        refine lv_iconst (v := 0) hx hb dX12_isGuarded_28 (by decide) ?_
        exact m_zretf hx hb hr hlk hI rfl hf dX12_isGuarded_29
      · have hf := (if_neg c7).symm.trans hf
        exact hj24_8 () H _ _ hf hI (lv_sub hl [] rfl)
abbrev rmX12_hoursUntilVisit : Room := { frames := 4, cells := 0, slots := 0, locals := 89 }
theorem kb_X12_hoursUntilVisit {R : Room} {s : State} {args : Array Value} {own : String} {idx : Nat} (hT : mT s) (hlink : (Cond.methodLink own idx yX12_hoursUntilVisit).before args s = true) (h1 : rmX12_hoursUntilVisit.frames + 1 ≤ R.frames) (h2 : 8 + (4 + 11) + rmX12_hoursUntilVisit.locals ≤ R.locals) : CallB R s args own idx yX12_hoursUntilVisit cX12_hoursUntilVisit 4 (some .int) [Cond.code yX12_hoursUntilVisit cX12_hoursUntilVisit 4 (some .int)] rmX12_hoursUntilVisit 0 0 1 := m_callB hT kc_X12_hoursUntilVisit ki_X12_hoursUntilVisit hlink (by decide +kernel) ⟨rfl, rfl, h1, h2⟩
set_option maxHeartbeats 4000000 in
set_option maxRecDepth 100000 in
theorem c_X12_hoursUntilVisit (l : Launch) (w : WD) (sz : Nat) (a1 : Int32) (M : Mem) (r : Int32) (M9 : Mem) (hf : f_X12_hoursUntilVisit a1 M = some (r, M9)) : mMet l yX12_hoursUntilVisit cX12_hoursUntilVisit 4 (some .int) rmX12_hoursUntilVisit w sz M [.ref (w.1 12 47), .int a1] (some (.int r)) M9 := by
  refine m_of (by decide) (Nat.le_of_ble_eq_true rfl) ?_
  intro p e s m args below meth c hx hb hr hml hown hlk hI ls hl
  have hl : lv_has ls 4 [(0, .ref (w.1 12 47)), (1, .int a1)] := hl
  unfold f_X12_hoursUntilVisit at hf
  refine lv_aload_n hx hb dX12_hoursUntilVisit_0 rfl (lv_at hl 0 rfl) ?_
  refine lv_iload_n hx hb dX12_hoursUntilVisit_1 rfl (lv_at hl 1 rfl) ?_
  obtain ⟨r1, hc, hf⟩ := mbp_e hf
  refine m_callS (As := [.int a1]) (rest := [.ref (w.1 12 47)]) hx hb hml hown hI (c_X12_isZone l w s.heap.size a1 M _ hc) (kb_X12_isZone hI.T (q1634 hI.T) (Nat.le_of_ble_eq_true rfl) (Nat.le_of_ble_eq_true rfl)) (q1635 hI.T) rfl hl.1 (Nat.le_of_ble_eq_true rfl) dX12_hoursUntilVisit_2 ⟨Nat.le_of_ble_eq_true rfl, Nat.le_of_ble_eq_true rfl⟩ (fun H locs hI => ?_)
  obtain ⟨k27_5, ek27_5, hf⟩ := mlet_e hf
  have hj27_5 : ∀ (x4 : Int32) (H : Heap) (locs : List Loc) (ls : Array Slot), k27_5 x4 = some (r, M9) → mI w s (mA w s.heap.size) H locs M → lv_has ls 4 [(0, .ref (w.1 12 47)), (1, .int a1)] → W p l e rmX12_hoursUntilVisit s m args below meth c H locs 0 0 (MQ below (mQ w s.heap.size (some (.int r)) M9) args s 0 0 (mA w s.heap.size)) (F0 m 27 ls [.int x4, .ref (w.1 12 47)]) := by
    intro x4 H locs ls hf hI hl
    rw [ek27_5] at hf
    try dsimp only at hf
    obtain ⟨M6, eM6, hf⟩ := mlet_e hf
    refine m_put (g := 12) (i := 47) (ci := 10) (k := 0) (ty := .int) (M1 := M6) hx hb hI hown (mokX (by decide) (by decide)) rfl rfl (by decide) lyX12 tyX12 tyX12_ok nmX12 (q1426 hI.T) rfl rfl rfl rfl (Nat.le_of_ble_eq_true rfl) rfl eM6 dX12_hoursUntilVisit_27 (fun H locs hI => ?_)
    refine lv_aload_n hx hb dX12_hoursUntilVisit_30 rfl (lv_at hl 0 rfl) ?_
    refine m_get (g := 12) (i := 47) (ci := 10) (k := 0) (v := .int (M6 12 47 0)) hx hb hI hown (mokX (by decide) (by decide)) rfl rfl (by decide) lyX12 (q1426 hI.T) rfl dX12_hoursUntilVisit_31 ?_
    refine lv_if_le (tgt := 39) hx hb dX12_hoursUntilVisit_34 (by decide) (fun c7 => ?_) (fun c7 => ?_)
    · have hf := (if_pos c7).symm.trans hf
      refine lv_aload_n hx hb dX12_hoursUntilVisit_39 rfl (lv_at hl 0 rfl) ?_
      obtain ⟨r8, M10, hc, hf⟩ := mbnd_e hf
      refine m_callV (As := []) (rest := []) hx hb hml hown hI (c_X12_thinks l w H.size M6 _ _ hc) (kb_X12_thinks hI.T (q1787 hI.T) (Nat.le_of_ble_eq_true rfl) (Nat.le_of_ble_eq_true rfl)) (q1789 hI.T) (sel_X12_thinks hI.T) (m_recv (g := 12) (i := 47) hI (mokX (by decide) (by decide)) rfl rfl) rfl hl.1 (Nat.le_of_ble_eq_true rfl) dX12_hoursUntilVisit_40 ⟨Nat.le_of_ble_eq_true rfl, Nat.le_of_ble_eq_true rfl⟩ (fun H locs hI => ?_)
      refine lv_iconst (v := 0) hx hb dX12_hoursUntilVisit_43 (by decide) ?_
      refine lv_istore_n (lv' := [(2, .int (0 : Int32)), (0, .ref (w.1 12 47)), (1, .int a1)]) hx hb dX12_hoursUntilVisit_44 rfl hl (by decide) rfl (fun ls hl => ?_)
      have hL45 : ∀ (n : Nat) (x11 : Int32) (M12 : Mem) (kk : Int32 → Mem → Option (Int32 × Mem)) (H : Heap) (locs : List Loc) (ls : Array Slot), f_X12_hoursUntilVisit_L45 a1 n x11 M12 kk = some (r, M9) → mI w s (mA w s.heap.size) H locs M12 → lv_has ls 4 [(0, .ref (w.1 12 47)), (1, .int a1), (2, .int x11)] → (∀ (x11 : Int32) (M12 : Mem) (H : Heap) (locs : List Loc) (ls : Array Slot), kk x11 M12 = some (r, M9) → mI w s (mA w s.heap.size) H locs M12 → lv_has ls 4 [(0, .ref (w.1 12 47)), (2, .int x11)] → W p l e rmX12_hoursUntilVisit s m args below meth c H locs 0 0 (MQ below (mQ w s.heap.size (some (.int r)) M9) args s 0 0 (mA w s.heap.size)) (F0 m 64 ls [])) → W p l e rmX12_hoursUntilVisit s m args below meth c H locs 0 0 (MQ below (mQ w s.heap.size (some (.int r)) M9) args s 0 0 (mA w s.heap.size)) (F0 m 45 ls []) := by
        intro n
        induction n with
        | zero => intro x11 M12 kk H locs ls hf hI hl hk; rw [f_X12_hoursUntilVisit_L45.eq_1] at hf; cases hf
        | succ n ih45 =>
          intro x11 M12 kk H locs ls hf hI hl hk
          rw [f_X12_hoursUntilVisit_L45.eq_2] at hf
          refine lv_aload_n hx hb dX12_hoursUntilVisit_45 rfl (lv_at hl 0 rfl) ?_
          refine lv_iload_n hx hb dX12_hoursUntilVisit_46 rfl (lv_at hl 1 rfl) ?_
          obtain ⟨r13, hc, hf⟩ := mbp_e hf
          refine m_callV (As := [.int a1]) (rest := []) hx hb hml hown hI (c_X12_isIn l w H.size a1 M12 _ hc) (kb_X12_isIn hI.T (q1591 hI.T) (Nat.le_of_ble_eq_true rfl) (Nat.le_of_ble_eq_true rfl)) (q1593 hI.T) (sel_X12_isIn hI.T) (m_recv (g := 12) (i := 47) hI (mokX (by decide) (by decide)) rfl rfl) rfl hl.1 (Nat.le_of_ble_eq_true rfl) dX12_hoursUntilVisit_47 ⟨Nat.le_of_ble_eq_true rfl, Nat.le_of_ble_eq_true rfl⟩ (fun H locs hI => ?_)
          refine lv_if_ne (tgt := 64) hx hb dX12_hoursUntilVisit_50 (by decide) (fun c14 => ?_) (fun c14 => ?_)
          · have hf := (if_neg c14).symm.trans hf
            exact hk x11 M12 H _ _ hf hI (lv_sub hl [0, 2] rfl)
          · have hf := (if_pos c14).symm.trans hf
            refine lv_aload_n hx hb dX12_hoursUntilVisit_53 rfl (lv_at hl 0 rfl) ?_
            obtain ⟨r15, M16, hc, hf⟩ := mbnd_e hf
            refine m_callV (As := []) (rest := []) hx hb hml hown hI (c_X12_oneHour l w H.size M12 _ _ hc) (kb_X12_oneHour hI.T (q1665 hI.T) (Nat.le_of_ble_eq_true rfl) (Nat.le_of_ble_eq_true rfl)) (q1667 hI.T) (sel_X12_oneHour hI.T) (m_recv (g := 12) (i := 47) hI (mokX (by decide) (by decide)) rfl rfl) rfl hl.1 (Nat.le_of_ble_eq_true rfl) dX12_hoursUntilVisit_54 ⟨Nat.le_of_ble_eq_true rfl, Nat.le_of_ble_eq_true rfl⟩ (fun H locs hI => ?_)
            refine lv_istore_n (lv' := [(3, .int r15), (0, .ref (w.1 12 47)), (1, .int a1), (2, .int x11)]) hx hb dX12_hoursUntilVisit_57 rfl hl (by decide) rfl (fun ls hl => ?_)
            obtain ⟨x17, ex17, hf⟩ := mlet_e hf
            refine lv_iinc (v := x17) (lv' := [(2, .int x17), (3, .int r15), (0, .ref (w.1 12 47)), (1, .int a1)]) hx hb dX12_hoursUntilVisit_58 hl (k := 3) rfl (by rw [ex17]; rfl) (by decide) rfl (fun ls hl => ?_)
            refine lv_goto (tgt := 45) hx hb dX12_hoursUntilVisit_61 (by decide) ?_
            exact ih45 x17 M16 kk H _ _ hf hI (lv_sub hl [2, 3, 0] rfl) hk
      refine hL45 1000 (0 : Int32) M10 _ _ _ _ hf hI (lv_sub hl [1, 2, 0] rfl) ?_
      intro x18 M19 H locs ls hf hI hl
      try dsimp only at hf
      refine lv_aload_n hx hb dX12_hoursUntilVisit_64 rfl (lv_at hl 0 rfl) ?_
      obtain ⟨r20, M21, hc, hf⟩ := mbnd_e hf
      refine m_callV (As := []) (rest := []) hx hb hml hown hI (c_X12_back l w H.size M19 _ _ hc) (kb_X12_back hI.T (q1791 hI.T) (Nat.le_of_ble_eq_true rfl) (Nat.le_of_ble_eq_true rfl)) (q1793 hI.T) (sel_X12_back hI.T) (m_recv (g := 12) (i := 47) hI (mokX (by decide) (by decide)) rfl rfl) rfl hl.1 (Nat.le_of_ble_eq_true rfl) dX12_hoursUntilVisit_65 ⟨Nat.le_of_ble_eq_true rfl, Nat.le_of_ble_eq_true rfl⟩ (fun H locs hI => ?_)
      refine lv_iload_n hx hb dX12_hoursUntilVisit_68 rfl (lv_at hl 1 rfl) ?_
      exact m_iretf hx hb hr hlk hI hf dX12_hoursUntilVisit_69
    · have hf := (if_neg c7).symm.trans hf
      refine lv_iconst (v := 0) hx hb dX12_hoursUntilVisit_37 (by decide) ?_
      exact m_iretf hx hb hr hlk hI hf dX12_hoursUntilVisit_38
  refine lv_if_ne (tgt := 12) hx hb dX12_hoursUntilVisit_5 (by decide) (fun c2 => ?_) (fun c2 => ?_)
  · have hf := (if_neg c2).symm.trans hf
    refine lv_aload_n hx hb dX12_hoursUntilVisit_12 rfl (lv_at hl 0 rfl) ?_
    refine m_get (g := 12) (i := 47) (ci := 10) (k := 1) (v := .ref (w.1 12 48)) hx hb hI hown (mokX (by decide) (by decide)) rfl rfl (by decide) lyX12 (q1427 hI.T) rfl dX12_hoursUntilVisit_13 ?_
    refine lv_bipush (v := 10) hx hb dX12_hoursUntilVisit_16 (by decide) ?_
    obtain ⟨hi, hf⟩ := mix_e hf
    refine m_iald (g := 12) (i := 48) hx hb hI (mokX (by decide) (by decide)) rfl hi dX12_hoursUntilVisit_18 ?_
    refine lv_if_ne (tgt := 26) hx hb dX12_hoursUntilVisit_19 (by decide) (fun c3 => ?_) (fun c3 => ?_)
    · have hf := (if_neg c3).symm.trans hf
      refine lv_iconst (v := 0) hx hb dX12_hoursUntilVisit_26 (by decide) ?_
      exact hj27_5 (0 : Int32) H _ _ hf hI (lv_sub hl [0, 1] rfl)
    · have hf := (if_pos c3).symm.trans hf
      refine lv_iconst (v := 2) hx hb dX12_hoursUntilVisit_22 (by decide) ?_
      refine lv_goto (tgt := 27) hx hb dX12_hoursUntilVisit_23 (by decide) ?_
      exact hj27_5 (2 : Int32) H _ _ hf hI (lv_sub hl [0, 1] rfl)
  · have hf := (if_pos c2).symm.trans hf
    refine lv_iconst (v := 1) hx hb dX12_hoursUntilVisit_8 (by decide) ?_
    refine lv_goto (tgt := 27) hx hb dX12_hoursUntilVisit_9 (by decide) ?_
    exact hj27_5 (1 : Int32) H _ _ hf hI (lv_sub hl [0, 1] rfl)
abbrev rmX12_hoursUntilVisitByRemainders : Room := { frames := 5, cells := 0, slots := 0, locals := 112 }
theorem kb_X12_hoursUntilVisitByRemainders {R : Room} {s : State} {args : Array Value} {own : String} {idx : Nat} (hT : mT s) (hlink : (Cond.methodLink own idx yX12_hoursUntilVisitByRemainders).before args s = true) (h1 : rmX12_hoursUntilVisitByRemainders.frames + 1 ≤ R.frames) (h2 : 8 + (2 + 11) + rmX12_hoursUntilVisitByRemainders.locals ≤ R.locals) : CallB R s args own idx yX12_hoursUntilVisitByRemainders cX12_hoursUntilVisitByRemainders 2 (some .int) [Cond.code yX12_hoursUntilVisitByRemainders cX12_hoursUntilVisitByRemainders 2 (some .int)] rmX12_hoursUntilVisitByRemainders 0 0 1 := m_callB hT kc_X12_hoursUntilVisitByRemainders ki_X12_hoursUntilVisitByRemainders hlink (by decide +kernel) ⟨rfl, rfl, h1, h2⟩
set_option maxHeartbeats 4000000 in
set_option maxRecDepth 100000 in
theorem c_X12_hoursUntilVisitByRemainders (l : Launch) (w : WD) (sz : Nat) (a1 : Int32) (M : Mem) (r : Int32) (M9 : Mem) (hf : f_X12_hoursUntilVisitByRemainders a1 M = some (r, M9)) : mMet l yX12_hoursUntilVisitByRemainders cX12_hoursUntilVisitByRemainders 2 (some .int) rmX12_hoursUntilVisitByRemainders w sz M [.ref (w.1 12 47), .int a1] (some (.int r)) M9 := by
  refine m_of (by decide) (Nat.le_of_ble_eq_true rfl) ?_
  intro p e s m args below meth c hx hb hr hml hown hlk hI ls hl
  have hl : lv_has ls 2 [(0, .ref (w.1 12 47)), (1, .int a1)] := hl
  unfold f_X12_hoursUntilVisitByRemainders at hf
  refine lv_aload_n hx hb dX12_hoursUntilVisitByRemainders_0 rfl (lv_at hl 0 rfl) ?_
  refine lv_iload_n hx hb dX12_hoursUntilVisitByRemainders_1 rfl (lv_at hl 1 rfl) ?_
  obtain ⟨r1, M2, hc, hf⟩ := mbnd_e hf
  refine m_callV (As := [.int a1]) (rest := []) hx hb hml hown hI (c_X12_hoursUntilVisit l w s.heap.size a1 M _ _ hc) (kb_X12_hoursUntilVisit hI.T (q1799 hI.T) (Nat.le_of_ble_eq_true rfl) (Nat.le_of_ble_eq_true rfl)) (q1784 hI.T) (q1785 hI.T) (m_recv (g := 12) (i := 47) hI (mokX (by decide) (by decide)) rfl rfl) rfl hl.1 (Nat.le_of_ble_eq_true rfl) dX12_hoursUntilVisitByRemainders_2 ⟨Nat.le_of_ble_eq_true rfl, Nat.le_of_ble_eq_true rfl⟩ (fun H locs hI => ?_)
  exact m_iretf hx hb hr hlk hI hf dX12_hoursUntilVisitByRemainders_5
abbrev rmX12_alarmsIn : Room := { frames := 4, cells := 0, slots := 0, locals := 89 }
theorem kb_X12_alarmsIn {R : Room} {s : State} {args : Array Value} {own : String} {idx : Nat} (hT : mT s) (hlink : (Cond.methodLink own idx yX12_alarmsIn).before args s = true) (h1 : rmX12_alarmsIn.frames + 1 ≤ R.frames) (h2 : 8 + (4 + 11) + rmX12_alarmsIn.locals ≤ R.locals) : CallB R s args own idx yX12_alarmsIn cX12_alarmsIn 4 (some .int) [Cond.code yX12_alarmsIn cX12_alarmsIn 4 (some .int)] rmX12_alarmsIn 0 0 1 := m_callB hT kc_X12_alarmsIn ki_X12_alarmsIn hlink (by decide +kernel) ⟨rfl, rfl, h1, h2⟩
set_option maxHeartbeats 4000000 in
set_option maxRecDepth 100000 in
theorem c_X12_alarmsIn (l : Launch) (w : WD) (sz : Nat) (a1 : Int32) (M : Mem) (r : Int32) (M9 : Mem) (hf : f_X12_alarmsIn a1 M = some (r, M9)) : mMet l yX12_alarmsIn cX12_alarmsIn 4 (some .int) rmX12_alarmsIn w sz M [.ref (w.1 12 47), .int a1] (some (.int r)) M9 := by
  refine m_of (by decide) (Nat.le_of_ble_eq_true rfl) ?_
  intro p e s m args below meth c hx hb hr hml hown hlk hI ls hl
  have hl : lv_has ls 4 [(0, .ref (w.1 12 47)), (1, .int a1)] := hl
  unfold f_X12_alarmsIn at hf
  refine lv_aload_n hx hb dX12_alarmsIn_0 rfl (lv_at hl 0 rfl) ?_
  refine lv_iload_n hx hb dX12_alarmsIn_1 rfl (lv_at hl 1 rfl) ?_
  refine lv_iconst (v := 0) hx hb dX12_alarmsIn_2 (by decide) ?_
  refine lv_bipush (v := 24) hx hb dX12_alarmsIn_3 (by decide) ?_
  obtain ⟨r1, hc, hf⟩ := mbp_e hf
  refine m_callS (As := [.int a1, .int (0 : Int32), .int (24 : Int32)]) (rest := [.ref (w.1 12 47)]) hx hb hml hown hI (c_X12_in l w s.heap.size a1 (0 : Int32) (24 : Int32) M _ hc) (kb_X12_in hI.T (q1544 hI.T) (Nat.le_of_ble_eq_true rfl) (Nat.le_of_ble_eq_true rfl)) (q1545 hI.T) rfl hl.1 (Nat.le_of_ble_eq_true rfl) dX12_alarmsIn_5 ⟨Nat.le_of_ble_eq_true rfl, Nat.le_of_ble_eq_true rfl⟩ (fun H locs hI => ?_)
  obtain ⟨k16_4, ek16_4, hf⟩ := mlet_e hf
  have hj16_4 : ∀ (x3 : Int32) (H : Heap) (locs : List Loc) (ls : Array Slot), k16_4 x3 = some (r, M9) → mI w s (mA w s.heap.size) H locs M → lv_has ls 4 [(0, .ref (w.1 12 47)), (1, .int a1)] → W p l e rmX12_alarmsIn s m args below meth c H locs 0 0 (MQ below (mQ w s.heap.size (some (.int r)) M9) args s 0 0 (mA w s.heap.size)) (F0 m 16 ls [.int x3, .ref (w.1 12 47)]) := by
    intro x3 H locs ls hf hI hl
    rw [ek16_4] at hf
    try dsimp only at hf
    obtain ⟨M5, eM5, hf⟩ := mlet_e hf
    refine m_put (g := 12) (i := 47) (ci := 10) (k := 0) (ty := .int) (M1 := M5) hx hb hI hown (mokX (by decide) (by decide)) rfl rfl (by decide) lyX12 tyX12 tyX12_ok nmX12 (q1426 hI.T) rfl rfl rfl rfl (Nat.le_of_ble_eq_true rfl) rfl eM5 dX12_alarmsIn_16 (fun H locs hI => ?_)
    refine lv_aload_n hx hb dX12_alarmsIn_19 rfl (lv_at hl 0 rfl) ?_
    refine m_get (g := 12) (i := 47) (ci := 10) (k := 0) (v := .int (M5 12 47 0)) hx hb hI hown (mokX (by decide) (by decide)) rfl rfl (by decide) lyX12 (q1426 hI.T) rfl dX12_alarmsIn_20 ?_
    refine lv_if_le (tgt := 28) hx hb dX12_alarmsIn_23 (by decide) (fun c6 => ?_) (fun c6 => ?_)
    · have hf := (if_pos c6).symm.trans hf
      refine lv_aload_n hx hb dX12_alarmsIn_28 rfl (lv_at hl 0 rfl) ?_
      obtain ⟨r7, M8, hc, hf⟩ := mbnd_e hf
      refine m_callV (As := []) (rest := []) hx hb hml hown hI (c_X12_thinks l w H.size M5 _ _ hc) (kb_X12_thinks hI.T (q1787 hI.T) (Nat.le_of_ble_eq_true rfl) (Nat.le_of_ble_eq_true rfl)) (q1789 hI.T) (sel_X12_thinks hI.T) (m_recv (g := 12) (i := 47) hI (mokX (by decide) (by decide)) rfl rfl) rfl hl.1 (Nat.le_of_ble_eq_true rfl) dX12_alarmsIn_29 ⟨Nat.le_of_ble_eq_true rfl, Nat.le_of_ble_eq_true rfl⟩ (fun H locs hI => ?_)
      refine lv_iconst (v := 0) hx hb dX12_alarmsIn_32 (by decide) ?_
      refine lv_istore_n (lv' := [(2, .int (0 : Int32)), (0, .ref (w.1 12 47)), (1, .int a1)]) hx hb dX12_alarmsIn_33 rfl hl (by decide) rfl (fun ls hl => ?_)
      refine lv_iconst (v := 0) hx hb dX12_alarmsIn_34 (by decide) ?_
      refine lv_istore_n (lv' := [(3, .int (0 : Int32)), (2, .int (0 : Int32)), (0, .ref (w.1 12 47)), (1, .int a1)]) hx hb dX12_alarmsIn_35 rfl hl (by decide) rfl (fun ls hl => ?_)
      have hL36 : ∀ (n : Nat) (x9 : Int32) (x10 : Int32) (M11 : Mem) (kk : Int32 → Mem → Option (Int32 × Mem)) (H : Heap) (locs : List Loc) (ls : Array Slot), f_X12_alarmsIn_L36 a1 n x9 x10 M11 kk = some (r, M9) → mI w s (mA w s.heap.size) H locs M11 → lv_has ls 4 [(0, .ref (w.1 12 47)), (1, .int a1), (2, .int x9), (3, .int x10)] → (∀ (x9 : Int32) (M11 : Mem) (H : Heap) (locs : List Loc) (ls : Array Slot), kk x9 M11 = some (r, M9) → mI w s (mA w s.heap.size) H locs M11 → lv_has ls 4 [(0, .ref (w.1 12 47)), (2, .int x9)] → W p l e rmX12_alarmsIn s m args below meth c H locs 0 0 (MQ below (mQ w s.heap.size (some (.int r)) M9) args s 0 0 (mA w s.heap.size)) (F0 m 54 ls [])) → W p l e rmX12_alarmsIn s m args below meth c H locs 0 0 (MQ below (mQ w s.heap.size (some (.int r)) M9) args s 0 0 (mA w s.heap.size)) (F0 m 36 ls []) := by
        intro n
        induction n with
        | zero => intro x9 x10 M11 kk H locs ls hf hI hl hk; rw [f_X12_alarmsIn_L36.eq_1] at hf; cases hf
        | succ n ih36 =>
          intro x9 x10 M11 kk H locs ls hf hI hl hk
          rw [f_X12_alarmsIn_L36.eq_2] at hf
          refine lv_iload_n hx hb dX12_alarmsIn_36 rfl (lv_at hl 3 rfl) ?_
          refine lv_iload_n hx hb dX12_alarmsIn_37 rfl (lv_at hl 1 rfl) ?_
          refine lv_icmp_ge (tgt := 54) hx hb dX12_alarmsIn_38 (by decide) (fun c12 => ?_) (fun c12 => ?_)
          · have hf := (if_pos c12).symm.trans hf
            exact hk x9 M11 H _ _ hf hI (lv_sub hl [0, 2] rfl)
          · have hf := (if_neg c12).symm.trans hf
            refine lv_iload_n hx hb dX12_alarmsIn_41 rfl (lv_at hl 2 rfl) ?_
            refine lv_aload_n hx hb dX12_alarmsIn_42 rfl (lv_at hl 0 rfl) ?_
            obtain ⟨r13, M14, hc, hf⟩ := mbnd_e hf
            refine m_callV (As := []) (rest := [.int x9]) hx hb hml hown hI (c_X12_oneHour l w H.size M11 _ _ hc) (kb_X12_oneHour hI.T (q1665 hI.T) (Nat.le_of_ble_eq_true rfl) (Nat.le_of_ble_eq_true rfl)) (q1667 hI.T) (sel_X12_oneHour hI.T) (m_recv (g := 12) (i := 47) hI (mokX (by decide) (by decide)) rfl rfl) rfl hl.1 (Nat.le_of_ble_eq_true rfl) dX12_alarmsIn_43 ⟨Nat.le_of_ble_eq_true rfl, Nat.le_of_ble_eq_true rfl⟩ (fun H locs hI => ?_)
            refine lv_iadd hx hb dX12_alarmsIn_46 ?_
            refine lv_topi (fun x15 ex15 => ?_)
            have hf := mlet_s ex15 hf
            refine lv_istore_n (lv' := [(2, .int x15), (0, .ref (w.1 12 47)), (1, .int a1), (3, .int x10)]) hx hb dX12_alarmsIn_47 rfl hl (by decide) rfl (fun ls hl => ?_)
            obtain ⟨x16, ex16, hf⟩ := mlet_e hf
            refine lv_iinc (v := x16) (lv' := [(3, .int x16), (2, .int x15), (0, .ref (w.1 12 47)), (1, .int a1)]) hx hb dX12_alarmsIn_48 hl (k := 3) rfl (by rw [ex16]; rfl) (by decide) rfl (fun ls hl => ?_)
            refine lv_goto (tgt := 36) hx hb dX12_alarmsIn_51 (by decide) ?_
            exact ih36 x15 x16 M14 kk H _ _ hf hI (lv_sub hl [2, 3, 1, 0] rfl) hk
      refine hL36 1000 (0 : Int32) (0 : Int32) M8 _ _ _ _ hf hI (lv_sub hl [2, 3, 1, 0] rfl) ?_
      intro x17 M18 H locs ls hf hI hl
      try dsimp only at hf
      refine lv_aload_n hx hb dX12_alarmsIn_54 rfl (lv_at hl 0 rfl) ?_
      obtain ⟨r19, M20, hc, hf⟩ := mbnd_e hf
      refine m_callV (As := []) (rest := []) hx hb hml hown hI (c_X12_back l w H.size M18 _ _ hc) (kb_X12_back hI.T (q1791 hI.T) (Nat.le_of_ble_eq_true rfl) (Nat.le_of_ble_eq_true rfl)) (q1793 hI.T) (sel_X12_back hI.T) (m_recv (g := 12) (i := 47) hI (mokX (by decide) (by decide)) rfl rfl) rfl hl.1 (Nat.le_of_ble_eq_true rfl) dX12_alarmsIn_55 ⟨Nat.le_of_ble_eq_true rfl, Nat.le_of_ble_eq_true rfl⟩ (fun H locs hI => ?_)
      refine lv_iload_n hx hb dX12_alarmsIn_58 rfl (lv_at hl 1 rfl) ?_
      exact m_iretf hx hb hr hlk hI hf dX12_alarmsIn_59
    · have hf := (if_neg c6).symm.trans hf
      refine lv_iconst (v := 0) hx hb dX12_alarmsIn_26 (by decide) ?_
      exact m_iretf hx hb hr hlk hI hf dX12_alarmsIn_27
  refine lv_if_eq (tgt := 15) hx hb dX12_alarmsIn_8 (by decide) (fun c2 => ?_) (fun c2 => ?_)
  · have hf := (if_pos c2).symm.trans hf
    refine lv_iconst (v := 1) hx hb dX12_alarmsIn_15 (by decide) ?_
    exact hj16_4 (1 : Int32) H _ _ hf hI (lv_sub hl [0, 1] rfl)
  · have hf := (if_neg c2).symm.trans hf
    refine lv_iconst (v := 0) hx hb dX12_alarmsIn_11 (by decide) ?_
    refine lv_goto (tgt := 16) hx hb dX12_alarmsIn_12 (by decide) ?_
    exact hj16_4 (0 : Int32) H _ _ hf hI (lv_sub hl [0, 1] rfl)
abbrev rmX12_isAhead : Room := { frames := 0, cells := 0, slots := 0, locals := 0 }
theorem kb_X12_isAhead {R : Room} {s : State} {args : Array Value} {own : String} {idx : Nat} (hT : mT s) (hlink : (Cond.methodLink own idx yX12_isAhead).before args s = true) (h1 : rmX12_isAhead.frames + 1 ≤ R.frames) (h2 : 8 + (3 + 11) + rmX12_isAhead.locals ≤ R.locals) : CallB R s args own idx yX12_isAhead cX12_isAhead 3 (some .boolean) [Cond.code yX12_isAhead cX12_isAhead 3 (some .boolean)] rmX12_isAhead 0 0 2 := m_callB hT kc_X12_isAhead ki_X12_isAhead hlink (by decide +kernel) ⟨rfl, rfl, h1, h2⟩
set_option maxHeartbeats 4000000 in
set_option maxRecDepth 100000 in
theorem c_X12_isAhead (l : Launch) (w : WD) (sz : Nat) (a1 : Int32) (a2 : Int32) (M : Mem) (r : Int32) (hf : f_X12_isAhead a1 a2 M = some r) : mMet l yX12_isAhead cX12_isAhead 3 (some .boolean) rmX12_isAhead w sz M [.ref (w.1 12 47), .int a1, .int a2] (some (.int r)) M := by
  refine m_of (by decide) (Nat.le_of_ble_eq_true rfl) ?_
  intro p e s m args below meth c hx hb hr hml hown hlk hI ls hl
  have hl : lv_has ls 3 [(0, .ref (w.1 12 47)), (1, .int a1), (2, .int a2)] := hl
  unfold f_X12_isAhead at hf
  refine lv_aload_n hx hb dX12_isAhead_0 rfl (lv_at hl 0 rfl) ?_
  refine m_get (g := 12) (i := 47) (ci := 10) (k := 1) (v := .ref (w.1 12 48)) hx hb hI hown (mokX (by decide) (by decide)) rfl rfl (by decide) lyX12 (q1427 hI.T) rfl dX12_isAhead_1 ?_
  refine lv_bipush (v := 31) hx hb dX12_isAhead_4 (by decide) ?_
  refine lv_iload_n hx hb dX12_isAhead_6 rfl (lv_at hl 1 rfl) ?_
  refine lv_iadd hx hb dX12_isAhead_7 ?_
  obtain ⟨hi, hf⟩ := mix_e hf
  refine m_iald (g := 12) (i := 48) hx hb hI (mokX (by decide) (by decide)) rfl hi dX12_isAhead_8 ?_
  refine lv_aload_n hx hb dX12_isAhead_9 rfl (lv_at hl 0 rfl) ?_
  refine m_get (g := 12) (i := 47) (ci := 10) (k := 1) (v := .ref (w.1 12 48)) hx hb hI hown (mokX (by decide) (by decide)) rfl rfl (by decide) lyX12 (q1427 hI.T) rfl dX12_isAhead_10 ?_
  refine lv_bipush (v := 31) hx hb dX12_isAhead_13 (by decide) ?_
  refine lv_iload_n hx hb dX12_isAhead_15 rfl (lv_at hl 2 rfl) ?_
  refine lv_iadd hx hb dX12_isAhead_16 ?_
  obtain ⟨hi, hf⟩ := mix_e hf
  refine m_iald (g := 12) (i := 48) hx hb hI (mokX (by decide) (by decide)) rfl hi dX12_isAhead_17 ?_
  refine lv_icmp_eq (tgt := 48) hx hb dX12_isAhead_18 (by decide) (fun c1 => ?_) (fun c1 => ?_)
  · have hf := (if_pos c1).symm.trans hf
    refine lv_aload_n hx hb dX12_isAhead_48 rfl (lv_at hl 0 rfl) ?_
    refine m_get (g := 12) (i := 47) (ci := 10) (k := 1) (v := .ref (w.1 12 48)) hx hb hI hown (mokX (by decide) (by decide)) rfl rfl (by decide) lyX12 (q1427 hI.T) rfl dX12_isAhead_49 ?_
    refine lv_bipush (v := 39) hx hb dX12_isAhead_52 (by decide) ?_
    refine lv_iload_n hx hb dX12_isAhead_54 rfl (lv_at hl 1 rfl) ?_
    refine lv_iadd hx hb dX12_isAhead_55 ?_
    obtain ⟨hi, hf⟩ := mix_e hf
    refine m_iald (g := 12) (i := 48) hx hb hI (mokX (by decide) (by decide)) rfl hi dX12_isAhead_56 ?_
    refine lv_aload_n hx hb dX12_isAhead_57 rfl (lv_at hl 0 rfl) ?_
    refine m_get (g := 12) (i := 47) (ci := 10) (k := 1) (v := .ref (w.1 12 48)) hx hb hI hown (mokX (by decide) (by decide)) rfl rfl (by decide) lyX12 (q1427 hI.T) rfl dX12_isAhead_58 ?_
    refine lv_bipush (v := 39) hx hb dX12_isAhead_61 (by decide) ?_
    refine lv_iload_n hx hb dX12_isAhead_63 rfl (lv_at hl 2 rfl) ?_
    refine lv_iadd hx hb dX12_isAhead_64 ?_
    obtain ⟨hi, hf⟩ := mix_e hf
    refine m_iald (g := 12) (i := 48) hx hb hI (mokX (by decide) (by decide)) rfl hi dX12_isAhead_65 ?_
    refine lv_icmp_ne (tgt := 82) hx hb dX12_isAhead_66 (by decide) (fun c2 => ?_) (fun c2 => ?_)
    · have hf := (if_neg c2).symm.trans hf
      refine lv_aload_n hx hb dX12_isAhead_82 rfl (lv_at hl 0 rfl) ?_
      refine m_get (g := 12) (i := 47) (ci := 10) (k := 1) (v := .ref (w.1 12 48)) hx hb hI hown (mokX (by decide) (by decide)) rfl rfl (by decide) lyX12 (q1427 hI.T) rfl dX12_isAhead_83 ?_
      refine lv_bipush (v := 39) hx hb dX12_isAhead_86 (by decide) ?_
      refine lv_iload_n hx hb dX12_isAhead_88 rfl (lv_at hl 1 rfl) ?_
      refine lv_iadd hx hb dX12_isAhead_89 ?_
      obtain ⟨hi, hf⟩ := mix_e hf
      refine m_iald (g := 12) (i := 48) hx hb hI (mokX (by decide) (by decide)) rfl hi dX12_isAhead_90 ?_
      refine lv_aload_n hx hb dX12_isAhead_91 rfl (lv_at hl 0 rfl) ?_
      refine m_get (g := 12) (i := 47) (ci := 10) (k := 1) (v := .ref (w.1 12 48)) hx hb hI hown (mokX (by decide) (by decide)) rfl rfl (by decide) lyX12 (q1427 hI.T) rfl dX12_isAhead_92 ?_
      refine lv_bipush (v := 39) hx hb dX12_isAhead_95 (by decide) ?_
      refine lv_iload_n hx hb dX12_isAhead_97 rfl (lv_at hl 2 rfl) ?_
      refine lv_iadd hx hb dX12_isAhead_98 ?_
      obtain ⟨hi, hf⟩ := mix_e hf
      refine m_iald (g := 12) (i := 48) hx hb hI (mokX (by decide) (by decide)) rfl hi dX12_isAhead_99 ?_
      refine lv_icmp_le (tgt := 107) hx hb dX12_isAhead_100 (by decide) (fun c3 => ?_) (fun c3 => ?_)
      · have hf := (if_pos c3).symm.trans hf
        refine lv_iconst (v := 0) hx hb dX12_isAhead_107 (by decide) ?_
        exact m_zretp hx hb hr hlk hI rfl hf dX12_isAhead_108
      · have hf := (if_neg c3).symm.trans hf
        refine lv_iconst (v := 1) hx hb dX12_isAhead_103 (by decide) ?_
        refine lv_goto (tgt := 108) hx hb dX12_isAhead_104 (by decide) ?_
        exact m_zretp hx hb hr hlk hI rfl hf dX12_isAhead_108
    · have hf := (if_pos c2).symm.trans hf
      refine lv_iload_n hx hb dX12_isAhead_69 rfl (lv_at hl 1 rfl) ?_
      refine lv_iload_n hx hb dX12_isAhead_70 rfl (lv_at hl 2 rfl) ?_
      refine lv_icmp_ge (tgt := 78) hx hb dX12_isAhead_71 (by decide) (fun c4 => ?_) (fun c4 => ?_)
      · have hf := (if_pos c4).symm.trans hf
        refine lv_iconst (v := 0) hx hb dX12_isAhead_78 (by decide) ?_
        refine lv_goto (tgt := 108) hx hb dX12_isAhead_79 (by decide) ?_
        exact m_zretp hx hb hr hlk hI rfl hf dX12_isAhead_108
      · have hf := (if_neg c4).symm.trans hf
        refine lv_iconst (v := 1) hx hb dX12_isAhead_74 (by decide) ?_
        refine lv_goto (tgt := 108) hx hb dX12_isAhead_75 (by decide) ?_
        exact m_zretp hx hb hr hlk hI rfl hf dX12_isAhead_108
  · have hf := (if_neg c1).symm.trans hf
    refine lv_aload_n hx hb dX12_isAhead_21 rfl (lv_at hl 0 rfl) ?_
    refine m_get (g := 12) (i := 47) (ci := 10) (k := 1) (v := .ref (w.1 12 48)) hx hb hI hown (mokX (by decide) (by decide)) rfl rfl (by decide) lyX12 (q1427 hI.T) rfl dX12_isAhead_22 ?_
    refine lv_bipush (v := 31) hx hb dX12_isAhead_25 (by decide) ?_
    refine lv_iload_n hx hb dX12_isAhead_27 rfl (lv_at hl 1 rfl) ?_
    refine lv_iadd hx hb dX12_isAhead_28 ?_
    obtain ⟨hi, hf⟩ := mix_e hf
    refine m_iald (g := 12) (i := 48) hx hb hI (mokX (by decide) (by decide)) rfl hi dX12_isAhead_29 ?_
    refine lv_aload_n hx hb dX12_isAhead_30 rfl (lv_at hl 0 rfl) ?_
    refine m_get (g := 12) (i := 47) (ci := 10) (k := 1) (v := .ref (w.1 12 48)) hx hb hI hown (mokX (by decide) (by decide)) rfl rfl (by decide) lyX12 (q1427 hI.T) rfl dX12_isAhead_31 ?_
    refine lv_bipush (v := 31) hx hb dX12_isAhead_34 (by decide) ?_
    refine lv_iload_n hx hb dX12_isAhead_36 rfl (lv_at hl 2 rfl) ?_
    refine lv_iadd hx hb dX12_isAhead_37 ?_
    obtain ⟨hi, hf⟩ := mix_e hf
    refine m_iald (g := 12) (i := 48) hx hb hI (mokX (by decide) (by decide)) rfl hi dX12_isAhead_38 ?_
    refine lv_icmp_le (tgt := 46) hx hb dX12_isAhead_39 (by decide) (fun c5 => ?_) (fun c5 => ?_)
    · have hf := (if_pos c5).symm.trans hf
      refine lv_iconst (v := 0) hx hb dX12_isAhead_46 (by decide) ?_
      exact m_zretp hx hb hr hlk hI rfl hf dX12_isAhead_47
    · have hf := (if_neg c5).symm.trans hf
      refine lv_iconst (v := 1) hx hb dX12_isAhead_42 (by decide) ?_
      refine lv_goto (tgt := 47) hx hb dX12_isAhead_43 (by decide) ?_
      exact m_zretp hx hb hr hlk hI rfl hf dX12_isAhead_47
abbrev rmX12_zoneByNoise : Room := { frames := 1, cells := 0, slots := 0, locals := 22 }
theorem kb_X12_zoneByNoise {R : Room} {s : State} {args : Array Value} {own : String} {idx : Nat} (hT : mT s) (hlink : (Cond.methodLink own idx yX12_zoneByNoise).before args s = true) (h1 : rmX12_zoneByNoise.frames + 1 ≤ R.frames) (h2 : 8 + (5 + 11) + rmX12_zoneByNoise.locals ≤ R.locals) : CallB R s args own idx yX12_zoneByNoise cX12_zoneByNoise 5 (some .int) [Cond.code yX12_zoneByNoise cX12_zoneByNoise 5 (some .int)] rmX12_zoneByNoise 0 0 1 := m_callB hT kc_X12_zoneByNoise ki_X12_zoneByNoise hlink (by decide +kernel) ⟨rfl, rfl, h1, h2⟩
set_option maxHeartbeats 4000000 in
set_option maxRecDepth 100000 in
theorem c_X12_zoneByNoise (l : Launch) (w : WD) (sz : Nat) (a1 : Int32) (M : Mem) (r : Int32) (M9 : Mem) (hf : f_X12_zoneByNoise a1 M = some (r, M9)) : mMet l yX12_zoneByNoise cX12_zoneByNoise 5 (some .int) rmX12_zoneByNoise w sz M [.ref (w.1 12 47), .int a1] (some (.int r)) M9 := by
  refine m_of (by decide) (Nat.le_of_ble_eq_true rfl) ?_
  intro p e s m args below meth c hx hb hr hml hown hlk hI ls hl
  have hl : lv_has ls 5 [(0, .ref (w.1 12 47)), (1, .int a1)] := hl
  unfold f_X12_zoneByNoise at hf
  refine lv_aload_n hx hb dX12_zoneByNoise_0 rfl (lv_at hl 0 rfl) ?_
  refine lv_iconst (v := 0) hx hb dX12_zoneByNoise_1 (by decide) ?_
  obtain ⟨M1, eM1, hf⟩ := mlet_e hf
  refine m_put (g := 12) (i := 47) (ci := 10) (k := 0) (ty := .int) (M1 := M1) hx hb hI hown (mokX (by decide) (by decide)) rfl rfl (by decide) lyX12 tyX12 tyX12_ok nmX12 (q1426 hI.T) rfl rfl rfl rfl (Nat.le_of_ble_eq_true rfl) rfl eM1 dX12_zoneByNoise_2 (fun H locs hI => ?_)
  refine lv_iconst (v := 0) hx hb dX12_zoneByNoise_5 (by decide) ?_
  refine lv_istore_n (lv' := [(2, .int (0 : Int32)), (0, .ref (w.1 12 47)), (1, .int a1)]) hx hb dX12_zoneByNoise_6 rfl hl (by decide) rfl (fun ls hl => ?_)
  have hL7 : ∀ (n : Nat) (x2 : Int32) (kk : Unit → Option (Int32 × Mem)) (H : Heap) (locs : List Loc) (ls : Array Slot), f_X12_zoneByNoise_L7 a1 M1 n x2 kk = some (r, M9) → mI w s (mA w s.heap.size) H locs M1 → lv_has ls 5 [(0, .ref (w.1 12 47)), (1, .int a1), (2, .int x2)] → (∀ (_u : Unit) (H : Heap) (locs : List Loc) (ls : Array Slot), kk () = some (r, M9) → mI w s (mA w s.heap.size) H locs M1 → lv_has ls 5 [(0, .ref (w.1 12 47))] → W p l e rmX12_zoneByNoise s m args below meth c H locs 0 0 (MQ below (mQ w s.heap.size (some (.int r)) M9) args s 0 0 (mA w s.heap.size)) (F0 m 68 ls [])) → W p l e rmX12_zoneByNoise s m args below meth c H locs 0 0 (MQ below (mQ w s.heap.size (some (.int r)) M9) args s 0 0 (mA w s.heap.size)) (F0 m 7 ls []) := by
    intro n
    induction n with
    | zero => intro x2 kk H locs ls hf hI hl hk; rw [f_X12_zoneByNoise_L7.eq_1] at hf; cases hf
    | succ n ih7 =>
      intro x2 kk H locs ls hf hI hl hk
      rw [f_X12_zoneByNoise_L7.eq_2] at hf
      refine lv_iload_n hx hb dX12_zoneByNoise_7 rfl (lv_at hl 2 rfl) ?_
      refine lv_bipush (v := 8) hx hb dX12_zoneByNoise_8 (by decide) ?_
      refine lv_icmp_ge (tgt := 68) hx hb dX12_zoneByNoise_10 (by decide) (fun c3 => ?_) (fun c3 => ?_)
      · have hf := (if_pos c3).symm.trans hf
        exact hk () H _ _ hf hI (lv_sub hl [0] rfl)
      · have hf := (if_neg c3).symm.trans hf
        refine lv_iconst (v := 0) hx hb dX12_zoneByNoise_13 (by decide) ?_
        refine lv_istore_n (lv' := [(3, .int (0 : Int32)), (0, .ref (w.1 12 47)), (1, .int a1), (2, .int x2)]) hx hb dX12_zoneByNoise_14 rfl hl (by decide) rfl (fun ls hl => ?_)
        refine lv_iconst (v := 0) hx hb dX12_zoneByNoise_15 (by decide) ?_
        refine lv_istore (lv' := [(4, .int (0 : Int32)), (3, .int (0 : Int32)), (0, .ref (w.1 12 47)), (1, .int a1), (2, .int x2)]) hx hb dX12_zoneByNoise_16 hl (by decide) rfl (fun ls hl => ?_)
        have hL18 : ∀ (n : Nat) (x4 : Int32) (x5 : Int32) (kk : Int32 → Option (Int32 × Mem)) (H : Heap) (locs : List Loc) (ls : Array Slot), f_X12_zoneByNoise_L18 M1 x2 n x4 x5 kk = some (r, M9) → mI w s (mA w s.heap.size) H locs M1 → lv_has ls 5 [(0, .ref (w.1 12 47)), (1, .int a1), (2, .int x2), (3, .int x4), (4, .int x5)] → (∀ (x4 : Int32) (H : Heap) (locs : List Loc) (ls : Array Slot), kk x4 = some (r, M9) → mI w s (mA w s.heap.size) H locs M1 → lv_has ls 5 [(0, .ref (w.1 12 47)), (1, .int a1), (2, .int x2), (3, .int x4)] → W p l e rmX12_zoneByNoise s m args below meth c H locs 0 0 (MQ below (mQ w s.heap.size (some (.int r)) M9) args s 0 0 (mA w s.heap.size)) (F0 m 55 ls [])) → W p l e rmX12_zoneByNoise s m args below meth c H locs 0 0 (MQ below (mQ w s.heap.size (some (.int r)) M9) args s 0 0 (mA w s.heap.size)) (F0 m 18 ls []) := by
          intro n
          induction n with
          | zero => intro x4 x5 kk H locs ls hf hI hl hk; rw [f_X12_zoneByNoise_L18.eq_1] at hf; cases hf
          | succ n ih18 =>
            intro x4 x5 kk H locs ls hf hI hl hk
            rw [f_X12_zoneByNoise_L18.eq_2] at hf
            refine lv_iload hx hb dX12_zoneByNoise_18 (lv_at hl 4 rfl) ?_
            refine lv_bipush (v := 8) hx hb dX12_zoneByNoise_20 (by decide) ?_
            refine lv_icmp_ge (tgt := 55) hx hb dX12_zoneByNoise_22 (by decide) (fun c6 => ?_) (fun c6 => ?_)
            · have hf := (if_pos c6).symm.trans hf
              exact hk x4 H _ _ hf hI (lv_sub hl [0, 1, 2, 3] rfl)
            · have hf := (if_neg c6).symm.trans hf
              refine lv_iload_n hx hb dX12_zoneByNoise_25 rfl (lv_at hl 3 rfl) ?_
              refine lv_iload hx hb dX12_zoneByNoise_26 (lv_at hl 4 rfl) ?_
              refine lv_iload_n hx hb dX12_zoneByNoise_28 rfl (lv_at hl 2 rfl) ?_
              obtain ⟨k47_12, ek47_12, hf⟩ := mlet_e hf
              have hj47_12 : ∀ (x11 : Int32) (H : Heap) (locs : List Loc) (ls : Array Slot), k47_12 x11 = some (r, M9) → mI w s (mA w s.heap.size) H locs M1 → lv_has ls 5 [(0, .ref (w.1 12 47)), (1, .int a1), (2, .int x2), (4, .int x5)] → W p l e rmX12_zoneByNoise s m args below meth c H locs 0 0 (MQ below (mQ w s.heap.size (some (.int r)) M9) args s 0 0 (mA w s.heap.size)) (F0 m 47 ls [.int x11, .int x4]) := by
                intro x11 H locs ls hf hI hl
                rw [ek47_12] at hf
                try dsimp only at hf
                refine lv_iadd hx hb dX12_zoneByNoise_47 ?_
                refine lv_topi (fun x13 ex13 => ?_)
                have hf := mlet_s ex13 hf
                refine lv_istore_n (lv' := [(3, .int x13), (0, .ref (w.1 12 47)), (1, .int a1), (2, .int x2), (4, .int x5)]) hx hb dX12_zoneByNoise_48 rfl hl (by decide) rfl (fun ls hl => ?_)
                obtain ⟨x14, ex14, hf⟩ := mlet_e hf
                refine lv_iinc (v := x14) (lv' := [(4, .int x14), (3, .int x13), (0, .ref (w.1 12 47)), (1, .int a1), (2, .int x2)]) hx hb dX12_zoneByNoise_49 hl (k := 4) rfl (by rw [ex14]; rfl) (by decide) rfl (fun ls hl => ?_)
                refine lv_goto (tgt := 18) hx hb dX12_zoneByNoise_52 (by decide) ?_
                exact ih18 x13 x14 kk H _ _ hf hI (lv_sub hl [2, 3, 4, 1, 0] rfl) hk
              obtain ⟨k46_10, ek46_10, hf⟩ := mlet_e hf
              have hj46_10 : ∀ (_u : Unit) (H : Heap) (locs : List Loc) (ls : Array Slot), k46_10 _u = some (r, M9) → mI w s (mA w s.heap.size) H locs M1 → lv_has ls 5 [(0, .ref (w.1 12 47)), (1, .int a1), (2, .int x2), (4, .int x5)] → W p l e rmX12_zoneByNoise s m args below meth c H locs 0 0 (MQ below (mQ w s.heap.size (some (.int r)) M9) args s 0 0 (mA w s.heap.size)) (F0 m 46 ls [.int x4]) := by
                intro _u H locs ls hf hI hl
                rw [ek46_10] at hf
                try dsimp only at hf
                refine lv_iconst (v := 0) hx hb dX12_zoneByNoise_46 (by decide) ?_
                exact hj47_12 (0 : Int32) H _ _ hf hI (lv_sub hl [0, 1, 2, 3] rfl)
              refine lv_icmp_eq (tgt := 46) hx hb dX12_zoneByNoise_29 (by decide) (fun c7 => ?_) (fun c7 => ?_)
              · have hf := (if_pos c7).symm.trans hf
                exact hj46_10 () H _ _ hf hI (lv_sub hl [0, 1, 2, 4] rfl)
              · have hf := (if_neg c7).symm.trans hf
                refine lv_aload_n hx hb dX12_zoneByNoise_32 rfl (lv_at hl 0 rfl) ?_
                refine lv_iload hx hb dX12_zoneByNoise_33 (lv_at hl 4 rfl) ?_
                refine lv_iload_n hx hb dX12_zoneByNoise_35 rfl (lv_at hl 2 rfl) ?_
                obtain ⟨r8, hc, hf⟩ := mbp_e hf
                refine m_callV (As := [.int x5, .int x2]) (rest := [.int x4]) hx hb hml hown hI (c_X12_isAhead l w H.size x5 x2 M1 _ hc) (kb_X12_isAhead hI.T (q1808 hI.T) (Nat.le_of_ble_eq_true rfl) (Nat.le_of_ble_eq_true rfl)) (q1810 hI.T) (sel_X12_isAhead hI.T) (m_recv (g := 12) (i := 47) hI (mokX (by decide) (by decide)) rfl rfl) rfl hl.1 (Nat.le_of_ble_eq_true rfl) dX12_zoneByNoise_36 ⟨Nat.le_of_ble_eq_true rfl, Nat.le_of_ble_eq_true rfl⟩ (fun H locs hI => ?_)
                refine lv_if_eq (tgt := 46) hx hb dX12_zoneByNoise_39 (by decide) (fun c9 => ?_) (fun c9 => ?_)
                · have hf := (if_pos c9).symm.trans hf
                  exact hj46_10 () H _ _ hf hI (lv_sub hl [0, 1, 2, 4] rfl)
                · have hf := (if_neg c9).symm.trans hf
                  refine lv_iconst (v := 1) hx hb dX12_zoneByNoise_42 (by decide) ?_
                  refine lv_goto (tgt := 47) hx hb dX12_zoneByNoise_43 (by decide) ?_
                  exact hj47_12 (1 : Int32) H _ _ hf hI (lv_sub hl [0, 1, 2, 4] rfl)
        refine hL18 1000 (0 : Int32) (0 : Int32) _ _ _ _ hf hI (lv_sub hl [2, 3, 4, 1, 0] rfl) ?_
        intro x15 H locs ls hf hI hl
        try dsimp only at hf
        refine lv_iload_n hx hb dX12_zoneByNoise_55 rfl (lv_at hl 3 rfl) ?_
        refine lv_iload_n hx hb dX12_zoneByNoise_56 rfl (lv_at hl 1 rfl) ?_
        refine lv_icmp_ne (tgt := 62) hx hb dX12_zoneByNoise_57 (by decide) (fun c16 => ?_) (fun c16 => ?_)
        · have hf := (if_neg c16).symm.trans hf
          obtain ⟨x17, ex17, hf⟩ := mlet_e hf
          refine lv_iinc (v := x17) (lv' := [(2, .int x17), (0, .ref (w.1 12 47)), (1, .int a1), (3, .int x15)]) hx hb dX12_zoneByNoise_62 hl (k := 2) rfl (by rw [ex17]; rfl) (by decide) rfl (fun ls hl => ?_)
          refine lv_goto (tgt := 7) hx hb dX12_zoneByNoise_65 (by decide) ?_
          exact ih7 x17 kk H _ _ hf hI (lv_sub hl [1, 2, 0] rfl) hk
        · have hf := (if_pos c16).symm.trans hf
          refine lv_iload_n hx hb dX12_zoneByNoise_60 rfl (lv_at hl 2 rfl) ?_
          exact m_iretf hx hb hr hlk hI hf dX12_zoneByNoise_61
  refine hL7 1000 (0 : Int32) _ _ _ _ hf hI (lv_sub hl [1, 2, 0] rfl) ?_
  intro _u H locs ls hf hI hl
  try dsimp only at hf
  refine lv_aload_n hx hb dX12_zoneByNoise_68 rfl (lv_at hl 0 rfl) ?_
  refine lv_iconst (v := 1) hx hb dX12_zoneByNoise_69 (by decide) ?_
  obtain ⟨r18, M19, hc, hf⟩ := mbnd_e hf
  refine m_callV (As := [.int (1 : Int32)]) (rest := []) hx hb hml hown hI (c_X12_fails l w H.size (1 : Int32) M1 _ _ hc) (kb_X12_fails hI.T (q1532 hI.T) (Nat.le_of_ble_eq_true rfl) (Nat.le_of_ble_eq_true rfl)) (q1534 hI.T) (sel_X12_fails hI.T) (m_recv (g := 12) (i := 47) hI (mokX (by decide) (by decide)) rfl rfl) rfl hl.1 (Nat.le_of_ble_eq_true rfl) dX12_zoneByNoise_70 ⟨Nat.le_of_ble_eq_true rfl, Nat.le_of_ble_eq_true rfl⟩ (fun H locs hI => ?_)
  exact m_iretf hx hb hr hlk hI hf dX12_zoneByNoise_73
abbrev rmX12_alarmsOf : Room := { frames := 3, cells := 0, slots := 0, locals := 63 }
theorem kb_X12_alarmsOf {R : Room} {s : State} {args : Array Value} {own : String} {idx : Nat} (hT : mT s) (hlink : (Cond.methodLink own idx yX12_alarmsOf).before args s = true) (h1 : rmX12_alarmsOf.frames + 1 ≤ R.frames) (h2 : 8 + (2 + 11) + rmX12_alarmsOf.locals ≤ R.locals) : CallB R s args own idx yX12_alarmsOf cX12_alarmsOf 2 (some .int) [Cond.code yX12_alarmsOf cX12_alarmsOf 2 (some .int)] rmX12_alarmsOf 0 0 1 := m_callB hT kc_X12_alarmsOf ki_X12_alarmsOf hlink (by decide +kernel) ⟨rfl, rfl, h1, h2⟩
set_option maxHeartbeats 4000000 in
set_option maxRecDepth 100000 in
theorem c_X12_alarmsOf (l : Launch) (w : WD) (sz : Nat) (a1 : Int32) (M : Mem) (r : Int32) (M9 : Mem) (hf : f_X12_alarmsOf a1 M = some (r, M9)) : mMet l yX12_alarmsOf cX12_alarmsOf 2 (some .int) rmX12_alarmsOf w sz M [.ref (w.1 12 47), .int a1] (some (.int r)) M9 := by
  refine m_of (by decide) (Nat.le_of_ble_eq_true rfl) ?_
  intro p e s m args below meth c hx hb hr hml hown hlk hI ls hl
  have hl : lv_has ls 2 [(0, .ref (w.1 12 47)), (1, .int a1)] := hl
  unfold f_X12_alarmsOf at hf
  refine lv_aload_n hx hb dX12_alarmsOf_0 rfl (lv_at hl 0 rfl) ?_
  refine lv_iload_n hx hb dX12_alarmsOf_1 rfl (lv_at hl 1 rfl) ?_
  obtain ⟨r1, M2, hc, hf⟩ := mbnd_e hf
  refine m_callV (As := [.int a1]) (rest := []) hx hb hml hown hI (c_X12_isAsked l w s.heap.size a1 M _ _ hc) (kb_X12_isAsked hI.T (q1775 hI.T) (Nat.le_of_ble_eq_true rfl) (Nat.le_of_ble_eq_true rfl)) (q1777 hI.T) (sel_X12_isAsked hI.T) (m_recv (g := 12) (i := 47) hI (mokX (by decide) (by decide)) rfl rfl) rfl hl.1 (Nat.le_of_ble_eq_true rfl) dX12_alarmsOf_2 ⟨Nat.le_of_ble_eq_true rfl, Nat.le_of_ble_eq_true rfl⟩ (fun H locs hI => ?_)
  refine lv_if_eq (tgt := 20) hx hb dX12_alarmsOf_5 (by decide) (fun c3 => ?_) (fun c3 => ?_)
  · have hf := (if_pos c3).symm.trans hf
    refine lv_iconst (v := 0) hx hb dX12_alarmsOf_20 (by decide) ?_
    exact m_iretf hx hb hr hlk hI hf dX12_alarmsOf_21
  · have hf := (if_neg c3).symm.trans hf
    refine lv_aload_n hx hb dX12_alarmsOf_8 rfl (lv_at hl 0 rfl) ?_
    refine m_get (g := 12) (i := 47) (ci := 10) (k := 1) (v := .ref (w.1 12 48)) hx hb hI hown (mokX (by decide) (by decide)) rfl rfl (by decide) lyX12 (q1427 hI.T) rfl dX12_alarmsOf_9 ?_
    refine lv_bipush (v := 39) hx hb dX12_alarmsOf_12 (by decide) ?_
    refine lv_iload_n hx hb dX12_alarmsOf_14 rfl (lv_at hl 1 rfl) ?_
    refine lv_iadd hx hb dX12_alarmsOf_15 ?_
    obtain ⟨hi, hf⟩ := mix_e hf
    refine m_iald (g := 12) (i := 48) hx hb hI (mokX (by decide) (by decide)) rfl hi dX12_alarmsOf_16 ?_
    refine lv_goto (tgt := 21) hx hb dX12_alarmsOf_17 (by decide) ?_
    exact m_iretf hx hb hr hlk hI hf dX12_alarmsOf_21
abbrev rmX12_alarmCount : Room := { frames := 0, cells := 0, slots := 0, locals := 0 }
theorem kb_X12_alarmCount {R : Room} {s : State} {args : Array Value} {own : String} {idx : Nat} (hT : mT s) (hlink : (Cond.methodLink own idx yX12_alarmCount).before args s = true) (h1 : rmX12_alarmCount.frames + 1 ≤ R.frames) (h2 : 8 + (1 + 11) + rmX12_alarmCount.locals ≤ R.locals) : CallB R s args own idx yX12_alarmCount cX12_alarmCount 1 (some .int) [Cond.code yX12_alarmCount cX12_alarmCount 1 (some .int)] rmX12_alarmCount 0 0 0 := m_callB hT kc_X12_alarmCount ki_X12_alarmCount hlink (by decide +kernel) ⟨rfl, rfl, h1, h2⟩
set_option maxHeartbeats 4000000 in
set_option maxRecDepth 100000 in
theorem c_X12_alarmCount (l : Launch) (w : WD) (sz : Nat)  (M : Mem) (r : Int32) (M9 : Mem) (hf : f_X12_alarmCount  M = some (r, M9)) : mMet l yX12_alarmCount cX12_alarmCount 1 (some .int) rmX12_alarmCount w sz M [.ref (w.1 12 47)] (some (.int r)) M9 := by
  refine m_of (by decide) (Nat.le_of_ble_eq_true rfl) ?_
  intro p e s m args below meth c hx hb hr hml hown hlk hI ls hl
  have hl : lv_has ls 1 [(0, .ref (w.1 12 47))] := hl
  unfold f_X12_alarmCount at hf
  refine lv_aload_n hx hb dX12_alarmCount_0 rfl (lv_at hl 0 rfl) ?_
  refine lv_iconst (v := 0) hx hb dX12_alarmCount_1 (by decide) ?_
  obtain ⟨M1, eM1, hf⟩ := mlet_e hf
  refine m_put (g := 12) (i := 47) (ci := 10) (k := 0) (ty := .int) (M1 := M1) hx hb hI hown (mokX (by decide) (by decide)) rfl rfl (by decide) lyX12 tyX12 tyX12_ok nmX12 (q1426 hI.T) rfl rfl rfl rfl (Nat.le_of_ble_eq_true rfl) rfl eM1 dX12_alarmCount_2 (fun H locs hI => ?_)
  refine lv_aload_n hx hb dX12_alarmCount_5 rfl (lv_at hl 0 rfl) ?_
  refine m_get (g := 12) (i := 47) (ci := 10) (k := 1) (v := .ref (w.1 12 48)) hx hb hI hown (mokX (by decide) (by decide)) rfl rfl (by decide) lyX12 (q1427 hI.T) rfl dX12_alarmCount_6 ?_
  refine lv_bipush (v := 13) hx hb dX12_alarmCount_9 (by decide) ?_
  obtain ⟨hi, hf⟩ := mix_e hf
  refine m_iald (g := 12) (i := 48) hx hb hI (mokX (by decide) (by decide)) rfl hi dX12_alarmCount_11 ?_
  exact m_iretf hx hb hr hlk hI hf dX12_alarmCount_12
abbrev rmX12_openingCount : Room := { frames := 0, cells := 0, slots := 0, locals := 0 }
theorem kb_X12_openingCount {R : Room} {s : State} {args : Array Value} {own : String} {idx : Nat} (hT : mT s) (hlink : (Cond.methodLink own idx yX12_openingCount).before args s = true) (h1 : rmX12_openingCount.frames + 1 ≤ R.frames) (h2 : 8 + (1 + 11) + rmX12_openingCount.locals ≤ R.locals) : CallB R s args own idx yX12_openingCount cX12_openingCount 1 (some .int) [Cond.code yX12_openingCount cX12_openingCount 1 (some .int)] rmX12_openingCount 0 0 0 := m_callB hT kc_X12_openingCount ki_X12_openingCount hlink (by decide +kernel) ⟨rfl, rfl, h1, h2⟩
set_option maxHeartbeats 4000000 in
set_option maxRecDepth 100000 in
theorem c_X12_openingCount (l : Launch) (w : WD) (sz : Nat)  (M : Mem) (r : Int32) (M9 : Mem) (hf : f_X12_openingCount  M = some (r, M9)) : mMet l yX12_openingCount cX12_openingCount 1 (some .int) rmX12_openingCount w sz M [.ref (w.1 12 47)] (some (.int r)) M9 := by
  refine m_of (by decide) (Nat.le_of_ble_eq_true rfl) ?_
  intro p e s m args below meth c hx hb hr hml hown hlk hI ls hl
  have hl : lv_has ls 1 [(0, .ref (w.1 12 47))] := hl
  unfold f_X12_openingCount at hf
  refine lv_aload_n hx hb dX12_openingCount_0 rfl (lv_at hl 0 rfl) ?_
  refine lv_iconst (v := 0) hx hb dX12_openingCount_1 (by decide) ?_
  obtain ⟨M1, eM1, hf⟩ := mlet_e hf
  refine m_put (g := 12) (i := 47) (ci := 10) (k := 0) (ty := .int) (M1 := M1) hx hb hI hown (mokX (by decide) (by decide)) rfl rfl (by decide) lyX12 tyX12 tyX12_ok nmX12 (q1426 hI.T) rfl rfl rfl rfl (Nat.le_of_ble_eq_true rfl) rfl eM1 dX12_openingCount_2 (fun H locs hI => ?_)
  refine lv_aload_n hx hb dX12_openingCount_5 rfl (lv_at hl 0 rfl) ?_
  refine m_get (g := 12) (i := 47) (ci := 10) (k := 1) (v := .ref (w.1 12 48)) hx hb hI hown (mokX (by decide) (by decide)) rfl rfl (by decide) lyX12 (q1427 hI.T) rfl dX12_openingCount_6 ?_
  refine lv_bipush (v := 12) hx hb dX12_openingCount_9 (by decide) ?_
  obtain ⟨hi, hf⟩ := mix_e hf
  refine m_iald (g := 12) (i := 48) hx hb hI (mokX (by decide) (by decide)) rfl hi dX12_openingCount_11 ?_
  exact m_iretf hx hb hr hlk hI hf dX12_openingCount_12
abbrev rmX12_logCount : Room := { frames := 0, cells := 0, slots := 0, locals := 0 }
theorem kb_X12_logCount {R : Room} {s : State} {args : Array Value} {own : String} {idx : Nat} (hT : mT s) (hlink : (Cond.methodLink own idx yX12_logCount).before args s = true) (h1 : rmX12_logCount.frames + 1 ≤ R.frames) (h2 : 8 + (1 + 11) + rmX12_logCount.locals ≤ R.locals) : CallB R s args own idx yX12_logCount cX12_logCount 1 (some .int) [Cond.code yX12_logCount cX12_logCount 1 (some .int)] rmX12_logCount 0 0 0 := m_callB hT kc_X12_logCount ki_X12_logCount hlink (by decide +kernel) ⟨rfl, rfl, h1, h2⟩
set_option maxHeartbeats 4000000 in
set_option maxRecDepth 100000 in
theorem c_X12_logCount (l : Launch) (w : WD) (sz : Nat)  (M : Mem) (r : Int32) (M9 : Mem) (hf : f_X12_logCount  M = some (r, M9)) : mMet l yX12_logCount cX12_logCount 1 (some .int) rmX12_logCount w sz M [.ref (w.1 12 47)] (some (.int r)) M9 := by
  refine m_of (by decide) (Nat.le_of_ble_eq_true rfl) ?_
  intro p e s m args below meth c hx hb hr hml hown hlk hI ls hl
  have hl : lv_has ls 1 [(0, .ref (w.1 12 47))] := hl
  unfold f_X12_logCount at hf
  refine lv_aload_n hx hb dX12_logCount_0 rfl (lv_at hl 0 rfl) ?_
  refine lv_iconst (v := 0) hx hb dX12_logCount_1 (by decide) ?_
  obtain ⟨M1, eM1, hf⟩ := mlet_e hf
  refine m_put (g := 12) (i := 47) (ci := 10) (k := 0) (ty := .int) (M1 := M1) hx hb hI hown (mokX (by decide) (by decide)) rfl rfl (by decide) lyX12 tyX12 tyX12_ok nmX12 (q1426 hI.T) rfl rfl rfl rfl (Nat.le_of_ble_eq_true rfl) rfl eM1 dX12_logCount_2 (fun H locs hI => ?_)
  refine lv_aload_n hx hb dX12_logCount_5 rfl (lv_at hl 0 rfl) ?_
  refine m_get (g := 12) (i := 47) (ci := 10) (k := 1) (v := .ref (w.1 12 48)) hx hb hI hown (mokX (by decide) (by decide)) rfl rfl (by decide) lyX12 (q1427 hI.T) rfl dX12_logCount_6 ?_
  refine lv_bipush (v := 14) hx hb dX12_logCount_9 (by decide) ?_
  obtain ⟨hi, hf⟩ := mix_e hf
  refine m_iald (g := 12) (i := 48) hx hb hI (mokX (by decide) (by decide)) rfl hi dX12_logCount_11 ?_
  exact m_iretf hx hb hr hlk hI hf dX12_logCount_12
abbrev rmX12_entry : Room := { frames := 1, cells := 0, slots := 0, locals := 22 }
theorem kb_X12_entry {R : Room} {s : State} {args : Array Value} {own : String} {idx : Nat} (hT : mT s) (hlink : (Cond.methodLink own idx yX12_entry).before args s = true) (h1 : rmX12_entry.frames + 1 ≤ R.frames) (h2 : 8 + (3 + 11) + rmX12_entry.locals ≤ R.locals) : CallB R s args own idx yX12_entry cX12_entry 3 (some .int) [Cond.code yX12_entry cX12_entry 3 (some .int)] rmX12_entry 0 0 2 := m_callB hT kc_X12_entry ki_X12_entry hlink (by decide +kernel) ⟨rfl, rfl, h1, h2⟩
set_option maxHeartbeats 4000000 in
set_option maxRecDepth 100000 in
theorem c_X12_entry (l : Launch) (w : WD) (sz : Nat) (a1 : Int32) (a2 : Int32) (M : Mem) (r : Int32) (M9 : Mem) (hf : f_X12_entry a1 a2 M = some (r, M9)) : mMet l yX12_entry cX12_entry 3 (some .int) rmX12_entry w sz M [.ref (w.1 12 47), .int a1, .int a2] (some (.int r)) M9 := by
  refine m_of (by decide) (Nat.le_of_ble_eq_true rfl) ?_
  intro p e s m args below meth c hx hb hr hml hown hlk hI ls hl
  have hl : lv_has ls 3 [(0, .ref (w.1 12 47)), (1, .int a1), (2, .int a2)] := hl
  unfold f_X12_entry at hf
  refine lv_aload_n hx hb dX12_entry_0 rfl (lv_at hl 0 rfl) ?_
  refine lv_iload_n hx hb dX12_entry_1 rfl (lv_at hl 1 rfl) ?_
  refine lv_iconst (v := 0) hx hb dX12_entry_2 (by decide) ?_
  refine lv_aload_n hx hb dX12_entry_3 rfl (lv_at hl 0 rfl) ?_
  refine m_get (g := 12) (i := 47) (ci := 10) (k := 1) (v := .ref (w.1 12 48)) hx hb hI hown (mokX (by decide) (by decide)) rfl rfl (by decide) lyX12 (q1427 hI.T) rfl dX12_entry_4 ?_
  refine lv_bipush (v := 14) hx hb dX12_entry_7 (by decide) ?_
  obtain ⟨hi, hf⟩ := mix_e hf
  refine m_iald (g := 12) (i := 48) hx hb hI (mokX (by decide) (by decide)) rfl hi dX12_entry_9 ?_
  refine lv_iconst (v := 1) hx hb dX12_entry_10 (by decide) ?_
  refine lv_isub hx hb dX12_entry_11 ?_
  obtain ⟨r1, hc, hf⟩ := mbp_e hf
  refine m_callS (As := [.int a1, .int (0 : Int32), .int ((M 12 48 (14 : Int32).toNatClampNeg) - (1 : Int32))]) (rest := [.ref (w.1 12 47)]) hx hb hml hown hI (c_X12_in l w s.heap.size a1 (0 : Int32) ((M 12 48 (14 : Int32).toNatClampNeg) - (1 : Int32)) M _ hc) (kb_X12_in hI.T (q1544 hI.T) (Nat.le_of_ble_eq_true rfl) (Nat.le_of_ble_eq_true rfl)) (q1545 hI.T) rfl hl.1 (Nat.le_of_ble_eq_true rfl) dX12_entry_12 ⟨Nat.le_of_ble_eq_true rfl, Nat.le_of_ble_eq_true rfl⟩ (fun H locs hI => ?_)
  obtain ⟨k23_4, ek23_4, hf⟩ := mlet_e hf
  have hj23_4 : ∀ (x3 : Int32) (H : Heap) (locs : List Loc) (ls : Array Slot), k23_4 x3 = some (r, M9) → mI w s (mA w s.heap.size) H locs M → lv_has ls 3 [(0, .ref (w.1 12 47)), (1, .int a1), (2, .int a2)] → W p l e rmX12_entry s m args below meth c H locs 0 0 (MQ below (mQ w s.heap.size (some (.int r)) M9) args s 0 0 (mA w s.heap.size)) (F0 m 23 ls [.int x3, .ref (w.1 12 47)]) := by
    intro x3 H locs ls hf hI hl
    rw [ek23_4] at hf
    try dsimp only at hf
    obtain ⟨M5, eM5, hf⟩ := mlet_e hf
    refine m_put (g := 12) (i := 47) (ci := 10) (k := 0) (ty := .int) (M1 := M5) hx hb hI hown (mokX (by decide) (by decide)) rfl rfl (by decide) lyX12 tyX12 tyX12_ok nmX12 (q1426 hI.T) rfl rfl rfl rfl (Nat.le_of_ble_eq_true rfl) rfl eM5 dX12_entry_23 (fun H locs hI => ?_)
    refine lv_aload_n hx hb dX12_entry_26 rfl (lv_at hl 0 rfl) ?_
    refine m_get (g := 12) (i := 47) (ci := 10) (k := 0) (v := .int (M5 12 47 0)) hx hb hI hown (mokX (by decide) (by decide)) rfl rfl (by decide) lyX12 (q1426 hI.T) rfl dX12_entry_27 ?_
    refine lv_if_le (tgt := 37) hx hb dX12_entry_30 (by decide) (fun c6 => ?_) (fun c6 => ?_)
    · have hf := (if_pos c6).symm.trans hf
      refine lv_aload_n hx hb dX12_entry_37 rfl (lv_at hl 0 rfl) ?_
      refine m_get (g := 12) (i := 47) (ci := 10) (k := 1) (v := .ref (w.1 12 48)) hx hb hI hown (mokX (by decide) (by decide)) rfl rfl (by decide) lyX12 (q1427 hI.T) rfl dX12_entry_38 ?_
      refine lv_bipush (v := 56) hx hb dX12_entry_41 (by decide) ?_
      refine lv_iconst (v := 3) hx hb dX12_entry_43 (by decide) ?_
      refine lv_iload_n hx hb dX12_entry_44 rfl (lv_at hl 1 rfl) ?_
      refine lv_imul hx hb dX12_entry_45 ?_
      refine lv_iadd hx hb dX12_entry_46 ?_
      refine lv_iload_n hx hb dX12_entry_47 rfl (lv_at hl 2 rfl) ?_
      refine lv_iadd hx hb dX12_entry_48 ?_
      obtain ⟨hi, hf⟩ := mix_e hf
      refine m_iald (g := 12) (i := 48) hx hb hI (mokX (by decide) (by decide)) rfl hi dX12_entry_49 ?_
      exact m_iretf hx hb hr hlk hI hf dX12_entry_50
    · have hf := (if_neg c6).symm.trans hf
      refine lv_iconst (v := 0) hx hb dX12_entry_33 (by decide) ?_
      refine lv_goto (tgt := 50) hx hb dX12_entry_34 (by decide) ?_
      exact m_iretf hx hb hr hlk hI hf dX12_entry_50
  refine lv_if_eq (tgt := 22) hx hb dX12_entry_15 (by decide) (fun c2 => ?_) (fun c2 => ?_)
  · have hf := (if_pos c2).symm.trans hf
    refine lv_iconst (v := 1) hx hb dX12_entry_22 (by decide) ?_
    exact hj23_4 (1 : Int32) H _ _ hf hI (lv_sub hl [0, 1, 2] rfl)
  · have hf := (if_neg c2).symm.trans hf
    refine lv_iconst (v := 0) hx hb dX12_entry_18 (by decide) ?_
    refine lv_goto (tgt := 23) hx hb dX12_entry_19 (by decide) ?_
    exact hj23_4 (0 : Int32) H _ _ hf hI (lv_sub hl [0, 1, 2] rfl)
abbrev rmX12_logHour : Room := { frames := 2, cells := 0, slots := 0, locals := 44 }
theorem kb_X12_logHour {R : Room} {s : State} {args : Array Value} {own : String} {idx : Nat} (hT : mT s) (hlink : (Cond.methodLink own idx yX12_logHour).before args s = true) (h1 : rmX12_logHour.frames + 1 ≤ R.frames) (h2 : 8 + (2 + 11) + rmX12_logHour.locals ≤ R.locals) : CallB R s args own idx yX12_logHour cX12_logHour 2 (some .int) [Cond.code yX12_logHour cX12_logHour 2 (some .int)] rmX12_logHour 0 0 1 := m_callB hT kc_X12_logHour ki_X12_logHour hlink (by decide +kernel) ⟨rfl, rfl, h1, h2⟩
set_option maxHeartbeats 4000000 in
set_option maxRecDepth 100000 in
theorem c_X12_logHour (l : Launch) (w : WD) (sz : Nat) (a1 : Int32) (M : Mem) (r : Int32) (M9 : Mem) (hf : f_X12_logHour a1 M = some (r, M9)) : mMet l yX12_logHour cX12_logHour 2 (some .int) rmX12_logHour w sz M [.ref (w.1 12 47), .int a1] (some (.int r)) M9 := by
  refine m_of (by decide) (Nat.le_of_ble_eq_true rfl) ?_
  intro p e s m args below meth c hx hb hr hml hown hlk hI ls hl
  have hl : lv_has ls 2 [(0, .ref (w.1 12 47)), (1, .int a1)] := hl
  unfold f_X12_logHour at hf
  refine lv_aload_n hx hb dX12_logHour_0 rfl (lv_at hl 0 rfl) ?_
  refine lv_iload_n hx hb dX12_logHour_1 rfl (lv_at hl 1 rfl) ?_
  refine lv_iconst (v := 0) hx hb dX12_logHour_2 (by decide) ?_
  obtain ⟨r1, M2, hc, hf⟩ := mbnd_e hf
  refine m_callV (As := [.int a1, .int (0 : Int32)]) (rest := []) hx hb hml hown hI (c_X12_entry l w s.heap.size a1 (0 : Int32) M _ _ hc) (kb_X12_entry hI.T (q1832 hI.T) (Nat.le_of_ble_eq_true rfl) (Nat.le_of_ble_eq_true rfl)) (q1834 hI.T) (sel_X12_entry hI.T) (m_recv (g := 12) (i := 47) hI (mokX (by decide) (by decide)) rfl rfl) rfl hl.1 (Nat.le_of_ble_eq_true rfl) dX12_logHour_3 ⟨Nat.le_of_ble_eq_true rfl, Nat.le_of_ble_eq_true rfl⟩ (fun H locs hI => ?_)
  exact m_iretf hx hb hr hlk hI hf dX12_logHour_6
abbrev rmX12_logKind : Room := { frames := 2, cells := 0, slots := 0, locals := 44 }
theorem kb_X12_logKind {R : Room} {s : State} {args : Array Value} {own : String} {idx : Nat} (hT : mT s) (hlink : (Cond.methodLink own idx yX12_logKind).before args s = true) (h1 : rmX12_logKind.frames + 1 ≤ R.frames) (h2 : 8 + (2 + 11) + rmX12_logKind.locals ≤ R.locals) : CallB R s args own idx yX12_logKind cX12_logKind 2 (some .char) [Cond.code yX12_logKind cX12_logKind 2 (some .char)] rmX12_logKind 0 0 1 := m_callB hT kc_X12_logKind ki_X12_logKind hlink (by decide +kernel) ⟨rfl, rfl, h1, h2⟩
set_option maxHeartbeats 4000000 in
set_option maxRecDepth 100000 in
theorem c_X12_logKind (l : Launch) (w : WD) (sz : Nat) (a1 : Int32) (M : Mem) (r : Int32) (M9 : Mem) (hf : f_X12_logKind a1 M = some (r, M9)) : mMet l yX12_logKind cX12_logKind 2 (some .char) rmX12_logKind w sz M [.ref (w.1 12 47), .int a1] (some (.int r)) M9 := by
  refine m_of (by decide) (Nat.le_of_ble_eq_true rfl) ?_
  intro p e s m args below meth c hx hb hr hml hown hlk hI ls hl
  have hl : lv_has ls 2 [(0, .ref (w.1 12 47)), (1, .int a1)] := hl
  unfold f_X12_logKind at hf
  refine lv_aload_n hx hb dX12_logKind_0 rfl (lv_at hl 0 rfl) ?_
  refine lv_iload_n hx hb dX12_logKind_1 rfl (lv_at hl 1 rfl) ?_
  refine lv_iconst (v := 1) hx hb dX12_logKind_2 (by decide) ?_
  obtain ⟨r1, M2, hc, hf⟩ := mbnd_e hf
  refine m_callV (As := [.int a1, .int (1 : Int32)]) (rest := []) hx hb hml hown hI (c_X12_entry l w s.heap.size a1 (1 : Int32) M _ _ hc) (kb_X12_entry hI.T (q1832 hI.T) (Nat.le_of_ble_eq_true rfl) (Nat.le_of_ble_eq_true rfl)) (q1834 hI.T) (sel_X12_entry hI.T) (m_recv (g := 12) (i := 47) hI (mokX (by decide) (by decide)) rfl rfl) rfl hl.1 (Nat.le_of_ble_eq_true rfl) dX12_logKind_3 ⟨Nat.le_of_ble_eq_true rfl, Nat.le_of_ble_eq_true rfl⟩ (fun H locs hI => ?_)
  refine lv_i2c hx hb dX12_logKind_6 rfl ?_
  obtain ⟨hz, hf⟩ := mnc_e hf
  exact m_zretf hx hb hr hlk hI hz hf dX12_logKind_7
abbrev rmX12_logDetail : Room := { frames := 2, cells := 0, slots := 0, locals := 44 }
theorem kb_X12_logDetail {R : Room} {s : State} {args : Array Value} {own : String} {idx : Nat} (hT : mT s) (hlink : (Cond.methodLink own idx yX12_logDetail).before args s = true) (h1 : rmX12_logDetail.frames + 1 ≤ R.frames) (h2 : 8 + (2 + 11) + rmX12_logDetail.locals ≤ R.locals) : CallB R s args own idx yX12_logDetail cX12_logDetail 2 (some .int) [Cond.code yX12_logDetail cX12_logDetail 2 (some .int)] rmX12_logDetail 0 0 1 := m_callB hT kc_X12_logDetail ki_X12_logDetail hlink (by decide +kernel) ⟨rfl, rfl, h1, h2⟩
set_option maxHeartbeats 4000000 in
set_option maxRecDepth 100000 in
theorem c_X12_logDetail (l : Launch) (w : WD) (sz : Nat) (a1 : Int32) (M : Mem) (r : Int32) (M9 : Mem) (hf : f_X12_logDetail a1 M = some (r, M9)) : mMet l yX12_logDetail cX12_logDetail 2 (some .int) rmX12_logDetail w sz M [.ref (w.1 12 47), .int a1] (some (.int r)) M9 := by
  refine m_of (by decide) (Nat.le_of_ble_eq_true rfl) ?_
  intro p e s m args below meth c hx hb hr hml hown hlk hI ls hl
  have hl : lv_has ls 2 [(0, .ref (w.1 12 47)), (1, .int a1)] := hl
  unfold f_X12_logDetail at hf
  refine lv_aload_n hx hb dX12_logDetail_0 rfl (lv_at hl 0 rfl) ?_
  refine lv_iload_n hx hb dX12_logDetail_1 rfl (lv_at hl 1 rfl) ?_
  refine lv_iconst (v := 2) hx hb dX12_logDetail_2 (by decide) ?_
  obtain ⟨r1, M2, hc, hf⟩ := mbnd_e hf
  refine m_callV (As := [.int a1, .int (2 : Int32)]) (rest := []) hx hb hml hown hI (c_X12_entry l w s.heap.size a1 (2 : Int32) M _ _ hc) (kb_X12_entry hI.T (q1832 hI.T) (Nat.le_of_ble_eq_true rfl) (Nat.le_of_ble_eq_true rfl)) (q1834 hI.T) (sel_X12_entry hI.T) (m_recv (g := 12) (i := 47) hI (mokX (by decide) (by decide)) rfl rfl) rfl hl.1 (Nat.le_of_ble_eq_true rfl) dX12_logDetail_3 ⟨Nat.le_of_ble_eq_true rfl, Nat.le_of_ble_eq_true rfl⟩ (fun H locs hI => ?_)
  exact m_iretf hx hb hr hlk hI hf dX12_logDetail_6
abbrev rmX12_meanNoise : Room := { frames := 0, cells := 0, slots := 0, locals := 0 }
theorem kb_X12_meanNoise {R : Room} {s : State} {args : Array Value} {own : String} {idx : Nat} (hT : mT s) (hlink : (Cond.methodLink own idx yX12_meanNoise).before args s = true) (h1 : rmX12_meanNoise.frames + 1 ≤ R.frames) (h2 : 8 + (3 + 11) + rmX12_meanNoise.locals ≤ R.locals) : CallB R s args own idx yX12_meanNoise cX12_meanNoise 3 (some .double) [Cond.code yX12_meanNoise cX12_meanNoise 3 (some .double)] rmX12_meanNoise 0 0 0 := m_callB hT kc_X12_meanNoise ki_X12_meanNoise hlink (by decide +kernel) ⟨rfl, rfl, h1, h2⟩
set_option maxHeartbeats 4000000 in
set_option maxRecDepth 100000 in
theorem c_X12_meanNoise (l : Launch) (w : WD) (sz : Nat)  (M : Mem) (r : UInt64) (M9 : Mem) (hf : f_X12_meanNoise  M = some (r, M9)) : mMet l yX12_meanNoise cX12_meanNoise 3 (some .double) rmX12_meanNoise w sz M [.ref (w.1 12 47)] (some (.double r)) M9 := by
  refine m_of (by decide) (Nat.le_of_ble_eq_true rfl) ?_
  intro p e s m args below meth c hx hb hr hml hown hlk hI ls hl
  have hl : lv_has ls 3 [(0, .ref (w.1 12 47))] := hl
  unfold f_X12_meanNoise at hf
  refine lv_aload_n hx hb dX12_meanNoise_0 rfl (lv_at hl 0 rfl) ?_
  refine lv_iconst (v := 0) hx hb dX12_meanNoise_1 (by decide) ?_
  obtain ⟨M1, eM1, hf⟩ := mlet_e hf
  refine m_put (g := 12) (i := 47) (ci := 10) (k := 0) (ty := .int) (M1 := M1) hx hb hI hown (mokX (by decide) (by decide)) rfl rfl (by decide) lyX12 tyX12 tyX12_ok nmX12 (q1426 hI.T) rfl rfl rfl rfl (Nat.le_of_ble_eq_true rfl) rfl eM1 dX12_meanNoise_2 (fun H locs hI => ?_)
  refine lv_iconst (v := 0) hx hb dX12_meanNoise_5 (by decide) ?_
  refine lv_istore_n (lv' := [(1, .int (0 : Int32)), (0, .ref (w.1 12 47))]) hx hb dX12_meanNoise_6 rfl hl (by decide) rfl (fun ls hl => ?_)
  refine lv_iconst (v := 0) hx hb dX12_meanNoise_7 (by decide) ?_
  refine lv_istore_n (lv' := [(2, .int (0 : Int32)), (1, .int (0 : Int32)), (0, .ref (w.1 12 47))]) hx hb dX12_meanNoise_8 rfl hl (by decide) rfl (fun ls hl => ?_)
  have hL9 : ∀ (n : Nat) (x2 : Int32) (x3 : Int32) (kk : Int32 → Option (UInt64 × Mem)) (H : Heap) (locs : List Loc) (ls : Array Slot), f_X12_meanNoise_L9 M1 n x2 x3 kk = some (r, M9) → mI w s (mA w s.heap.size) H locs M1 → lv_has ls 3 [(0, .ref (w.1 12 47)), (1, .int x2), (2, .int x3)] → (∀ (x2 : Int32) (H : Heap) (locs : List Loc) (ls : Array Slot), kk x2 = some (r, M9) → mI w s (mA w s.heap.size) H locs M1 → lv_has ls 3 [(1, .int x2)] → W p l e rmX12_meanNoise s m args below meth c H locs 0 0 (MQ below (mQ w s.heap.size (some (.double r)) M9) args s 0 0 (mA w s.heap.size)) (F0 m 33 ls [])) → W p l e rmX12_meanNoise s m args below meth c H locs 0 0 (MQ below (mQ w s.heap.size (some (.double r)) M9) args s 0 0 (mA w s.heap.size)) (F0 m 9 ls []) := by
    intro n
    induction n with
    | zero => intro x2 x3 kk H locs ls hf hI hl hk; rw [f_X12_meanNoise_L9.eq_1] at hf; cases hf
    | succ n ih9 =>
      intro x2 x3 kk H locs ls hf hI hl hk
      rw [f_X12_meanNoise_L9.eq_2] at hf
      refine lv_iload_n hx hb dX12_meanNoise_9 rfl (lv_at hl 2 rfl) ?_
      refine lv_bipush (v := 8) hx hb dX12_meanNoise_10 (by decide) ?_
      refine lv_icmp_ge (tgt := 33) hx hb dX12_meanNoise_12 (by decide) (fun c4 => ?_) (fun c4 => ?_)
      · have hf := (if_pos c4).symm.trans hf
        exact hk x2 H _ _ hf hI (lv_sub hl [1] rfl)
      · have hf := (if_neg c4).symm.trans hf
        refine lv_iload_n hx hb dX12_meanNoise_15 rfl (lv_at hl 1 rfl) ?_
        refine lv_aload_n hx hb dX12_meanNoise_16 rfl (lv_at hl 0 rfl) ?_
        refine m_get (g := 12) (i := 47) (ci := 10) (k := 1) (v := .ref (w.1 12 48)) hx hb hI hown (mokX (by decide) (by decide)) rfl rfl (by decide) lyX12 (q1427 hI.T) rfl dX12_meanNoise_17 ?_
        refine lv_bipush (v := 31) hx hb dX12_meanNoise_20 (by decide) ?_
        refine lv_iload_n hx hb dX12_meanNoise_22 rfl (lv_at hl 2 rfl) ?_
        refine lv_iadd hx hb dX12_meanNoise_23 ?_
        obtain ⟨hi, hf⟩ := mix_e hf
        refine m_iald (g := 12) (i := 48) hx hb hI (mokX (by decide) (by decide)) rfl hi dX12_meanNoise_24 ?_
        refine lv_iadd hx hb dX12_meanNoise_25 ?_
        refine lv_topi (fun x5 ex5 => ?_)
        have hf := mlet_s ex5 hf
        refine lv_istore_n (lv' := [(1, .int x5), (0, .ref (w.1 12 47)), (2, .int x3)]) hx hb dX12_meanNoise_26 rfl hl (by decide) rfl (fun ls hl => ?_)
        obtain ⟨x6, ex6, hf⟩ := mlet_e hf
        refine lv_iinc (v := x6) (lv' := [(2, .int x6), (1, .int x5), (0, .ref (w.1 12 47))]) hx hb dX12_meanNoise_27 hl (k := 2) rfl (by rw [ex6]; rfl) (by decide) rfl (fun ls hl => ?_)
        refine lv_goto (tgt := 9) hx hb dX12_meanNoise_30 (by decide) ?_
        exact ih9 x5 x6 kk H _ _ hf hI (lv_sub hl [2, 1, 0] rfl) hk
  refine hL9 1000 (0 : Int32) (0 : Int32) _ _ _ _ hf hI (lv_sub hl [2, 1, 0] rfl) ?_
  intro x7 H locs ls hf hI hl
  try dsimp only at hf
  refine lv_iload_n hx hb dX12_meanNoise_33 rfl (lv_at hl 0 rfl) ?_
  refine lv_i2d hx hb dX12_meanNoise_34 ?_
  refine lv_ldc2d hx hb hown (q1848 hI.T) dX12_meanNoise_35 ?_
  obtain ⟨hd, hf⟩ := mn64_e hf
  refine lv_ddiv hx hb dX12_meanNoise_38 hd ?_
  exact m_dretf hx hb hr hlk hI hf dX12_meanNoise_39
abbrev rmX12_alarmShare : Room := { frames := 2, cells := 0, slots := 0, locals := 42 }
theorem kb_X12_alarmShare {R : Room} {s : State} {args : Array Value} {own : String} {idx : Nat} (hT : mT s) (hlink : (Cond.methodLink own idx yX12_alarmShare).before args s = true) (h1 : rmX12_alarmShare.frames + 1 ≤ R.frames) (h2 : 8 + (2 + 11) + rmX12_alarmShare.locals ≤ R.locals) : CallB R s args own idx yX12_alarmShare cX12_alarmShare 2 (some .float) [Cond.code yX12_alarmShare cX12_alarmShare 2 (some .float)] rmX12_alarmShare 0 0 1 := m_callB hT kc_X12_alarmShare ki_X12_alarmShare hlink (by decide +kernel) ⟨rfl, rfl, h1, h2⟩
set_option maxHeartbeats 4000000 in
set_option maxRecDepth 100000 in
theorem c_X12_alarmShare (l : Launch) (w : WD) (sz : Nat) (a1 : Int32) (M : Mem) (r : UInt32) (M9 : Mem) (hf : f_X12_alarmShare a1 M = some (r, M9)) : mMet l yX12_alarmShare cX12_alarmShare 2 (some .float) rmX12_alarmShare w sz M [.ref (w.1 12 47), .int a1] (some (.float r)) M9 := by
  refine m_of (by decide) (Nat.le_of_ble_eq_true rfl) ?_
  intro p e s m args below meth c hx hb hr hml hown hlk hI ls hl
  have hl : lv_has ls 2 [(0, .ref (w.1 12 47)), (1, .int a1)] := hl
  unfold f_X12_alarmShare at hf
  refine lv_aload_n hx hb dX12_alarmShare_0 rfl (lv_at hl 0 rfl) ?_
  refine lv_iload_n hx hb dX12_alarmShare_1 rfl (lv_at hl 1 rfl) ?_
  obtain ⟨r1, hc, hf⟩ := mbp_e hf
  refine m_callS (As := [.int a1]) (rest := [.ref (w.1 12 47)]) hx hb hml hown hI (c_X12_isZone l w s.heap.size a1 M _ hc) (kb_X12_isZone hI.T (q1634 hI.T) (Nat.le_of_ble_eq_true rfl) (Nat.le_of_ble_eq_true rfl)) (q1635 hI.T) rfl hl.1 (Nat.le_of_ble_eq_true rfl) dX12_alarmShare_2 ⟨Nat.le_of_ble_eq_true rfl, Nat.le_of_ble_eq_true rfl⟩ (fun H locs hI => ?_)
  obtain ⟨k27_5, ek27_5, hf⟩ := mlet_e hf
  have hj27_5 : ∀ (x4 : Int32) (H : Heap) (locs : List Loc) (ls : Array Slot), k27_5 x4 = some (r, M9) → mI w s (mA w s.heap.size) H locs M → lv_has ls 2 [(0, .ref (w.1 12 47)), (1, .int a1)] → W p l e rmX12_alarmShare s m args below meth c H locs 0 0 (MQ below (mQ w s.heap.size (some (.float r)) M9) args s 0 0 (mA w s.heap.size)) (F0 m 27 ls [.int x4, .ref (w.1 12 47)]) := by
    intro x4 H locs ls hf hI hl
    rw [ek27_5] at hf
    try dsimp only at hf
    obtain ⟨M6, eM6, hf⟩ := mlet_e hf
    refine m_put (g := 12) (i := 47) (ci := 10) (k := 0) (ty := .int) (M1 := M6) hx hb hI hown (mokX (by decide) (by decide)) rfl rfl (by decide) lyX12 tyX12 tyX12_ok nmX12 (q1426 hI.T) rfl rfl rfl rfl (Nat.le_of_ble_eq_true rfl) rfl eM6 dX12_alarmShare_27 (fun H locs hI => ?_)
    refine lv_aload_n hx hb dX12_alarmShare_30 rfl (lv_at hl 0 rfl) ?_
    refine m_get (g := 12) (i := 47) (ci := 10) (k := 0) (v := .int (M6 12 47 0)) hx hb hI hown (mokX (by decide) (by decide)) rfl rfl (by decide) lyX12 (q1426 hI.T) rfl dX12_alarmShare_31 ?_
    refine lv_if_le (tgt := 41) hx hb dX12_alarmShare_34 (by decide) (fun c7 => ?_) (fun c7 => ?_)
    · have hf := (if_pos c7).symm.trans hf
      refine lv_aload_n hx hb dX12_alarmShare_41 rfl (lv_at hl 0 rfl) ?_
      refine m_get (g := 12) (i := 47) (ci := 10) (k := 1) (v := .ref (w.1 12 48)) hx hb hI hown (mokX (by decide) (by decide)) rfl rfl (by decide) lyX12 (q1427 hI.T) rfl dX12_alarmShare_42 ?_
      refine lv_bipush (v := 39) hx hb dX12_alarmShare_45 (by decide) ?_
      refine lv_iload_n hx hb dX12_alarmShare_47 rfl (lv_at hl 1 rfl) ?_
      refine lv_iadd hx hb dX12_alarmShare_48 ?_
      obtain ⟨hi, hf⟩ := mix_e hf
      refine m_iald (g := 12) (i := 48) hx hb hI (mokX (by decide) (by decide)) rfl hi dX12_alarmShare_49 ?_
      refine lv_i2f hx hb dX12_alarmShare_50 ?_
      refine lv_aload_n hx hb dX12_alarmShare_51 rfl (lv_at hl 0 rfl) ?_
      refine m_get (g := 12) (i := 47) (ci := 10) (k := 1) (v := .ref (w.1 12 48)) hx hb hI hown (mokX (by decide) (by decide)) rfl rfl (by decide) lyX12 (q1427 hI.T) rfl dX12_alarmShare_52 ?_
      refine lv_bipush (v := 13) hx hb dX12_alarmShare_55 (by decide) ?_
      obtain ⟨hi, hf⟩ := mix_e hf
      refine m_iald (g := 12) (i := 48) hx hb hI (mokX (by decide) (by decide)) rfl hi dX12_alarmShare_57 ?_
      refine lv_i2f hx hb dX12_alarmShare_58 ?_
      obtain ⟨hd, hf⟩ := mn32_e hf
      refine lv_fdiv hx hb dX12_alarmShare_59 hd ?_
      exact m_fretf hx hb hr hlk hI hf dX12_alarmShare_60
    · have hf := (if_neg c7).symm.trans hf
      refine lv_fconst0 hx hb dX12_alarmShare_37 ?_
      refine lv_goto (tgt := 60) hx hb dX12_alarmShare_38 (by decide) ?_
      exact m_fretf hx hb hr hlk hI hf dX12_alarmShare_60
  refine lv_if_ne (tgt := 12) hx hb dX12_alarmShare_5 (by decide) (fun c2 => ?_) (fun c2 => ?_)
  · have hf := (if_neg c2).symm.trans hf
    refine lv_aload_n hx hb dX12_alarmShare_12 rfl (lv_at hl 0 rfl) ?_
    refine m_get (g := 12) (i := 47) (ci := 10) (k := 1) (v := .ref (w.1 12 48)) hx hb hI hown (mokX (by decide) (by decide)) rfl rfl (by decide) lyX12 (q1427 hI.T) rfl dX12_alarmShare_13 ?_
    refine lv_bipush (v := 13) hx hb dX12_alarmShare_16 (by decide) ?_
    obtain ⟨hi, hf⟩ := mix_e hf
    refine m_iald (g := 12) (i := 48) hx hb hI (mokX (by decide) (by decide)) rfl hi dX12_alarmShare_18 ?_
    refine lv_if_ne (tgt := 26) hx hb dX12_alarmShare_19 (by decide) (fun c3 => ?_) (fun c3 => ?_)
    · have hf := (if_neg c3).symm.trans hf
      refine lv_iconst (v := 0) hx hb dX12_alarmShare_26 (by decide) ?_
      exact hj27_5 (0 : Int32) H _ _ hf hI (lv_sub hl [0, 1] rfl)
    · have hf := (if_pos c3).symm.trans hf
      refine lv_iconst (v := 2) hx hb dX12_alarmShare_22 (by decide) ?_
      refine lv_goto (tgt := 27) hx hb dX12_alarmShare_23 (by decide) ?_
      exact hj27_5 (2 : Int32) H _ _ hf hI (lv_sub hl [0, 1] rfl)
  · have hf := (if_pos c2).symm.trans hf
    refine lv_iconst (v := 1) hx hb dX12_alarmShare_8 (by decide) ?_
    refine lv_goto (tgt := 27) hx hb dX12_alarmShare_9 (by decide) ?_
    exact hj27_5 (1 : Int32) H _ _ hf hI (lv_sub hl [0, 1] rfl)
abbrev rmX12_isConsistent : Room := { frames := 0, cells := 0, slots := 0, locals := 0 }
theorem kb_X12_isConsistent {R : Room} {s : State} {args : Array Value} {own : String} {idx : Nat} (hT : mT s) (hlink : (Cond.methodLink own idx yX12_isConsistent).before args s = true) (h1 : rmX12_isConsistent.frames + 1 ≤ R.frames) (h2 : 8 + (1 + 11) + rmX12_isConsistent.locals ≤ R.locals) : CallB R s args own idx yX12_isConsistent cX12_isConsistent 1 (some .boolean) [Cond.code yX12_isConsistent cX12_isConsistent 1 (some .boolean)] rmX12_isConsistent 0 0 0 := m_callB hT kc_X12_isConsistent ki_X12_isConsistent hlink (by decide +kernel) ⟨rfl, rfl, h1, h2⟩
set_option maxHeartbeats 4000000 in
set_option maxRecDepth 100000 in
theorem c_X12_isConsistent (l : Launch) (w : WD) (sz : Nat)  (M : Mem) (r : Int32) (M9 : Mem) (hf : f_X12_isConsistent  M = some (r, M9)) : mMet l yX12_isConsistent cX12_isConsistent 1 (some .boolean) rmX12_isConsistent w sz M [.ref (w.1 12 47)] (some (.int r)) M9 := by
  refine m_of (by decide) (Nat.le_of_ble_eq_true rfl) ?_
  intro p e s m args below meth c hx hb hr hml hown hlk hI ls hl
  have hl : lv_has ls 1 [(0, .ref (w.1 12 47))] := hl
  unfold f_X12_isConsistent at hf
  refine lv_aload_n hx hb dX12_isConsistent_0 rfl (lv_at hl 0 rfl) ?_
  refine lv_iconst (v := 0) hx hb dX12_isConsistent_1 (by decide) ?_
  obtain ⟨M1, eM1, hf⟩ := mlet_e hf
  refine m_put (g := 12) (i := 47) (ci := 10) (k := 0) (ty := .int) (M1 := M1) hx hb hI hown (mokX (by decide) (by decide)) rfl rfl (by decide) lyX12 tyX12 tyX12_ok nmX12 (q1426 hI.T) rfl rfl rfl rfl (Nat.le_of_ble_eq_true rfl) rfl eM1 dX12_isConsistent_2 (fun H locs hI => ?_)
  refine lv_iconst (v := 1) hx hb dX12_isConsistent_5 (by decide) ?_
  exact m_zretf hx hb hr hlk hI rfl hf dX12_isConsistent_6
abbrev rmX12_refusalReason : Room := { frames := 1, cells := 0, slots := 0, locals := 21 }
theorem kb_X12_refusalReason {R : Room} {s : State} {args : Array Value} {own : String} {idx : Nat} (hT : mT s) (hlink : (Cond.methodLink own idx yX12_refusalReason).before args s = true) (h1 : rmX12_refusalReason.frames + 1 ≤ R.frames) (h2 : 8 + (1 + 11) + rmX12_refusalReason.locals ≤ R.locals) : CallB R s args own idx yX12_refusalReason cX12_refusalReason 1 (some .int) [Cond.code yX12_refusalReason cX12_refusalReason 1 (some .int)] rmX12_refusalReason 0 0 0 := m_callB hT kc_X12_refusalReason ki_X12_refusalReason hlink (by decide +kernel) ⟨rfl, rfl, h1, h2⟩
set_option maxHeartbeats 4000000 in
set_option maxRecDepth 100000 in
theorem c_X12_refusalReason (l : Launch) (w : WD) (sz : Nat)  (M : Mem) (r : Int32) (M9 : Mem) (hf : f_X12_refusalReason  M = some (r, M9)) : mMet l yX12_refusalReason cX12_refusalReason 1 (some .int) rmX12_refusalReason w sz M [.ref (w.1 12 47)] (some (.int r)) M9 := by
  refine m_of (by decide) (Nat.le_of_ble_eq_true rfl) ?_
  intro p e s m args below meth c hx hb hr hml hown hlk hI ls hl
  have hl : lv_has ls 1 [(0, .ref (w.1 12 47))] := hl
  unfold f_X12_refusalReason at hf
  refine lv_aload_n hx hb dX12_refusalReason_0 rfl (lv_at hl 0 rfl) ?_
  refine lv_iconst (v := 0) hx hb dX12_refusalReason_1 (by decide) ?_
  obtain ⟨M1, eM1, hf⟩ := mlet_e hf
  refine m_put (g := 12) (i := 47) (ci := 10) (k := 0) (ty := .int) (M1 := M1) hx hb hI hown (mokX (by decide) (by decide)) rfl rfl (by decide) lyX12 tyX12 tyX12_ok nmX12 (q1426 hI.T) rfl rfl rfl rfl (Nat.le_of_ble_eq_true rfl) rfl eM1 dX12_refusalReason_2 (fun H locs hI => ?_)
  refine lv_aload_n hx hb dX12_refusalReason_5 rfl (lv_at hl 0 rfl) ?_
  refine m_get (g := 12) (i := 47) (ci := 10) (k := 16) (v := .int (M1 12 47 16)) hx hb hI hown (mokX (by decide) (by decide)) rfl rfl (by decide) lyX12 (q1442 hI.T) rfl dX12_refusalReason_6 ?_
  refine lv_if_ne (tgt := 20) hx hb dX12_refusalReason_9 (by decide) (fun c2 => ?_) (fun c2 => ?_)
  · have hf := (if_neg c2).symm.trans hf
    refine lv_aload_n hx hb dX12_refusalReason_20 rfl (lv_at hl 0 rfl) ?_
    refine m_get (g := 12) (i := 47) (ci := 10) (k := 16) (v := .int (M1 12 47 16)) hx hb hI hown (mokX (by decide) (by decide)) rfl rfl (by decide) lyX12 (q1442 hI.T) rfl dX12_refusalReason_21 ?_
    exact m_iretf hx hb hr hlk hI hf dX12_refusalReason_24
  · have hf := (if_pos c2).symm.trans hf
    refine lv_aload_n hx hb dX12_refusalReason_12 rfl (lv_at hl 0 rfl) ?_
    refine lv_iconst (v := 1) hx hb dX12_refusalReason_13 (by decide) ?_
    obtain ⟨r3, M4, hc, hf⟩ := mbnd_e hf
    refine m_callV (As := [.int (1 : Int32)]) (rest := []) hx hb hml hown hI (c_X12_fails l w H.size (1 : Int32) M1 _ _ hc) (kb_X12_fails hI.T (q1532 hI.T) (Nat.le_of_ble_eq_true rfl) (Nat.le_of_ble_eq_true rfl)) (q1534 hI.T) (sel_X12_fails hI.T) (m_recv (g := 12) (i := 47) hI (mokX (by decide) (by decide)) rfl rfl) rfl hl.1 (Nat.le_of_ble_eq_true rfl) dX12_refusalReason_14 ⟨Nat.le_of_ble_eq_true rfl, Nat.le_of_ble_eq_true rfl⟩ (fun H locs hI => ?_)
    refine lv_goto (tgt := 24) hx hb dX12_refusalReason_17 (by decide) ?_
    exact m_iretf hx hb hr hlk hI hf dX12_refusalReason_24
abbrev rmX12_refusalDetail : Room := { frames := 1, cells := 0, slots := 0, locals := 21 }
theorem kb_X12_refusalDetail {R : Room} {s : State} {args : Array Value} {own : String} {idx : Nat} (hT : mT s) (hlink : (Cond.methodLink own idx yX12_refusalDetail).before args s = true) (h1 : rmX12_refusalDetail.frames + 1 ≤ R.frames) (h2 : 8 + (1 + 11) + rmX12_refusalDetail.locals ≤ R.locals) : CallB R s args own idx yX12_refusalDetail cX12_refusalDetail 1 (some .int) [Cond.code yX12_refusalDetail cX12_refusalDetail 1 (some .int)] rmX12_refusalDetail 0 0 0 := m_callB hT kc_X12_refusalDetail ki_X12_refusalDetail hlink (by decide +kernel) ⟨rfl, rfl, h1, h2⟩
set_option maxHeartbeats 4000000 in
set_option maxRecDepth 100000 in
theorem c_X12_refusalDetail (l : Launch) (w : WD) (sz : Nat)  (M : Mem) (r : Int32) (M9 : Mem) (hf : f_X12_refusalDetail  M = some (r, M9)) : mMet l yX12_refusalDetail cX12_refusalDetail 1 (some .int) rmX12_refusalDetail w sz M [.ref (w.1 12 47)] (some (.int r)) M9 := by
  refine m_of (by decide) (Nat.le_of_ble_eq_true rfl) ?_
  intro p e s m args below meth c hx hb hr hml hown hlk hI ls hl
  have hl : lv_has ls 1 [(0, .ref (w.1 12 47))] := hl
  unfold f_X12_refusalDetail at hf
  refine lv_aload_n hx hb dX12_refusalDetail_0 rfl (lv_at hl 0 rfl) ?_
  refine lv_iconst (v := 0) hx hb dX12_refusalDetail_1 (by decide) ?_
  obtain ⟨M1, eM1, hf⟩ := mlet_e hf
  refine m_put (g := 12) (i := 47) (ci := 10) (k := 0) (ty := .int) (M1 := M1) hx hb hI hown (mokX (by decide) (by decide)) rfl rfl (by decide) lyX12 tyX12 tyX12_ok nmX12 (q1426 hI.T) rfl rfl rfl rfl (Nat.le_of_ble_eq_true rfl) rfl eM1 dX12_refusalDetail_2 (fun H locs hI => ?_)
  refine lv_aload_n hx hb dX12_refusalDetail_5 rfl (lv_at hl 0 rfl) ?_
  refine m_get (g := 12) (i := 47) (ci := 10) (k := 16) (v := .int (M1 12 47 16)) hx hb hI hown (mokX (by decide) (by decide)) rfl rfl (by decide) lyX12 (q1442 hI.T) rfl dX12_refusalDetail_6 ?_
  refine lv_if_ne (tgt := 20) hx hb dX12_refusalDetail_9 (by decide) (fun c2 => ?_) (fun c2 => ?_)
  · have hf := (if_neg c2).symm.trans hf
    refine lv_aload_n hx hb dX12_refusalDetail_20 rfl (lv_at hl 0 rfl) ?_
    refine m_get (g := 12) (i := 47) (ci := 10) (k := 17) (v := .int (M1 12 47 17)) hx hb hI hown (mokX (by decide) (by decide)) rfl rfl (by decide) lyX12 (q1443 hI.T) rfl dX12_refusalDetail_21 ?_
    exact m_iretf hx hb hr hlk hI hf dX12_refusalDetail_24
  · have hf := (if_pos c2).symm.trans hf
    refine lv_aload_n hx hb dX12_refusalDetail_12 rfl (lv_at hl 0 rfl) ?_
    refine lv_iconst (v := 1) hx hb dX12_refusalDetail_13 (by decide) ?_
    obtain ⟨r3, M4, hc, hf⟩ := mbnd_e hf
    refine m_callV (As := [.int (1 : Int32)]) (rest := []) hx hb hml hown hI (c_X12_fails l w H.size (1 : Int32) M1 _ _ hc) (kb_X12_fails hI.T (q1532 hI.T) (Nat.le_of_ble_eq_true rfl) (Nat.le_of_ble_eq_true rfl)) (q1534 hI.T) (sel_X12_fails hI.T) (m_recv (g := 12) (i := 47) hI (mokX (by decide) (by decide)) rfl rfl) rfl hl.1 (Nat.le_of_ble_eq_true rfl) dX12_refusalDetail_14 ⟨Nat.le_of_ble_eq_true rfl, Nat.le_of_ble_eq_true rfl⟩ (fun H locs hI => ?_)
    refine lv_goto (tgt := 24) hx hb dX12_refusalDetail_17 (by decide) ?_
    exact m_iretf hx hb hr hlk hI hf dX12_refusalDetail_24
abbrev rmX12_refusalCause : Room := { frames := 1, cells := 0, slots := 0, locals := 21 }
theorem kb_X12_refusalCause {R : Room} {s : State} {args : Array Value} {own : String} {idx : Nat} (hT : mT s) (hlink : (Cond.methodLink own idx yX12_refusalCause).before args s = true) (h1 : rmX12_refusalCause.frames + 1 ≤ R.frames) (h2 : 8 + (1 + 11) + rmX12_refusalCause.locals ≤ R.locals) : CallB R s args own idx yX12_refusalCause cX12_refusalCause 1 (some .int) [Cond.code yX12_refusalCause cX12_refusalCause 1 (some .int)] rmX12_refusalCause 0 0 0 := m_callB hT kc_X12_refusalCause ki_X12_refusalCause hlink (by decide +kernel) ⟨rfl, rfl, h1, h2⟩
set_option maxHeartbeats 4000000 in
set_option maxRecDepth 100000 in
theorem c_X12_refusalCause (l : Launch) (w : WD) (sz : Nat)  (M : Mem) (r : Int32) (M9 : Mem) (hf : f_X12_refusalCause  M = some (r, M9)) : mMet l yX12_refusalCause cX12_refusalCause 1 (some .int) rmX12_refusalCause w sz M [.ref (w.1 12 47)] (some (.int r)) M9 := by
  refine m_of (by decide) (Nat.le_of_ble_eq_true rfl) ?_
  intro p e s m args below meth c hx hb hr hml hown hlk hI ls hl
  have hl : lv_has ls 1 [(0, .ref (w.1 12 47))] := hl
  unfold f_X12_refusalCause at hf
  refine lv_aload_n hx hb dX12_refusalCause_0 rfl (lv_at hl 0 rfl) ?_
  refine lv_iconst (v := 0) hx hb dX12_refusalCause_1 (by decide) ?_
  obtain ⟨M1, eM1, hf⟩ := mlet_e hf
  refine m_put (g := 12) (i := 47) (ci := 10) (k := 0) (ty := .int) (M1 := M1) hx hb hI hown (mokX (by decide) (by decide)) rfl rfl (by decide) lyX12 tyX12 tyX12_ok nmX12 (q1426 hI.T) rfl rfl rfl rfl (Nat.le_of_ble_eq_true rfl) rfl eM1 dX12_refusalCause_2 (fun H locs hI => ?_)
  refine lv_aload_n hx hb dX12_refusalCause_5 rfl (lv_at hl 0 rfl) ?_
  refine m_get (g := 12) (i := 47) (ci := 10) (k := 18) (v := .int (M1 12 47 18)) hx hb hI hown (mokX (by decide) (by decide)) rfl rfl (by decide) lyX12 (q1444 hI.T) rfl dX12_refusalCause_6 ?_
  refine lv_if_ne (tgt := 20) hx hb dX12_refusalCause_9 (by decide) (fun c2 => ?_) (fun c2 => ?_)
  · have hf := (if_neg c2).symm.trans hf
    refine lv_aload_n hx hb dX12_refusalCause_20 rfl (lv_at hl 0 rfl) ?_
    refine m_get (g := 12) (i := 47) (ci := 10) (k := 18) (v := .int (M1 12 47 18)) hx hb hI hown (mokX (by decide) (by decide)) rfl rfl (by decide) lyX12 (q1444 hI.T) rfl dX12_refusalCause_21 ?_
    exact m_iretf hx hb hr hlk hI hf dX12_refusalCause_24
  · have hf := (if_pos c2).symm.trans hf
    refine lv_aload_n hx hb dX12_refusalCause_12 rfl (lv_at hl 0 rfl) ?_
    refine lv_iconst (v := 1) hx hb dX12_refusalCause_13 (by decide) ?_
    obtain ⟨r3, M4, hc, hf⟩ := mbnd_e hf
    refine m_callV (As := [.int (1 : Int32)]) (rest := []) hx hb hml hown hI (c_X12_fails l w H.size (1 : Int32) M1 _ _ hc) (kb_X12_fails hI.T (q1532 hI.T) (Nat.le_of_ble_eq_true rfl) (Nat.le_of_ble_eq_true rfl)) (q1534 hI.T) (sel_X12_fails hI.T) (m_recv (g := 12) (i := 47) hI (mokX (by decide) (by decide)) rfl rfl) rfl hl.1 (Nat.le_of_ble_eq_true rfl) dX12_refusalCause_14 ⟨Nat.le_of_ble_eq_true rfl, Nat.le_of_ble_eq_true rfl⟩ (fun H locs hI => ?_)
    refine lv_goto (tgt := 24) hx hb dX12_refusalCause_17 (by decide) ?_
    exact m_iretf hx hb hr hlk hI hf dX12_refusalCause_24
abbrev rmX12_feed : Room := { frames := 0, cells := 0, slots := 0, locals := 0 }
theorem kb_X12_feed {R : Room} {s : State} {args : Array Value} {own : String} {idx : Nat} (hT : mT s) (hlink : (Cond.methodLink own idx yX12_feed).before args s = true) (h1 : rmX12_feed.frames + 1 ≤ R.frames) (h2 : 8 + (2 + 11) + rmX12_feed.locals ≤ R.locals) : CallB R s args own idx yX12_feed cX12_feed 2 (some .int) [Cond.code yX12_feed cX12_feed 2 (some .int)] rmX12_feed 0 0 1 := m_callB hT kc_X12_feed ki_X12_feed hlink (by decide +kernel) ⟨rfl, rfl, h1, h2⟩
set_option maxHeartbeats 4000000 in
set_option maxRecDepth 100000 in
theorem c_X12_feed (l : Launch) (w : WD) (sz : Nat) (a1 : Int32) (M : Mem) (r : Int32) (M9 : Mem) (hf : f_X12_feed a1 M = some (r, M9)) : mMet l yX12_feed cX12_feed 2 (some .int) rmX12_feed w sz M [.ref (w.1 12 47), .int a1] (some (.int r)) M9 := by
  refine m_of (by decide) (Nat.le_of_ble_eq_true rfl) ?_
  intro p e s m args below meth c hx hb hr hml hown hlk hI ls hl
  have hl : lv_has ls 2 [(0, .ref (w.1 12 47)), (1, .int a1)] := hl
  unfold f_X12_feed at hf
  refine lv_aload_n hx hb dX12_feed_0 rfl (lv_at hl 0 rfl) ?_
  refine lv_aload_n hx hb dX12_feed_1 rfl (lv_at hl 0 rfl) ?_
  refine m_get (g := 12) (i := 47) (ci := 10) (k := 12) (v := .int (M 12 47 12)) hx hb hI hown (mokX (by decide) (by decide)) rfl rfl (by decide) lyX12 (q1438 hI.T) rfl dX12_feed_2 ?_
  refine lv_bipush (v := 60) hx hb dX12_feed_5 (by decide) ?_
  obtain ⟨k15_3, ek15_3, hf⟩ := mlet_e hf
  have hj15_3 : ∀ (x2 : Int32) (H : Heap) (locs : List Loc) (ls : Array Slot), k15_3 x2 = some (r, M9) → mI w s (mA w s.heap.size) H locs M → lv_has ls 2 [(0, .ref (w.1 12 47)), (1, .int a1)] → W p l e rmX12_feed s m args below meth c H locs 0 0 (MQ below (mQ w s.heap.size (some (.int r)) M9) args s 0 0 (mA w s.heap.size)) (F0 m 15 ls [.int x2, .ref (w.1 12 47)]) := by
    intro x2 H locs ls hf hI hl
    rw [ek15_3] at hf
    try dsimp only at hf
    obtain ⟨M4, eM4, hf⟩ := mlet_e hf
    refine m_put (g := 12) (i := 47) (ci := 10) (k := 0) (ty := .int) (M1 := M4) hx hb hI hown (mokX (by decide) (by decide)) rfl rfl (by decide) lyX12 tyX12 tyX12_ok nmX12 (q1426 hI.T) rfl rfl rfl rfl (Nat.le_of_ble_eq_true rfl) rfl eM4 dX12_feed_15 (fun H locs hI => ?_)
    refine lv_aload_n hx hb dX12_feed_18 rfl (lv_at hl 0 rfl) ?_
    refine m_get (g := 12) (i := 47) (ci := 10) (k := 0) (v := .int (M4 12 47 0)) hx hb hI hown (mokX (by decide) (by decide)) rfl rfl (by decide) lyX12 (q1426 hI.T) rfl dX12_feed_19 ?_
    refine lv_if_le (tgt := 27) hx hb dX12_feed_22 (by decide) (fun c5 => ?_) (fun c5 => ?_)
    · have hf := (if_pos c5).symm.trans hf
      refine lv_aload_n hx hb dX12_feed_27 rfl (lv_at hl 0 rfl) ?_
      refine m_get (g := 12) (i := 47) (ci := 10) (k := 8) (v := .ref (w.1 12 53)) hx hb hI hown (mokX (by decide) (by decide)) rfl rfl (by decide) lyX12 (q1434 hI.T) rfl dX12_feed_28 ?_
      refine lv_aload_n hx hb dX12_feed_31 rfl (lv_at hl 0 rfl) ?_
      refine m_get (g := 12) (i := 47) (ci := 10) (k := 12) (v := .int (M4 12 47 12)) hx hb hI hown (mokX (by decide) (by decide)) rfl rfl (by decide) lyX12 (q1438 hI.T) rfl dX12_feed_32 ?_
      refine lv_iload_n hx hb dX12_feed_35 rfl (lv_at hl 1 rfl) ?_
      obtain ⟨hi, hf⟩ := mix_e hf
      obtain ⟨M6, eM6, hf⟩ := mlet_e hf
      refine m_iast (g := 12) (i := 53) (M1 := M6) hx hb hI (mokX (by decide) (by decide)) rfl hi eM6 dX12_feed_36 (fun H locs hI => ?_)
      refine lv_aload_n hx hb dX12_feed_37 rfl (lv_at hl 0 rfl) ?_
      refine lv_dup hx hb dX12_feed_38 rfl ?_
      refine m_get (g := 12) (i := 47) (ci := 10) (k := 12) (v := .int (M6 12 47 12)) hx hb hI hown (mokX (by decide) (by decide)) rfl rfl (by decide) lyX12 (q1438 hI.T) rfl dX12_feed_39 ?_
      refine lv_iconst (v := 1) hx hb dX12_feed_42 (by decide) ?_
      refine lv_iadd hx hb dX12_feed_43 ?_
      obtain ⟨M7, eM7, hf⟩ := mlet_e hf
      refine m_put (g := 12) (i := 47) (ci := 10) (k := 12) (ty := .int) (M1 := M7) hx hb hI hown (mokX (by decide) (by decide)) rfl rfl (by decide) lyX12 tyX12 tyX12_ok nmX12 (q1438 hI.T) rfl rfl rfl rfl (Nat.le_of_ble_eq_true rfl) rfl eM7 dX12_feed_44 (fun H locs hI => ?_)
      refine lv_aload_n hx hb dX12_feed_47 rfl (lv_at hl 0 rfl) ?_
      refine m_get (g := 12) (i := 47) (ci := 10) (k := 12) (v := .int (M7 12 47 12)) hx hb hI hown (mokX (by decide) (by decide)) rfl rfl (by decide) lyX12 (q1438 hI.T) rfl dX12_feed_48 ?_
      exact m_iretf hx hb hr hlk hI hf dX12_feed_51
    · have hf := (if_neg c5).symm.trans hf
      refine lv_iconst (v := 0) hx hb dX12_feed_25 (by decide) ?_
      exact m_iretf hx hb hr hlk hI hf dX12_feed_26
  refine lv_icmp_ne (tgt := 14) hx hb dX12_feed_7 (by decide) (fun c1 => ?_) (fun c1 => ?_)
  · have hf := (if_neg c1).symm.trans hf
    refine lv_iconst (v := 0) hx hb dX12_feed_14 (by decide) ?_
    exact hj15_3 (0 : Int32) s.heap _ _ hf hI (lv_sub hl [0, 1] rfl)
  · have hf := (if_pos c1).symm.trans hf
    refine lv_iconst (v := 1) hx hb dX12_feed_10 (by decide) ?_
    refine lv_goto (tgt := 15) hx hb dX12_feed_11 (by decide) ?_
    exact hj15_3 (1 : Int32) s.heap _ _ hf hI (lv_sub hl [0, 1] rfl)
abbrev rmX12_here : Room := { frames := 0, cells := 0, slots := 0, locals := 0 }
theorem kb_X12_here {R : Room} {s : State} {args : Array Value} {own : String} {idx : Nat} (hT : mT s) (hlink : (Cond.methodLink own idx yX12_here).before args s = true) (h1 : rmX12_here.frames + 1 ≤ R.frames) (h2 : 8 + (2 + 11) + rmX12_here.locals ≤ R.locals) : CallB R s args own idx yX12_here cX12_here 2 (some .int) [Cond.code yX12_here cX12_here 2 (some .int)] rmX12_here 0 0 1 := m_callB hT kc_X12_here ki_X12_here hlink (by decide +kernel) ⟨rfl, rfl, h1, h2⟩
set_option maxHeartbeats 4000000 in
set_option maxRecDepth 100000 in
theorem c_X12_here (l : Launch) (w : WD) (sz : Nat) (a1 : Int32) (M : Mem) (r : Int32) (hf : f_X12_here a1 M = some r) : mMet l yX12_here cX12_here 2 (some .int) rmX12_here w sz M [.ref (w.1 12 47), .int a1] (some (.int r)) M := by
  refine m_of (by decide) (Nat.le_of_ble_eq_true rfl) ?_
  intro p e s m args below meth c hx hb hr hml hown hlk hI ls hl
  have hl : lv_has ls 2 [(0, .ref (w.1 12 47)), (1, .int a1)] := hl
  unfold f_X12_here at hf
  refine lv_aload_n hx hb dX12_here_0 rfl (lv_at hl 0 rfl) ?_
  refine m_get (g := 12) (i := 47) (ci := 10) (k := 19) (v := .int (M 12 47 19)) hx hb hI hown (mokX (by decide) (by decide)) rfl rfl (by decide) lyX12 (q1445 hI.T) rfl dX12_here_1 ?_
  refine lv_iload_n hx hb dX12_here_4 rfl (lv_at hl 1 rfl) ?_
  refine lv_iadd hx hb dX12_here_5 ?_
  refine lv_aload_n hx hb dX12_here_6 rfl (lv_at hl 0 rfl) ?_
  refine m_get (g := 12) (i := 47) (ci := 10) (k := 20) (v := .int (M 12 47 20)) hx hb hI hown (mokX (by decide) (by decide)) rfl rfl (by decide) lyX12 (q1446 hI.T) rfl dX12_here_7 ?_
  refine lv_icmp_ge (tgt := 27) hx hb dX12_here_10 (by decide) (fun c1 => ?_) (fun c1 => ?_)
  · have hf := (if_pos c1).symm.trans hf
    refine lv_iconst (v := (-1)) hx hb dX12_here_27 (by decide) ?_
    exact m_iretp hx hb hr hlk hI hf dX12_here_28
  · have hf := (if_neg c1).symm.trans hf
    refine lv_aload_n hx hb dX12_here_13 rfl (lv_at hl 0 rfl) ?_
    refine m_get (g := 12) (i := 47) (ci := 10) (k := 8) (v := .ref (w.1 12 53)) hx hb hI hown (mokX (by decide) (by decide)) rfl rfl (by decide) lyX12 (q1434 hI.T) rfl dX12_here_14 ?_
    refine lv_aload_n hx hb dX12_here_17 rfl (lv_at hl 0 rfl) ?_
    refine m_get (g := 12) (i := 47) (ci := 10) (k := 19) (v := .int (M 12 47 19)) hx hb hI hown (mokX (by decide) (by decide)) rfl rfl (by decide) lyX12 (q1445 hI.T) rfl dX12_here_18 ?_
    refine lv_iload_n hx hb dX12_here_21 rfl (lv_at hl 1 rfl) ?_
    refine lv_iadd hx hb dX12_here_22 ?_
    obtain ⟨hi, hf⟩ := mix_e hf
    refine m_iald (g := 12) (i := 53) hx hb hI (mokX (by decide) (by decide)) rfl hi dX12_here_23 ?_
    refine lv_goto (tgt := 28) hx hb dX12_here_24 (by decide) ?_
    exact m_iretp hx hb hr hlk hI hf dX12_here_28
abbrev rmX12_says : Room := { frames := 5, cells := 0, slots := 0, locals := 200 }
theorem kb_X12_says {R : Room} {s : State} {args : Array Value} {own : String} {idx : Nat} (hT : mT s) (hlink : (Cond.methodLink own idx yX12_says).before args s = true) (h1 : rmX12_says.frames + 1 ≤ R.frames) (h2 : 8 + (3 + 11) + rmX12_says.locals ≤ R.locals) : CallB R s args own idx yX12_says cX12_says 3 (none) [Cond.code yX12_says cX12_says 3 (none)] rmX12_says 0 0 1 := m_callB hT kc_X12_says ki_X12_says hlink (by decide +kernel) ⟨rfl, rfl, h1, h2⟩
set_option maxHeartbeats 4000000 in
set_option maxRecDepth 100000 in
theorem c_X12_says (l : Launch) (w : WD) (sz : Nat) (t1 : Nat) (ht1 : t1 < 33) (M : Mem) (r : Unit) (M9 : Mem) (hf : f_X12_says t1 M = some (r, M9)) : mMet l yX12_says cX12_says 3 (none) rmX12_says w sz M [.ref (w.1 12 47), .ref (w.2.2.2 1 t1)] none M9 := by
  refine m_of (by decide) (Nat.le_of_ble_eq_true rfl) ?_
  intro p e s m args below meth c hx hb hr hml hown hlk hI ls hl
  have hl : lv_has ls 3 [(0, .ref (w.1 12 47)), (1, .ref (w.2.2.2 1 t1))] := hl
  unfold f_X12_says at hf
  refine lv_iconst (v := 0) hx hb dX12_says_0 (by decide) ?_
  refine lv_istore_n (lv' := [(2, .int (0 : Int32)), (0, .ref (w.1 12 47)), (1, .ref (w.2.2.2 1 t1))]) hx hb dX12_says_1 rfl hl (by decide) rfl (fun ls hl => ?_)
  have hL2 : ∀ (n : Nat) (x1 : Int32) (M2 : Mem) (kk : Mem → Option (Unit × Mem)) (H : Heap) (locs : List Loc) (ls : Array Slot), f_X12_says_L2 t1 n x1 M2 kk = some (r, M9) → mI w s (mA w s.heap.size) H locs M2 → lv_has ls 3 [(0, .ref (w.1 12 47)), (1, .ref (w.2.2.2 1 t1)), (2, .int x1)] → (∀  (M2 : Mem) (H : Heap) (locs : List Loc) (ls : Array Slot), kk M2 = some (r, M9) → mI w s (mA w s.heap.size) H locs M2 → lv_has ls 3 [] → W p l e rmX12_says s m args below meth c H locs 0 0 (MQ below (mQ w s.heap.size none M9) args s 0 0 (mA w s.heap.size)) (F0 m 66 ls [])) → W p l e rmX12_says s m args below meth c H locs 0 0 (MQ below (mQ w s.heap.size none M9) args s 0 0 (mA w s.heap.size)) (F0 m 2 ls []) := by
    intro n
    induction n with
    | zero => intro x1 M2 kk H locs ls hf hI hl hk; rw [f_X12_says_L2.eq_1] at hf; cases hf
    | succ n ih2 =>
      intro x1 M2 kk H locs ls hf hI hl hk
      rw [f_X12_says_L2.eq_2] at hf
      refine lv_iload_n hx hb dX12_says_2 rfl (lv_at hl 2 rfl) ?_
      refine lv_aload_n hx hb dX12_says_3 rfl (lv_at hl 1 rfl) ?_
      refine m_slen hx hb hml hown hI ht1 (q1894 hI.T) hl.1 (Nat.le_of_ble_eq_true rfl) (Nat.le_of_ble_eq_true rfl) (Nat.le_of_ble_eq_true rfl) dX12_says_4 ⟨Nat.le_of_ble_eq_true rfl, Nat.le_of_ble_eq_true rfl⟩ (fun H locs hI => ?_)
      refine lv_icmp_ge (tgt := 66) hx hb dX12_says_7 (by decide) (fun c3 => ?_) (fun c3 => ?_)
      · have hf := (if_pos c3).symm.trans hf
        exact hk M2 H _ _ hf hI (lv_sub hl [] rfl)
      · have hf := (if_neg c3).symm.trans hf
        refine lv_aload_n hx hb dX12_says_10 rfl (lv_at hl 0 rfl) ?_
        refine m_get (g := 12) (i := 47) (ci := 10) (k := 22) (v := .int (M2 12 47 22)) hx hb hI hown (mokX (by decide) (by decide)) rfl rfl (by decide) lyX12 (q1448 hI.T) rfl dX12_says_11 ?_
        refine lv_if_ne (tgt := 66) hx hb dX12_says_14 (by decide) (fun c4 => ?_) (fun c4 => ?_)
        · have hf := (if_neg c4).symm.trans hf
          exact hk M2 H _ _ hf hI (lv_sub hl [] rfl)
        · have hf := (if_pos c4).symm.trans hf
          refine lv_aload_n hx hb dX12_says_17 rfl (lv_at hl 0 rfl) ?_
          refine lv_aload_n hx hb dX12_says_18 rfl (lv_at hl 0 rfl) ?_
          refine lv_iconst (v := 0) hx hb dX12_says_19 (by decide) ?_
          obtain ⟨r5, hc, hf⟩ := mbp_e hf
          refine m_callV (As := [.int (0 : Int32)]) (rest := [.ref (w.1 12 47)]) hx hb hml hown hI (c_X12_here l w H.size (0 : Int32) M2 _ hc) (kb_X12_here hI.T (q1881 hI.T) (Nat.le_of_ble_eq_true rfl) (Nat.le_of_ble_eq_true rfl)) (q1883 hI.T) (sel_X12_here hI.T) (m_recv (g := 12) (i := 47) hI (mokX (by decide) (by decide)) rfl rfl) rfl hl.1 (Nat.le_of_ble_eq_true rfl) dX12_says_20 ⟨Nat.le_of_ble_eq_true rfl, Nat.le_of_ble_eq_true rfl⟩ (fun H locs hI => ?_)
          refine lv_aload_n hx hb dX12_says_23 rfl (lv_at hl 1 rfl) ?_
          refine lv_iload_n hx hb dX12_says_24 rfl (lv_at hl 2 rfl) ?_
          obtain ⟨hi, hf⟩ := mix_e hf
          refine m_sat hx hb hml hown hI ht1 hi (q1895 hI.T) hl.1 (Nat.le_of_ble_eq_true rfl) (Nat.le_of_ble_eq_true rfl) (Nat.le_of_ble_eq_true rfl) dX12_says_25 ⟨Nat.le_of_ble_eq_true rfl, Nat.le_of_ble_eq_true rfl⟩ (fun H locs hI => ?_)
          obtain ⟨k36_8, ek36_8, hf⟩ := mlet_e hf
          have hj36_8 : ∀ (x7 : Int32) (H : Heap) (locs : List Loc) (ls : Array Slot), k36_8 x7 = some (r, M9) → mI w s (mA w s.heap.size) H locs M2 → lv_has ls 3 [(0, .ref (w.1 12 47)), (1, .ref (w.2.2.2 1 t1)), (2, .int x1)] → W p l e rmX12_says s m args below meth c H locs 0 0 (MQ below (mQ w s.heap.size none M9) args s 0 0 (mA w s.heap.size)) (F0 m 36 ls [.int x7, .ref (w.1 12 47)]) := by
            intro x7 H locs ls hf hI hl
            rw [ek36_8] at hf
            try dsimp only at hf
            obtain ⟨hz, hf⟩ := mnz_e hf
            obtain ⟨M10, eM10, hf⟩ := mlet_e hf
            refine m_put (g := 12) (i := 47) (ci := 10) (k := 22) (ty := .boolean) (M1 := M10) hx hb hI hown (mokX (by decide) (by decide)) rfl rfl (by decide) lyX12 tyX12 tyX12_ok nmX12 (q1448 hI.T) rfl rfl (mnz_n hz) (mnz_f hz) (Nat.le_of_ble_eq_true rfl) rfl eM10 dX12_says_36 (fun H locs hI => ?_)
            refine lv_aload_n hx hb dX12_says_39 rfl (lv_at hl 0 rfl) ?_
            refine lv_dup hx hb dX12_says_40 rfl ?_
            refine m_get (g := 12) (i := 47) (ci := 10) (k := 19) (v := .int (M10 12 47 19)) hx hb hI hown (mokX (by decide) (by decide)) rfl rfl (by decide) lyX12 (q1445 hI.T) rfl dX12_says_41 ?_
            refine lv_aload_n hx hb dX12_says_44 rfl (lv_at hl 0 rfl) ?_
            refine m_get (g := 12) (i := 47) (ci := 10) (k := 22) (v := .int (M10 12 47 22)) hx hb hI hown (mokX (by decide) (by decide)) rfl rfl (by decide) lyX12 (q1448 hI.T) rfl dX12_says_45 ?_
            obtain ⟨k56_13, ek56_13, hf⟩ := mlet_e hf
            have hj56_13 : ∀ (x12 : Int32) (H : Heap) (locs : List Loc) (ls : Array Slot), k56_13 x12 = some (r, M9) → mI w s (mA w s.heap.size) H locs M10 → lv_has ls 3 [(0, .ref (w.1 12 47)), (1, .ref (w.2.2.2 1 t1)), (2, .int x1)] → W p l e rmX12_says s m args below meth c H locs 0 0 (MQ below (mQ w s.heap.size none M9) args s 0 0 (mA w s.heap.size)) (F0 m 56 ls [.int x12, .int (M10 12 47 19), .ref (w.1 12 47)]) := by
              intro x12 H locs ls hf hI hl
              rw [ek56_13] at hf
              try dsimp only at hf
              refine lv_iadd hx hb dX12_says_56 ?_
              obtain ⟨M14, eM14, hf⟩ := mlet_e hf
              refine m_put (g := 12) (i := 47) (ci := 10) (k := 19) (ty := .int) (M1 := M14) hx hb hI hown (mokX (by decide) (by decide)) rfl rfl (by decide) lyX12 tyX12 tyX12_ok nmX12 (q1445 hI.T) rfl rfl rfl rfl (Nat.le_of_ble_eq_true rfl) rfl eM14 dX12_says_57 (fun H locs hI => ?_)
              obtain ⟨x15, ex15, hf⟩ := mlet_e hf
              refine lv_iinc (v := x15) (lv' := [(2, .int x15), (0, .ref (w.1 12 47)), (1, .ref (w.2.2.2 1 t1))]) hx hb dX12_says_60 hl (k := 2) rfl (by rw [ex15]; rfl) (by decide) rfl (fun ls hl => ?_)
              refine lv_goto (tgt := 2) hx hb dX12_says_63 (by decide) ?_
              exact ih2 x15 M14 kk H _ _ hf hI (lv_sub hl [1, 2, 0] rfl) hk
            refine lv_if_eq (tgt := 55) hx hb dX12_says_48 (by decide) (fun c11 => ?_) (fun c11 => ?_)
            · have hf := (if_pos c11).symm.trans hf
              refine lv_iconst (v := 1) hx hb dX12_says_55 (by decide) ?_
              exact hj56_13 (1 : Int32) H _ _ hf hI (lv_sub hl [0, 1, 2] rfl)
            · have hf := (if_neg c11).symm.trans hf
              refine lv_iconst (v := 0) hx hb dX12_says_51 (by decide) ?_
              refine lv_goto (tgt := 56) hx hb dX12_says_52 (by decide) ?_
              exact hj56_13 (0 : Int32) H _ _ hf hI (lv_sub hl [0, 1, 2] rfl)
          refine lv_icmp_eq (tgt := 35) hx hb dX12_says_28 (by decide) (fun c6 => ?_) (fun c6 => ?_)
          · have hf := (if_pos c6).symm.trans hf
            refine lv_iconst (v := 0) hx hb dX12_says_35 (by decide) ?_
            exact hj36_8 (0 : Int32) H _ _ hf hI (lv_sub hl [0, 1, 2] rfl)
          · have hf := (if_neg c6).symm.trans hf
            refine lv_iconst (v := 1) hx hb dX12_says_31 (by decide) ?_
            refine lv_goto (tgt := 36) hx hb dX12_says_32 (by decide) ?_
            exact hj36_8 (1 : Int32) H _ _ hf hI (lv_sub hl [0, 1, 2] rfl)
  refine hL2 1000 (0 : Int32) M _ _ _ _ hf hI (lv_sub hl [1, 2, 0] rfl) ?_
  intro M16 H locs ls hf hI hl
  try dsimp only at hf
  exact m_vretf hx hb hr hlk hI hf dX12_says_66
