abbrev rmX9_tryHum : Room := { frames := 1, cells := 0, slots := 0, locals := 30 }
theorem kb_X9_tryHum {R : Room} {s : State} {args : Array Value} {own : String} {idx : Nat} (hT : mT s) (hlink : (Cond.methodLink own idx yX9_tryHum).before args s = true) (h1 : rmX9_tryHum.frames + 1 ≤ R.frames) (h2 : 8 + (3 + 11) + rmX9_tryHum.locals ≤ R.locals) : CallB R s args own idx yX9_tryHum cX9_tryHum 3 (some .int) [Cond.code yX9_tryHum cX9_tryHum 3 (some .int)] rmX9_tryHum 0 0 2 := m_callB hT kc_X9_tryHum ki_X9_tryHum hlink (by decide +kernel) ⟨rfl, rfl, h1, h2⟩
set_option maxHeartbeats 4000000 in
set_option maxRecDepth 100000 in
theorem c_X9_tryHum (l : Launch) (w : WD) (sz : Nat) (g : Nat) (hg : g ≤ 10) (a1 : Int32) (a2 : Int32) (M : Mem) (r : Int32) (M9 : Mem) (hf : f_X9_tryHum g a1 a2 M = some (r, M9)) : mMet l yX9_tryHum cX9_tryHum 3 (some .int) rmX9_tryHum w sz M [.ref (w.1 g 0), .int a1, .int a2] (some (.int r)) M9 := by
  refine m_of (by decide) (Nat.le_of_ble_eq_true rfl) ?_
  intro p e s m args below meth c hx hb hr hml hown hlk hI ls hl
  have hl : lv_has ls 3 [(0, .ref (w.1 g 0)), (1, .int a1), (2, .int a2)] := hl
  unfold f_X9_tryHum at hf
  refine lv_iload_n hx hb dX9_tryHum_0 rfl (lv_at hl 1 rfl) ?_
  obtain ⟨r1, hc, hf⟩ := mbp_e hf
  refine m_callS (As := [.int a1]) (rest := []) hx hb hml hown hI (c_X1_hasZone l w s.heap.size a1 M _ hc) (kb_X1_hasZone hI.T (q918 hI.T) (Nat.le_of_ble_eq_true rfl) (Nat.le_of_ble_eq_true rfl)) (q587 hI.T) rfl hl.1 (Nat.le_of_ble_eq_true rfl) dX9_tryHum_1 ⟨Nat.le_of_ble_eq_true rfl, Nat.le_of_ble_eq_true rfl⟩ (fun H locs hI => ?_)
  refine lv_if_eq (tgt := 18) hx hb dX9_tryHum_4 (by decide) (fun c2 => ?_) (fun c2 => ?_)
  · have hf := (if_pos c2).symm.trans hf
    refine lv_bipush (v := (-2)) hx hb dX9_tryHum_18 (by decide) ?_
    exact m_iretf hx hb hr hlk hI hf dX9_tryHum_20
  · have hf := (if_neg c2).symm.trans hf
    refine lv_iload_n hx hb dX9_tryHum_7 rfl (lv_at hl 2 rfl) ?_
    refine lv_iconst (v := 1) hx hb dX9_tryHum_8 (by decide) ?_
    refine lv_icmp_lt (tgt := 18) hx hb dX9_tryHum_9 (by decide) (fun c3 => ?_) (fun c3 => ?_)
    · have hf := (if_pos c3).symm.trans hf
      refine lv_bipush (v := (-2)) hx hb dX9_tryHum_18 (by decide) ?_
      exact m_iretf hx hb hr hlk hI hf dX9_tryHum_20
    · have hf := (if_neg c3).symm.trans hf
      refine lv_iload_n hx hb dX9_tryHum_12 rfl (lv_at hl 2 rfl) ?_
      refine lv_bipush (v := 9) hx hb dX9_tryHum_13 (by decide) ?_
      refine lv_icmp_le (tgt := 21) hx hb dX9_tryHum_15 (by decide) (fun c4 => ?_) (fun c4 => ?_)
      · have hf := (if_pos c4).symm.trans hf
        refine lv_aload_n hx hb dX9_tryHum_21 rfl (lv_at hl 0 rfl) ?_
        refine m_get (g := g) (i := 0) (ci := 8) (k := 2) (v := .ref (w.1 g 6)) hx hb hI hown (mokS hg (by decide)) rfl rfl (by decide) lyX9 (q190 hI.T) rfl dX9_tryHum_22 ?_
        refine m_get (g := g) (i := 6) (ci := 0) (k := 1) (v := .ref (w.1 g 7)) hx hb hI hown (mokS hg (by decide)) rfl rfl (by decide) lyX1 (q128 hI.T) rfl dX9_tryHum_25 ?_
        refine lv_iload_n hx hb dX9_tryHum_28 rfl (lv_at hl 1 rfl) ?_
        refine lv_bipush (v := 20) hx hb dX9_tryHum_29 (by decide) ?_
        refine lv_aload_n hx hb dX9_tryHum_31 rfl (lv_at hl 0 rfl) ?_
        refine m_get (g := g) (i := 0) (ci := 8) (k := 2) (v := .ref (w.1 g 6)) hx hb hI hown (mokS hg (by decide)) rfl rfl (by decide) lyX9 (q190 hI.T) rfl dX9_tryHum_32 ?_
        refine m_get (g := g) (i := 6) (ci := 0) (k := 1) (v := .ref (w.1 g 7)) hx hb hI hown (mokS hg (by decide)) rfl rfl (by decide) lyX1 (q128 hI.T) rfl dX9_tryHum_35 ?_
        refine lv_iload_n hx hb dX9_tryHum_38 rfl (lv_at hl 1 rfl) ?_
        obtain ⟨hi, hf⟩ := mix_e hf
        refine m_iald (g := g) (i := 7) hx hb hI (mokS hg (by decide)) rfl hi dX9_tryHum_39 ?_
        refine lv_iload_n hx hb dX9_tryHum_40 rfl (lv_at hl 2 rfl) ?_
        refine lv_iadd hx hb dX9_tryHum_41 ?_
        refine va_mmin hx hb (hml.trans hl.1.symm) hown (q946 hI.T) (q792 hI.T) (q21 hI.T) (q793 hI.T) (Nat.le_of_ble_eq_true rfl) (Nat.le_of_ble_eq_true rfl) (Nat.le_of_ble_eq_true rfl) (Nat.le_of_ble_eq_true rfl) dX9_tryHum_42 ?_
        obtain ⟨hi, hf⟩ := mix_e hf
        obtain ⟨M5, eM5, hf⟩ := mlet_e hf
        refine m_iast (g := g) (i := 7) (M1 := M5) hx hb hI (mokS hg (by decide)) rfl hi eM5 dX9_tryHum_45 (fun H locs hI => ?_)
        refine lv_aload_n hx hb dX9_tryHum_46 rfl (lv_at hl 0 rfl) ?_
        refine lv_aload_n hx hb dX9_tryHum_47 rfl (lv_at hl 0 rfl) ?_
        refine m_get (g := g) (i := 0) (ci := 8) (k := 2) (v := .ref (w.1 g 6)) hx hb hI hown (mokS hg (by decide)) rfl rfl (by decide) lyX9 (q190 hI.T) rfl dX9_tryHum_48 ?_
        refine m_get (g := g) (i := 6) (ci := 0) (k := 1) (v := .ref (w.1 g 7)) hx hb hI hown (mokS hg (by decide)) rfl rfl (by decide) lyX1 (q128 hI.T) rfl dX9_tryHum_51 ?_
        refine lv_iload_n hx hb dX9_tryHum_54 rfl (lv_at hl 1 rfl) ?_
        obtain ⟨hi, hf⟩ := mix_e hf
        refine m_iald (g := g) (i := 7) hx hb hI (mokS hg (by decide)) rfl hi dX9_tryHum_55 ?_
        obtain ⟨M6, eM6, hf⟩ := mlet_e hf
        refine m_put (g := g) (i := 0) (ci := 8) (k := 4) (ty := .int) (M1 := M6) hx hb hI hown (mokS hg (by decide)) rfl rfl (by decide) lyX9 tyX9 tyX9_ok nmX9 (q194 hI.T) rfl rfl rfl rfl (Nat.le_of_ble_eq_true rfl) rfl eM6 dX9_tryHum_56 (fun H locs hI => ?_)
        refine lv_iconst (v := 0) hx hb dX9_tryHum_59 (by decide) ?_
        exact m_iretf hx hb hr hlk hI hf dX9_tryHum_60
      · have hf := (if_neg c4).symm.trans hf
        refine lv_bipush (v := (-2)) hx hb dX9_tryHum_18 (by decide) ?_
        exact m_iretf hx hb hr hlk hI hf dX9_tryHum_20
abbrev rmX11_hum : Room := { frames := 9, cells := 1, slots := 6, locals := 162 }
theorem kb_X11_hum {R : Room} {s : State} {args : Array Value} {own : String} {idx : Nat} (hT : mT s) (hlink : (Cond.methodLink own idx yX11_hum).before args s = true) (h1 : rmX11_hum.frames + 1 ≤ R.frames) (h2 : 8 + (3 + 11) + rmX11_hum.locals ≤ R.locals) : CallB R s args own idx yX11_hum cX11_hum 3 (some .int) [Cond.code yX11_hum cX11_hum 3 (some .int)] rmX11_hum 1 6 2 := m_callB hT kc_X11_hum ki_X11_hum hlink (by decide +kernel) ⟨rfl, rfl, h1, h2⟩
set_option maxHeartbeats 4000000 in
set_option maxRecDepth 100000 in
theorem c_X11_hum (l : Launch) (w : WD) (hsf : l.stackTraces = false) (sz : Nat) (a1 : Int32) (a2 : Int32) (M : Mem) (r : (Nat ⊕ Int32)) (M9 : Mem) (hf : f_X11_hum a1 a2 M = some (r, M9)) : mMetx l yX11_hum cX11_hum 3 (some .int) rmX11_hum w sz M [.ref (w.1 12 16), .int a1, .int a2] (moI r) M9 1 6 := by
  refine m_ofx (by decide) (Nat.le_of_ble_eq_true rfl) ?_
  intro p e s m args below meth c hx hb hr hml hown hlk hxt hI ls hl
  have hl : lv_has ls 3 [(0, .ref (w.1 12 16)), (1, .int a1), (2, .int a2)] := hl
  unfold f_X11_hum at hf
  refine lv_aload_n hx hb dX11_hum_0 rfl (lv_at hl 0 rfl) ?_
  refine m_get (g := 12) (i := 16) (ci := 9) (k := 1) (v := .ref (w.1 12 17)) hx hb hI hown (mokX (by decide) (by decide)) rfl rfl (by decide) lyX11 (q295 hI.T) rfl dX11_hum_1 ?_
  refine lv_aload_n hx hb dX11_hum_4 rfl (lv_at hl 0 rfl) ?_
  refine m_get (g := 12) (i := 16) (ci := 9) (k := 0) (v := .ref (w.1 0 0)) hx hb hI hown (mokX (by decide) (by decide)) rfl rfl (by decide) lyX11 (q294 hI.T) rfl dX11_hum_5 ?_
  obtain ⟨r1, M2, hc, hf⟩ := mbnd_e hf
  refine m_callV (As := [.ref (w.1 0 0)]) (rest := []) hx hb hml hown hI (c_X4_prepare l w s.heap.size 0 (by decide) M _ _ hc) (kb_X4_prepare hI.T (q724 hI.T) (Nat.le_of_ble_eq_true rfl) (Nat.le_of_ble_eq_true rfl)) (q725 hI.T) (q726 hI.T) (m_recv (g := 12) (i := 17) hI (mokX (by decide) (by decide)) rfl rfl) rfl hl.1 (Nat.le_of_ble_eq_true rfl) dX11_hum_8 ⟨Nat.le_of_ble_eq_true rfl, Nat.le_of_ble_eq_true rfl⟩ (fun H locs hI => ?_)
  refine lv_aload_n hx hb dX11_hum_11 rfl (lv_at hl 0 rfl) ?_
  refine lv_aload_n hx hb dX11_hum_12 rfl (lv_at hl 0 rfl) ?_
  refine m_get (g := 12) (i := 16) (ci := 9) (k := 0) (v := .ref (w.1 0 0)) hx hb hI hown (mokX (by decide) (by decide)) rfl rfl (by decide) lyX11 (q294 hI.T) rfl dX11_hum_13 ?_
  refine lv_iload_n hx hb dX11_hum_16 rfl (lv_at hl 1 rfl) ?_
  refine lv_iload_n hx hb dX11_hum_17 rfl (lv_at hl 2 rfl) ?_
  obtain ⟨r3, M4, hc, hf⟩ := mbnd_e hf
  refine m_callV (As := [.int a1, .int a2]) (rest := [.ref (w.1 12 16)]) hx hb hml hown hI (c_X9_tryHum l w H.size 0 (by decide) a1 a2 M2 _ _ hc) (kb_X9_tryHum hI.T (q942 hI.T) (Nat.le_of_ble_eq_true rfl) (Nat.le_of_ble_eq_true rfl)) (q943 hI.T) (q944 hI.T) (m_recv (g := 0) (i := 0) hI (mokS (by decide) (by decide)) rfl rfl) rfl hl.1 (Nat.le_of_ble_eq_true rfl) dX11_hum_18 ⟨Nat.le_of_ble_eq_true rfl, Nat.le_of_ble_eq_true rfl⟩ (fun H locs hI => ?_)
  refine lv_iconst (v := 0) hx hb dX11_hum_21 (by decide) ?_
  rcases mbndx_e hf with ⟨n6, M7, hc, hf⟩ | ⟨r5, M7, hc, hf⟩
  · exact m_callxTV (As := [.int r3, .int (0 : Int32)]) (rest := []) hx hb hml hown hI (c_X11_settle l w hsf H.size r3 (0 : Int32) M4 _ _ hc) (kb_X11_settle hI.T (q756 hI.T) (Nat.le_of_ble_eq_true rfl) (Nat.le_of_ble_eq_true rfl)) (q758 hI.T) (sel_X11_settle hI.T) (m_recv (g := 12) (i := 16) hI (mokX (by decide) (by decide)) rfl rfl) rfl hl.1 (Nat.le_of_ble_eq_true rfl) dX11_hum_22 ⟨Nat.le_of_ble_eq_true rfl, Nat.le_of_ble_eq_true rfl⟩ hxt hlk hf (Nat.le_of_ble_eq_true rfl) (Nat.le_of_ble_eq_true rfl)
  refine m_callxRV (As := [.int r3, .int (0 : Int32)]) (rest := []) hx hb hml hown hI (c_X11_settle l w hsf H.size r3 (0 : Int32) M4 _ _ hc) (kb_X11_settle hI.T (q756 hI.T) (Nat.le_of_ble_eq_true rfl) (Nat.le_of_ble_eq_true rfl)) (q758 hI.T) (sel_X11_settle hI.T) (m_recv (g := 12) (i := 16) hI (mokX (by decide) (by decide)) rfl rfl) rfl hl.1 (Nat.le_of_ble_eq_true rfl) dX11_hum_22 ⟨Nat.le_of_ble_eq_true rfl, Nat.le_of_ble_eq_true rfl⟩ (fun H locs hI => ?_)
  exact m_iretx hx hb hr hlk hI hf dX11_hum_25 (Nat.le_of_ble_eq_true rfl) (Nat.le_of_ble_eq_true rfl)
abbrev rmX1_beginHour : Room := { frames := 0, cells := 0, slots := 0, locals := 0 }
theorem kb_X1_beginHour {R : Room} {s : State} {args : Array Value} {own : String} {idx : Nat} (hT : mT s) (hlink : (Cond.methodLink own idx yX1_beginHour).before args s = true) (h1 : rmX1_beginHour.frames + 1 ≤ R.frames) (h2 : 8 + (3 + 11) + rmX1_beginHour.locals ≤ R.locals) : CallB R s args own idx yX1_beginHour cX1_beginHour 3 (none) [Cond.code yX1_beginHour cX1_beginHour 3 (none)] rmX1_beginHour 0 0 0 := m_callB hT kc_X1_beginHour ki_X1_beginHour hlink (by decide +kernel) ⟨rfl, rfl, h1, h2⟩
set_option maxHeartbeats 4000000 in
set_option maxRecDepth 100000 in
theorem c_X1_beginHour (l : Launch) (w : WD) (sz : Nat) (g : Nat) (hg : g ≤ 11) (M : Mem) (r : Unit) (M9 : Mem) (hf : f_X1_beginHour g M = some (r, M9)) : mMet l yX1_beginHour cX1_beginHour 3 (none) rmX1_beginHour w sz M [.ref (w.1 g 6)] none M9 := by
  refine m_of (by decide) (Nat.le_of_ble_eq_true rfl) ?_
  intro p e s m args below meth c hx hb hr hml hown hlk hI ls hl
  have hl : lv_has ls 3 [(0, .ref (w.1 g 6))] := hl
  unfold f_X1_beginHour at hf
  refine lv_aload_n hx hb dX1_beginHour_0 rfl (lv_at hl 0 rfl) ?_
  refine lv_dup hx hb dX1_beginHour_1 rfl ?_
  refine m_get (g := g) (i := 6) (ci := 0) (k := 0) (v := .int (M g 6 0)) hx hb hI hown (mokB hg (by decide) (by decide)) rfl rfl (by decide) lyX1 (q124 hI.T) rfl dX1_beginHour_2 ?_
  refine lv_iconst (v := 1) hx hb dX1_beginHour_5 (by decide) ?_
  refine lv_iadd hx hb dX1_beginHour_6 ?_
  obtain ⟨M1, eM1, hf⟩ := mlet_e hf
  refine m_put (g := g) (i := 6) (ci := 0) (k := 0) (ty := .int) (M1 := M1) hx hb hI hown (mokB hg (by decide) (by decide)) rfl rfl (by decide) lyX1 tyX1 tyX1_ok nmX1 (q124 hI.T) rfl rfl rfl rfl (Nat.le_of_ble_eq_true rfl) rfl eM1 dX1_beginHour_7 (fun H locs hI => ?_)
  refine lv_iconst (v := 0) hx hb dX1_beginHour_10 (by decide) ?_
  refine lv_istore_n (lv' := [(1, .int (0 : Int32)), (0, .ref (w.1 g 6))]) hx hb dX1_beginHour_11 rfl hl (by decide) rfl (fun ls hl => ?_)
  have hL12 : ∀ (n : Nat) (x2 : Int32) (M3 : Mem) (kk : Mem → Option (Unit × Mem)) (H : Heap) (locs : List Loc) (ls : Array Slot), f_X1_beginHour_L12 g n x2 M3 kk = some (r, M9) → mI w s (mA w s.heap.size) H locs M3 → lv_has ls 3 [(0, .ref (w.1 g 6)), (1, .int x2)] → (∀  (M3 : Mem) (H : Heap) (locs : List Loc) (ls : Array Slot), kk M3 = some (r, M9) → mI w s (mA w s.heap.size) H locs M3 → lv_has ls 3 [] → W p l e rmX1_beginHour s m args below meth c H locs 0 0 (MQ below (mQ w s.heap.size none M9) args s 0 0 (mA w s.heap.size)) (F0 m 73 ls [])) → W p l e rmX1_beginHour s m args below meth c H locs 0 0 (MQ below (mQ w s.heap.size none M9) args s 0 0 (mA w s.heap.size)) (F0 m 12 ls []) := by
    intro n
    induction n with
    | zero => intro x2 M3 kk H locs ls hf hI hl hk; rw [f_X1_beginHour_L12.eq_1] at hf; cases hf
    | succ n ih12 =>
      intro x2 M3 kk H locs ls hf hI hl hk
      rw [f_X1_beginHour_L12.eq_2] at hf
      refine lv_iload_n hx hb dX1_beginHour_12 rfl (lv_at hl 1 rfl) ?_
      refine lv_aload_n hx hb dX1_beginHour_13 rfl (lv_at hl 0 rfl) ?_
      refine m_get (g := g) (i := 6) (ci := 0) (k := 4) (v := .int (M3 g 6 4)) hx hb hI hown (mokB hg (by decide) (by decide)) rfl rfl (by decide) lyX1 (q135 hI.T) rfl dX1_beginHour_14 ?_
      refine lv_icmp_ge (tgt := 73) hx hb dX1_beginHour_17 (by decide) (fun c4 => ?_) (fun c4 => ?_)
      · have hf := (if_pos c4).symm.trans hf
        exact hk M3 H _ _ hf hI (lv_sub hl [] rfl)
      · have hf := (if_neg c4).symm.trans hf
        refine lv_aload_n hx hb dX1_beginHour_20 rfl (lv_at hl 0 rfl) ?_
        refine m_get (g := g) (i := 6) (ci := 0) (k := 0) (v := .int (M3 g 6 0)) hx hb hI hown (mokB hg (by decide) (by decide)) rfl rfl (by decide) lyX1 (q124 hI.T) rfl dX1_beginHour_21 ?_
        refine lv_aload_n hx hb dX1_beginHour_24 rfl (lv_at hl 0 rfl) ?_
        refine m_get (g := g) (i := 6) (ci := 0) (k := 7) (v := .ref (w.1 g 11)) hx hb hI hown (mokB hg (by decide) (by decide)) rfl rfl (by decide) lyX1 (q143 hI.T) rfl dX1_beginHour_25 ?_
        refine lv_iload_n hx hb dX1_beginHour_28 rfl (lv_at hl 1 rfl) ?_
        obtain ⟨hi, hf⟩ := mix_e hf
        refine m_iald (g := g) (i := 11) hx hb hI (mokB hg (by decide) (by decide)) rfl hi dX1_beginHour_29 ?_
        obtain ⟨hd, hf⟩ := mdiv_e hf
        refine lv_irem hx hb dX1_beginHour_30 hd ?_
        obtain ⟨k67_12, ek67_12, hf⟩ := mlet_e hf
        have hj67_12 : ∀ (M11 : Mem) (H : Heap) (locs : List Loc) (ls : Array Slot), k67_12 M11 = some (r, M9) → mI w s (mA w s.heap.size) H locs M11 → lv_has ls 3 [(0, .ref (w.1 g 6)), (1, .int x2)] → W p l e rmX1_beginHour s m args below meth c H locs 0 0 (MQ below (mQ w s.heap.size none M9) args s 0 0 (mA w s.heap.size)) (F0 m 67 ls []) := by
          intro M11 H locs ls hf hI hl
          rw [ek67_12] at hf
          try dsimp only at hf
          obtain ⟨x13, ex13, hf⟩ := mlet_e hf
          refine lv_iinc (v := x13) (lv' := [(1, .int x13), (0, .ref (w.1 g 6))]) hx hb dX1_beginHour_67 hl (k := 1) rfl (by rw [ex13]; rfl) (by decide) rfl (fun ls hl => ?_)
          refine lv_goto (tgt := 12) hx hb dX1_beginHour_70 (by decide) ?_
          exact ih12 x13 M11 kk H _ _ hf hI (lv_sub hl [1, 0] rfl) hk
        refine lv_if_ne (tgt := 67) hx hb dX1_beginHour_31 (by decide) (fun c5 => ?_) (fun c5 => ?_)
        · have hf := (if_neg c5).symm.trans hf
          exact hj67_12 M3 H _ _ hf hI (lv_sub hl [0, 1] rfl)
        · have hf := (if_pos c5).symm.trans hf
          refine lv_aload_n hx hb dX1_beginHour_34 rfl (lv_at hl 0 rfl) ?_
          refine m_get (g := g) (i := 6) (ci := 0) (k := 6) (v := .ref (w.1 g 10)) hx hb hI hown (mokB hg (by decide) (by decide)) rfl rfl (by decide) lyX1 (q140 hI.T) rfl dX1_beginHour_35 ?_
          refine lv_iload_n hx hb dX1_beginHour_38 rfl (lv_at hl 1 rfl) ?_
          obtain ⟨hi, hf⟩ := mix_e hf
          refine m_zald (g := g) hx hb hI (mokB hg (by decide) (by decide)) hi dX1_beginHour_39 ?_
          obtain ⟨k49_8, ek49_8, hf⟩ := mlet_e hf
          have hj49_8 : ∀ (x7 : Int32) (H : Heap) (locs : List Loc) (ls : Array Slot), k49_8 x7 = some (r, M9) → mI w s (mA w s.heap.size) H locs M3 → lv_has ls 3 [(0, .ref (w.1 g 6)), (1, .int x2)] → W p l e rmX1_beginHour s m args below meth c H locs 0 0 (MQ below (mQ w s.heap.size none M9) args s 0 0 (mA w s.heap.size)) (F0 m 49 ls [.int x7]) := by
            intro x7 H locs ls hf hI hl
            rw [ek49_8] at hf
            try dsimp only at hf
            refine lv_istore_n (lv' := [(2, .int x7), (0, .ref (w.1 g 6)), (1, .int x2)]) hx hb dX1_beginHour_49 rfl hl (by decide) rfl (fun ls hl => ?_)
            refine lv_aload_n hx hb dX1_beginHour_50 rfl (lv_at hl 1 rfl) ?_
            refine m_get (g := g) (i := 6) (ci := 0) (k := 5) (v := .ref (w.1 g 9)) hx hb hI hown (mokB hg (by decide) (by decide)) rfl rfl (by decide) lyX1 (q138 hI.T) rfl dX1_beginHour_51 ?_
            refine lv_iload_n hx hb dX1_beginHour_54 rfl (lv_at hl 2 rfl) ?_
            refine lv_aload_n hx hb dX1_beginHour_55 rfl (lv_at hl 1 rfl) ?_
            refine m_get (g := g) (i := 6) (ci := 0) (k := 5) (v := .ref (w.1 g 9)) hx hb hI hown (mokB hg (by decide) (by decide)) rfl rfl (by decide) lyX1 (q138 hI.T) rfl dX1_beginHour_56 ?_
            refine lv_iload_n hx hb dX1_beginHour_59 rfl (lv_at hl 2 rfl) ?_
            obtain ⟨hi, hf⟩ := mix_e hf
            refine m_iald (g := g) (i := 9) hx hb hI (mokB hg (by decide) (by decide)) rfl hi dX1_beginHour_60 ?_
            refine lv_iload_n hx hb dX1_beginHour_61 rfl (lv_at hl 0 rfl) ?_
            refine lv_iadd hx hb dX1_beginHour_62 ?_
            refine lv_bipush (v := 8) hx hb dX1_beginHour_63 (by decide) ?_
            refine lv_irem hx hb dX1_beginHour_65 (by decide) ?_
            obtain ⟨hi, hf⟩ := mix_e hf
            obtain ⟨M10, eM10, hf⟩ := mlet_e hf
            refine m_iast (g := g) (i := 9) (M1 := M10) hx hb hI (mokB hg (by decide) (by decide)) rfl hi eM10 dX1_beginHour_66 (fun H locs hI => ?_)
            exact hj67_12 M10 H _ _ hf hI (lv_sub hl [1, 2] rfl)
          refine lv_if_eq (tgt := 47) hx hb dX1_beginHour_40 (by decide) (fun c6 => ?_) (fun c6 => ?_)
          · have hf := (if_pos c6).symm.trans hf
            refine lv_bipush (v := 7) hx hb dX1_beginHour_47 (by decide) ?_
            exact hj49_8 (7 : Int32) H _ _ hf hI (lv_sub hl [0, 1] rfl)
          · have hf := (if_neg c6).symm.trans hf
            refine lv_iconst (v := 1) hx hb dX1_beginHour_43 (by decide) ?_
            refine lv_goto (tgt := 49) hx hb dX1_beginHour_44 (by decide) ?_
            exact hj49_8 (1 : Int32) H _ _ hf hI (lv_sub hl [0, 1] rfl)
  refine hL12 1000 (0 : Int32) M1 _ _ _ _ hf hI (lv_sub hl [1, 0] rfl) ?_
  intro M14 H locs ls hf hI hl
  try dsimp only at hf
  exact m_vretf hx hb hr hlk hI hf dX1_beginHour_73
abbrev rmX1_hasGuardBeside : Room := { frames := 1, cells := 0, slots := 0, locals := 22 }
theorem kb_X1_hasGuardBeside {R : Room} {s : State} {args : Array Value} {own : String} {idx : Nat} (hT : mT s) (hlink : (Cond.methodLink own idx yX1_hasGuardBeside).before args s = true) (h1 : rmX1_hasGuardBeside.frames + 1 ≤ R.frames) (h2 : 8 + (2 + 11) + rmX1_hasGuardBeside.locals ≤ R.locals) : CallB R s args own idx yX1_hasGuardBeside cX1_hasGuardBeside 2 (some .boolean) [Cond.code yX1_hasGuardBeside cX1_hasGuardBeside 2 (some .boolean)] rmX1_hasGuardBeside 0 0 1 := m_callB hT kc_X1_hasGuardBeside ki_X1_hasGuardBeside hlink (by decide +kernel) ⟨rfl, rfl, h1, h2⟩
set_option maxHeartbeats 4000000 in
set_option maxRecDepth 100000 in
theorem c_X1_hasGuardBeside (l : Launch) (w : WD) (sz : Nat) (g : Nat) (hg : g ≤ 11) (a1 : Int32) (M : Mem) (r : Int32) (hf : f_X1_hasGuardBeside g a1 M = some r) : mMet l yX1_hasGuardBeside cX1_hasGuardBeside 2 (some .boolean) rmX1_hasGuardBeside w sz M [.ref (w.1 g 6), .int a1] (some (.int r)) M := by
  refine m_of (by decide) (Nat.le_of_ble_eq_true rfl) ?_
  intro p e s m args below meth c hx hb hr hml hown hlk hI ls hl
  have hl : lv_has ls 2 [(0, .ref (w.1 g 6)), (1, .int a1)] := hl
  unfold f_X1_hasGuardBeside at hf
  refine lv_aload_n hx hb dX1_hasGuardBeside_0 rfl (lv_at hl 0 rfl) ?_
  refine lv_iload_n hx hb dX1_hasGuardBeside_1 rfl (lv_at hl 1 rfl) ?_
  refine lv_iconst (v := 1) hx hb dX1_hasGuardBeside_2 (by decide) ?_
  refine lv_iadd hx hb dX1_hasGuardBeside_3 ?_
  refine lv_bipush (v := 8) hx hb dX1_hasGuardBeside_4 (by decide) ?_
  refine lv_irem hx hb dX1_hasGuardBeside_6 (by decide) ?_
  obtain ⟨r1, hc, hf⟩ := mbp_e hf
  refine m_callV (As := [.int (mrem (a1 + (1 : Int32)) (8 : Int32))]) (rest := []) hx hb hml hown hI (c_X1_hasGuardIn l w s.heap.size g hg (mrem (a1 + (1 : Int32)) (8 : Int32)) M _ hc) (kb_X1_hasGuardIn hI.T (q642 hI.T) (Nat.le_of_ble_eq_true rfl) (Nat.le_of_ble_eq_true rfl)) (q622 hI.T) (q623 hI.T) (m_recv (g := g) (i := 6) hI (mokB hg (by decide) (by decide)) rfl rfl) rfl hl.1 (Nat.le_of_ble_eq_true rfl) dX1_hasGuardBeside_7 ⟨Nat.le_of_ble_eq_true rfl, Nat.le_of_ble_eq_true rfl⟩ (fun H locs hI => ?_)
  obtain ⟨k29_5, ek29_5, hf⟩ := mlet_e hf
  have hj29_5 : ∀ (_u : Unit) (H : Heap) (locs : List Loc) (ls : Array Slot), k29_5 _u = some r → mI w s (mA w s.heap.size) H locs M → lv_has ls 2 [] → W p l e rmX1_hasGuardBeside s m args below meth c H locs 0 0 (MQ below (mQ w s.heap.size (some (.int r)) M) args s 0 0 (mA w s.heap.size)) (F0 m 29 ls []) := by
    intro _u H locs ls hf hI hl
    rw [ek29_5] at hf
    try dsimp only at hf
    refine lv_iconst (v := 1) hx hb dX1_hasGuardBeside_29 (by decide) ?_
    refine lv_goto (tgt := 34) hx hb dX1_hasGuardBeside_30 (by decide) ?_
    exact m_zretp hx hb hr hlk hI rfl hf dX1_hasGuardBeside_34
  refine lv_if_ne (tgt := 29) hx hb dX1_hasGuardBeside_10 (by decide) (fun c2 => ?_) (fun c2 => ?_)
  · have hf := (if_neg c2).symm.trans hf
    exact hj29_5 () H _ _ hf hI (lv_sub hl [] rfl)
  · have hf := (if_pos c2).symm.trans hf
    refine lv_aload_n hx hb dX1_hasGuardBeside_13 rfl (lv_at hl 0 rfl) ?_
    refine lv_iload_n hx hb dX1_hasGuardBeside_14 rfl (lv_at hl 1 rfl) ?_
    refine lv_bipush (v := 8) hx hb dX1_hasGuardBeside_15 (by decide) ?_
    refine lv_iadd hx hb dX1_hasGuardBeside_17 ?_
    refine lv_iconst (v := 1) hx hb dX1_hasGuardBeside_18 (by decide) ?_
    refine lv_isub hx hb dX1_hasGuardBeside_19 ?_
    refine lv_bipush (v := 8) hx hb dX1_hasGuardBeside_20 (by decide) ?_
    refine lv_irem hx hb dX1_hasGuardBeside_22 (by decide) ?_
    obtain ⟨r3, hc, hf⟩ := mbp_e hf
    refine m_callV (As := [.int (mrem ((a1 + (8 : Int32)) - (1 : Int32)) (8 : Int32))]) (rest := []) hx hb hml hown hI (c_X1_hasGuardIn l w H.size g hg (mrem ((a1 + (8 : Int32)) - (1 : Int32)) (8 : Int32)) M _ hc) (kb_X1_hasGuardIn hI.T (q642 hI.T) (Nat.le_of_ble_eq_true rfl) (Nat.le_of_ble_eq_true rfl)) (q622 hI.T) (q623 hI.T) (m_recv (g := g) (i := 6) hI (mokB hg (by decide) (by decide)) rfl rfl) rfl hl.1 (Nat.le_of_ble_eq_true rfl) dX1_hasGuardBeside_23 ⟨Nat.le_of_ble_eq_true rfl, Nat.le_of_ble_eq_true rfl⟩ (fun H locs hI => ?_)
    refine lv_if_eq (tgt := 33) hx hb dX1_hasGuardBeside_26 (by decide) (fun c4 => ?_) (fun c4 => ?_)
    · have hf := (if_pos c4).symm.trans hf
      refine lv_iconst (v := 0) hx hb dX1_hasGuardBeside_33 (by decide) ?_
      exact m_zretp hx hb hr hlk hI rfl hf dX1_hasGuardBeside_34
    · have hf := (if_neg c4).symm.trans hf
      exact hj29_5 () H _ _ hf hI (lv_sub hl [] rfl)
abbrev rmX1_passOneHour : Room := { frames := 2, cells := 0, slots := 0, locals := 43 }
theorem kb_X1_passOneHour {R : Room} {s : State} {args : Array Value} {own : String} {idx : Nat} (hT : mT s) (hlink : (Cond.methodLink own idx yX1_passOneHour).before args s = true) (h1 : rmX1_passOneHour.frames + 1 ≤ R.frames) (h2 : 8 + (3 + 11) + rmX1_passOneHour.locals ≤ R.locals) : CallB R s args own idx yX1_passOneHour cX1_passOneHour 3 (some .int) [Cond.code yX1_passOneHour cX1_passOneHour 3 (some .int)] rmX1_passOneHour 0 0 0 := m_callB hT kc_X1_passOneHour ki_X1_passOneHour hlink (by decide +kernel) ⟨rfl, rfl, h1, h2⟩
set_option maxHeartbeats 4000000 in
set_option maxRecDepth 100000 in
theorem c_X1_passOneHour (l : Launch) (w : WD) (sz : Nat) (g : Nat) (hg : g ≤ 11) (M : Mem) (r : Int32) (M9 : Mem) (hf : f_X1_passOneHour g M = some (r, M9)) : mMet l yX1_passOneHour cX1_passOneHour 3 (some .int) rmX1_passOneHour w sz M [.ref (w.1 g 6)] (some (.int r)) M9 := by
  refine m_of (by decide) (Nat.le_of_ble_eq_true rfl) ?_
  intro p e s m args below meth c hx hb hr hml hown hlk hI ls hl
  have hl : lv_has ls 3 [(0, .ref (w.1 g 6))] := hl
  unfold f_X1_passOneHour at hf
  refine lv_aload_n hx hb dX1_passOneHour_0 rfl (lv_at hl 0 rfl) ?_
  obtain ⟨r1, M2, hc, hf⟩ := mbnd_e hf
  refine m_callV (As := []) (rest := []) hx hb hml hown hI (c_X1_beginHour l w s.heap.size g hg M _ _ hc) (kb_X1_beginHour hI.T (q641 hI.T) (Nat.le_of_ble_eq_true rfl) (Nat.le_of_ble_eq_true rfl)) (q626 hI.T) (q627 hI.T) (m_recv (g := g) (i := 6) hI (mokB hg (by decide) (by decide)) rfl rfl) rfl hl.1 (Nat.le_of_ble_eq_true rfl) dX1_passOneHour_1 ⟨Nat.le_of_ble_eq_true rfl, Nat.le_of_ble_eq_true rfl⟩ (fun H locs hI => ?_)
  refine lv_iconst (v := 0) hx hb dX1_passOneHour_4 (by decide) ?_
  refine lv_istore_n (lv' := [(1, .int (0 : Int32)), (0, .ref (w.1 g 6))]) hx hb dX1_passOneHour_5 rfl hl (by decide) rfl (fun ls hl => ?_)
  refine lv_iconst (v := 0) hx hb dX1_passOneHour_6 (by decide) ?_
  refine lv_istore_n (lv' := [(2, .int (0 : Int32)), (1, .int (0 : Int32)), (0, .ref (w.1 g 6))]) hx hb dX1_passOneHour_7 rfl hl (by decide) rfl (fun ls hl => ?_)
  have hL8 : ∀ (n : Nat) (x3 : Int32) (x4 : Int32) (M5 : Mem) (kk : Int32 → Mem → Option (Int32 × Mem)) (H : Heap) (locs : List Loc) (ls : Array Slot), f_X1_passOneHour_L8 g n x3 x4 M5 kk = some (r, M9) → mI w s (mA w s.heap.size) H locs M5 → lv_has ls 3 [(0, .ref (w.1 g 6)), (1, .int x3), (2, .int x4)] → (∀ (x3 : Int32) (M5 : Mem) (H : Heap) (locs : List Loc) (ls : Array Slot), kk x3 M5 = some (r, M9) → mI w s (mA w s.heap.size) H locs M5 → lv_has ls 3 [(1, .int x3)] → W p l e rmX1_passOneHour s m args below meth c H locs 0 0 (MQ below (mQ w s.heap.size (some (.int r)) M9) args s 0 0 (mA w s.heap.size)) (F0 m 111 ls [])) → W p l e rmX1_passOneHour s m args below meth c H locs 0 0 (MQ below (mQ w s.heap.size (some (.int r)) M9) args s 0 0 (mA w s.heap.size)) (F0 m 8 ls []) := by
    intro n
    induction n with
    | zero => intro x3 x4 M5 kk H locs ls hf hI hl hk; rw [f_X1_passOneHour_L8.eq_1] at hf; cases hf
    | succ n ih8 =>
      intro x3 x4 M5 kk H locs ls hf hI hl hk
      rw [f_X1_passOneHour_L8.eq_2] at hf
      refine lv_iload_n hx hb dX1_passOneHour_8 rfl (lv_at hl 2 rfl) ?_
      refine lv_bipush (v := 8) hx hb dX1_passOneHour_9 (by decide) ?_
      refine lv_icmp_ge (tgt := 111) hx hb dX1_passOneHour_11 (by decide) (fun c6 => ?_) (fun c6 => ?_)
      · have hf := (if_pos c6).symm.trans hf
        exact hk x3 M5 H _ _ hf hI (lv_sub hl [1] rfl)
      · have hf := (if_neg c6).symm.trans hf
        refine lv_aload_n hx hb dX1_passOneHour_14 rfl (lv_at hl 0 rfl) ?_
        refine lv_iload_n hx hb dX1_passOneHour_15 rfl (lv_at hl 2 rfl) ?_
        obtain ⟨r7, hc, hf⟩ := mbp_e hf
        refine m_callV (As := [.int x4]) (rest := []) hx hb hml hown hI (c_X1_hasGuardIn l w H.size g hg x4 M5 _ hc) (kb_X1_hasGuardIn hI.T (q642 hI.T) (Nat.le_of_ble_eq_true rfl) (Nat.le_of_ble_eq_true rfl)) (q622 hI.T) (q623 hI.T) (m_recv (g := g) (i := 6) hI (mokB hg (by decide) (by decide)) rfl rfl) rfl hl.1 (Nat.le_of_ble_eq_true rfl) dX1_passOneHour_16 ⟨Nat.le_of_ble_eq_true rfl, Nat.le_of_ble_eq_true rfl⟩ (fun H locs hI => ?_)
        obtain ⟨k105_22, ek105_22, hf⟩ := mlet_e hf
        have hj105_22 : ∀ (x20 : Int32) (M21 : Mem) (H : Heap) (locs : List Loc) (ls : Array Slot), k105_22 x20 M21 = some (r, M9) → mI w s (mA w s.heap.size) H locs M21 → lv_has ls 3 [(0, .ref (w.1 g 6)), (1, .int x20), (2, .int x4)] → W p l e rmX1_passOneHour s m args below meth c H locs 0 0 (MQ below (mQ w s.heap.size (some (.int r)) M9) args s 0 0 (mA w s.heap.size)) (F0 m 105 ls []) := by
          intro x20 M21 H locs ls hf hI hl
          rw [ek105_22] at hf
          try dsimp only at hf
          obtain ⟨x23, ex23, hf⟩ := mlet_e hf
          refine lv_iinc (v := x23) (lv' := [(2, .int x23), (0, .ref (w.1 g 6)), (1, .int x20)]) hx hb dX1_passOneHour_105 hl (k := 2) rfl (by rw [ex23]; rfl) (by decide) rfl (fun ls hl => ?_)
          refine lv_goto (tgt := 8) hx hb dX1_passOneHour_108 (by decide) ?_
          exact ih8 x20 x23 M21 kk H _ _ hf hI (lv_sub hl [1, 2, 0] rfl) hk
        refine lv_if_eq (tgt := 32) hx hb dX1_passOneHour_19 (by decide) (fun c8 => ?_) (fun c8 => ?_)
        · have hf := (if_pos c8).symm.trans hf
          refine lv_aload_n hx hb dX1_passOneHour_32 rfl (lv_at hl 0 rfl) ?_
          refine m_get (g := g) (i := 6) (ci := 0) (k := 1) (v := .ref (w.1 g 7)) hx hb hI hown (mokB hg (by decide) (by decide)) rfl rfl (by decide) lyX1 (q127 hI.T) rfl dX1_passOneHour_33 ?_
          refine lv_iload_n hx hb dX1_passOneHour_36 rfl (lv_at hl 2 rfl) ?_
          obtain ⟨hi, hf⟩ := mix_e hf
          refine m_iald (g := g) (i := 7) hx hb hI (mokB hg (by decide) (by decide)) rfl hi dX1_passOneHour_37 ?_
          refine lv_iconst (v := 5) hx hb dX1_passOneHour_38 (by decide) ?_
          obtain ⟨k86_16, ek86_16, hf⟩ := mlet_e hf
          have hj86_16 : ∀ (_u : Unit) (H : Heap) (locs : List Loc) (ls : Array Slot), k86_16 _u = some (r, M9) → mI w s (mA w s.heap.size) H locs M5 → lv_has ls 3 [(0, .ref (w.1 g 6)), (1, .int x3), (2, .int x4)] → W p l e rmX1_passOneHour s m args below meth c H locs 0 0 (MQ below (mQ w s.heap.size (some (.int r)) M9) args s 0 0 (mA w s.heap.size)) (F0 m 86 ls []) := by
            intro _u H locs ls hf hI hl
            rw [ek86_16] at hf
            try dsimp only at hf
            refine lv_aload_n hx hb dX1_passOneHour_86 rfl (lv_at hl 0 rfl) ?_
            refine m_get (g := g) (i := 6) (ci := 0) (k := 1) (v := .ref (w.1 g 7)) hx hb hI hown (mokB hg (by decide) (by decide)) rfl rfl (by decide) lyX1 (q127 hI.T) rfl dX1_passOneHour_87 ?_
            refine lv_iload_n hx hb dX1_passOneHour_90 rfl (lv_at hl 2 rfl) ?_
            obtain ⟨hi, hf⟩ := mix_e hf
            refine m_iald (g := g) (i := 7) hx hb hI (mokB hg (by decide) (by decide)) rfl hi dX1_passOneHour_91 ?_
            refine lv_if_le (tgt := 105) hx hb dX1_passOneHour_92 (by decide) (fun c17 => ?_) (fun c17 => ?_)
            · have hf := (if_pos c17).symm.trans hf
              exact hj105_22 x3 M5 H _ _ hf hI (lv_sub hl [0, 1, 2] rfl)
            · have hf := (if_neg c17).symm.trans hf
              refine lv_aload_n hx hb dX1_passOneHour_95 rfl (lv_at hl 0 rfl) ?_
              refine m_get (g := g) (i := 6) (ci := 0) (k := 1) (v := .ref (w.1 g 7)) hx hb hI hown (mokB hg (by decide) (by decide)) rfl rfl (by decide) lyX1 (q127 hI.T) rfl dX1_passOneHour_96 ?_
              refine lv_iload_n hx hb dX1_passOneHour_99 rfl (lv_at hl 2 rfl) ?_
              refine lv_dup2_11 hx hb dX1_passOneHour_100 rfl rfl ?_
              obtain ⟨hi, hf⟩ := mix_e hf
              refine m_iald (g := g) (i := 7) hx hb hI (mokB hg (by decide) (by decide)) rfl hi dX1_passOneHour_101 ?_
              refine lv_iconst (v := 1) hx hb dX1_passOneHour_102 (by decide) ?_
              refine lv_isub hx hb dX1_passOneHour_103 ?_
              obtain ⟨hi, hf⟩ := mix_e hf
              obtain ⟨M18, eM18, hf⟩ := mlet_e hf
              refine m_iast (g := g) (i := 7) (M1 := M18) hx hb hI (mokB hg (by decide) (by decide)) rfl hi eM18 dX1_passOneHour_104 (fun H locs hI => ?_)
              exact hj105_22 x3 M18 H _ _ hf hI (lv_sub hl [0, 1, 2] rfl)
          refine lv_icmp_lt (tgt := 86) hx hb dX1_passOneHour_39 (by decide) (fun c9 => ?_) (fun c9 => ?_)
          · have hf := (if_pos c9).symm.trans hf
            exact hj86_16 () H _ _ hf hI (lv_sub hl [0, 1, 2] rfl)
          · have hf := (if_neg c9).symm.trans hf
            refine lv_aload_n hx hb dX1_passOneHour_42 rfl (lv_at hl 0 rfl) ?_
            refine lv_iload_n hx hb dX1_passOneHour_43 rfl (lv_at hl 2 rfl) ?_
            obtain ⟨r10, hc, hf⟩ := mbp_e hf
            refine m_callV (As := [.int x4]) (rest := []) hx hb hml hown hI (c_X1_hasGuardBeside l w H.size g hg x4 M5 _ hc) (kb_X1_hasGuardBeside hI.T (q643 hI.T) (Nat.le_of_ble_eq_true rfl) (Nat.le_of_ble_eq_true rfl)) (q644 hI.T) (q645 hI.T) (m_recv (g := g) (i := 6) hI (mokB hg (by decide) (by decide)) rfl rfl) rfl hl.1 (Nat.le_of_ble_eq_true rfl) dX1_passOneHour_44 ⟨Nat.le_of_ble_eq_true rfl, Nat.le_of_ble_eq_true rfl⟩ (fun H locs hI => ?_)
            refine lv_if_ne (tgt := 86) hx hb dX1_passOneHour_47 (by decide) (fun c11 => ?_) (fun c11 => ?_)
            · have hf := (if_neg c11).symm.trans hf
              exact hj86_16 () H _ _ hf hI (lv_sub hl [0, 1, 2] rfl)
            · have hf := (if_pos c11).symm.trans hf
              refine lv_aload_n hx hb dX1_passOneHour_50 rfl (lv_at hl 0 rfl) ?_
              refine m_get (g := g) (i := 6) (ci := 0) (k := 1) (v := .ref (w.1 g 7)) hx hb hI hown (mokB hg (by decide) (by decide)) rfl rfl (by decide) lyX1 (q127 hI.T) rfl dX1_passOneHour_51 ?_
              refine lv_iload_n hx hb dX1_passOneHour_54 rfl (lv_at hl 2 rfl) ?_
              refine lv_iconst (v := 0) hx hb dX1_passOneHour_55 (by decide) ?_
              obtain ⟨hi, hf⟩ := mix_e hf
              obtain ⟨M12, eM12, hf⟩ := mlet_e hf
              refine m_iast (g := g) (i := 7) (M1 := M12) hx hb hI (mokB hg (by decide) (by decide)) rfl hi eM12 dX1_passOneHour_56 (fun H locs hI => ?_)
              refine lv_aload_n hx hb dX1_passOneHour_57 rfl (lv_at hl 0 rfl) ?_
              refine m_get (g := g) (i := 6) (ci := 0) (k := 2) (v := .ref (w.1 g 8)) hx hb hI hown (mokB hg (by decide) (by decide)) rfl rfl (by decide) lyX1 (q130 hI.T) rfl dX1_passOneHour_58 ?_
              refine lv_iload_n hx hb dX1_passOneHour_61 rfl (lv_at hl 2 rfl) ?_
              refine lv_dup2_11 hx hb dX1_passOneHour_62 rfl rfl ?_
              obtain ⟨hi, hf⟩ := mix_e hf
              refine m_iald (g := g) (i := 8) hx hb hI (mokB hg (by decide) (by decide)) rfl hi dX1_passOneHour_63 ?_
              refine lv_iconst (v := 1) hx hb dX1_passOneHour_64 (by decide) ?_
              refine lv_iadd hx hb dX1_passOneHour_65 ?_
              obtain ⟨hi, hf⟩ := mix_e hf
              obtain ⟨M13, eM13, hf⟩ := mlet_e hf
              refine m_iast (g := g) (i := 8) (M1 := M13) hx hb hI (mokB hg (by decide) (by decide)) rfl hi eM13 dX1_passOneHour_66 (fun H locs hI => ?_)
              refine lv_aload_n hx hb dX1_passOneHour_67 rfl (lv_at hl 0 rfl) ?_
              refine lv_dup hx hb dX1_passOneHour_68 rfl ?_
              refine m_get (g := g) (i := 6) (ci := 0) (k := 3) (v := .int (M13 g 6 3)) hx hb hI hown (mokB hg (by decide) (by decide)) rfl rfl (by decide) lyX1 (q132 hI.T) rfl dX1_passOneHour_69 ?_
              refine lv_iconst (v := 1) hx hb dX1_passOneHour_72 (by decide) ?_
              refine lv_iadd hx hb dX1_passOneHour_73 ?_
              obtain ⟨M14, eM14, hf⟩ := mlet_e hf
              refine m_put (g := g) (i := 6) (ci := 0) (k := 3) (ty := .int) (M1 := M14) hx hb hI hown (mokB hg (by decide) (by decide)) rfl rfl (by decide) lyX1 tyX1 tyX1_ok nmX1 (q132 hI.T) rfl rfl rfl rfl (Nat.le_of_ble_eq_true rfl) rfl eM14 dX1_passOneHour_74 (fun H locs hI => ?_)
              refine lv_iload_n hx hb dX1_passOneHour_77 rfl (lv_at hl 1 rfl) ?_
              refine lv_iconst (v := 1) hx hb dX1_passOneHour_78 (by decide) ?_
              refine lv_iload_n hx hb dX1_passOneHour_79 rfl (lv_at hl 2 rfl) ?_
              refine lv_ishl hx hb dX1_passOneHour_80 ?_
              refine lv_ior hx hb dX1_passOneHour_81 ?_
              refine lv_topi (fun x15 ex15 => ?_)
              have hf := mlet_s ex15 hf
              refine lv_istore_n (lv' := [(1, .int x15), (0, .ref (w.1 g 6)), (2, .int x4)]) hx hb dX1_passOneHour_82 rfl hl (by decide) rfl (fun ls hl => ?_)
              refine lv_goto (tgt := 105) hx hb dX1_passOneHour_83 (by decide) ?_
              exact hj105_22 x15 M14 H _ _ hf hI (lv_sub hl [1, 0, 2] rfl)
        · have hf := (if_neg c8).symm.trans hf
          refine lv_aload_n hx hb dX1_passOneHour_22 rfl (lv_at hl 0 rfl) ?_
          refine m_get (g := g) (i := 6) (ci := 0) (k := 1) (v := .ref (w.1 g 7)) hx hb hI hown (mokB hg (by decide) (by decide)) rfl rfl (by decide) lyX1 (q127 hI.T) rfl dX1_passOneHour_23 ?_
          refine lv_iload_n hx hb dX1_passOneHour_26 rfl (lv_at hl 2 rfl) ?_
          refine lv_iconst (v := 0) hx hb dX1_passOneHour_27 (by decide) ?_
          obtain ⟨hi, hf⟩ := mix_e hf
          obtain ⟨M19, eM19, hf⟩ := mlet_e hf
          refine m_iast (g := g) (i := 7) (M1 := M19) hx hb hI (mokB hg (by decide) (by decide)) rfl hi eM19 dX1_passOneHour_28 (fun H locs hI => ?_)
          refine lv_goto (tgt := 105) hx hb dX1_passOneHour_29 (by decide) ?_
          exact hj105_22 x3 M19 H _ _ hf hI (lv_sub hl [0, 1, 2] rfl)
  refine hL8 1000 (0 : Int32) (0 : Int32) M2 _ _ _ _ hf hI (lv_sub hl [2, 1, 0] rfl) ?_
  intro x24 M25 H locs ls hf hI hl
  try dsimp only at hf
  refine lv_iload_n hx hb dX1_passOneHour_111 rfl (lv_at hl 0 rfl) ?_
  exact m_iretf hx hb hr hlk hI hf dX1_passOneHour_112
abbrev rmX9_enterAlarms : Room := { frames := 3, cells := 0, slots := 0, locals := 83 }
theorem kb_X9_enterAlarms {R : Room} {s : State} {args : Array Value} {own : String} {idx : Nat} (hT : mT s) (hlink : (Cond.methodLink own idx yX9_enterAlarms).before args s = true) (h1 : rmX9_enterAlarms.frames + 1 ≤ R.frames) (h2 : 8 + (3 + 11) + rmX9_enterAlarms.locals ≤ R.locals) : CallB R s args own idx yX9_enterAlarms cX9_enterAlarms 3 (none) [Cond.code yX9_enterAlarms cX9_enterAlarms 3 (none)] rmX9_enterAlarms 0 0 1 := m_callB hT kc_X9_enterAlarms ki_X9_enterAlarms hlink (by decide +kernel) ⟨rfl, rfl, h1, h2⟩
set_option maxHeartbeats 4000000 in
set_option maxRecDepth 100000 in
theorem c_X9_enterAlarms (l : Launch) (w : WD) (sz : Nat) (g : Nat) (hg : g ≤ 10) (a1 : Int32) (M : Mem) (r : Unit) (M9 : Mem) (hf : f_X9_enterAlarms g a1 M = some (r, M9)) : mMet l yX9_enterAlarms cX9_enterAlarms 3 (none) rmX9_enterAlarms w sz M [.ref (w.1 g 0), .int a1] none M9 := by
  refine m_of (by decide) (Nat.le_of_ble_eq_true rfl) ?_
  intro p e s m args below meth c hx hb hr hml hown hlk hI ls hl
  have hl : lv_has ls 3 [(0, .ref (w.1 g 0)), (1, .int a1)] := hl
  unfold f_X9_enterAlarms at hf
  refine lv_iconst (v := 0) hx hb dX9_enterAlarms_0 (by decide) ?_
  refine lv_istore_n (lv' := [(2, .int (0 : Int32)), (0, .ref (w.1 g 0)), (1, .int a1)]) hx hb dX9_enterAlarms_1 rfl hl (by decide) rfl (fun ls hl => ?_)
  have hL2 : ∀ (n : Nat) (x1 : Int32) (M2 : Mem) (kk : Mem → Option (Unit × Mem)) (H : Heap) (locs : List Loc) (ls : Array Slot), f_X9_enterAlarms_L2 g a1 n x1 M2 kk = some (r, M9) → mI w s (mA w s.heap.size) H locs M2 → lv_has ls 3 [(0, .ref (w.1 g 0)), (1, .int a1), (2, .int x1)] → (∀  (M2 : Mem) (H : Heap) (locs : List Loc) (ls : Array Slot), kk M2 = some (r, M9) → mI w s (mA w s.heap.size) H locs M2 → lv_has ls 3 [] → W p l e rmX9_enterAlarms s m args below meth c H locs 0 0 (MQ below (mQ w s.heap.size none M9) args s 0 0 (mA w s.heap.size)) (F0 m 40 ls [])) → W p l e rmX9_enterAlarms s m args below meth c H locs 0 0 (MQ below (mQ w s.heap.size none M9) args s 0 0 (mA w s.heap.size)) (F0 m 2 ls []) := by
    intro n
    induction n with
    | zero => intro x1 M2 kk H locs ls hf hI hl hk; rw [f_X9_enterAlarms_L2.eq_1] at hf; cases hf
    | succ n ih2 =>
      intro x1 M2 kk H locs ls hf hI hl hk
      rw [f_X9_enterAlarms_L2.eq_2] at hf
      refine lv_iload_n hx hb dX9_enterAlarms_2 rfl (lv_at hl 2 rfl) ?_
      refine lv_bipush (v := 8) hx hb dX9_enterAlarms_3 (by decide) ?_
      refine lv_icmp_ge (tgt := 40) hx hb dX9_enterAlarms_5 (by decide) (fun c3 => ?_) (fun c3 => ?_)
      · have hf := (if_pos c3).symm.trans hf
        exact hk M2 H _ _ hf hI (lv_sub hl [] rfl)
      · have hf := (if_neg c3).symm.trans hf
        refine lv_iload_n hx hb dX9_enterAlarms_8 rfl (lv_at hl 1 rfl) ?_
        refine lv_iload_n hx hb dX9_enterAlarms_9 rfl (lv_at hl 2 rfl) ?_
        refine lv_ishr hx hb dX9_enterAlarms_10 ?_
        refine lv_iconst (v := 1) hx hb dX9_enterAlarms_11 (by decide) ?_
        refine lv_iand hx hb dX9_enterAlarms_12 ?_
        refine lv_iconst (v := 1) hx hb dX9_enterAlarms_13 (by decide) ?_
        obtain ⟨k34_8, ek34_8, hf⟩ := mlet_e hf
        have hj34_8 : ∀ (M7 : Mem) (H : Heap) (locs : List Loc) (ls : Array Slot), k34_8 M7 = some (r, M9) → mI w s (mA w s.heap.size) H locs M7 → lv_has ls 3 [(0, .ref (w.1 g 0)), (1, .int a1), (2, .int x1)] → W p l e rmX9_enterAlarms s m args below meth c H locs 0 0 (MQ below (mQ w s.heap.size none M9) args s 0 0 (mA w s.heap.size)) (F0 m 34 ls []) := by
          intro M7 H locs ls hf hI hl
          rw [ek34_8] at hf
          try dsimp only at hf
          obtain ⟨x9, ex9, hf⟩ := mlet_e hf
          refine lv_iinc (v := x9) (lv' := [(2, .int x9), (0, .ref (w.1 g 0)), (1, .int a1)]) hx hb dX9_enterAlarms_34 hl (k := 2) rfl (by rw [ex9]; rfl) (by decide) rfl (fun ls hl => ?_)
          refine lv_goto (tgt := 2) hx hb dX9_enterAlarms_37 (by decide) ?_
          exact ih2 x9 M7 kk H _ _ hf hI (lv_sub hl [1, 2, 0] rfl) hk
        refine lv_icmp_ne (tgt := 34) hx hb dX9_enterAlarms_14 (by decide) (fun c4 => ?_) (fun c4 => ?_)
        · have hf := (if_neg c4).symm.trans hf
          exact hj34_8 M2 H _ _ hf hI (lv_sub hl [0, 1, 2] rfl)
        · have hf := (if_pos c4).symm.trans hf
          refine lv_aload_n hx hb dX9_enterAlarms_17 rfl (lv_at hl 0 rfl) ?_
          refine m_get (g := g) (i := 0) (ci := 8) (k := 3) (v := .ref (w.1 g 12)) hx hb hI hown (mokS hg (by decide)) rfl rfl (by decide) lyX9 (q192 hI.T) rfl dX9_enterAlarms_18 ?_
          refine lv_aload_n hx hb dX9_enterAlarms_21 rfl (lv_at hl 0 rfl) ?_
          refine m_get (g := g) (i := 0) (ci := 8) (k := 2) (v := .ref (w.1 g 6)) hx hb hI hown (mokS hg (by decide)) rfl rfl (by decide) lyX9 (q190 hI.T) rfl dX9_enterAlarms_22 ?_
          refine m_get (g := g) (i := 6) (ci := 0) (k := 0) (v := .int (M2 g 6 0)) hx hb hI hown (mokS hg (by decide)) rfl rfl (by decide) lyX1 (q125 hI.T) rfl dX9_enterAlarms_25 ?_
          refine lv_bipush (v := 97) hx hb dX9_enterAlarms_28 (by decide) ?_
          refine lv_iload_n hx hb dX9_enterAlarms_30 rfl (lv_at hl 2 rfl) ?_
          obtain ⟨r5, M6, hc, hf⟩ := mbnd_e hf
          refine m_callV (As := [.int (M2 g 6 0), .int (97 : Int32), .int x1]) (rest := []) hx hb hml hown hI (c_X5_enter l w H.size g hg (M2 g 6 0) (97 : Int32) x1 M2 _ _ hc) (kb_X5_enter hI.T (q888 hI.T) (Nat.le_of_ble_eq_true rfl) (Nat.le_of_ble_eq_true rfl)) (q889 hI.T) (q890 hI.T) (m_recv (g := g) (i := 12) hI (mokS hg (by decide)) rfl rfl) rfl hl.1 (Nat.le_of_ble_eq_true rfl) dX9_enterAlarms_31 ⟨Nat.le_of_ble_eq_true rfl, Nat.le_of_ble_eq_true rfl⟩ (fun H locs hI => ?_)
          exact hj34_8 M6 H _ _ hf hI (lv_sub hl [0, 1, 2] rfl)
  refine hL2 1000 (0 : Int32) M _ _ _ _ hf hI (lv_sub hl [1, 2, 0] rfl) ?_
  intro M10 H locs ls hf hI hl
  try dsimp only at hf
  exact m_vretf hx hb hr hlk hI hf dX9_enterAlarms_40
abbrev rmX3_passOneHour : Room := { frames := 0, cells := 0, slots := 0, locals := 0 }
theorem kb_X3_passOneHour {R : Room} {s : State} {args : Array Value} {own : String} {idx : Nat} (hT : mT s) (hlink : (Cond.methodLink own idx yX3_passOneHour).before args s = true) (h1 : rmX3_passOneHour.frames + 1 ≤ R.frames) (h2 : 8 + (1 + 11) + rmX3_passOneHour.locals ≤ R.locals) : CallB R s args own idx yX3_passOneHour cX3_passOneHour 1 (none) [Cond.code yX3_passOneHour cX3_passOneHour 1 (none)] rmX3_passOneHour 0 0 0 := m_callB hT kc_X3_passOneHour ki_X3_passOneHour hlink (by decide +kernel) ⟨rfl, rfl, h1, h2⟩
set_option maxHeartbeats 4000000 in
set_option maxRecDepth 100000 in
theorem c_X3_passOneHour (l : Launch) (w : WD) (sz : Nat) (g : Nat) (hg : g ≤ 10) (M : Mem) (r : Unit) (M9 : Mem) (hf : f_X3_passOneHour g M = some (r, M9)) : mMet l yX3_passOneHour cX3_passOneHour 1 (none) rmX3_passOneHour w sz M [.ref (w.1 g 5)] none M9 := by
  refine m_of (by decide) (Nat.le_of_ble_eq_true rfl) ?_
  intro p e s m args below meth c hx hb hr hml hown hlk hI ls hl
  have hl : lv_has ls 1 [(0, .ref (w.1 g 5))] := hl
  unfold f_X3_passOneHour at hf
  refine lv_aload_n hx hb dX3_passOneHour_0 rfl (lv_at hl 0 rfl) ?_
  refine m_get (g := g) (i := 5) (ci := 2) (k := 1) (v := .int (M g 5 1)) hx hb hI hown (mokS hg (by decide)) rfl rfl (by decide) lyX3 (q101 hI.T) rfl dX3_passOneHour_1 ?_
  refine lv_if_le (tgt := 17) hx hb dX3_passOneHour_4 (by decide) (fun c1 => ?_) (fun c1 => ?_)
  · have hf := (if_pos c1).symm.trans hf
    exact m_vretf hx hb hr hlk hI hf dX3_passOneHour_17
  · have hf := (if_neg c1).symm.trans hf
    refine lv_aload_n hx hb dX3_passOneHour_7 rfl (lv_at hl 0 rfl) ?_
    refine lv_dup hx hb dX3_passOneHour_8 rfl ?_
    refine m_get (g := g) (i := 5) (ci := 2) (k := 1) (v := .int (M g 5 1)) hx hb hI hown (mokS hg (by decide)) rfl rfl (by decide) lyX3 (q101 hI.T) rfl dX3_passOneHour_9 ?_
    refine lv_iconst (v := 1) hx hb dX3_passOneHour_12 (by decide) ?_
    refine lv_isub hx hb dX3_passOneHour_13 ?_
    obtain ⟨M2, eM2, hf⟩ := mlet_e hf
    refine m_put (g := g) (i := 5) (ci := 2) (k := 1) (ty := .int) (M1 := M2) hx hb hI hown (mokS hg (by decide)) rfl rfl (by decide) lyX3 tyX3 tyX3_ok nmX3 (q101 hI.T) rfl rfl rfl rfl (Nat.le_of_ble_eq_true rfl) rfl eM2 dX3_passOneHour_14 (fun H locs hI => ?_)
    exact m_vretf hx hb hr hlk hI hf dX3_passOneHour_17
abbrev rmX9_tryHours : Room := { frames := 4, cells := 0, slots := 0, locals := 105 }
theorem kb_X9_tryHours {R : Room} {s : State} {args : Array Value} {own : String} {idx : Nat} (hT : mT s) (hlink : (Cond.methodLink own idx yX9_tryHours).before args s = true) (h1 : rmX9_tryHours.frames + 1 ≤ R.frames) (h2 : 8 + (4 + 11) + rmX9_tryHours.locals ≤ R.locals) : CallB R s args own idx yX9_tryHours cX9_tryHours 4 (some .int) [Cond.code yX9_tryHours cX9_tryHours 4 (some .int)] rmX9_tryHours 0 0 1 := m_callB hT kc_X9_tryHours ki_X9_tryHours hlink (by decide +kernel) ⟨rfl, rfl, h1, h2⟩
set_option maxHeartbeats 4000000 in
set_option maxRecDepth 100000 in
theorem c_X9_tryHours (l : Launch) (w : WD) (sz : Nat) (g : Nat) (hg : g ≤ 10) (a1 : Int32) (M : Mem) (r : Int32) (M9 : Mem) (hf : f_X9_tryHours g a1 M = some (r, M9)) : mMet l yX9_tryHours cX9_tryHours 4 (some .int) rmX9_tryHours w sz M [.ref (w.1 g 0), .int a1] (some (.int r)) M9 := by
  refine m_of (by decide) (Nat.le_of_ble_eq_true rfl) ?_
  intro p e s m args below meth c hx hb hr hml hown hlk hI ls hl
  have hl : lv_has ls 4 [(0, .ref (w.1 g 0)), (1, .int a1)] := hl
  unfold f_X9_tryHours at hf
  refine lv_iload_n hx hb dX9_tryHours_0 rfl (lv_at hl 1 rfl) ?_
  refine lv_iconst (v := 1) hx hb dX9_tryHours_1 (by decide) ?_
  refine lv_icmp_lt (tgt := 11) hx hb dX9_tryHours_2 (by decide) (fun c1 => ?_) (fun c1 => ?_)
  · have hf := (if_pos c1).symm.trans hf
    refine lv_bipush (v := (-2)) hx hb dX9_tryHours_11 (by decide) ?_
    exact m_iretf hx hb hr hlk hI hf dX9_tryHours_13
  · have hf := (if_neg c1).symm.trans hf
    refine lv_iload_n hx hb dX9_tryHours_5 rfl (lv_at hl 1 rfl) ?_
    refine lv_bipush (v := 24) hx hb dX9_tryHours_6 (by decide) ?_
    refine lv_icmp_le (tgt := 14) hx hb dX9_tryHours_8 (by decide) (fun c2 => ?_) (fun c2 => ?_)
    · have hf := (if_pos c2).symm.trans hf
      refine lv_aload_n hx hb dX9_tryHours_14 rfl (lv_at hl 0 rfl) ?_
      refine m_get (g := g) (i := 0) (ci := 8) (k := 2) (v := .ref (w.1 g 6)) hx hb hI hown (mokS hg (by decide)) rfl rfl (by decide) lyX9 (q190 hI.T) rfl dX9_tryHours_15 ?_
      refine m_get (g := g) (i := 6) (ci := 0) (k := 3) (v := .int (M g 6 3)) hx hb hI hown (mokS hg (by decide)) rfl rfl (by decide) lyX1 (q133 hI.T) rfl dX9_tryHours_18 ?_
      refine lv_topi (fun x3 ex3 => ?_)
      have hf := mlet_s ex3 hf
      refine lv_istore_n (lv' := [(2, .int x3), (0, .ref (w.1 g 0)), (1, .int a1)]) hx hb dX9_tryHours_21 rfl hl (by decide) rfl (fun ls hl => ?_)
      refine lv_iconst (v := 0) hx hb dX9_tryHours_22 (by decide) ?_
      refine lv_istore_n (lv' := [(3, .int (0 : Int32)), (2, .int x3), (0, .ref (w.1 g 0)), (1, .int a1)]) hx hb dX9_tryHours_23 rfl hl (by decide) rfl (fun ls hl => ?_)
      have hL24 : ∀ (n : Nat) (x4 : Int32) (M5 : Mem) (kk : Mem → Option (Int32 × Mem)) (H : Heap) (locs : List Loc) (ls : Array Slot), f_X9_tryHours_L24 g a1 n x4 M5 kk = some (r, M9) → mI w s (mA w s.heap.size) H locs M5 → lv_has ls 4 [(0, .ref (w.1 g 0)), (1, .int a1), (2, .int x3), (3, .int x4)] → (∀  (M5 : Mem) (H : Heap) (locs : List Loc) (ls : Array Slot), kk M5 = some (r, M9) → mI w s (mA w s.heap.size) H locs M5 → lv_has ls 4 [(0, .ref (w.1 g 0)), (2, .int x3)] → W p l e rmX9_tryHours s m args below meth c H locs 0 0 (MQ below (mQ w s.heap.size (some (.int r)) M9) args s 0 0 (mA w s.heap.size)) (F0 m 53 ls [])) → W p l e rmX9_tryHours s m args below meth c H locs 0 0 (MQ below (mQ w s.heap.size (some (.int r)) M9) args s 0 0 (mA w s.heap.size)) (F0 m 24 ls []) := by
        intro n
        induction n with
        | zero => intro x4 M5 kk H locs ls hf hI hl hk; rw [f_X9_tryHours_L24.eq_1] at hf; cases hf
        | succ n ih24 =>
          intro x4 M5 kk H locs ls hf hI hl hk
          rw [f_X9_tryHours_L24.eq_2] at hf
          refine lv_iload_n hx hb dX9_tryHours_24 rfl (lv_at hl 3 rfl) ?_
          refine lv_iload_n hx hb dX9_tryHours_25 rfl (lv_at hl 1 rfl) ?_
          refine lv_icmp_ge (tgt := 53) hx hb dX9_tryHours_26 (by decide) (fun c6 => ?_) (fun c6 => ?_)
          · have hf := (if_pos c6).symm.trans hf
            exact hk M5 H _ _ hf hI (lv_sub hl [0, 2] rfl)
          · have hf := (if_neg c6).symm.trans hf
            refine lv_aload_n hx hb dX9_tryHours_29 rfl (lv_at hl 0 rfl) ?_
            refine lv_aload_n hx hb dX9_tryHours_30 rfl (lv_at hl 0 rfl) ?_
            refine m_get (g := g) (i := 0) (ci := 8) (k := 2) (v := .ref (w.1 g 6)) hx hb hI hown (mokS hg (by decide)) rfl rfl (by decide) lyX9 (q190 hI.T) rfl dX9_tryHours_31 ?_
            obtain ⟨r7, M8, hc, hf⟩ := mbnd_e hf
            refine m_callV (As := []) (rest := [.ref (w.1 g 0)]) hx hb hml hown hI (c_X1_passOneHour l w H.size g (Nat.le_trans hg (by decide)) M5 _ _ hc) (kb_X1_passOneHour hI.T (q958 hI.T) (Nat.le_of_ble_eq_true rfl) (Nat.le_of_ble_eq_true rfl)) (q638 hI.T) (q639 hI.T) (m_recv (g := g) (i := 6) hI (mokS hg (by decide)) rfl rfl) rfl hl.1 (Nat.le_of_ble_eq_true rfl) dX9_tryHours_34 ⟨Nat.le_of_ble_eq_true rfl, Nat.le_of_ble_eq_true rfl⟩ (fun H locs hI => ?_)
            obtain ⟨r9, M10, hc, hf⟩ := mbnd_e hf
            refine m_callV (As := [.int r7]) (rest := []) hx hb hml hown hI (c_X9_enterAlarms l w H.size g hg r7 M8 _ _ hc) (kb_X9_enterAlarms hI.T (q959 hI.T) (Nat.le_of_ble_eq_true rfl) (Nat.le_of_ble_eq_true rfl)) (q961 hI.T) (sel_X9_enterAlarms hI.T) (m_recv (g := g) (i := 0) hI (mokS hg (by decide)) rfl rfl) rfl hl.1 (Nat.le_of_ble_eq_true rfl) dX9_tryHours_37 ⟨Nat.le_of_ble_eq_true rfl, Nat.le_of_ble_eq_true rfl⟩ (fun H locs hI => ?_)
            refine lv_aload_n hx hb dX9_tryHours_40 rfl (lv_at hl 0 rfl) ?_
            refine m_get (g := g) (i := 0) (ci := 8) (k := 1) (v := .ref (w.1 g 5)) hx hb hI hown (mokS hg (by decide)) rfl rfl (by decide) lyX9 (q188 hI.T) rfl dX9_tryHours_41 ?_
            obtain ⟨r11, M12, hc, hf⟩ := mbnd_e hf
            refine m_callV (As := []) (rest := []) hx hb hml hown hI (c_X3_passOneHour l w H.size g hg M10 _ _ hc) (kb_X3_passOneHour hI.T (q963 hI.T) (Nat.le_of_ble_eq_true rfl) (Nat.le_of_ble_eq_true rfl)) (q964 hI.T) (q965 hI.T) (m_recv (g := g) (i := 5) hI (mokS hg (by decide)) rfl rfl) rfl hl.1 (Nat.le_of_ble_eq_true rfl) dX9_tryHours_44 ⟨Nat.le_of_ble_eq_true rfl, Nat.le_of_ble_eq_true rfl⟩ (fun H locs hI => ?_)
            obtain ⟨x13, ex13, hf⟩ := mlet_e hf
            refine lv_iinc (v := x13) (lv' := [(3, .int x13), (0, .ref (w.1 g 0)), (1, .int a1), (2, .int x3)]) hx hb dX9_tryHours_47 hl (k := 3) rfl (by rw [ex13]; rfl) (by decide) rfl (fun ls hl => ?_)
            refine lv_goto (tgt := 24) hx hb dX9_tryHours_50 (by decide) ?_
            exact ih24 x13 M12 kk H _ _ hf hI (lv_sub hl [1, 2, 3, 0] rfl) hk
      refine hL24 1000 (0 : Int32) M _ _ _ _ hf hI (lv_sub hl [2, 3, 1, 0] rfl) ?_
      intro M14 H locs ls hf hI hl
      try dsimp only at hf
      refine lv_aload_n hx hb dX9_tryHours_53 rfl (lv_at hl 0 rfl) ?_
      refine lv_aload_n hx hb dX9_tryHours_54 rfl (lv_at hl 0 rfl) ?_
      refine m_get (g := g) (i := 0) (ci := 8) (k := 2) (v := .ref (w.1 g 6)) hx hb hI hown (mokS hg (by decide)) rfl rfl (by decide) lyX9 (q190 hI.T) rfl dX9_tryHours_55 ?_
      refine m_get (g := g) (i := 6) (ci := 0) (k := 3) (v := .int (M14 g 6 3)) hx hb hI hown (mokS hg (by decide)) rfl rfl (by decide) lyX1 (q133 hI.T) rfl dX9_tryHours_58 ?_
      refine lv_iload_n hx hb dX9_tryHours_61 rfl (lv_at hl 1 rfl) ?_
      refine lv_isub hx hb dX9_tryHours_62 ?_
      obtain ⟨M15, eM15, hf⟩ := mlet_e hf
      refine m_put (g := g) (i := 0) (ci := 8) (k := 4) (ty := .int) (M1 := M15) hx hb hI hown (mokS hg (by decide)) rfl rfl (by decide) lyX9 tyX9 tyX9_ok nmX9 (q194 hI.T) rfl rfl rfl rfl (Nat.le_of_ble_eq_true rfl) rfl eM15 dX9_tryHours_63 (fun H locs hI => ?_)
      refine lv_iconst (v := 0) hx hb dX9_tryHours_66 (by decide) ?_
      exact m_iretf hx hb hr hlk hI hf dX9_tryHours_67
    · have hf := (if_neg c2).symm.trans hf
      refine lv_bipush (v := (-2)) hx hb dX9_tryHours_11 (by decide) ?_
      exact m_iretf hx hb hr hlk hI hf dX9_tryHours_13
abbrev rmX11_passHours : Room := { frames := 9, cells := 1, slots := 6, locals := 162 }
theorem kb_X11_passHours {R : Room} {s : State} {args : Array Value} {own : String} {idx : Nat} (hT : mT s) (hlink : (Cond.methodLink own idx yX11_passHours).before args s = true) (h1 : rmX11_passHours.frames + 1 ≤ R.frames) (h2 : 8 + (2 + 11) + rmX11_passHours.locals ≤ R.locals) : CallB R s args own idx yX11_passHours cX11_passHours 2 (some .int) [Cond.code yX11_passHours cX11_passHours 2 (some .int)] rmX11_passHours 1 6 1 := m_callB hT kc_X11_passHours ki_X11_passHours hlink (by decide +kernel) ⟨rfl, rfl, h1, h2⟩
set_option maxHeartbeats 4000000 in
set_option maxRecDepth 100000 in
theorem c_X11_passHours (l : Launch) (w : WD) (hsf : l.stackTraces = false) (sz : Nat) (a1 : Int32) (M : Mem) (r : (Nat ⊕ Int32)) (M9 : Mem) (hf : f_X11_passHours a1 M = some (r, M9)) : mMetx l yX11_passHours cX11_passHours 2 (some .int) rmX11_passHours w sz M [.ref (w.1 12 16), .int a1] (moI r) M9 1 6 := by
  refine m_ofx (by decide) (Nat.le_of_ble_eq_true rfl) ?_
  intro p e s m args below meth c hx hb hr hml hown hlk hxt hI ls hl
  have hl : lv_has ls 2 [(0, .ref (w.1 12 16)), (1, .int a1)] := hl
  unfold f_X11_passHours at hf
  refine lv_aload_n hx hb dX11_passHours_0 rfl (lv_at hl 0 rfl) ?_
  refine m_get (g := 12) (i := 16) (ci := 9) (k := 1) (v := .ref (w.1 12 17)) hx hb hI hown (mokX (by decide) (by decide)) rfl rfl (by decide) lyX11 (q295 hI.T) rfl dX11_passHours_1 ?_
  refine lv_aload_n hx hb dX11_passHours_4 rfl (lv_at hl 0 rfl) ?_
  refine m_get (g := 12) (i := 16) (ci := 9) (k := 0) (v := .ref (w.1 0 0)) hx hb hI hown (mokX (by decide) (by decide)) rfl rfl (by decide) lyX11 (q294 hI.T) rfl dX11_passHours_5 ?_
  obtain ⟨r1, M2, hc, hf⟩ := mbnd_e hf
  refine m_callV (As := [.ref (w.1 0 0)]) (rest := []) hx hb hml hown hI (c_X4_prepare l w s.heap.size 0 (by decide) M _ _ hc) (kb_X4_prepare hI.T (q724 hI.T) (Nat.le_of_ble_eq_true rfl) (Nat.le_of_ble_eq_true rfl)) (q725 hI.T) (q726 hI.T) (m_recv (g := 12) (i := 17) hI (mokX (by decide) (by decide)) rfl rfl) rfl hl.1 (Nat.le_of_ble_eq_true rfl) dX11_passHours_8 ⟨Nat.le_of_ble_eq_true rfl, Nat.le_of_ble_eq_true rfl⟩ (fun H locs hI => ?_)
  refine lv_aload_n hx hb dX11_passHours_11 rfl (lv_at hl 0 rfl) ?_
  refine lv_aload_n hx hb dX11_passHours_12 rfl (lv_at hl 0 rfl) ?_
  refine m_get (g := 12) (i := 16) (ci := 9) (k := 0) (v := .ref (w.1 0 0)) hx hb hI hown (mokX (by decide) (by decide)) rfl rfl (by decide) lyX11 (q294 hI.T) rfl dX11_passHours_13 ?_
  refine lv_iload_n hx hb dX11_passHours_16 rfl (lv_at hl 1 rfl) ?_
  obtain ⟨r3, M4, hc, hf⟩ := mbnd_e hf
  refine m_callV (As := [.int a1]) (rest := [.ref (w.1 12 16)]) hx hb hml hown hI (c_X9_tryHours l w H.size 0 (by decide) a1 M2 _ _ hc) (kb_X9_tryHours hI.T (q954 hI.T) (Nat.le_of_ble_eq_true rfl) (Nat.le_of_ble_eq_true rfl)) (q955 hI.T) (q956 hI.T) (m_recv (g := 0) (i := 0) hI (mokS (by decide) (by decide)) rfl rfl) rfl hl.1 (Nat.le_of_ble_eq_true rfl) dX11_passHours_17 ⟨Nat.le_of_ble_eq_true rfl, Nat.le_of_ble_eq_true rfl⟩ (fun H locs hI => ?_)
  refine lv_iconst (v := 0) hx hb dX11_passHours_20 (by decide) ?_
  rcases mbndx_e hf with ⟨n6, M7, hc, hf⟩ | ⟨r5, M7, hc, hf⟩
  · exact m_callxTV (As := [.int r3, .int (0 : Int32)]) (rest := []) hx hb hml hown hI (c_X11_settle l w hsf H.size r3 (0 : Int32) M4 _ _ hc) (kb_X11_settle hI.T (q756 hI.T) (Nat.le_of_ble_eq_true rfl) (Nat.le_of_ble_eq_true rfl)) (q758 hI.T) (sel_X11_settle hI.T) (m_recv (g := 12) (i := 16) hI (mokX (by decide) (by decide)) rfl rfl) rfl hl.1 (Nat.le_of_ble_eq_true rfl) dX11_passHours_21 ⟨Nat.le_of_ble_eq_true rfl, Nat.le_of_ble_eq_true rfl⟩ hxt hlk hf (Nat.le_of_ble_eq_true rfl) (Nat.le_of_ble_eq_true rfl)
  refine m_callxRV (As := [.int r3, .int (0 : Int32)]) (rest := []) hx hb hml hown hI (c_X11_settle l w hsf H.size r3 (0 : Int32) M4 _ _ hc) (kb_X11_settle hI.T (q756 hI.T) (Nat.le_of_ble_eq_true rfl) (Nat.le_of_ble_eq_true rfl)) (q758 hI.T) (sel_X11_settle hI.T) (m_recv (g := 12) (i := 16) hI (mokX (by decide) (by decide)) rfl rfl) rfl hl.1 (Nat.le_of_ble_eq_true rfl) dX11_passHours_21 ⟨Nat.le_of_ble_eq_true rfl, Nat.le_of_ble_eq_true rfl⟩ (fun H locs hI => ?_)
  exact m_iretx hx hb hr hlk hI hf dX11_passHours_24 (Nat.le_of_ble_eq_true rfl) (Nat.le_of_ble_eq_true rfl)
abbrev rmX11_hour : Room := { frames := 0, cells := 0, slots := 0, locals := 0 }
theorem kb_X11_hour {R : Room} {s : State} {args : Array Value} {own : String} {idx : Nat} (hT : mT s) (hlink : (Cond.methodLink own idx yX11_hour).before args s = true) (h1 : rmX11_hour.frames + 1 ≤ R.frames) (h2 : 8 + (1 + 11) + rmX11_hour.locals ≤ R.locals) : CallB R s args own idx yX11_hour cX11_hour 1 (some .int) [Cond.code yX11_hour cX11_hour 1 (some .int)] rmX11_hour 0 0 0 := m_callB hT kc_X11_hour ki_X11_hour hlink (by decide +kernel) ⟨rfl, rfl, h1, h2⟩
set_option maxHeartbeats 4000000 in
set_option maxRecDepth 100000 in
theorem c_X11_hour (l : Launch) (w : WD) (sz : Nat)  (M : Mem) (r : Int32) (hf : f_X11_hour  M = some r) : mMet l yX11_hour cX11_hour 1 (some .int) rmX11_hour w sz M [.ref (w.1 12 16)] (some (.int r)) M := by
  refine m_of (by decide) (Nat.le_of_ble_eq_true rfl) ?_
  intro p e s m args below meth c hx hb hr hml hown hlk hI ls hl
  have hl : lv_has ls 1 [(0, .ref (w.1 12 16))] := hl
  unfold f_X11_hour at hf
  refine lv_aload_n hx hb dX11_hour_0 rfl (lv_at hl 0 rfl) ?_
  refine m_get (g := 12) (i := 16) (ci := 9) (k := 0) (v := .ref (w.1 0 0)) hx hb hI hown (mokX (by decide) (by decide)) rfl rfl (by decide) lyX11 (q294 hI.T) rfl dX11_hour_1 ?_
  refine m_get (g := 0) (i := 0) (ci := 8) (k := 2) (v := .ref (w.1 0 6)) hx hb hI hown (mokS (by decide) (by decide)) rfl rfl (by decide) lyX9 (q191 hI.T) rfl dX11_hour_4 ?_
  refine m_get (g := 0) (i := 6) (ci := 0) (k := 0) (v := .int (M 0 6 0)) hx hb hI hown (mokS (by decide) (by decide)) rfl rfl (by decide) lyX1 (q126 hI.T) rfl dX11_hour_7 ?_
  exact m_iretp hx hb hr hlk hI hf dX11_hour_10
abbrev rmX11_holderCount : Room := { frames := 0, cells := 0, slots := 0, locals := 0 }
theorem kb_X11_holderCount {R : Room} {s : State} {args : Array Value} {own : String} {idx : Nat} (hT : mT s) (hlink : (Cond.methodLink own idx yX11_holderCount).before args s = true) (h1 : rmX11_holderCount.frames + 1 ≤ R.frames) (h2 : 8 + (1 + 11) + rmX11_holderCount.locals ≤ R.locals) : CallB R s args own idx yX11_holderCount cX11_holderCount 1 (some .int) [Cond.code yX11_holderCount cX11_holderCount 1 (some .int)] rmX11_holderCount 0 0 0 := m_callB hT kc_X11_holderCount ki_X11_holderCount hlink (by decide +kernel) ⟨rfl, rfl, h1, h2⟩
set_option maxHeartbeats 4000000 in
set_option maxRecDepth 100000 in
theorem c_X11_holderCount (l : Launch) (w : WD) (sz : Nat)  (M : Mem) (r : Int32) (hf : f_X11_holderCount  M = some r) : mMet l yX11_holderCount cX11_holderCount 1 (some .int) rmX11_holderCount w sz M [.ref (w.1 12 16)] (some (.int r)) M := by
  refine m_of (by decide) (Nat.le_of_ble_eq_true rfl) ?_
  intro p e s m args below meth c hx hb hr hml hown hlk hI ls hl
  have hl : lv_has ls 1 [(0, .ref (w.1 12 16))] := hl
  unfold f_X11_holderCount at hf
  refine lv_aload_n hx hb dX11_holderCount_0 rfl (lv_at hl 0 rfl) ?_
  refine m_get (g := 12) (i := 16) (ci := 9) (k := 0) (v := .ref (w.1 0 0)) hx hb hI hown (mokX (by decide) (by decide)) rfl rfl (by decide) lyX11 (q294 hI.T) rfl dX11_holderCount_1 ?_
  refine m_get (g := 0) (i := 0) (ci := 8) (k := 0) (v := .ref (w.1 0 1)) hx hb hI hown (mokS (by decide) (by decide)) rfl rfl (by decide) lyX9 (q187 hI.T) rfl dX11_holderCount_4 ?_
  refine m_get (g := 0) (i := 1) (ci := 5) (k := 0) (v := .int (M 0 1 0)) hx hb hI hown (mokS (by decide) (by decide)) rfl rfl (by decide) lyX6 (q56 hI.T) rfl dX11_holderCount_7 ?_
  exact m_iretp hx hb hr hlk hI hf dX11_holderCount_10
abbrev rmX11_isSealed : Room := { frames := 0, cells := 0, slots := 0, locals := 0 }
theorem kb_X11_isSealed {R : Room} {s : State} {args : Array Value} {own : String} {idx : Nat} (hT : mT s) (hlink : (Cond.methodLink own idx yX11_isSealed).before args s = true) (h1 : rmX11_isSealed.frames + 1 ≤ R.frames) (h2 : 8 + (1 + 11) + rmX11_isSealed.locals ≤ R.locals) : CallB R s args own idx yX11_isSealed cX11_isSealed 1 (some .boolean) [Cond.code yX11_isSealed cX11_isSealed 1 (some .boolean)] rmX11_isSealed 0 0 0 := m_callB hT kc_X11_isSealed ki_X11_isSealed hlink (by decide +kernel) ⟨rfl, rfl, h1, h2⟩
set_option maxHeartbeats 4000000 in
set_option maxRecDepth 100000 in
theorem c_X11_isSealed (l : Launch) (w : WD) (sz : Nat)  (M : Mem) (r : Int32) (hf : f_X11_isSealed  M = some r) : mMet l yX11_isSealed cX11_isSealed 1 (some .boolean) rmX11_isSealed w sz M [.ref (w.1 12 16)] (some (.int r)) M := by
  refine m_of (by decide) (Nat.le_of_ble_eq_true rfl) ?_
  intro p e s m args below meth c hx hb hr hml hown hlk hI ls hl
  have hl : lv_has ls 1 [(0, .ref (w.1 12 16))] := hl
  unfold f_X11_isSealed at hf
  refine lv_aload_n hx hb dX11_isSealed_0 rfl (lv_at hl 0 rfl) ?_
  refine m_get (g := 12) (i := 16) (ci := 9) (k := 0) (v := .ref (w.1 0 0)) hx hb hI hown (mokX (by decide) (by decide)) rfl rfl (by decide) lyX11 (q294 hI.T) rfl dX11_isSealed_1 ?_
  refine m_get (g := 0) (i := 0) (ci := 8) (k := 0) (v := .ref (w.1 0 1)) hx hb hI hown (mokS (by decide) (by decide)) rfl rfl (by decide) lyX9 (q187 hI.T) rfl dX11_isSealed_4 ?_
  refine m_get (g := 0) (i := 1) (ci := 5) (k := 2) (v := .int (M 0 1 2)) hx hb hI hown (mokS (by decide) (by decide)) rfl rfl (by decide) lyX6 (q63 hI.T) rfl dX11_isSealed_7 ?_
  obtain ⟨hz, hf⟩ := mnz_e hf
  exact m_zretp hx hb hr hlk hI (mnz_n hz) hf dX11_isSealed_10
abbrev rmX11_requireSeal : Room := { frames := 8, cells := 1, slots := 6, locals := 140 }
theorem kb_X11_requireSeal {R : Room} {s : State} {args : Array Value} {own : String} {idx : Nat} (hT : mT s) (hlink : (Cond.methodLink own idx yX11_requireSeal).before args s = true) (h1 : rmX11_requireSeal.frames + 1 ≤ R.frames) (h2 : 8 + (1 + 11) + rmX11_requireSeal.locals ≤ R.locals) : CallB R s args own idx yX11_requireSeal cX11_requireSeal 1 (none) [Cond.code yX11_requireSeal cX11_requireSeal 1 (none)] rmX11_requireSeal 1 6 0 := m_callB hT kc_X11_requireSeal ki_X11_requireSeal hlink (by decide +kernel) ⟨rfl, rfl, h1, h2⟩
set_option maxHeartbeats 4000000 in
set_option maxRecDepth 100000 in
theorem c_X11_requireSeal (l : Launch) (w : WD) (hsf : l.stackTraces = false) (sz : Nat)  (M : Mem) (r : (Nat ⊕ Unit)) (hf : f_X11_requireSeal  M = some r) : mMetx l yX11_requireSeal cX11_requireSeal 1 (none) rmX11_requireSeal w sz M [.ref (w.1 12 16)] (moU r) M 1 6 := by
  refine m_ofx (by decide) (Nat.le_of_ble_eq_true rfl) ?_
  intro p e s m args below meth c hx hb hr hml hown hlk hxt hI ls hl
  have hl : lv_has ls 1 [(0, .ref (w.1 12 16))] := hl
  unfold f_X11_requireSeal at hf
  refine lv_aload_n hx hb dX11_requireSeal_0 rfl (lv_at hl 0 rfl) ?_
  refine m_get (g := 12) (i := 16) (ci := 9) (k := 0) (v := .ref (w.1 0 0)) hx hb hI hown (mokX (by decide) (by decide)) rfl rfl (by decide) lyX11 (q294 hI.T) rfl dX11_requireSeal_1 ?_
  refine m_get (g := 0) (i := 0) (ci := 8) (k := 0) (v := .ref (w.1 0 1)) hx hb hI hown (mokS (by decide) (by decide)) rfl rfl (by decide) lyX9 (q187 hI.T) rfl dX11_requireSeal_4 ?_
  refine m_get (g := 0) (i := 1) (ci := 5) (k := 2) (v := .int (M 0 1 2)) hx hb hI hown (mokS (by decide) (by decide)) rfl rfl (by decide) lyX6 (q63 hI.T) rfl dX11_requireSeal_7 ?_
  refine lv_if_ne (tgt := 24) hx hb dX11_requireSeal_10 (by decide) (fun c1 => ?_) (fun c1 => ?_)
  · have hf := (if_neg c1).symm.trans hf
    exact m_vretxp hx hb hr hlk hI hf dX11_requireSeal_24 (Nat.le_of_ble_eq_true rfl) (Nat.le_of_ble_eq_true rfl)
  · have hf := (if_pos c1).symm.trans hf
    exact m_throwXWp (n := 4) (ix := 17) hx hb hsf hown hI rfl (q390 hI.T) (q14 hI.T) (m_thw_4_X11_155 hI) hl.1 hml dX11_requireSeal_13 dX11_requireSeal_16 dX11_requireSeal_17 dX11_requireSeal_20 dX11_requireSeal_23 hxt (Nat.le_of_ble_eq_true rfl) (Nat.le_of_ble_eq_true rfl) (Nat.le_of_ble_eq_true rfl) (Nat.le_of_ble_eq_true rfl) hlk hf (Nat.le_of_ble_eq_true rfl) (Nat.le_of_ble_eq_true rfl)
abbrev rmX11_threshold : Room := { frames := 9, cells := 1, slots := 6, locals := 160 }
theorem kb_X11_threshold {R : Room} {s : State} {args : Array Value} {own : String} {idx : Nat} (hT : mT s) (hlink : (Cond.methodLink own idx yX11_threshold).before args s = true) (h1 : rmX11_threshold.frames + 1 ≤ R.frames) (h2 : 8 + (1 + 11) + rmX11_threshold.locals ≤ R.locals) : CallB R s args own idx yX11_threshold cX11_threshold 1 (some .int) [Cond.code yX11_threshold cX11_threshold 1 (some .int)] rmX11_threshold 1 6 0 := m_callB hT kc_X11_threshold ki_X11_threshold hlink (by decide +kernel) ⟨rfl, rfl, h1, h2⟩
set_option maxHeartbeats 4000000 in
set_option maxRecDepth 100000 in
theorem c_X11_threshold (l : Launch) (w : WD) (hsf : l.stackTraces = false) (sz : Nat)  (M : Mem) (r : (Nat ⊕ Int32)) (hf : f_X11_threshold  M = some r) : mMetx l yX11_threshold cX11_threshold 1 (some .int) rmX11_threshold w sz M [.ref (w.1 12 16)] (moI r) M 1 6 := by
  refine m_ofx (by decide) (Nat.le_of_ble_eq_true rfl) ?_
  intro p e s m args below meth c hx hb hr hml hown hlk hxt hI ls hl
  have hl : lv_has ls 1 [(0, .ref (w.1 12 16))] := hl
  unfold f_X11_threshold at hf
  refine lv_aload_n hx hb dX11_threshold_0 rfl (lv_at hl 0 rfl) ?_
  rcases mbpx_e hf with ⟨n2, hc, hf⟩ | ⟨r1, hc, hf⟩
  · exact m_callxTVp (As := []) (rest := []) hx hb hml hown hI (c_X11_requireSeal l w hsf s.heap.size M _ hc) (kb_X11_requireSeal hI.T (q386 hI.T) (Nat.le_of_ble_eq_true rfl) (Nat.le_of_ble_eq_true rfl)) (q388 hI.T) (sel_X11_requireSeal hI.T) (m_recv (g := 12) (i := 16) hI (mokX (by decide) (by decide)) rfl rfl) rfl hl.1 (Nat.le_of_ble_eq_true rfl) dX11_threshold_1 ⟨Nat.le_of_ble_eq_true rfl, Nat.le_of_ble_eq_true rfl⟩ hxt hlk hf (Nat.le_of_ble_eq_true rfl) (Nat.le_of_ble_eq_true rfl)
  refine m_callxRV (As := []) (rest := []) hx hb hml hown hI (c_X11_requireSeal l w hsf s.heap.size M _ hc) (kb_X11_requireSeal hI.T (q386 hI.T) (Nat.le_of_ble_eq_true rfl) (Nat.le_of_ble_eq_true rfl)) (q388 hI.T) (sel_X11_requireSeal hI.T) (m_recv (g := 12) (i := 16) hI (mokX (by decide) (by decide)) rfl rfl) rfl hl.1 (Nat.le_of_ble_eq_true rfl) dX11_threshold_1 ⟨Nat.le_of_ble_eq_true rfl, Nat.le_of_ble_eq_true rfl⟩ (fun H locs hI => ?_)
  refine lv_aload_n hx hb dX11_threshold_4 rfl (lv_at hl 0 rfl) ?_
  refine m_get (g := 12) (i := 16) (ci := 9) (k := 0) (v := .ref (w.1 0 0)) hx hb hI hown (mokX (by decide) (by decide)) rfl rfl (by decide) lyX11 (q294 hI.T) rfl dX11_threshold_5 ?_
  refine m_get (g := 0) (i := 0) (ci := 8) (k := 0) (v := .ref (w.1 0 1)) hx hb hI hown (mokS (by decide) (by decide)) rfl rfl (by decide) lyX9 (q187 hI.T) rfl dX11_threshold_8 ?_
  refine m_get (g := 0) (i := 1) (ci := 5) (k := 3) (v := .int (M 0 1 3)) hx hb hI hown (mokS (by decide) (by decide)) rfl rfl (by decide) lyX6 (q67 hI.T) rfl dX11_threshold_11 ?_
  exact m_iretxp hx hb hr hlk hI hf dX11_threshold_14 (Nat.le_of_ble_eq_true rfl) (Nat.le_of_ble_eq_true rfl)
abbrev rmX11_requireHolder : Room := { frames := 8, cells := 1, slots := 6, locals := 140 }
theorem kb_X11_requireHolder {R : Room} {s : State} {args : Array Value} {own : String} {idx : Nat} (hT : mT s) (hlink : (Cond.methodLink own idx yX11_requireHolder).before args s = true) (h1 : rmX11_requireHolder.frames + 1 ≤ R.frames) (h2 : 8 + (2 + 11) + rmX11_requireHolder.locals ≤ R.locals) : CallB R s args own idx yX11_requireHolder cX11_requireHolder 2 (none) [Cond.code yX11_requireHolder cX11_requireHolder 2 (none)] rmX11_requireHolder 1 6 1 := m_callB hT kc_X11_requireHolder ki_X11_requireHolder hlink (by decide +kernel) ⟨rfl, rfl, h1, h2⟩
set_option maxHeartbeats 4000000 in
set_option maxRecDepth 100000 in
theorem c_X11_requireHolder (l : Launch) (w : WD) (hsf : l.stackTraces = false) (sz : Nat) (a1 : Int32) (M : Mem) (r : (Nat ⊕ Unit)) (hf : f_X11_requireHolder a1 M = some r) : mMetx l yX11_requireHolder cX11_requireHolder 2 (none) rmX11_requireHolder w sz M [.ref (w.1 12 16), .int a1] (moU r) M 1 6 := by
  refine m_ofx (by decide) (Nat.le_of_ble_eq_true rfl) ?_
  intro p e s m args below meth c hx hb hr hml hown hlk hxt hI ls hl
  have hl : lv_has ls 2 [(0, .ref (w.1 12 16)), (1, .int a1)] := hl
  unfold f_X11_requireHolder at hf
  refine lv_aload_n hx hb dX11_requireHolder_0 rfl (lv_at hl 0 rfl) ?_
  refine m_get (g := 12) (i := 16) (ci := 9) (k := 0) (v := .ref (w.1 0 0)) hx hb hI hown (mokX (by decide) (by decide)) rfl rfl (by decide) lyX11 (q294 hI.T) rfl dX11_requireHolder_1 ?_
  refine m_get (g := 0) (i := 0) (ci := 8) (k := 0) (v := .ref (w.1 0 1)) hx hb hI hown (mokS (by decide) (by decide)) rfl rfl (by decide) lyX9 (q187 hI.T) rfl dX11_requireHolder_4 ?_
  refine lv_iload_n hx hb dX11_requireHolder_7 rfl (lv_at hl 1 rfl) ?_
  obtain ⟨r1, hc, hf⟩ := mbp_e hf
  refine m_callV (As := [.int a1]) (rest := []) hx hb hml hown hI (c_X6_hasHolder l w s.heap.size 0 (by decide) a1 M _ hc) (kb_X6_hasHolder hI.T (q497 hI.T) (Nat.le_of_ble_eq_true rfl) (Nat.le_of_ble_eq_true rfl)) (q498 hI.T) (q499 hI.T) (m_recv (g := 0) (i := 1) hI (mokS (by decide) (by decide)) rfl rfl) rfl hl.1 (Nat.le_of_ble_eq_true rfl) dX11_requireHolder_8 ⟨Nat.le_of_ble_eq_true rfl, Nat.le_of_ble_eq_true rfl⟩ (fun H locs hI => ?_)
  refine lv_if_ne (tgt := 25) hx hb dX11_requireHolder_11 (by decide) (fun c2 => ?_) (fun c2 => ?_)
  · have hf := (if_neg c2).symm.trans hf
    exact m_vretxp hx hb hr hlk hI hf dX11_requireHolder_25 (Nat.le_of_ble_eq_true rfl) (Nat.le_of_ble_eq_true rfl)
  · have hf := (if_pos c2).symm.trans hf
    exact m_throwWp (n := 1) (ix := 13) hx hb hsf hown hI rfl (q501 hI.T) (q15 hI.T) (m_thw_1_X11_378 hI) hl.1 hml dX11_requireHolder_14 dX11_requireHolder_17 dX11_requireHolder_18 dX11_requireHolder_21 dX11_requireHolder_24 hxt (Nat.le_of_ble_eq_true rfl) (Nat.le_of_ble_eq_true rfl) (Nat.le_of_ble_eq_true rfl) (Nat.le_of_ble_eq_true rfl) hlk hf (Nat.le_of_ble_eq_true rfl) (Nat.le_of_ble_eq_true rfl)
abbrev rmX11_share : Room := { frames := 9, cells := 2, slots := 12, locals := 161 }
theorem kb_X11_share {R : Room} {s : State} {args : Array Value} {own : String} {idx : Nat} (hT : mT s) (hlink : (Cond.methodLink own idx yX11_share).before args s = true) (h1 : rmX11_share.frames + 1 ≤ R.frames) (h2 : 8 + (2 + 11) + rmX11_share.locals ≤ R.locals) : CallB R s args own idx yX11_share cX11_share 2 (some .int) [Cond.code yX11_share cX11_share 2 (some .int)] rmX11_share 2 12 1 := m_callB hT kc_X11_share ki_X11_share hlink (by decide +kernel) ⟨rfl, rfl, h1, h2⟩
set_option maxHeartbeats 4000000 in
set_option maxRecDepth 100000 in
theorem c_X11_share (l : Launch) (w : WD) (hsf : l.stackTraces = false) (sz : Nat) (a1 : Int32) (M : Mem) (r : (Nat ⊕ Int32)) (hf : f_X11_share a1 M = some r) : mMetx l yX11_share cX11_share 2 (some .int) rmX11_share w sz M [.ref (w.1 12 16), .int a1] (moI r) M 2 12 := by
  refine m_ofx (by decide) (Nat.le_of_ble_eq_true rfl) ?_
  intro p e s m args below meth c hx hb hr hml hown hlk hxt hI ls hl
  have hl : lv_has ls 2 [(0, .ref (w.1 12 16)), (1, .int a1)] := hl
  unfold f_X11_share at hf
  refine lv_aload_n hx hb dX11_share_0 rfl (lv_at hl 0 rfl) ?_
  refine lv_iload_n hx hb dX11_share_1 rfl (lv_at hl 1 rfl) ?_
  rcases mbpx_e hf with ⟨n2, hc, hf⟩ | ⟨r1, hc, hf⟩
  · exact m_callxTVp (As := [.int a1]) (rest := []) hx hb hml hown hI (c_X11_requireHolder l w hsf s.heap.size a1 M _ hc) (kb_X11_requireHolder hI.T (q493 hI.T) (Nat.le_of_ble_eq_true rfl) (Nat.le_of_ble_eq_true rfl)) (q495 hI.T) (sel_X11_requireHolder hI.T) (m_recv (g := 12) (i := 16) hI (mokX (by decide) (by decide)) rfl rfl) rfl hl.1 (Nat.le_of_ble_eq_true rfl) dX11_share_2 ⟨Nat.le_of_ble_eq_true rfl, Nat.le_of_ble_eq_true rfl⟩ hxt hlk hf (Nat.le_of_ble_eq_true rfl) (Nat.le_of_ble_eq_true rfl)
  refine m_callxRV (As := [.int a1]) (rest := []) hx hb hml hown hI (c_X11_requireHolder l w hsf s.heap.size a1 M _ hc) (kb_X11_requireHolder hI.T (q493 hI.T) (Nat.le_of_ble_eq_true rfl) (Nat.le_of_ble_eq_true rfl)) (q495 hI.T) (sel_X11_requireHolder hI.T) (m_recv (g := 12) (i := 16) hI (mokX (by decide) (by decide)) rfl rfl) rfl hl.1 (Nat.le_of_ble_eq_true rfl) dX11_share_2 ⟨Nat.le_of_ble_eq_true rfl, Nat.le_of_ble_eq_true rfl⟩ (fun H locs hI => ?_)
  refine lv_aload_n hx hb dX11_share_5 rfl (lv_at hl 0 rfl) ?_
  rcases mbpx_e hf with ⟨n4, hc, hf⟩ | ⟨r3, hc, hf⟩
  · exact m_callxTVp (As := []) (rest := []) hx hb hml hown hI (c_X11_requireSeal l w hsf H.size M _ hc) (kb_X11_requireSeal hI.T (q386 hI.T) (Nat.le_of_ble_eq_true rfl) (Nat.le_of_ble_eq_true rfl)) (q388 hI.T) (sel_X11_requireSeal hI.T) (m_recv (g := 12) (i := 16) hI (mokX (by decide) (by decide)) rfl rfl) rfl hl.1 (Nat.le_of_ble_eq_true rfl) dX11_share_6 ⟨Nat.le_of_ble_eq_true rfl, Nat.le_of_ble_eq_true rfl⟩ hxt hlk hf (Nat.le_of_ble_eq_true rfl) (Nat.le_of_ble_eq_true rfl)
  refine m_callxRV (As := []) (rest := []) hx hb hml hown hI (c_X11_requireSeal l w hsf H.size M _ hc) (kb_X11_requireSeal hI.T (q386 hI.T) (Nat.le_of_ble_eq_true rfl) (Nat.le_of_ble_eq_true rfl)) (q388 hI.T) (sel_X11_requireSeal hI.T) (m_recv (g := 12) (i := 16) hI (mokX (by decide) (by decide)) rfl rfl) rfl hl.1 (Nat.le_of_ble_eq_true rfl) dX11_share_6 ⟨Nat.le_of_ble_eq_true rfl, Nat.le_of_ble_eq_true rfl⟩ (fun H locs hI => ?_)
  refine lv_aload_n hx hb dX11_share_9 rfl (lv_at hl 0 rfl) ?_
  refine m_get (g := 12) (i := 16) (ci := 9) (k := 0) (v := .ref (w.1 0 0)) hx hb hI hown (mokX (by decide) (by decide)) rfl rfl (by decide) lyX11 (q294 hI.T) rfl dX11_share_10 ?_
  refine m_get (g := 0) (i := 0) (ci := 8) (k := 0) (v := .ref (w.1 0 1)) hx hb hI hown (mokS (by decide) (by decide)) rfl rfl (by decide) lyX9 (q187 hI.T) rfl dX11_share_13 ?_
  refine m_get (g := 0) (i := 1) (ci := 5) (k := 1) (v := .ref (w.1 0 2)) hx hb hI hown (mokS (by decide) (by decide)) rfl rfl (by decide) lyX6 (q60 hI.T) rfl dX11_share_16 ?_
  refine lv_iload_n hx hb dX11_share_19 rfl (lv_at hl 1 rfl) ?_
  obtain ⟨hi, hf⟩ := mix_e hf
  refine m_iald (g := 0) (i := 2) hx hb hI (mokS (by decide) (by decide)) rfl hi dX11_share_20 ?_
  exact m_iretxp hx hb hr hlk hI hf dX11_share_21 (Nat.le_of_ble_eq_true rfl) (Nat.le_of_ble_eq_true rfl)
abbrev rmX11_isCorrect : Room := { frames := 9, cells := 2, slots := 12, locals := 161 }
theorem kb_X11_isCorrect {R : Room} {s : State} {args : Array Value} {own : String} {idx : Nat} (hT : mT s) (hlink : (Cond.methodLink own idx yX11_isCorrect).before args s = true) (h1 : rmX11_isCorrect.frames + 1 ≤ R.frames) (h2 : 8 + (2 + 11) + rmX11_isCorrect.locals ≤ R.locals) : CallB R s args own idx yX11_isCorrect cX11_isCorrect 2 (some .boolean) [Cond.code yX11_isCorrect cX11_isCorrect 2 (some .boolean)] rmX11_isCorrect 2 12 1 := m_callB hT kc_X11_isCorrect ki_X11_isCorrect hlink (by decide +kernel) ⟨rfl, rfl, h1, h2⟩
set_option maxHeartbeats 4000000 in
set_option maxRecDepth 100000 in
theorem c_X11_isCorrect (l : Launch) (w : WD) (hsf : l.stackTraces = false) (sz : Nat) (a1 : Int32) (M : Mem) (r : (Nat ⊕ Int32)) (hf : f_X11_isCorrect a1 M = some r) : mMetx l yX11_isCorrect cX11_isCorrect 2 (some .boolean) rmX11_isCorrect w sz M [.ref (w.1 12 16), .int a1] (moI r) M 2 12 := by
  refine m_ofx (by decide) (Nat.le_of_ble_eq_true rfl) ?_
  intro p e s m args below meth c hx hb hr hml hown hlk hxt hI ls hl
  have hl : lv_has ls 2 [(0, .ref (w.1 12 16)), (1, .int a1)] := hl
  unfold f_X11_isCorrect at hf
  refine lv_aload_n hx hb dX11_isCorrect_0 rfl (lv_at hl 0 rfl) ?_
  refine lv_iload_n hx hb dX11_isCorrect_1 rfl (lv_at hl 1 rfl) ?_
  rcases mbpx_e hf with ⟨n2, hc, hf⟩ | ⟨r1, hc, hf⟩
  · exact m_callxTVp (As := [.int a1]) (rest := []) hx hb hml hown hI (c_X11_requireHolder l w hsf s.heap.size a1 M _ hc) (kb_X11_requireHolder hI.T (q493 hI.T) (Nat.le_of_ble_eq_true rfl) (Nat.le_of_ble_eq_true rfl)) (q495 hI.T) (sel_X11_requireHolder hI.T) (m_recv (g := 12) (i := 16) hI (mokX (by decide) (by decide)) rfl rfl) rfl hl.1 (Nat.le_of_ble_eq_true rfl) dX11_isCorrect_2 ⟨Nat.le_of_ble_eq_true rfl, Nat.le_of_ble_eq_true rfl⟩ hxt hlk hf (Nat.le_of_ble_eq_true rfl) (Nat.le_of_ble_eq_true rfl)
  refine m_callxRV (As := [.int a1]) (rest := []) hx hb hml hown hI (c_X11_requireHolder l w hsf s.heap.size a1 M _ hc) (kb_X11_requireHolder hI.T (q493 hI.T) (Nat.le_of_ble_eq_true rfl) (Nat.le_of_ble_eq_true rfl)) (q495 hI.T) (sel_X11_requireHolder hI.T) (m_recv (g := 12) (i := 16) hI (mokX (by decide) (by decide)) rfl rfl) rfl hl.1 (Nat.le_of_ble_eq_true rfl) dX11_isCorrect_2 ⟨Nat.le_of_ble_eq_true rfl, Nat.le_of_ble_eq_true rfl⟩ (fun H locs hI => ?_)
  refine lv_aload_n hx hb dX11_isCorrect_5 rfl (lv_at hl 0 rfl) ?_
  rcases mbpx_e hf with ⟨n4, hc, hf⟩ | ⟨r3, hc, hf⟩
  · exact m_callxTVp (As := []) (rest := []) hx hb hml hown hI (c_X11_requireSeal l w hsf H.size M _ hc) (kb_X11_requireSeal hI.T (q386 hI.T) (Nat.le_of_ble_eq_true rfl) (Nat.le_of_ble_eq_true rfl)) (q388 hI.T) (sel_X11_requireSeal hI.T) (m_recv (g := 12) (i := 16) hI (mokX (by decide) (by decide)) rfl rfl) rfl hl.1 (Nat.le_of_ble_eq_true rfl) dX11_isCorrect_6 ⟨Nat.le_of_ble_eq_true rfl, Nat.le_of_ble_eq_true rfl⟩ hxt hlk hf (Nat.le_of_ble_eq_true rfl) (Nat.le_of_ble_eq_true rfl)
  refine m_callxRV (As := []) (rest := []) hx hb hml hown hI (c_X11_requireSeal l w hsf H.size M _ hc) (kb_X11_requireSeal hI.T (q386 hI.T) (Nat.le_of_ble_eq_true rfl) (Nat.le_of_ble_eq_true rfl)) (q388 hI.T) (sel_X11_requireSeal hI.T) (m_recv (g := 12) (i := 16) hI (mokX (by decide) (by decide)) rfl rfl) rfl hl.1 (Nat.le_of_ble_eq_true rfl) dX11_isCorrect_6 ⟨Nat.le_of_ble_eq_true rfl, Nat.le_of_ble_eq_true rfl⟩ (fun H locs hI => ?_)
  refine lv_aload_n hx hb dX11_isCorrect_9 rfl (lv_at hl 0 rfl) ?_
  refine m_get (g := 12) (i := 16) (ci := 9) (k := 0) (v := .ref (w.1 0 0)) hx hb hI hown (mokX (by decide) (by decide)) rfl rfl (by decide) lyX11 (q294 hI.T) rfl dX11_isCorrect_10 ?_
  refine m_get (g := 0) (i := 0) (ci := 8) (k := 0) (v := .ref (w.1 0 1)) hx hb hI hown (mokS (by decide) (by decide)) rfl rfl (by decide) lyX9 (q187 hI.T) rfl dX11_isCorrect_13 ?_
  refine m_get (g := 0) (i := 1) (ci := 5) (k := 1) (v := .ref (w.1 0 2)) hx hb hI hown (mokS (by decide) (by decide)) rfl rfl (by decide) lyX6 (q60 hI.T) rfl dX11_isCorrect_16 ?_
  refine lv_iload_n hx hb dX11_isCorrect_19 rfl (lv_at hl 1 rfl) ?_
  obtain ⟨hi, hf⟩ := mix_e hf
  refine m_iald (g := 0) (i := 2) hx hb hI (mokS (by decide) (by decide)) rfl hi dX11_isCorrect_20 ?_
  refine lv_aload_n hx hb dX11_isCorrect_21 rfl (lv_at hl 0 rfl) ?_
  refine m_get (g := 12) (i := 16) (ci := 9) (k := 0) (v := .ref (w.1 0 0)) hx hb hI hown (mokX (by decide) (by decide)) rfl rfl (by decide) lyX11 (q294 hI.T) rfl dX11_isCorrect_22 ?_
  refine m_get (g := 0) (i := 0) (ci := 8) (k := 0) (v := .ref (w.1 0 1)) hx hb hI hown (mokS (by decide) (by decide)) rfl rfl (by decide) lyX9 (q187 hI.T) rfl dX11_isCorrect_25 ?_
  refine lv_iload_n hx hb dX11_isCorrect_28 rfl (lv_at hl 1 rfl) ?_
  obtain ⟨r5, hc, hf⟩ := mbp_e hf
  refine m_callV (As := [.int a1]) (rest := [.int (M 0 2 a1.toNatClampNeg)]) hx hb hml hown hI (c_X6_correctShare l w H.size 0 (by decide) a1 M _ hc) (kb_X6_correctShare hI.T (q706 hI.T) (Nat.le_of_ble_eq_true rfl) (Nat.le_of_ble_eq_true rfl)) (q707 hI.T) (q708 hI.T) (m_recv (g := 0) (i := 1) hI (mokS (by decide) (by decide)) rfl rfl) rfl hl.1 (Nat.le_of_ble_eq_true rfl) dX11_isCorrect_29 ⟨Nat.le_of_ble_eq_true rfl, Nat.le_of_ble_eq_true rfl⟩ (fun H locs hI => ?_)
  refine lv_icmp_ne (tgt := 39) hx hb dX11_isCorrect_32 (by decide) (fun c6 => ?_) (fun c6 => ?_)
  · have hf := (if_neg c6).symm.trans hf
    refine lv_iconst (v := 0) hx hb dX11_isCorrect_39 (by decide) ?_
    exact m_zretxp hx hb hr hlk hI rfl hf dX11_isCorrect_40 (Nat.le_of_ble_eq_true rfl) (Nat.le_of_ble_eq_true rfl)
  · have hf := (if_pos c6).symm.trans hf
    refine lv_iconst (v := 1) hx hb dX11_isCorrect_35 (by decide) ?_
    refine lv_goto (tgt := 40) hx hb dX11_isCorrect_36 (by decide) ?_
    exact m_zretxp hx hb hr hlk hI rfl hf dX11_isCorrect_40 (Nat.le_of_ble_eq_true rfl) (Nat.le_of_ble_eq_true rfl)
abbrev rmX11_isPresented : Room := { frames := 9, cells := 1, slots := 6, locals := 161 }
theorem kb_X11_isPresented {R : Room} {s : State} {args : Array Value} {own : String} {idx : Nat} (hT : mT s) (hlink : (Cond.methodLink own idx yX11_isPresented).before args s = true) (h1 : rmX11_isPresented.frames + 1 ≤ R.frames) (h2 : 8 + (2 + 11) + rmX11_isPresented.locals ≤ R.locals) : CallB R s args own idx yX11_isPresented cX11_isPresented 2 (some .boolean) [Cond.code yX11_isPresented cX11_isPresented 2 (some .boolean)] rmX11_isPresented 1 6 1 := m_callB hT kc_X11_isPresented ki_X11_isPresented hlink (by decide +kernel) ⟨rfl, rfl, h1, h2⟩
set_option maxHeartbeats 4000000 in
set_option maxRecDepth 100000 in
theorem c_X11_isPresented (l : Launch) (w : WD) (hsf : l.stackTraces = false) (sz : Nat) (a1 : Int32) (M : Mem) (r : (Nat ⊕ Int32)) (hf : f_X11_isPresented a1 M = some r) : mMetx l yX11_isPresented cX11_isPresented 2 (some .boolean) rmX11_isPresented w sz M [.ref (w.1 12 16), .int a1] (moI r) M 1 6 := by
  refine m_ofx (by decide) (Nat.le_of_ble_eq_true rfl) ?_
  intro p e s m args below meth c hx hb hr hml hown hlk hxt hI ls hl
  have hl : lv_has ls 2 [(0, .ref (w.1 12 16)), (1, .int a1)] := hl
  unfold f_X11_isPresented at hf
  refine lv_aload_n hx hb dX11_isPresented_0 rfl (lv_at hl 0 rfl) ?_
  refine lv_iload_n hx hb dX11_isPresented_1 rfl (lv_at hl 1 rfl) ?_
  rcases mbpx_e hf with ⟨n2, hc, hf⟩ | ⟨r1, hc, hf⟩
  · exact m_callxTVp (As := [.int a1]) (rest := []) hx hb hml hown hI (c_X11_requireHolder l w hsf s.heap.size a1 M _ hc) (kb_X11_requireHolder hI.T (q493 hI.T) (Nat.le_of_ble_eq_true rfl) (Nat.le_of_ble_eq_true rfl)) (q495 hI.T) (sel_X11_requireHolder hI.T) (m_recv (g := 12) (i := 16) hI (mokX (by decide) (by decide)) rfl rfl) rfl hl.1 (Nat.le_of_ble_eq_true rfl) dX11_isPresented_2 ⟨Nat.le_of_ble_eq_true rfl, Nat.le_of_ble_eq_true rfl⟩ hxt hlk hf (Nat.le_of_ble_eq_true rfl) (Nat.le_of_ble_eq_true rfl)
  refine m_callxRV (As := [.int a1]) (rest := []) hx hb hml hown hI (c_X11_requireHolder l w hsf s.heap.size a1 M _ hc) (kb_X11_requireHolder hI.T (q493 hI.T) (Nat.le_of_ble_eq_true rfl) (Nat.le_of_ble_eq_true rfl)) (q495 hI.T) (sel_X11_requireHolder hI.T) (m_recv (g := 12) (i := 16) hI (mokX (by decide) (by decide)) rfl rfl) rfl hl.1 (Nat.le_of_ble_eq_true rfl) dX11_isPresented_2 ⟨Nat.le_of_ble_eq_true rfl, Nat.le_of_ble_eq_true rfl⟩ (fun H locs hI => ?_)
  refine lv_aload_n hx hb dX11_isPresented_5 rfl (lv_at hl 0 rfl) ?_
  refine m_get (g := 12) (i := 16) (ci := 9) (k := 0) (v := .ref (w.1 0 0)) hx hb hI hown (mokX (by decide) (by decide)) rfl rfl (by decide) lyX11 (q294 hI.T) rfl dX11_isPresented_6 ?_
  refine m_get (g := 0) (i := 0) (ci := 8) (k := 0) (v := .ref (w.1 0 1)) hx hb hI hown (mokS (by decide) (by decide)) rfl rfl (by decide) lyX9 (q187 hI.T) rfl dX11_isPresented_9 ?_
  refine lv_iload_n hx hb dX11_isPresented_12 rfl (lv_at hl 1 rfl) ?_
  obtain ⟨r3, hc, hf⟩ := mbp_e hf
  refine m_callV (As := [.int a1]) (rest := []) hx hb hml hown hI (c_X6_placeOf l w H.size 0 (by decide) a1 M _ hc) (kb_X6_placeOf hI.T (q514 hI.T) (Nat.le_of_ble_eq_true rfl) (Nat.le_of_ble_eq_true rfl)) (q515 hI.T) (q516 hI.T) (m_recv (g := 0) (i := 1) hI (mokS (by decide) (by decide)) rfl rfl) rfl hl.1 (Nat.le_of_ble_eq_true rfl) dX11_isPresented_13 ⟨Nat.le_of_ble_eq_true rfl, Nat.le_of_ble_eq_true rfl⟩ (fun H locs hI => ?_)
  refine lv_iconst (v := (-1)) hx hb dX11_isPresented_16 (by decide) ?_
  refine lv_icmp_eq (tgt := 24) hx hb dX11_isPresented_17 (by decide) (fun c4 => ?_) (fun c4 => ?_)
  · have hf := (if_pos c4).symm.trans hf
    refine lv_iconst (v := 0) hx hb dX11_isPresented_24 (by decide) ?_
    exact m_zretxp hx hb hr hlk hI rfl hf dX11_isPresented_25 (Nat.le_of_ble_eq_true rfl) (Nat.le_of_ble_eq_true rfl)
  · have hf := (if_neg c4).symm.trans hf
    refine lv_iconst (v := 1) hx hb dX11_isPresented_20 (by decide) ?_
    refine lv_goto (tgt := 25) hx hb dX11_isPresented_21 (by decide) ?_
    exact m_zretxp hx hb hr hlk hI rfl hf dX11_isPresented_25 (Nat.le_of_ble_eq_true rfl) (Nat.le_of_ble_eq_true rfl)
abbrev rmX11_presentedCount : Room := { frames := 0, cells := 0, slots := 0, locals := 0 }
theorem kb_X11_presentedCount {R : Room} {s : State} {args : Array Value} {own : String} {idx : Nat} (hT : mT s) (hlink : (Cond.methodLink own idx yX11_presentedCount).before args s = true) (h1 : rmX11_presentedCount.frames + 1 ≤ R.frames) (h2 : 8 + (1 + 11) + rmX11_presentedCount.locals ≤ R.locals) : CallB R s args own idx yX11_presentedCount cX11_presentedCount 1 (some .int) [Cond.code yX11_presentedCount cX11_presentedCount 1 (some .int)] rmX11_presentedCount 0 0 0 := m_callB hT kc_X11_presentedCount ki_X11_presentedCount hlink (by decide +kernel) ⟨rfl, rfl, h1, h2⟩
set_option maxHeartbeats 4000000 in
set_option maxRecDepth 100000 in
theorem c_X11_presentedCount (l : Launch) (w : WD) (sz : Nat)  (M : Mem) (r : Int32) (hf : f_X11_presentedCount  M = some r) : mMet l yX11_presentedCount cX11_presentedCount 1 (some .int) rmX11_presentedCount w sz M [.ref (w.1 12 16)] (some (.int r)) M := by
  refine m_of (by decide) (Nat.le_of_ble_eq_true rfl) ?_
  intro p e s m args below meth c hx hb hr hml hown hlk hI ls hl
  have hl : lv_has ls 1 [(0, .ref (w.1 12 16))] := hl
  unfold f_X11_presentedCount at hf
  refine lv_aload_n hx hb dX11_presentedCount_0 rfl (lv_at hl 0 rfl) ?_
  refine m_get (g := 12) (i := 16) (ci := 9) (k := 0) (v := .ref (w.1 0 0)) hx hb hI hown (mokX (by decide) (by decide)) rfl rfl (by decide) lyX11 (q294 hI.T) rfl dX11_presentedCount_1 ?_
  refine m_get (g := 0) (i := 0) (ci := 8) (k := 0) (v := .ref (w.1 0 1)) hx hb hI hown (mokS (by decide) (by decide)) rfl rfl (by decide) lyX9 (q187 hI.T) rfl dX11_presentedCount_4 ?_
  refine m_get (g := 0) (i := 1) (ci := 5) (k := 5) (v := .int (M 0 1 5)) hx hb hI hown (mokS (by decide) (by decide)) rfl rfl (by decide) lyX6 (q72 hI.T) rfl dX11_presentedCount_7 ?_
  exact m_iretp hx hb hr hlk hI hf dX11_presentedCount_10
abbrev rmX11_presentedAt : Room := { frames := 8, cells := 1, slots := 6, locals := 140 }
theorem kb_X11_presentedAt {R : Room} {s : State} {args : Array Value} {own : String} {idx : Nat} (hT : mT s) (hlink : (Cond.methodLink own idx yX11_presentedAt).before args s = true) (h1 : rmX11_presentedAt.frames + 1 ≤ R.frames) (h2 : 8 + (2 + 11) + rmX11_presentedAt.locals ≤ R.locals) : CallB R s args own idx yX11_presentedAt cX11_presentedAt 2 (some .int) [Cond.code yX11_presentedAt cX11_presentedAt 2 (some .int)] rmX11_presentedAt 1 6 1 := m_callB hT kc_X11_presentedAt ki_X11_presentedAt hlink (by decide +kernel) ⟨rfl, rfl, h1, h2⟩
set_option maxHeartbeats 4000000 in
set_option maxRecDepth 100000 in
theorem c_X11_presentedAt (l : Launch) (w : WD) (hsf : l.stackTraces = false) (sz : Nat) (a1 : Int32) (M : Mem) (r : (Nat ⊕ Int32)) (hf : f_X11_presentedAt a1 M = some r) : mMetx l yX11_presentedAt cX11_presentedAt 2 (some .int) rmX11_presentedAt w sz M [.ref (w.1 12 16), .int a1] (moI r) M 1 6 := by
  refine m_ofx (by decide) (Nat.le_of_ble_eq_true rfl) ?_
  intro p e s m args below meth c hx hb hr hml hown hlk hxt hI ls hl
  have hl : lv_has ls 2 [(0, .ref (w.1 12 16)), (1, .int a1)] := hl
  unfold f_X11_presentedAt at hf
  refine lv_iload_n hx hb dX11_presentedAt_0 rfl (lv_at hl 1 rfl) ?_
  obtain ⟨k18_3, ek18_3, hf⟩ := mlet_e hf
  have hj18_3 : ∀ (_u : Unit) (H : Heap) (locs : List Loc) (ls : Array Slot), k18_3 _u = some r → mI w s (mA w s.heap.size) H locs M → lv_has ls 2 [] → W p l e rmX11_presentedAt s m args below meth c H locs 0 0 (vx_MQ below (mQx w s.heap.size (moI r) M) (mXx w s.heap.size (moI r) M) args s 1 6 (mA w s.heap.size)) (F0 m 18 ls []) := by
    intro _u H locs ls hf hI hl
    rw [ek18_3] at hf
    try dsimp only at hf
    exact m_throwXp (n := 4) (ix := 0) hx hb hsf hown hI rfl (q390 hI.T) (q14 hI.T) (m_thw_4_X11_155 hI) hl.1 hml dX11_presentedAt_18 dX11_presentedAt_21 dX11_presentedAt_22 dX11_presentedAt_24 dX11_presentedAt_27 hxt (Nat.le_of_ble_eq_true rfl) (Nat.le_of_ble_eq_true rfl) (Nat.le_of_ble_eq_true rfl) (Nat.le_of_ble_eq_true rfl) hlk hf (Nat.le_of_ble_eq_true rfl) (Nat.le_of_ble_eq_true rfl)
  refine lv_if_lt (tgt := 18) hx hb dX11_presentedAt_1 (by decide) (fun c1 => ?_) (fun c1 => ?_)
  · have hf := (if_pos c1).symm.trans hf
    exact hj18_3 () s.heap _ _ hf hI (lv_sub hl [] rfl)
  · have hf := (if_neg c1).symm.trans hf
    refine lv_iload_n hx hb dX11_presentedAt_4 rfl (lv_at hl 1 rfl) ?_
    refine lv_aload_n hx hb dX11_presentedAt_5 rfl (lv_at hl 0 rfl) ?_
    refine m_get (g := 12) (i := 16) (ci := 9) (k := 0) (v := .ref (w.1 0 0)) hx hb hI hown (mokX (by decide) (by decide)) rfl rfl (by decide) lyX11 (q294 hI.T) rfl dX11_presentedAt_6 ?_
    refine m_get (g := 0) (i := 0) (ci := 8) (k := 0) (v := .ref (w.1 0 1)) hx hb hI hown (mokS (by decide) (by decide)) rfl rfl (by decide) lyX9 (q187 hI.T) rfl dX11_presentedAt_9 ?_
    refine m_get (g := 0) (i := 1) (ci := 5) (k := 5) (v := .int (M 0 1 5)) hx hb hI hown (mokS (by decide) (by decide)) rfl rfl (by decide) lyX6 (q72 hI.T) rfl dX11_presentedAt_12 ?_
    refine lv_icmp_lt (tgt := 28) hx hb dX11_presentedAt_15 (by decide) (fun c2 => ?_) (fun c2 => ?_)
    · have hf := (if_pos c2).symm.trans hf
      refine lv_aload_n hx hb dX11_presentedAt_28 rfl (lv_at hl 0 rfl) ?_
      refine m_get (g := 12) (i := 16) (ci := 9) (k := 0) (v := .ref (w.1 0 0)) hx hb hI hown (mokX (by decide) (by decide)) rfl rfl (by decide) lyX11 (q294 hI.T) rfl dX11_presentedAt_29 ?_
      refine m_get (g := 0) (i := 0) (ci := 8) (k := 0) (v := .ref (w.1 0 1)) hx hb hI hown (mokS (by decide) (by decide)) rfl rfl (by decide) lyX9 (q187 hI.T) rfl dX11_presentedAt_32 ?_
      refine m_get (g := 0) (i := 1) (ci := 5) (k := 6) (v := .ref (w.1 0 4)) hx hb hI hown (mokS (by decide) (by decide)) rfl rfl (by decide) lyX6 (q75 hI.T) rfl dX11_presentedAt_35 ?_
      refine lv_iload_n hx hb dX11_presentedAt_38 rfl (lv_at hl 1 rfl) ?_
      obtain ⟨hi, hf⟩ := mix_e hf
      refine m_iald (g := 0) (i := 4) hx hb hI (mokS (by decide) (by decide)) rfl hi dX11_presentedAt_39 ?_
      exact m_iretxp hx hb hr hlk hI hf dX11_presentedAt_40 (Nat.le_of_ble_eq_true rfl) (Nat.le_of_ble_eq_true rfl)
    · have hf := (if_neg c2).symm.trans hf
      exact hj18_3 () s.heap _ _ hf hI (lv_sub hl [] rfl)
abbrev rmX11_requireEnoughKeys : Room := { frames := 8, cells := 1, slots := 6, locals := 140 }
theorem kb_X11_requireEnoughKeys {R : Room} {s : State} {args : Array Value} {own : String} {idx : Nat} (hT : mT s) (hlink : (Cond.methodLink own idx yX11_requireEnoughKeys).before args s = true) (h1 : rmX11_requireEnoughKeys.frames + 1 ≤ R.frames) (h2 : 8 + (1 + 11) + rmX11_requireEnoughKeys.locals ≤ R.locals) : CallB R s args own idx yX11_requireEnoughKeys cX11_requireEnoughKeys 1 (none) [Cond.code yX11_requireEnoughKeys cX11_requireEnoughKeys 1 (none)] rmX11_requireEnoughKeys 1 6 0 := m_callB hT kc_X11_requireEnoughKeys ki_X11_requireEnoughKeys hlink (by decide +kernel) ⟨rfl, rfl, h1, h2⟩
set_option maxHeartbeats 4000000 in
set_option maxRecDepth 100000 in
theorem c_X11_requireEnoughKeys (l : Launch) (w : WD) (hsf : l.stackTraces = false) (sz : Nat)  (M : Mem) (r : (Nat ⊕ Unit)) (hf : f_X11_requireEnoughKeys  M = some r) : mMetx l yX11_requireEnoughKeys cX11_requireEnoughKeys 1 (none) rmX11_requireEnoughKeys w sz M [.ref (w.1 12 16)] (moU r) M 1 6 := by
  refine m_ofx (by decide) (Nat.le_of_ble_eq_true rfl) ?_
  intro p e s m args below meth c hx hb hr hml hown hlk hxt hI ls hl
  have hl : lv_has ls 1 [(0, .ref (w.1 12 16))] := hl
  unfold f_X11_requireEnoughKeys at hf
  refine lv_aload_n hx hb dX11_requireEnoughKeys_0 rfl (lv_at hl 0 rfl) ?_
  refine m_get (g := 12) (i := 16) (ci := 9) (k := 0) (v := .ref (w.1 0 0)) hx hb hI hown (mokX (by decide) (by decide)) rfl rfl (by decide) lyX11 (q294 hI.T) rfl dX11_requireEnoughKeys_1 ?_
  refine m_get (g := 0) (i := 0) (ci := 8) (k := 0) (v := .ref (w.1 0 1)) hx hb hI hown (mokS (by decide) (by decide)) rfl rfl (by decide) lyX9 (q187 hI.T) rfl dX11_requireEnoughKeys_4 ?_
  obtain ⟨r1, hc, hf⟩ := mbp_e hf
  refine m_callV (As := []) (rest := []) hx hb hml hown hI (c_X6_areEnough l w s.heap.size 0 (by decide) M _ hc) (kb_X6_areEnough hI.T (q537 hI.T) (Nat.le_of_ble_eq_true rfl) (Nat.le_of_ble_eq_true rfl)) (q538 hI.T) (q539 hI.T) (m_recv (g := 0) (i := 1) hI (mokS (by decide) (by decide)) rfl rfl) rfl hl.1 (Nat.le_of_ble_eq_true rfl) dX11_requireEnoughKeys_7 ⟨Nat.le_of_ble_eq_true rfl, Nat.le_of_ble_eq_true rfl⟩ (fun H locs hI => ?_)
  refine lv_if_ne (tgt := 24) hx hb dX11_requireEnoughKeys_10 (by decide) (fun c2 => ?_) (fun c2 => ?_)
  · have hf := (if_neg c2).symm.trans hf
    exact m_vretxp hx hb hr hlk hI hf dX11_requireEnoughKeys_24 (Nat.le_of_ble_eq_true rfl) (Nat.le_of_ble_eq_true rfl)
  · have hf := (if_pos c2).symm.trans hf
    exact m_throwXWp (n := 4) (ix := 18) hx hb hsf hown hI rfl (q390 hI.T) (q14 hI.T) (m_thw_4_X11_155 hI) hl.1 hml dX11_requireEnoughKeys_13 dX11_requireEnoughKeys_16 dX11_requireEnoughKeys_17 dX11_requireEnoughKeys_20 dX11_requireEnoughKeys_23 hxt (Nat.le_of_ble_eq_true rfl) (Nat.le_of_ble_eq_true rfl) (Nat.le_of_ble_eq_true rfl) (Nat.le_of_ble_eq_true rfl) hlk hf (Nat.le_of_ble_eq_true rfl) (Nat.le_of_ble_eq_true rfl)
abbrev rmX11_toldSecret : Room := { frames := 9, cells := 1, slots := 6, locals := 160 }
theorem kb_X11_toldSecret {R : Room} {s : State} {args : Array Value} {own : String} {idx : Nat} (hT : mT s) (hlink : (Cond.methodLink own idx yX11_toldSecret).before args s = true) (h1 : rmX11_toldSecret.frames + 1 ≤ R.frames) (h2 : 8 + (1 + 11) + rmX11_toldSecret.locals ≤ R.locals) : CallB R s args own idx yX11_toldSecret cX11_toldSecret 1 (some .int) [Cond.code yX11_toldSecret cX11_toldSecret 1 (some .int)] rmX11_toldSecret 1 6 0 := m_callB hT kc_X11_toldSecret ki_X11_toldSecret hlink (by decide +kernel) ⟨rfl, rfl, h1, h2⟩
set_option maxHeartbeats 4000000 in
set_option maxRecDepth 100000 in
theorem c_X11_toldSecret (l : Launch) (w : WD) (hsf : l.stackTraces = false) (sz : Nat)  (M : Mem) (r : (Nat ⊕ Int32)) (hf : f_X11_toldSecret  M = some r) : mMetx l yX11_toldSecret cX11_toldSecret 1 (some .int) rmX11_toldSecret w sz M [.ref (w.1 12 16)] (moI r) M 1 6 := by
  refine m_ofx (by decide) (Nat.le_of_ble_eq_true rfl) ?_
  intro p e s m args below meth c hx hb hr hml hown hlk hxt hI ls hl
  have hl : lv_has ls 1 [(0, .ref (w.1 12 16))] := hl
  unfold f_X11_toldSecret at hf
  refine lv_aload_n hx hb dX11_toldSecret_0 rfl (lv_at hl 0 rfl) ?_
  rcases mbpx_e hf with ⟨n2, hc, hf⟩ | ⟨r1, hc, hf⟩
  · exact m_callxTVp (As := []) (rest := []) hx hb hml hown hI (c_X11_requireEnoughKeys l w hsf s.heap.size M _ hc) (kb_X11_requireEnoughKeys hI.T (q533 hI.T) (Nat.le_of_ble_eq_true rfl) (Nat.le_of_ble_eq_true rfl)) (q535 hI.T) (sel_X11_requireEnoughKeys hI.T) (m_recv (g := 12) (i := 16) hI (mokX (by decide) (by decide)) rfl rfl) rfl hl.1 (Nat.le_of_ble_eq_true rfl) dX11_toldSecret_1 ⟨Nat.le_of_ble_eq_true rfl, Nat.le_of_ble_eq_true rfl⟩ hxt hlk hf (Nat.le_of_ble_eq_true rfl) (Nat.le_of_ble_eq_true rfl)
  refine m_callxRV (As := []) (rest := []) hx hb hml hown hI (c_X11_requireEnoughKeys l w hsf s.heap.size M _ hc) (kb_X11_requireEnoughKeys hI.T (q533 hI.T) (Nat.le_of_ble_eq_true rfl) (Nat.le_of_ble_eq_true rfl)) (q535 hI.T) (sel_X11_requireEnoughKeys hI.T) (m_recv (g := 12) (i := 16) hI (mokX (by decide) (by decide)) rfl rfl) rfl hl.1 (Nat.le_of_ble_eq_true rfl) dX11_toldSecret_1 ⟨Nat.le_of_ble_eq_true rfl, Nat.le_of_ble_eq_true rfl⟩ (fun H locs hI => ?_)
  refine lv_aload_n hx hb dX11_toldSecret_4 rfl (lv_at hl 0 rfl) ?_
  refine m_get (g := 12) (i := 16) (ci := 9) (k := 0) (v := .ref (w.1 0 0)) hx hb hI hown (mokX (by decide) (by decide)) rfl rfl (by decide) lyX11 (q294 hI.T) rfl dX11_toldSecret_5 ?_
  refine m_get (g := 0) (i := 0) (ci := 8) (k := 0) (v := .ref (w.1 0 1)) hx hb hI hown (mokS (by decide) (by decide)) rfl rfl (by decide) lyX9 (q187 hI.T) rfl dX11_toldSecret_8 ?_
  refine lv_iconst (v := 0) hx hb dX11_toldSecret_11 (by decide) ?_
  obtain ⟨r3, hc, hf⟩ := mbp_e hf
  refine m_callV (As := [.int (0 : Int32)]) (rest := []) hx hb hml hown hI (c_X6_toldAt l w H.size 0 (by decide) (0 : Int32) M _ hc) (kb_X6_toldAt hI.T (q542 hI.T) (Nat.le_of_ble_eq_true rfl) (Nat.le_of_ble_eq_true rfl)) (q543 hI.T) (q544 hI.T) (m_recv (g := 0) (i := 1) hI (mokS (by decide) (by decide)) rfl rfl) rfl hl.1 (Nat.le_of_ble_eq_true rfl) dX11_toldSecret_12 ⟨Nat.le_of_ble_eq_true rfl, Nat.le_of_ble_eq_true rfl⟩ (fun H locs hI => ?_)
  exact m_iretxp hx hb hr hlk hI hf dX11_toldSecret_15 (Nat.le_of_ble_eq_true rfl) (Nat.le_of_ble_eq_true rfl)
abbrev rmX8_setEquation : Room := { frames := 1, cells := 0, slots := 0, locals := 20 }
theorem kb_X8_setEquation {R : Room} {s : State} {args : Array Value} {own : String} {idx : Nat} (hT : mT s) (hlink : (Cond.methodLink own idx yX8_setEquation).before args s = true) (h1 : rmX8_setEquation.frames + 1 ≤ R.frames) (h2 : 8 + (7 + 11) + rmX8_setEquation.locals ≤ R.locals) : CallB R s args own idx yX8_setEquation cX8_setEquation 7 (none) [Cond.code yX8_setEquation cX8_setEquation 7 (none)] rmX8_setEquation 0 0 4 := m_callB hT kc_X8_setEquation ki_X8_setEquation hlink (by decide +kernel) ⟨rfl, rfl, h1, h2⟩
set_option maxHeartbeats 4000000 in
set_option maxRecDepth 100000 in
theorem c_X8_setEquation (l : Launch) (w : WD) (sz : Nat) (a1 : Int32) (a2 : Int32) (a3 : Int32) (a4 : Int32) (M : Mem) (r : Unit) (M9 : Mem) (hf : f_X8_setEquation a1 a2 a3 a4 M = some (r, M9)) : mMet l yX8_setEquation cX8_setEquation 7 (none) rmX8_setEquation w sz M [.ref (w.1 12 19), .int a1, .int a2, .int a3, .int a4] none M9 := by
  refine m_of (by decide) (Nat.le_of_ble_eq_true rfl) ?_
  intro p e s m args below meth c hx hb hr hml hown hlk hI ls hl
  have hl : lv_has ls 7 [(0, .ref (w.1 12 19)), (1, .int a1), (2, .int a2), (3, .int a3), (4, .int a4)] := hl
  unfold f_X8_setEquation at hf
  refine lv_iconst (v := 1) hx hb dX8_setEquation_0 (by decide) ?_
  refine lv_istore (lv' := [(5, .int (1 : Int32)), (0, .ref (w.1 12 19)), (1, .int a1), (2, .int a2), (3, .int a3), (4, .int a4)]) hx hb dX8_setEquation_1 hl (by decide) rfl (fun ls hl => ?_)
  refine lv_iconst (v := 0) hx hb dX8_setEquation_3 (by decide) ?_
  refine lv_istore (lv' := [(6, .int (0 : Int32)), (5, .int (1 : Int32)), (0, .ref (w.1 12 19)), (1, .int a1), (2, .int a2), (3, .int a3), (4, .int a4)]) hx hb dX8_setEquation_4 hl (by decide) rfl (fun ls hl => ?_)
  have hL6 : ∀ (n : Nat) (x1 : Int32) (x2 : Int32) (M3 : Mem) (kk : Mem → Option (Unit × Mem)) (H : Heap) (locs : List Loc) (ls : Array Slot), f_X8_setEquation_L6 a1 a2 a3 n x1 x2 M3 kk = some (r, M9) → mI w s (mA w s.heap.size) H locs M3 → lv_has ls 7 [(0, .ref (w.1 12 19)), (1, .int a1), (2, .int a2), (3, .int a3), (4, .int a4), (5, .int x1), (6, .int x2)] → (∀  (M3 : Mem) (H : Heap) (locs : List Loc) (ls : Array Slot), kk M3 = some (r, M9) → mI w s (mA w s.heap.size) H locs M3 → lv_has ls 7 [(0, .ref (w.1 12 19)), (1, .int a1), (2, .int a2), (4, .int a4)] → W p l e rmX8_setEquation s m args below meth c H locs 0 0 (MQ below (mQ w s.heap.size none M9) args s 0 0 (mA w s.heap.size)) (F0 m 41 ls [])) → W p l e rmX8_setEquation s m args below meth c H locs 0 0 (MQ below (mQ w s.heap.size none M9) args s 0 0 (mA w s.heap.size)) (F0 m 6 ls []) := by
    intro n
    induction n with
    | zero => intro x1 x2 M3 kk H locs ls hf hI hl hk; rw [f_X8_setEquation_L6.eq_1] at hf; cases hf
    | succ n ih6 =>
      intro x1 x2 M3 kk H locs ls hf hI hl hk
      rw [f_X8_setEquation_L6.eq_2] at hf
      refine lv_iload hx hb dX8_setEquation_6 (lv_at hl 6 rfl) ?_
      refine lv_iload_n hx hb dX8_setEquation_8 rfl (lv_at hl 2 rfl) ?_
      refine lv_icmp_ge (tgt := 41) hx hb dX8_setEquation_9 (by decide) (fun c4 => ?_) (fun c4 => ?_)
      · have hf := (if_pos c4).symm.trans hf
        exact hk M3 H _ _ hf hI (lv_sub hl [0, 1, 2, 4] rfl)
      · have hf := (if_neg c4).symm.trans hf
        refine lv_aload_n hx hb dX8_setEquation_12 rfl (lv_at hl 0 rfl) ?_
        refine m_get (g := 12) (i := 19) (ci := 7) (k := 0) (v := .ref (w.1 12 20)) hx hb hI hown (mokX (by decide) (by decide)) rfl rfl (by decide) lyX8 (q237 hI.T) rfl dX8_setEquation_13 ?_
        refine lv_iload_n hx hb dX8_setEquation_16 rfl (lv_at hl 1 rfl) ?_
        obtain ⟨hi, hf⟩ := mix_e hf
        have hk17 := mix_lt hi
        refine m_aald (g := 12) (i := 20) (t0 := 4) (v := .ref (w.1 12 (21 + a1.toNatClampNeg))) hx hb hI (mokX (by decide) (by decide)) rfl rfl rfl hi rfl dX8_setEquation_17 ?_
        refine lv_iload hx hb dX8_setEquation_18 (lv_at hl 6 rfl) ?_
        refine lv_iload hx hb dX8_setEquation_20 (lv_at hl 5 rfl) ?_
        obtain ⟨hi, hf⟩ := mix_e hf
        obtain ⟨M5, eM5, hf⟩ := mlet_e hf
        refine m_iast (g := 12) (i := (21 + a1.toNatClampNeg)) (M1 := M5) hx hb hI (mok_eq hk17) (mil_eq hk17) hi eM5 dX8_setEquation_22 (fun H locs hI => ?_)
        refine lv_iload hx hb dX8_setEquation_23 (lv_at hl 5 rfl) ?_
        refine lv_iload_n hx hb dX8_setEquation_25 rfl (lv_at hl 3 rfl) ?_
        obtain ⟨r6, hc, hf⟩ := mbp_e hf
        refine m_callS (As := [.int a3]) (rest := [.int x1]) hx hb hml hown hI (c_X6_positionOf l w H.size a3 M5 _ hc) (kb_X6_positionOf hI.T (q1428 hI.T) (Nat.le_of_ble_eq_true rfl) (Nat.le_of_ble_eq_true rfl)) (q572 hI.T) rfl hl.1 (Nat.le_of_ble_eq_true rfl) dX8_setEquation_26 ⟨Nat.le_of_ble_eq_true rfl, Nat.le_of_ble_eq_true rfl⟩ (fun H locs hI => ?_)
        refine lv_imul hx hb dX8_setEquation_29 ?_
        refine lv_bipush (v := 97) hx hb dX8_setEquation_30 (by decide) ?_
        refine lv_irem hx hb dX8_setEquation_32 (by decide) ?_
        refine lv_topi (fun x7 ex7 => ?_)
        have hf := mlet_s ex7 hf
        refine lv_istore (lv' := [(5, .int x7), (0, .ref (w.1 12 19)), (1, .int a1), (2, .int a2), (3, .int a3), (4, .int a4), (6, .int x2)]) hx hb dX8_setEquation_33 hl (by decide) rfl (fun ls hl => ?_)
        obtain ⟨x8, ex8, hf⟩ := mlet_e hf
        refine lv_iinc (v := x8) (lv' := [(6, .int x8), (5, .int x7), (0, .ref (w.1 12 19)), (1, .int a1), (2, .int a2), (3, .int a3), (4, .int a4)]) hx hb dX8_setEquation_35 hl (k := 6) rfl (by rw [ex8]; rfl) (by decide) rfl (fun ls hl => ?_)
        refine lv_goto (tgt := 6) hx hb dX8_setEquation_38 (by decide) ?_
        exact ih6 x7 x8 M5 kk H _ _ hf hI (lv_sub hl [2, 3, 4, 5, 6, 1, 0] rfl) hk
  refine hL6 1000 (1 : Int32) (0 : Int32) M _ _ _ _ hf hI (lv_sub hl [2, 3, 4, 5, 6, 1, 0] rfl) ?_
  intro M10 H locs ls hf hI hl
  try dsimp only at hf
  refine lv_aload_n hx hb dX8_setEquation_41 rfl (lv_at hl 0 rfl) ?_
  refine m_get (g := 12) (i := 19) (ci := 7) (k := 0) (v := .ref (w.1 12 20)) hx hb hI hown (mokX (by decide) (by decide)) rfl rfl (by decide) lyX8 (q237 hI.T) rfl dX8_setEquation_42 ?_
  refine lv_iload_n hx hb dX8_setEquation_45 rfl (lv_at hl 1 rfl) ?_
  obtain ⟨hi, hf⟩ := mix_e hf
  have hk46 := mix_lt hi
  refine m_aald (g := 12) (i := 20) (t0 := 4) (v := .ref (w.1 12 (21 + a1.toNatClampNeg))) hx hb hI (mokX (by decide) (by decide)) rfl rfl rfl hi rfl dX8_setEquation_46 ?_
  refine lv_iload_n hx hb dX8_setEquation_47 rfl (lv_at hl 2 rfl) ?_
  refine lv_iload hx hb dX8_setEquation_48 (lv_at hl 3 rfl) ?_
  obtain ⟨hi, hf⟩ := mix_e hf
  obtain ⟨M11, eM11, hf⟩ := mlet_e hf
  refine m_iast (g := 12) (i := (21 + a1.toNatClampNeg)) (M1 := M11) hx hb hI (mok_eq hk46) (mil_eq hk46) hi eM11 dX8_setEquation_50 (fun H locs hI => ?_)
  exact m_vretf hx hb hr hlk hI hf dX8_setEquation_51
abbrev rmJ9_floorMod_7cf53 : Room := { frames := 0, cells := 0, slots := 0, locals := 0 }
theorem kb_J9_floorMod_7cf53 {R : Room} {s : State} {args : Array Value} {own : String} {idx : Nat} (hT : mT s) (hlink : (Cond.methodLink own idx yJ9_floorMod_7cf53).before args s = true) (h1 : rmJ9_floorMod_7cf53.frames + 1 ≤ R.frames) (h2 : 8 + (3 + 11) + rmJ9_floorMod_7cf53.locals ≤ R.locals) : CallB R s args own idx yJ9_floorMod_7cf53 cJ9_floorMod_7cf53 3 (some .int) [Cond.code yJ9_floorMod_7cf53 cJ9_floorMod_7cf53 3 (some .int)] rmJ9_floorMod_7cf53 0 0 2 := m_callB hT kc_J9_floorMod_7cf53 ki_J9_floorMod_7cf53 hlink (by decide +kernel) ⟨rfl, rfl, h1, h2⟩
set_option maxHeartbeats 4000000 in
set_option maxRecDepth 100000 in
theorem c_J9_floorMod_7cf53 (l : Launch) (w : WD) (sz : Nat) (a1 : Int32) (a2 : Int32) (M : Mem) (r : Int32) (hf : f_J9_floorMod_7cf53 a1 a2 M = some r) : mMet l yJ9_floorMod_7cf53 cJ9_floorMod_7cf53 3 (some .int) rmJ9_floorMod_7cf53 w sz M [.int a1, .int a2] (some (.int r)) M := by
  refine m_ofF (by decide +kernel) (Nat.le_of_ble_eq_true rfl) ?_
  intro p e s m args below meth c hx hb hr hml hown hlk hI ls hl
  have hl : lv_has ls 3 [(0, .int a1), (1, .int a2)] := hl
  unfold f_J9_floorMod_7cf53 at hf
  refine lv_iload_n hx hb dJ9_floorMod_7cf53_0 rfl (lv_at hl 0 rfl) ?_
  refine lv_iload_n hx hb dJ9_floorMod_7cf53_1 rfl (lv_at hl 1 rfl) ?_
  obtain ⟨hd, hf⟩ := mdiv_e hf
  refine lv_irem hx hb dJ9_floorMod_7cf53_2 hd ?_
  refine lv_topi (fun x1 ex1 => ?_)
  have hf := mlet_s ex1 hf
  refine lv_istore_n (lv' := [(2, .int x1), (0, .int a1), (1, .int a2)]) hx hb dJ9_floorMod_7cf53_3 rfl hl (by decide) rfl (fun ls hl => ?_)
  refine lv_iload_n hx hb dJ9_floorMod_7cf53_4 rfl (lv_at hl 1 rfl) ?_
  refine lv_iload_n hx hb dJ9_floorMod_7cf53_5 rfl (lv_at hl 2 rfl) ?_
  refine lv_ixor hx hb dJ9_floorMod_7cf53_6 ?_
  refine lv_if_ge (tgt := 18) hx hb dJ9_floorMod_7cf53_7 (by decide) (fun c2 => ?_) (fun c2 => ?_)
  · have hf := (if_pos c2).symm.trans hf
    refine lv_iload_n hx hb dJ9_floorMod_7cf53_18 rfl (lv_at hl 0 rfl) ?_
    exact m_iretp hx hb hr hlk hI hf dJ9_floorMod_7cf53_19
  · have hf := (if_neg c2).symm.trans hf
    refine lv_iload_n hx hb dJ9_floorMod_7cf53_10 rfl (lv_at hl 0 rfl) ?_
    refine lv_if_eq (tgt := 18) hx hb dJ9_floorMod_7cf53_11 (by decide) (fun c3 => ?_) (fun c3 => ?_)
    · have hf := (if_pos c3).symm.trans hf
      refine lv_iload_n hx hb dJ9_floorMod_7cf53_18 rfl (lv_at hl 0 rfl) ?_
      exact m_iretp hx hb hr hlk hI hf dJ9_floorMod_7cf53_19
    · have hf := (if_neg c3).symm.trans hf
      refine lv_iload_n hx hb dJ9_floorMod_7cf53_14 rfl (lv_at hl 0 rfl) ?_
      refine lv_iload_n hx hb dJ9_floorMod_7cf53_15 rfl (lv_at hl 2 rfl) ?_
      refine lv_iadd hx hb dJ9_floorMod_7cf53_16 ?_
      exact m_iretp hx hb hr hlk hI hf dJ9_floorMod_7cf53_17
abbrev rmX8_subtract : Room := { frames := 1, cells := 0, slots := 0, locals := 22 }
theorem kb_X8_subtract {R : Room} {s : State} {args : Array Value} {own : String} {idx : Nat} (hT : mT s) (hlink : (Cond.methodLink own idx yX8_subtract).before args s = true) (h1 : rmX8_subtract.frames + 1 ≤ R.frames) (h2 : 8 + (6 + 11) + rmX8_subtract.locals ≤ R.locals) : CallB R s args own idx yX8_subtract cX8_subtract 6 (none) [Cond.code yX8_subtract cX8_subtract 6 (none)] rmX8_subtract 0 0 4 := m_callB hT kc_X8_subtract ki_X8_subtract hlink (by decide +kernel) ⟨rfl, rfl, h1, h2⟩
set_option maxHeartbeats 4000000 in
set_option maxRecDepth 100000 in
theorem c_X8_subtract (l : Launch) (w : WD) (sz : Nat) (ga1 ia1 : Nat) (ho1 : mok ga1 ia1) (hn1 : mil ia1 = some 4) (ga2 ia2 : Nat) (ho2 : mok ga2 ia2) (hn2 : mil ia2 = some 4) (a3 : Int32) (a4 : Int32) (M : Mem) (r : Unit) (M9 : Mem) (hf : f_X8_subtract ga1 ia1 ga2 ia2 a3 a4 M = some (r, M9)) : mMet l yX8_subtract cX8_subtract 6 (none) rmX8_subtract w sz M [.ref (w.1 ga1 ia1), .ref (w.1 ga2 ia2), .int a3, .int a4] none M9 := by
  refine m_of (by decide) (Nat.le_of_ble_eq_true rfl) ?_
  intro p e s m args below meth c hx hb hr hml hown hlk hI ls hl
  have hl : lv_has ls 6 [(0, .ref (w.1 ga1 ia1)), (1, .ref (w.1 ga2 ia2)), (2, .int a3), (3, .int a4)] := hl
  unfold f_X8_subtract at hf
  refine lv_aload_n hx hb dX8_subtract_0 rfl (lv_at hl 0 rfl) ?_
  refine lv_iload_n hx hb dX8_subtract_1 rfl (lv_at hl 2 rfl) ?_
  obtain ⟨hi, hf⟩ := mix_e hf
  refine m_iald (g := ga1) (i := ia1) hx hb hI ho1 hn1 hi dX8_subtract_2 ?_
  refine lv_topi (fun x1 ex1 => ?_)
  have hf := mlet_s ex1 hf
  refine lv_istore (lv' := [(4, .int x1), (0, .ref (w.1 ga1 ia1)), (1, .ref (w.1 ga2 ia2)), (2, .int a3), (3, .int a4)]) hx hb dX8_subtract_3 hl (by decide) rfl (fun ls hl => ?_)
  refine lv_iload_n hx hb dX8_subtract_5 rfl (lv_at hl 3 rfl) ?_
  refine lv_istore (lv' := [(5, .int a3), (4, .int x1), (0, .ref (w.1 ga1 ia1)), (1, .ref (w.1 ga2 ia2)), (2, .int a3), (3, .int a4)]) hx hb dX8_subtract_6 hl (by decide) rfl (fun ls hl => ?_)
  have hL8 : ∀ (n : Nat) (x2 : Int32) (M3 : Mem) (kk : Mem → Option (Unit × Mem)) (H : Heap) (locs : List Loc) (ls : Array Slot), f_X8_subtract_L8 ga1 ia1 ga2 ia2 a4 x1 n x2 M3 kk = some (r, M9) → mI w s (mA w s.heap.size) H locs M3 → lv_has ls 6 [(0, .ref (w.1 ga1 ia1)), (1, .ref (w.1 ga2 ia2)), (3, .int a4), (4, .int x1), (5, .int x2)] → (∀  (M3 : Mem) (H : Heap) (locs : List Loc) (ls : Array Slot), kk M3 = some (r, M9) → mI w s (mA w s.heap.size) H locs M3 → lv_has ls 6 [] → W p l e rmX8_subtract s m args below meth c H locs 0 0 (MQ below (mQ w s.heap.size none M9) args s 0 0 (mA w s.heap.size)) (F0 m 41 ls [])) → W p l e rmX8_subtract s m args below meth c H locs 0 0 (MQ below (mQ w s.heap.size none M9) args s 0 0 (mA w s.heap.size)) (F0 m 8 ls []) := by
    intro n
    induction n with
    | zero => intro x2 M3 kk H locs ls hf hI hl hk; rw [f_X8_subtract_L8.eq_1] at hf; cases hf
    | succ n ih8 =>
      intro x2 M3 kk H locs ls hf hI hl hk
      rw [f_X8_subtract_L8.eq_2] at hf
      refine lv_iload hx hb dX8_subtract_8 (lv_at hl 4 rfl) ?_
      refine lv_iload_n hx hb dX8_subtract_10 rfl (lv_at hl 2 rfl) ?_
      refine lv_icmp_gt (tgt := 41) hx hb dX8_subtract_11 (by decide) (fun c4 => ?_) (fun c4 => ?_)
      · have hf := (if_pos c4).symm.trans hf
        exact hk M3 H _ _ hf hI (lv_sub hl [] rfl)
      · have hf := (if_neg c4).symm.trans hf
        refine lv_aload_n hx hb dX8_subtract_14 rfl (lv_at hl 0 rfl) ?_
        refine lv_iload hx hb dX8_subtract_15 (lv_at hl 4 rfl) ?_
        refine lv_aload_n hx hb dX8_subtract_17 rfl (lv_at hl 0 rfl) ?_
        refine lv_iload hx hb dX8_subtract_18 (lv_at hl 4 rfl) ?_
        obtain ⟨hi, hf⟩ := mix_e hf
        refine m_iald (g := ga1) (i := ia1) hx hb hI ho1 hn1 hi dX8_subtract_20 ?_
        refine lv_iload hx hb dX8_subtract_21 (lv_at hl 3 rfl) ?_
        refine lv_aload_n hx hb dX8_subtract_23 rfl (lv_at hl 1 rfl) ?_
        refine lv_iload hx hb dX8_subtract_24 (lv_at hl 4 rfl) ?_
        obtain ⟨hi, hf⟩ := mix_e hf
        refine m_iald (g := ga2) (i := ia2) hx hb hI ho2 hn2 hi dX8_subtract_26 ?_
        refine lv_imul hx hb dX8_subtract_27 ?_
        refine lv_isub hx hb dX8_subtract_28 ?_
        refine lv_bipush (v := 97) hx hb dX8_subtract_29 (by decide) ?_
        obtain ⟨r5, hc, hf⟩ := mbp_e hf
        refine m_callS (As := [.int ((M3 ga1 ia1 x2.toNatClampNeg) - (x1 * (M3 ga2 ia2 x2.toNatClampNeg))), .int (97 : Int32)]) (rest := [.int x2, .ref (w.1 ga1 ia1)]) hx hb hml hown hI (c_J9_floorMod_7cf53 l w H.size ((M3 ga1 ia1 x2.toNatClampNeg) - (x1 * (M3 ga2 ia2 x2.toNatClampNeg))) (97 : Int32) M3 _ hc) (kb_J9_floorMod_7cf53 hI.T (q1437 hI.T) (Nat.le_of_ble_eq_true rfl) (Nat.le_of_ble_eq_true rfl)) (q1438 hI.T) rfl hl.1 (Nat.le_of_ble_eq_true rfl) dX8_subtract_31 ⟨Nat.le_of_ble_eq_true rfl, Nat.le_of_ble_eq_true rfl⟩ (fun H locs hI => ?_)
        obtain ⟨hi, hf⟩ := mix_e hf
        obtain ⟨M6, eM6, hf⟩ := mlet_e hf
        refine m_iast (g := ga1) (i := ia1) (M1 := M6) hx hb hI ho1 hn1 hi eM6 dX8_subtract_34 (fun H locs hI => ?_)
        obtain ⟨x7, ex7, hf⟩ := mlet_e hf
        refine lv_iinc (v := x7) (lv' := [(5, .int x7), (0, .ref (w.1 ga1 ia1)), (1, .ref (w.1 ga2 ia2)), (3, .int a4), (4, .int x1)]) hx hb dX8_subtract_35 hl (k := 4) rfl (by rw [ex7]; rfl) (by decide) rfl (fun ls hl => ?_)
        refine lv_goto (tgt := 8) hx hb dX8_subtract_38 (by decide) ?_
        exact ih8 x7 M6 kk H _ _ hf hI (lv_sub hl [1, 2, 3, 4, 0] rfl) hk
  refine hL8 1000 a3 M _ _ _ _ hf hI (lv_sub hl [2, 3, 5, 1, 0] rfl) ?_
  intro M8 H locs ls hf hI hl
  try dsimp only at hf
  exact m_vretf hx hb hr hlk hI hf dX8_subtract_41
abbrev rmX8_eliminate : Room := { frames := 2, cells := 0, slots := 0, locals := 47 }
theorem kb_X8_eliminate {R : Room} {s : State} {args : Array Value} {own : String} {idx : Nat} (hT : mT s) (hlink : (Cond.methodLink own idx yX8_eliminate).before args s = true) (h1 : rmX8_eliminate.frames + 1 ≤ R.frames) (h2 : 8 + (6 + 11) + rmX8_eliminate.locals ≤ R.locals) : CallB R s args own idx yX8_eliminate cX8_eliminate 6 (none) [Cond.code yX8_eliminate cX8_eliminate 6 (none)] rmX8_eliminate 0 0 2 := m_callB hT kc_X8_eliminate ki_X8_eliminate hlink (by decide +kernel) ⟨rfl, rfl, h1, h2⟩
set_option maxHeartbeats 4000000 in
set_option maxRecDepth 100000 in
theorem c_X8_eliminate (l : Launch) (w : WD) (sz : Nat) (a1 : Int32) (a2 : Int32) (M : Mem) (r : Unit) (M9 : Mem) (hf : f_X8_eliminate a1 a2 M = some (r, M9)) : mMet l yX8_eliminate cX8_eliminate 6 (none) rmX8_eliminate w sz M [.ref (w.1 12 19), .int a1, .int a2] none M9 := by
  refine m_of (by decide) (Nat.le_of_ble_eq_true rfl) ?_
  intro p e s m args below meth c hx hb hr hml hown hlk hI ls hl
  have hl : lv_has ls 6 [(0, .ref (w.1 12 19)), (1, .int a1), (2, .int a2)] := hl
  unfold f_X8_eliminate at hf
  refine lv_aload_n hx hb dX8_eliminate_0 rfl (lv_at hl 0 rfl) ?_
  refine m_get (g := 12) (i := 19) (ci := 7) (k := 0) (v := .ref (w.1 12 20)) hx hb hI hown (mokX (by decide) (by decide)) rfl rfl (by decide) lyX8 (q237 hI.T) rfl dX8_eliminate_1 ?_
  refine lv_iload_n hx hb dX8_eliminate_4 rfl (lv_at hl 1 rfl) ?_
  obtain ⟨hi, hf⟩ := mix_e hf
  have hk5 := mix_lt hi
  refine m_aald (g := 12) (i := 20) (t0 := 4) (v := .ref (w.1 12 (21 + a1.toNatClampNeg))) hx hb hI (mokX (by decide) (by decide)) rfl rfl rfl hi rfl dX8_eliminate_5 ?_
  refine lv_astore_n (lv' := [(3, .ref (w.1 12 (21 + a1.toNatClampNeg))), (0, .ref (w.1 12 19)), (1, .int a1), (2, .int a2)]) hx hb dX8_eliminate_6 rfl hl (by decide) rfl (fun ls hl => ?_)
  refine va_getsN hx hb hI.Zinv hI.S hown (q1433 hI.T) (fun _ h => h) dX8_eliminate_7 ?_
  refine lv_aload_n hx hb dX8_eliminate_10 rfl (lv_at hl 0 rfl) ?_
  refine lv_iload_n hx hb dX8_eliminate_11 rfl (lv_at hl 2 rfl) ?_
  obtain ⟨hi, hf⟩ := mix_e hf
  refine m_iald (g := 12) (i := (21 + a1.toNatClampNeg)) hx hb hI (mok_eq hk5) (mil_eq hk5) hi dX8_eliminate_12 ?_
  obtain ⟨hi, hf⟩ := mix_e hf
  refine va_ti hx hb hI.Tinv hI.S hi rfl dX8_eliminate_13 ?_
  refine lv_topi (fun x1 ex1 => ?_)
  have hf := mlet_s ex1 hf
  refine lv_istore (lv' := [(4, .int x1), (3, .ref (w.1 12 (21 + a1.toNatClampNeg))), (0, .ref (w.1 12 19)), (1, .int a1), (2, .int a2)]) hx hb dX8_eliminate_14 hl (by decide) rfl (fun ls hl => ?_)
  refine lv_iload_n hx hb dX8_eliminate_16 rfl (lv_at hl 3 rfl) ?_
  refine lv_istore (lv' := [(5, .int a1), (4, .int x1), (3, .ref (w.1 12 (21 + a1.toNatClampNeg))), (0, .ref (w.1 12 19)), (1, .int a1), (2, .int a2)]) hx hb dX8_eliminate_17 hl (by decide) rfl (fun ls hl => ?_)
  have hL19 : ∀ (n : Nat) (x2 : Int32) (M3 : Mem) (kk : Mem → Option (Unit × Mem)) (H : Heap) (locs : List Loc) (ls : Array Slot), f_X8_eliminate_L19 a1 a2 x1 n x2 M3 kk = some (r, M9) → mI w s (mA w s.heap.size) H locs M3 → lv_has ls 6 [(0, .ref (w.1 12 19)), (1, .int a1), (2, .int a2), (3, .ref (w.1 12 (21 + a1.toNatClampNeg))), (4, .int x1), (5, .int x2)] → (∀  (M3 : Mem) (H : Heap) (locs : List Loc) (ls : Array Slot), kk M3 = some (r, M9) → mI w s (mA w s.heap.size) H locs M3 → lv_has ls 6 [(0, .ref (w.1 12 19)), (1, .int a1), (2, .int a2), (3, .ref (w.1 12 (21 + a1.toNatClampNeg)))] → W p l e rmX8_eliminate s m args below meth c H locs 0 0 (MQ below (mQ w s.heap.size none M9) args s 0 0 (mA w s.heap.size)) (F0 m 45 ls [])) → W p l e rmX8_eliminate s m args below meth c H locs 0 0 (MQ below (mQ w s.heap.size none M9) args s 0 0 (mA w s.heap.size)) (F0 m 19 ls []) := by
    intro n
    induction n with
    | zero => intro x2 M3 kk H locs ls hf hI hl hk; rw [f_X8_eliminate_L19.eq_1] at hf; cases hf
    | succ n ih19 =>
      intro x2 M3 kk H locs ls hf hI hl hk
      rw [f_X8_eliminate_L19.eq_2] at hf
      refine lv_iload hx hb dX8_eliminate_19 (lv_at hl 5 rfl) ?_
      refine lv_iload_n hx hb dX8_eliminate_21 rfl (lv_at hl 2 rfl) ?_
      refine lv_icmp_gt (tgt := 45) hx hb dX8_eliminate_22 (by decide) (fun c4 => ?_) (fun c4 => ?_)
      · have hf := (if_pos c4).symm.trans hf
        exact hk M3 H _ _ hf hI (lv_sub hl [0, 1, 2, 3] rfl)
      · have hf := (if_neg c4).symm.trans hf
        refine lv_aload_n hx hb dX8_eliminate_25 rfl (lv_at hl 3 rfl) ?_
        refine lv_iload hx hb dX8_eliminate_26 (lv_at hl 5 rfl) ?_
        refine lv_aload_n hx hb dX8_eliminate_28 rfl (lv_at hl 3 rfl) ?_
        refine lv_iload hx hb dX8_eliminate_29 (lv_at hl 5 rfl) ?_
        obtain ⟨hi, hf⟩ := mix_e hf
        refine m_iald (g := 12) (i := (21 + a1.toNatClampNeg)) hx hb hI (mok_eq hk5) (mil_eq hk5) hi dX8_eliminate_31 ?_
        refine lv_iload hx hb dX8_eliminate_32 (lv_at hl 4 rfl) ?_
        refine lv_imul hx hb dX8_eliminate_34 ?_
        refine lv_bipush (v := 97) hx hb dX8_eliminate_35 (by decide) ?_
        refine lv_irem hx hb dX8_eliminate_37 (by decide) ?_
        obtain ⟨hi, hf⟩ := mix_e hf
        obtain ⟨M5, eM5, hf⟩ := mlet_e hf
        refine m_iast (g := 12) (i := (21 + a1.toNatClampNeg)) (M1 := M5) hx hb hI (mok_eq hk5) (mil_eq hk5) hi eM5 dX8_eliminate_38 (fun H locs hI => ?_)
        obtain ⟨x6, ex6, hf⟩ := mlet_e hf
        refine lv_iinc (v := x6) (lv' := [(5, .int x6), (0, .ref (w.1 12 19)), (1, .int a1), (2, .int a2), (3, .ref (w.1 12 (21 + a1.toNatClampNeg))), (4, .int x1)]) hx hb dX8_eliminate_39 hl (k := 5) rfl (by rw [ex6]; rfl) (by decide) rfl (fun ls hl => ?_)
        refine lv_goto (tgt := 19) hx hb dX8_eliminate_42 (by decide) ?_
        exact ih19 x6 M5 kk H _ _ hf hI (lv_sub hl [1, 2, 3, 4, 5, 0] rfl) hk
  refine hL19 1000 a1 M _ _ _ _ hf hI (lv_sub hl [3, 4, 5, 2, 1, 0] rfl) ?_
  intro M7 H locs ls hf hI hl
  try dsimp only at hf
  refine lv_iconst (v := 0) hx hb dX8_eliminate_45 (by decide) ?_
  refine lv_istore (lv' := [(5, .int (0 : Int32)), (0, .ref (w.1 12 19)), (1, .int a1), (2, .int a2), (3, .ref (w.1 12 (21 + a1.toNatClampNeg)))]) hx hb dX8_eliminate_46 hl (by decide) rfl (fun ls hl => ?_)
  have hL48 : ∀ (n : Nat) (x8 : Int32) (M10 : Mem) (kk : Mem → Option (Unit × Mem)) (H : Heap) (locs : List Loc) (ls : Array Slot), f_X8_eliminate_L48 a1 a2 n x8 M10 kk = some (r, M9) → mI w s (mA w s.heap.size) H locs M10 → lv_has ls 6 [(0, .ref (w.1 12 19)), (1, .int a1), (2, .int a2), (3, .ref (w.1 12 (21 + a1.toNatClampNeg))), (5, .int x8)] → (∀  (M10 : Mem) (H : Heap) (locs : List Loc) (ls : Array Slot), kk M10 = some (r, M9) → mI w s (mA w s.heap.size) H locs M10 → lv_has ls 6 [] → W p l e rmX8_eliminate s m args below meth c H locs 0 0 (MQ below (mQ w s.heap.size none M9) args s 0 0 (mA w s.heap.size)) (F0 m 79 ls [])) → W p l e rmX8_eliminate s m args below meth c H locs 0 0 (MQ below (mQ w s.heap.size none M9) args s 0 0 (mA w s.heap.size)) (F0 m 48 ls []) := by
    intro n
    induction n with
    | zero => intro x8 M10 kk H locs ls hf hI hl hk; rw [f_X8_eliminate_L48.eq_1] at hf; cases hf
    | succ n ih48 =>
      intro x8 M10 kk H locs ls hf hI hl hk
      rw [f_X8_eliminate_L48.eq_2] at hf
      refine lv_iload hx hb dX8_eliminate_48 (lv_at hl 4 rfl) ?_
      refine lv_iload_n hx hb dX8_eliminate_50 rfl (lv_at hl 2 rfl) ?_
      refine lv_icmp_ge (tgt := 79) hx hb dX8_eliminate_51 (by decide) (fun c11 => ?_) (fun c11 => ?_)
      · have hf := (if_pos c11).symm.trans hf
        exact hk M10 H _ _ hf hI (lv_sub hl [] rfl)
      · have hf := (if_neg c11).symm.trans hf
        refine lv_iload hx hb dX8_eliminate_54 (lv_at hl 4 rfl) ?_
        refine lv_iload_n hx hb dX8_eliminate_56 rfl (lv_at hl 1 rfl) ?_
        obtain ⟨k73_16, ek73_16, hf⟩ := mlet_e hf
        have hj73_16 : ∀ (M15 : Mem) (H : Heap) (locs : List Loc) (ls : Array Slot), k73_16 M15 = some (r, M9) → mI w s (mA w s.heap.size) H locs M15 → lv_has ls 6 [(0, .ref (w.1 12 19)), (1, .int a1), (2, .int a2), (3, .ref (w.1 12 (21 + a1.toNatClampNeg))), (5, .int x8)] → W p l e rmX8_eliminate s m args below meth c H locs 0 0 (MQ below (mQ w s.heap.size none M9) args s 0 0 (mA w s.heap.size)) (F0 m 73 ls []) := by
          intro M15 H locs ls hf hI hl
          rw [ek73_16] at hf
          try dsimp only at hf
          obtain ⟨x17, ex17, hf⟩ := mlet_e hf
          refine lv_iinc (v := x17) (lv' := [(5, .int x17), (0, .ref (w.1 12 19)), (1, .int a1), (2, .int a2), (3, .ref (w.1 12 (21 + a1.toNatClampNeg)))]) hx hb dX8_eliminate_73 hl (k := 4) rfl (by rw [ex17]; rfl) (by decide) rfl (fun ls hl => ?_)
          refine lv_goto (tgt := 48) hx hb dX8_eliminate_76 (by decide) ?_
          exact ih48 x17 M15 kk H _ _ hf hI (lv_sub hl [1, 2, 3, 4, 0] rfl) hk
        refine lv_icmp_eq (tgt := 73) hx hb dX8_eliminate_57 (by decide) (fun c12 => ?_) (fun c12 => ?_)
        · have hf := (if_pos c12).symm.trans hf
          exact hj73_16 M10 H _ _ hf hI (lv_sub hl [0, 1, 2, 3, 4] rfl)
        · have hf := (if_neg c12).symm.trans hf
          refine lv_aload_n hx hb dX8_eliminate_60 rfl (lv_at hl 0 rfl) ?_
          refine m_get (g := 12) (i := 19) (ci := 7) (k := 0) (v := .ref (w.1 12 20)) hx hb hI hown (mokX (by decide) (by decide)) rfl rfl (by decide) lyX8 (q237 hI.T) rfl dX8_eliminate_61 ?_
          refine lv_iload hx hb dX8_eliminate_64 (lv_at hl 4 rfl) ?_
          obtain ⟨hi, hf⟩ := mix_e hf
          have hk66 := mix_lt hi
          refine m_aald (g := 12) (i := 20) (t0 := 4) (v := .ref (w.1 12 (21 + x8.toNatClampNeg))) hx hb hI (mokX (by decide) (by decide)) rfl rfl rfl hi rfl dX8_eliminate_66 ?_
          refine lv_aload_n hx hb dX8_eliminate_67 rfl (lv_at hl 3 rfl) ?_
          refine lv_iload_n hx hb dX8_eliminate_68 rfl (lv_at hl 1 rfl) ?_
          refine lv_iload_n hx hb dX8_eliminate_69 rfl (lv_at hl 2 rfl) ?_
          obtain ⟨r13, M14, hc, hf⟩ := mbnd_e hf
          refine m_callS (As := [.ref (w.1 12 (21 + x8.toNatClampNeg)), .ref (w.1 12 (21 + a1.toNatClampNeg)), .int a1, .int a2]) (rest := []) hx hb hml hown hI (c_X8_subtract l w H.size 12 (21 + x8.toNatClampNeg) (mok_eq hk66) (mil_eq hk66) 12 (21 + a1.toNatClampNeg) (mok_eq hk5) (mil_eq hk5) a1 a2 M10 _ _ hc) (kb_X8_subtract hI.T (q1434 hI.T) (Nat.le_of_ble_eq_true rfl) (Nat.le_of_ble_eq_true rfl)) (q1435 hI.T) rfl hl.1 (Nat.le_of_ble_eq_true rfl) dX8_eliminate_70 ⟨Nat.le_of_ble_eq_true rfl, Nat.le_of_ble_eq_true rfl⟩ (fun H locs hI => ?_)
          exact hj73_16 M14 H _ _ hf hI (lv_sub hl [0, 1, 2, 3, 4] rfl)
  refine hL48 1000 (0 : Int32) M7 _ _ _ _ hf hI (lv_sub hl [1, 2, 3, 4, 0] rfl) ?_
  intro M18 H locs ls hf hI hl
  try dsimp only at hf
  exact m_vretf hx hb hr hlk hI hf dX8_eliminate_79
abbrev rmX8_fit : Room := { frames := 3, cells := 0, slots := 0, locals := 72 }
theorem kb_X8_fit {R : Room} {s : State} {args : Array Value} {own : String} {idx : Nat} (hT : mT s) (hlink : (Cond.methodLink own idx yX8_fit).before args s = true) (h1 : rmX8_fit.frames + 1 ≤ R.frames) (h2 : 8 + (5 + 11) + rmX8_fit.locals ≤ R.locals) : CallB R s args own idx yX8_fit cX8_fit 5 (none) [Cond.code yX8_fit cX8_fit 5 (none)] rmX8_fit 0 0 2 := m_callB hT kc_X8_fit ki_X8_fit hlink (by decide +kernel) ⟨rfl, rfl, h1, h2⟩
set_option maxHeartbeats 4000000 in
set_option maxRecDepth 100000 in
theorem c_X8_fit (l : Launch) (w : WD) (sz : Nat) (g1 : Nat) (hg1 : g1 ≤ 10) (ga2 ia2 : Nat) (ho2 : mok ga2 ia2) (hn2 : mil ia2 = some 8) (M : Mem) (r : Unit) (M9 : Mem) (hf : f_X8_fit g1 ga2 ia2 M = some (r, M9)) : mMet l yX8_fit cX8_fit 5 (none) rmX8_fit w sz M [.ref (w.1 12 19), .ref (w.1 g1 1), .ref (w.1 ga2 ia2)] none M9 := by
  refine m_of (by decide) (Nat.le_of_ble_eq_true rfl) ?_
  intro p e s m args below meth c hx hb hr hml hown hlk hI ls hl
  have hl : lv_has ls 5 [(0, .ref (w.1 12 19)), (1, .ref (w.1 g1 1)), (2, .ref (w.1 ga2 ia2))] := hl
  unfold f_X8_fit at hf
  refine lv_aload_n hx hb dX8_fit_0 rfl (lv_at hl 1 rfl) ?_
  refine m_get (g := g1) (i := 1) (ci := 5) (k := 3) (v := .int (M g1 1 3)) hx hb hI hown (mokS hg1 (by decide)) rfl rfl (by decide) lyX6 (q65 hI.T) rfl dX8_fit_1 ?_
  refine lv_topi (fun x1 ex1 => ?_)
  have hf := mlet_s ex1 hf
  refine lv_istore_n (lv' := [(3, .int x1), (0, .ref (w.1 12 19)), (1, .ref (w.1 g1 1)), (2, .ref (w.1 ga2 ia2))]) hx hb dX8_fit_4 rfl hl (by decide) rfl (fun ls hl => ?_)
  refine lv_iconst (v := 0) hx hb dX8_fit_5 (by decide) ?_
  refine lv_istore (lv' := [(4, .int (0 : Int32)), (3, .int x1), (0, .ref (w.1 12 19)), (1, .ref (w.1 g1 1)), (2, .ref (w.1 ga2 ia2))]) hx hb dX8_fit_6 hl (by decide) rfl (fun ls hl => ?_)
  have hL8 : ∀ (n : Nat) (x2 : Int32) (M3 : Mem) (kk : Mem → Option (Unit × Mem)) (H : Heap) (locs : List Loc) (ls : Array Slot), f_X8_fit_L8 g1 ga2 ia2 x1 n x2 M3 kk = some (r, M9) → mI w s (mA w s.heap.size) H locs M3 → lv_has ls 5 [(0, .ref (w.1 12 19)), (1, .ref (w.1 g1 1)), (2, .ref (w.1 ga2 ia2)), (3, .int x1), (4, .int x2)] → (∀  (M3 : Mem) (H : Heap) (locs : List Loc) (ls : Array Slot), kk M3 = some (r, M9) → mI w s (mA w s.heap.size) H locs M3 → lv_has ls 5 [(0, .ref (w.1 12 19)), (3, .int x1)] → W p l e rmX8_fit s m args below meth c H locs 0 0 (MQ below (mQ w s.heap.size none M9) args s 0 0 (mA w s.heap.size)) (F0 m 40 ls [])) → W p l e rmX8_fit s m args below meth c H locs 0 0 (MQ below (mQ w s.heap.size none M9) args s 0 0 (mA w s.heap.size)) (F0 m 8 ls []) := by
    intro n
    induction n with
    | zero => intro x2 M3 kk H locs ls hf hI hl hk; rw [f_X8_fit_L8.eq_1] at hf; cases hf
    | succ n ih8 =>
      intro x2 M3 kk H locs ls hf hI hl hk
      rw [f_X8_fit_L8.eq_2] at hf
      refine lv_iload hx hb dX8_fit_8 (lv_at hl 4 rfl) ?_
      refine lv_iload_n hx hb dX8_fit_10 rfl (lv_at hl 3 rfl) ?_
      refine lv_icmp_ge (tgt := 40) hx hb dX8_fit_11 (by decide) (fun c4 => ?_) (fun c4 => ?_)
      · have hf := (if_pos c4).symm.trans hf
        exact hk M3 H _ _ hf hI (lv_sub hl [0, 3] rfl)
      · have hf := (if_neg c4).symm.trans hf
        refine lv_aload_n hx hb dX8_fit_14 rfl (lv_at hl 0 rfl) ?_
        refine lv_iload hx hb dX8_fit_15 (lv_at hl 4 rfl) ?_
        refine lv_iload_n hx hb dX8_fit_17 rfl (lv_at hl 3 rfl) ?_
        refine lv_aload_n hx hb dX8_fit_18 rfl (lv_at hl 2 rfl) ?_
        refine lv_iload hx hb dX8_fit_19 (lv_at hl 4 rfl) ?_
        obtain ⟨hi, hf⟩ := mix_e hf
        refine m_iald (g := ga2) (i := ia2) hx hb hI ho2 hn2 hi dX8_fit_21 ?_
        refine lv_aload_n hx hb dX8_fit_22 rfl (lv_at hl 1 rfl) ?_
        refine m_get (g := g1) (i := 1) (ci := 5) (k := 1) (v := .ref (w.1 g1 2)) hx hb hI hown (mokS hg1 (by decide)) rfl rfl (by decide) lyX6 (q58 hI.T) rfl dX8_fit_23 ?_
        refine lv_aload_n hx hb dX8_fit_26 rfl (lv_at hl 2 rfl) ?_
        refine lv_iload hx hb dX8_fit_27 (lv_at hl 4 rfl) ?_
        obtain ⟨hi, hf⟩ := mix_e hf
        refine m_iald (g := ga2) (i := ia2) hx hb hI ho2 hn2 hi dX8_fit_29 ?_
        obtain ⟨hi, hf⟩ := mix_e hf
        refine m_iald (g := g1) (i := 2) hx hb hI (mokS hg1 (by decide)) rfl hi dX8_fit_30 ?_
        obtain ⟨r5, M6, hc, hf⟩ := mbnd_e hf
        refine m_callV (As := [.int x2, .int x1, .int (M3 ga2 ia2 x2.toNatClampNeg), .int (M3 g1 2 (M3 ga2 ia2 x2.toNatClampNeg).toNatClampNeg)]) (rest := []) hx hb hml hown hI (c_X8_setEquation l w H.size x2 x1 (M3 ga2 ia2 x2.toNatClampNeg) (M3 g1 2 (M3 ga2 ia2 x2.toNatClampNeg).toNatClampNeg) M3 _ _ hc) (kb_X8_setEquation hI.T (q1424 hI.T) (Nat.le_of_ble_eq_true rfl) (Nat.le_of_ble_eq_true rfl)) (q1426 hI.T) (sel_X8_setEquation hI.T) (m_recv (g := 12) (i := 19) hI (mokX (by decide) (by decide)) rfl rfl) rfl hl.1 (Nat.le_of_ble_eq_true rfl) dX8_fit_31 ⟨Nat.le_of_ble_eq_true rfl, Nat.le_of_ble_eq_true rfl⟩ (fun H locs hI => ?_)
        obtain ⟨x7, ex7, hf⟩ := mlet_e hf
        refine lv_iinc (v := x7) (lv' := [(4, .int x7), (0, .ref (w.1 12 19)), (1, .ref (w.1 g1 1)), (2, .ref (w.1 ga2 ia2)), (3, .int x1)]) hx hb dX8_fit_34 hl (k := 4) rfl (by rw [ex7]; rfl) (by decide) rfl (fun ls hl => ?_)
        refine lv_goto (tgt := 8) hx hb dX8_fit_37 (by decide) ?_
        exact ih8 x7 M6 kk H _ _ hf hI (lv_sub hl [1, 2, 3, 4, 0] rfl) hk
  refine hL8 1000 (0 : Int32) M _ _ _ _ hf hI (lv_sub hl [2, 3, 4, 1, 0] rfl) ?_
  intro M8 H locs ls hf hI hl
  try dsimp only at hf
  refine lv_iconst (v := 0) hx hb dX8_fit_40 (by decide) ?_
  refine lv_istore (lv' := [(4, .int (0 : Int32)), (0, .ref (w.1 12 19)), (3, .int x1)]) hx hb dX8_fit_41 hl (by decide) rfl (fun ls hl => ?_)
  have hL43 : ∀ (n : Nat) (x9 : Int32) (M10 : Mem) (kk : Mem → Option (Unit × Mem)) (H : Heap) (locs : List Loc) (ls : Array Slot), f_X8_fit_L43 x1 n x9 M10 kk = some (r, M9) → mI w s (mA w s.heap.size) H locs M10 → lv_has ls 5 [(0, .ref (w.1 12 19)), (3, .int x1), (4, .int x9)] → (∀  (M10 : Mem) (H : Heap) (locs : List Loc) (ls : Array Slot), kk M10 = some (r, M9) → mI w s (mA w s.heap.size) H locs M10 → lv_has ls 5 [(0, .ref (w.1 12 19)), (3, .int x1)] → W p l e rmX8_fit s m args below meth c H locs 0 0 (MQ below (mQ w s.heap.size none M9) args s 0 0 (mA w s.heap.size)) (F0 m 62 ls [])) → W p l e rmX8_fit s m args below meth c H locs 0 0 (MQ below (mQ w s.heap.size none M9) args s 0 0 (mA w s.heap.size)) (F0 m 43 ls []) := by
    intro n
    induction n with
    | zero => intro x9 M10 kk H locs ls hf hI hl hk; rw [f_X8_fit_L43.eq_1] at hf; cases hf
    | succ n ih43 =>
      intro x9 M10 kk H locs ls hf hI hl hk
      rw [f_X8_fit_L43.eq_2] at hf
      refine lv_iload hx hb dX8_fit_43 (lv_at hl 2 rfl) ?_
      refine lv_iload_n hx hb dX8_fit_45 rfl (lv_at hl 1 rfl) ?_
      refine lv_icmp_ge (tgt := 62) hx hb dX8_fit_46 (by decide) (fun c11 => ?_) (fun c11 => ?_)
      · have hf := (if_pos c11).symm.trans hf
        exact hk M10 H _ _ hf hI (lv_sub hl [0, 1] rfl)
      · have hf := (if_neg c11).symm.trans hf
        refine lv_aload_n hx hb dX8_fit_49 rfl (lv_at hl 0 rfl) ?_
        refine lv_iload hx hb dX8_fit_50 (lv_at hl 2 rfl) ?_
        refine lv_iload_n hx hb dX8_fit_52 rfl (lv_at hl 1 rfl) ?_
        obtain ⟨r12, M13, hc, hf⟩ := mbnd_e hf
        refine m_callV (As := [.int x9, .int x1]) (rest := []) hx hb hml hown hI (c_X8_eliminate l w H.size x9 x1 M10 _ _ hc) (kb_X8_eliminate hI.T (q1429 hI.T) (Nat.le_of_ble_eq_true rfl) (Nat.le_of_ble_eq_true rfl)) (q1431 hI.T) (sel_X8_eliminate hI.T) (m_recv (g := 12) (i := 19) hI (mokX (by decide) (by decide)) rfl rfl) rfl hl.1 (Nat.le_of_ble_eq_true rfl) dX8_fit_53 ⟨Nat.le_of_ble_eq_true rfl, Nat.le_of_ble_eq_true rfl⟩ (fun H locs hI => ?_)
        obtain ⟨x14, ex14, hf⟩ := mlet_e hf
        refine lv_iinc (v := x14) (lv' := [(4, .int x14), (0, .ref (w.1 12 19)), (3, .int x1)]) hx hb dX8_fit_56 hl (k := 2) rfl (by rw [ex14]; rfl) (by decide) rfl (fun ls hl => ?_)
        refine lv_goto (tgt := 43) hx hb dX8_fit_59 (by decide) ?_
        exact ih43 x14 M13 kk H _ _ hf hI (lv_sub hl [1, 2, 0] rfl) hk
  refine hL43 1000 (0 : Int32) M8 _ _ _ _ hf hI (lv_sub hl [1, 2, 0] rfl) ?_
  intro M15 H locs ls hf hI hl
  try dsimp only at hf
  refine lv_iconst (v := 0) hx hb dX8_fit_62 (by decide) ?_
  refine lv_istore (lv' := [(4, .int (0 : Int32)), (0, .ref (w.1 12 19)), (3, .int x1)]) hx hb dX8_fit_63 hl (by decide) rfl (fun ls hl => ?_)
  have hL65 : ∀ (n : Nat) (x16 : Int32) (M17 : Mem) (kk : Mem → Option (Unit × Mem)) (H : Heap) (locs : List Loc) (ls : Array Slot), f_X8_fit_L65 x1 n x16 M17 kk = some (r, M9) → mI w s (mA w s.heap.size) H locs M17 → lv_has ls 5 [(0, .ref (w.1 12 19)), (3, .int x1), (4, .int x16)] → (∀  (M17 : Mem) (H : Heap) (locs : List Loc) (ls : Array Slot), kk M17 = some (r, M9) → mI w s (mA w s.heap.size) H locs M17 → lv_has ls 5 [] → W p l e rmX8_fit s m args below meth c H locs 0 0 (MQ below (mQ w s.heap.size none M9) args s 0 0 (mA w s.heap.size)) (F0 m 103 ls [])) → W p l e rmX8_fit s m args below meth c H locs 0 0 (MQ below (mQ w s.heap.size none M9) args s 0 0 (mA w s.heap.size)) (F0 m 65 ls []) := by
    intro n
    induction n with
    | zero => intro x16 M17 kk H locs ls hf hI hl hk; rw [f_X8_fit_L65.eq_1] at hf; cases hf
    | succ n ih65 =>
      intro x16 M17 kk H locs ls hf hI hl hk
      rw [f_X8_fit_L65.eq_2] at hf
      refine lv_iload hx hb dX8_fit_65 (lv_at hl 2 rfl) ?_
      refine lv_iconst (v := 3) hx hb dX8_fit_67 (by decide) ?_
      refine lv_icmp_ge (tgt := 103) hx hb dX8_fit_68 (by decide) (fun c18 => ?_) (fun c18 => ?_)
      · have hf := (if_pos c18).symm.trans hf
        exact hk M17 H _ _ hf hI (lv_sub hl [] rfl)
      · have hf := (if_neg c18).symm.trans hf
        refine lv_aload_n hx hb dX8_fit_71 rfl (lv_at hl 0 rfl) ?_
        refine m_get (g := 12) (i := 19) (ci := 7) (k := 1) (v := .ref (w.1 12 24)) hx hb hI hown (mokX (by decide) (by decide)) rfl rfl (by decide) lyX8 (q238 hI.T) rfl dX8_fit_72 ?_
        refine lv_iload hx hb dX8_fit_75 (lv_at hl 2 rfl) ?_
        refine lv_iload hx hb dX8_fit_77 (lv_at hl 2 rfl) ?_
        refine lv_iload_n hx hb dX8_fit_79 rfl (lv_at hl 1 rfl) ?_
        obtain ⟨k96_21, ek96_21, hf⟩ := mlet_e hf
        have hj96_21 : ∀ (x20 : Int32) (H : Heap) (locs : List Loc) (ls : Array Slot), k96_21 x20 = some (r, M9) → mI w s (mA w s.heap.size) H locs M17 → lv_has ls 5 [(0, .ref (w.1 12 19)), (3, .int x1), (4, .int x16)] → W p l e rmX8_fit s m args below meth c H locs 0 0 (MQ below (mQ w s.heap.size none M9) args s 0 0 (mA w s.heap.size)) (F0 m 96 ls [.int x20, .int x16, .ref (w.1 12 24)]) := by
          intro x20 H locs ls hf hI hl
          rw [ek96_21] at hf
          try dsimp only at hf
          obtain ⟨hi, hf⟩ := mix_e hf
          obtain ⟨M22, eM22, hf⟩ := mlet_e hf
          refine m_iast (g := 12) (i := 24) (M1 := M22) hx hb hI (mokX (by decide) (by decide)) rfl hi eM22 dX8_fit_96 (fun H locs hI => ?_)
          obtain ⟨x23, ex23, hf⟩ := mlet_e hf
          refine lv_iinc (v := x23) (lv' := [(4, .int x23), (0, .ref (w.1 12 19)), (3, .int x1)]) hx hb dX8_fit_97 hl (k := 2) rfl (by rw [ex23]; rfl) (by decide) rfl (fun ls hl => ?_)
          refine lv_goto (tgt := 65) hx hb dX8_fit_100 (by decide) ?_
          exact ih65 x23 M22 kk H _ _ hf hI (lv_sub hl [1, 2, 0] rfl) hk
        refine lv_icmp_ge (tgt := 95) hx hb dX8_fit_80 (by decide) (fun c19 => ?_) (fun c19 => ?_)
        · have hf := (if_pos c19).symm.trans hf
          refine lv_iconst (v := 0) hx hb dX8_fit_95 (by decide) ?_
          exact hj96_21 (0 : Int32) H _ _ hf hI (lv_sub hl [0, 1, 2] rfl)
        · have hf := (if_neg c19).symm.trans hf
          refine lv_aload_n hx hb dX8_fit_83 rfl (lv_at hl 0 rfl) ?_
          refine m_get (g := 12) (i := 19) (ci := 7) (k := 0) (v := .ref (w.1 12 20)) hx hb hI hown (mokX (by decide) (by decide)) rfl rfl (by decide) lyX8 (q237 hI.T) rfl dX8_fit_84 ?_
          refine lv_iload hx hb dX8_fit_87 (lv_at hl 2 rfl) ?_
          obtain ⟨hi, hf⟩ := mix_e hf
          have hk89 := mix_lt hi
          refine m_aald (g := 12) (i := 20) (t0 := 4) (v := .ref (w.1 12 (21 + x16.toNatClampNeg))) hx hb hI (mokX (by decide) (by decide)) rfl rfl rfl hi rfl dX8_fit_89 ?_
          refine lv_iload_n hx hb dX8_fit_90 rfl (lv_at hl 1 rfl) ?_
          obtain ⟨hi, hf⟩ := mix_e hf
          refine m_iald (g := 12) (i := (21 + x16.toNatClampNeg)) hx hb hI (mok_eq hk89) (mil_eq hk89) hi dX8_fit_91 ?_
          refine lv_goto (tgt := 96) hx hb dX8_fit_92 (by decide) ?_
          exact hj96_21 (M17 12 (21 + x16.toNatClampNeg) x1.toNatClampNeg) H _ _ hf hI (lv_sub hl [0, 1, 2] rfl)
  refine hL65 1000 (0 : Int32) M15 _ _ _ _ hf hI (lv_sub hl [1, 2, 0] rfl) ?_
  intro M24 H locs ls hf hI hl
  try dsimp only at hf
  exact m_vretf hx hb hr hlk hI hf dX8_fit_103
abbrev rmX8_secretOf : Room := { frames := 4, cells := 0, slots := 0, locals := 96 }
theorem kb_X8_secretOf {R : Room} {s : State} {args : Array Value} {own : String} {idx : Nat} (hT : mT s) (hlink : (Cond.methodLink own idx yX8_secretOf).before args s = true) (h1 : rmX8_secretOf.frames + 1 ≤ R.frames) (h2 : 8 + (2 + 11) + rmX8_secretOf.locals ≤ R.locals) : CallB R s args own idx yX8_secretOf cX8_secretOf 2 (some .int) [Cond.code yX8_secretOf cX8_secretOf 2 (some .int)] rmX8_secretOf 0 0 1 := m_callB hT kc_X8_secretOf ki_X8_secretOf hlink (by decide +kernel) ⟨rfl, rfl, h1, h2⟩
set_option maxHeartbeats 4000000 in
set_option maxRecDepth 100000 in
theorem c_X8_secretOf (l : Launch) (w : WD) (sz : Nat) (g1 : Nat) (hg1 : g1 ≤ 10) (M : Mem) (r : Int32) (M9 : Mem) (hf : f_X8_secretOf g1 M = some (r, M9)) : mMet l yX8_secretOf cX8_secretOf 2 (some .int) rmX8_secretOf w sz M [.ref (w.1 12 19), .ref (w.1 g1 1)] (some (.int r)) M9 := by
  refine m_of (by decide) (Nat.le_of_ble_eq_true rfl) ?_
  intro p e s m args below meth c hx hb hr hml hown hlk hI ls hl
  have hl : lv_has ls 2 [(0, .ref (w.1 12 19)), (1, .ref (w.1 g1 1))] := hl
  unfold f_X8_secretOf at hf
  refine lv_aload_n hx hb dX8_secretOf_0 rfl (lv_at hl 0 rfl) ?_
  refine lv_aload_n hx hb dX8_secretOf_1 rfl (lv_at hl 1 rfl) ?_
  refine lv_aload_n hx hb dX8_secretOf_2 rfl (lv_at hl 1 rfl) ?_
  refine m_get (g := g1) (i := 1) (ci := 5) (k := 6) (v := .ref (w.1 g1 4)) hx hb hI hown (mokS hg1 (by decide)) rfl rfl (by decide) lyX6 (q74 hI.T) rfl dX8_secretOf_3 ?_
  obtain ⟨r1, M2, hc, hf⟩ := mbnd_e hf
  refine m_callV (As := [.ref (w.1 g1 1), .ref (w.1 g1 4)]) (rest := []) hx hb hml hown hI (c_X8_fit l w s.heap.size g1 hg1 g1 4 (mokS hg1 (by decide)) rfl M _ _ hc) (kb_X8_fit hI.T (q1420 hI.T) (Nat.le_of_ble_eq_true rfl) (Nat.le_of_ble_eq_true rfl)) (q1422 hI.T) (sel_X8_fit hI.T) (m_recv (g := 12) (i := 19) hI (mokX (by decide) (by decide)) rfl rfl) rfl hl.1 (Nat.le_of_ble_eq_true rfl) dX8_secretOf_6 ⟨Nat.le_of_ble_eq_true rfl, Nat.le_of_ble_eq_true rfl⟩ (fun H locs hI => ?_)
  refine lv_aload_n hx hb dX8_secretOf_9 rfl (lv_at hl 0 rfl) ?_
  refine m_get (g := 12) (i := 19) (ci := 7) (k := 1) (v := .ref (w.1 12 24)) hx hb hI hown (mokX (by decide) (by decide)) rfl rfl (by decide) lyX8 (q238 hI.T) rfl dX8_secretOf_10 ?_
  refine lv_iconst (v := 0) hx hb dX8_secretOf_13 (by decide) ?_
  obtain ⟨hi, hf⟩ := mix_e hf
  refine m_iald (g := 12) (i := 24) hx hb hI (mokX (by decide) (by decide)) rfl hi dX8_secretOf_14 ?_
  exact m_iretf hx hb hr hlk hI hf dX8_secretOf_15
abbrev rmX11_toldSecretByElimination : Room := { frames := 9, cells := 1, slots := 6, locals := 160 }
theorem kb_X11_toldSecretByElimination {R : Room} {s : State} {args : Array Value} {own : String} {idx : Nat} (hT : mT s) (hlink : (Cond.methodLink own idx yX11_toldSecretByElimination).before args s = true) (h1 : rmX11_toldSecretByElimination.frames + 1 ≤ R.frames) (h2 : 8 + (1 + 11) + rmX11_toldSecretByElimination.locals ≤ R.locals) : CallB R s args own idx yX11_toldSecretByElimination cX11_toldSecretByElimination 1 (some .int) [Cond.code yX11_toldSecretByElimination cX11_toldSecretByElimination 1 (some .int)] rmX11_toldSecretByElimination 1 6 0 := m_callB hT kc_X11_toldSecretByElimination ki_X11_toldSecretByElimination hlink (by decide +kernel) ⟨rfl, rfl, h1, h2⟩
set_option maxHeartbeats 4000000 in
set_option maxRecDepth 100000 in
theorem c_X11_toldSecretByElimination (l : Launch) (w : WD) (hsf : l.stackTraces = false) (sz : Nat)  (M : Mem) (r : (Nat ⊕ Int32)) (M9 : Mem) (hf : f_X11_toldSecretByElimination  M = some (r, M9)) : mMetx l yX11_toldSecretByElimination cX11_toldSecretByElimination 1 (some .int) rmX11_toldSecretByElimination w sz M [.ref (w.1 12 16)] (moI r) M9 1 6 := by
  refine m_ofx (by decide) (Nat.le_of_ble_eq_true rfl) ?_
  intro p e s m args below meth c hx hb hr hml hown hlk hxt hI ls hl
  have hl : lv_has ls 1 [(0, .ref (w.1 12 16))] := hl
  unfold f_X11_toldSecretByElimination at hf
  refine lv_aload_n hx hb dX11_toldSecretByElimination_0 rfl (lv_at hl 0 rfl) ?_
  rcases mbpx_em hf with ⟨n2, hc, hf⟩ | ⟨r1, hc, hf⟩
  · exact m_callxTV (As := []) (rest := []) hx hb hml hown hI (c_X11_requireEnoughKeys l w hsf s.heap.size M _ hc) (kb_X11_requireEnoughKeys hI.T (q533 hI.T) (Nat.le_of_ble_eq_true rfl) (Nat.le_of_ble_eq_true rfl)) (q535 hI.T) (sel_X11_requireEnoughKeys hI.T) (m_recv (g := 12) (i := 16) hI (mokX (by decide) (by decide)) rfl rfl) rfl hl.1 (Nat.le_of_ble_eq_true rfl) dX11_toldSecretByElimination_1 ⟨Nat.le_of_ble_eq_true rfl, Nat.le_of_ble_eq_true rfl⟩ hxt hlk hf (Nat.le_of_ble_eq_true rfl) (Nat.le_of_ble_eq_true rfl)
  refine m_callxRV (As := []) (rest := []) hx hb hml hown hI (c_X11_requireEnoughKeys l w hsf s.heap.size M _ hc) (kb_X11_requireEnoughKeys hI.T (q533 hI.T) (Nat.le_of_ble_eq_true rfl) (Nat.le_of_ble_eq_true rfl)) (q535 hI.T) (sel_X11_requireEnoughKeys hI.T) (m_recv (g := 12) (i := 16) hI (mokX (by decide) (by decide)) rfl rfl) rfl hl.1 (Nat.le_of_ble_eq_true rfl) dX11_toldSecretByElimination_1 ⟨Nat.le_of_ble_eq_true rfl, Nat.le_of_ble_eq_true rfl⟩ (fun H locs hI => ?_)
  refine lv_aload_n hx hb dX11_toldSecretByElimination_4 rfl (lv_at hl 0 rfl) ?_
  refine m_get (g := 12) (i := 16) (ci := 9) (k := 5) (v := .ref (w.1 12 19)) hx hb hI hown (mokX (by decide) (by decide)) rfl rfl (by decide) lyX11 (q299 hI.T) rfl dX11_toldSecretByElimination_5 ?_
  refine lv_aload_n hx hb dX11_toldSecretByElimination_8 rfl (lv_at hl 0 rfl) ?_
  refine m_get (g := 12) (i := 16) (ci := 9) (k := 0) (v := .ref (w.1 0 0)) hx hb hI hown (mokX (by decide) (by decide)) rfl rfl (by decide) lyX11 (q294 hI.T) rfl dX11_toldSecretByElimination_9 ?_
  refine m_get (g := 0) (i := 0) (ci := 8) (k := 0) (v := .ref (w.1 0 1)) hx hb hI hown (mokS (by decide) (by decide)) rfl rfl (by decide) lyX9 (q187 hI.T) rfl dX11_toldSecretByElimination_12 ?_
  obtain ⟨r3, M4, hc, hf⟩ := mbnd_e hf
  refine m_callV (As := [.ref (w.1 0 1)]) (rest := []) hx hb hml hown hI (c_X8_secretOf l w H.size 0 (by decide) M _ _ hc) (kb_X8_secretOf hI.T (q1416 hI.T) (Nat.le_of_ble_eq_true rfl) (Nat.le_of_ble_eq_true rfl)) (q1417 hI.T) (q1418 hI.T) (m_recv (g := 12) (i := 19) hI (mokX (by decide) (by decide)) rfl rfl) rfl hl.1 (Nat.le_of_ble_eq_true rfl) dX11_toldSecretByElimination_15 ⟨Nat.le_of_ble_eq_true rfl, Nat.le_of_ble_eq_true rfl⟩ (fun H locs hI => ?_)
  exact m_iretx hx hb hr hlk hI hf dX11_toldSecretByElimination_18 (Nat.le_of_ble_eq_true rfl) (Nat.le_of_ble_eq_true rfl)
abbrev rmX11_toldValue : Room := { frames := 9, cells := 1, slots := 6, locals := 160 }
theorem kb_X11_toldValue {R : Room} {s : State} {args : Array Value} {own : String} {idx : Nat} (hT : mT s) (hlink : (Cond.methodLink own idx yX11_toldValue).before args s = true) (h1 : rmX11_toldValue.frames + 1 ≤ R.frames) (h2 : 8 + (2 + 11) + rmX11_toldValue.locals ≤ R.locals) : CallB R s args own idx yX11_toldValue cX11_toldValue 2 (some .int) [Cond.code yX11_toldValue cX11_toldValue 2 (some .int)] rmX11_toldValue 1 6 1 := m_callB hT kc_X11_toldValue ki_X11_toldValue hlink (by decide +kernel) ⟨rfl, rfl, h1, h2⟩
set_option maxHeartbeats 4000000 in
set_option maxRecDepth 100000 in
theorem c_X11_toldValue (l : Launch) (w : WD) (hsf : l.stackTraces = false) (sz : Nat) (a1 : Int32) (M : Mem) (r : (Nat ⊕ Int32)) (hf : f_X11_toldValue a1 M = some r) : mMetx l yX11_toldValue cX11_toldValue 2 (some .int) rmX11_toldValue w sz M [.ref (w.1 12 16), .int a1] (moI r) M 1 6 := by
  refine m_ofx (by decide) (Nat.le_of_ble_eq_true rfl) ?_
  intro p e s m args below meth c hx hb hr hml hown hlk hxt hI ls hl
  have hl : lv_has ls 2 [(0, .ref (w.1 12 16)), (1, .int a1)] := hl
  unfold f_X11_toldValue at hf
  refine lv_iload_n hx hb dX11_toldValue_0 rfl (lv_at hl 1 rfl) ?_
  obtain ⟨k10_6, ek10_6, hf⟩ := mlet_e hf
  have hj10_6 : ∀ (_u : Unit) (H : Heap) (locs : List Loc) (ls : Array Slot), k10_6 _u = some r → mI w s (mA w s.heap.size) H locs M → lv_has ls 2 [] → W p l e rmX11_toldValue s m args below meth c H locs 0 0 (vx_MQ below (mQx w s.heap.size (moI r) M) (mXx w s.heap.size (moI r) M) args s 1 6 (mA w s.heap.size)) (F0 m 10 ls []) := by
    intro _u H locs ls hf hI hl
    rw [ek10_6] at hf
    try dsimp only at hf
    exact m_throwp (n := 2) (ix := 1) hx hb hsf hown hI rfl (q589 hI.T) (q18 hI.T) (m_thw_2_X11_175 hI) hl.1 hml dX11_toldValue_10 dX11_toldValue_13 dX11_toldValue_14 dX11_toldValue_16 dX11_toldValue_19 hxt (Nat.le_of_ble_eq_true rfl) (Nat.le_of_ble_eq_true rfl) (Nat.le_of_ble_eq_true rfl) (Nat.le_of_ble_eq_true rfl) hlk hf (Nat.le_of_ble_eq_true rfl) (Nat.le_of_ble_eq_true rfl)
  refine lv_if_lt (tgt := 10) hx hb dX11_toldValue_1 (by decide) (fun c1 => ?_) (fun c1 => ?_)
  · have hf := (if_pos c1).symm.trans hf
    exact hj10_6 () s.heap _ _ hf hI (lv_sub hl [] rfl)
  · have hf := (if_neg c1).symm.trans hf
    refine lv_iload_n hx hb dX11_toldValue_4 rfl (lv_at hl 1 rfl) ?_
    refine lv_bipush (v := 97) hx hb dX11_toldValue_5 (by decide) ?_
    refine lv_icmp_lt (tgt := 20) hx hb dX11_toldValue_7 (by decide) (fun c2 => ?_) (fun c2 => ?_)
    · have hf := (if_pos c2).symm.trans hf
      refine lv_aload_n hx hb dX11_toldValue_20 rfl (lv_at hl 0 rfl) ?_
      rcases mbpx_e hf with ⟨n4, hc, hf⟩ | ⟨r3, hc, hf⟩
      · exact m_callxTVp (As := []) (rest := []) hx hb hml hown hI (c_X11_requireEnoughKeys l w hsf s.heap.size M _ hc) (kb_X11_requireEnoughKeys hI.T (q533 hI.T) (Nat.le_of_ble_eq_true rfl) (Nat.le_of_ble_eq_true rfl)) (q535 hI.T) (sel_X11_requireEnoughKeys hI.T) (m_recv (g := 12) (i := 16) hI (mokX (by decide) (by decide)) rfl rfl) rfl hl.1 (Nat.le_of_ble_eq_true rfl) dX11_toldValue_21 ⟨Nat.le_of_ble_eq_true rfl, Nat.le_of_ble_eq_true rfl⟩ hxt hlk hf (Nat.le_of_ble_eq_true rfl) (Nat.le_of_ble_eq_true rfl)
      refine m_callxRV (As := []) (rest := []) hx hb hml hown hI (c_X11_requireEnoughKeys l w hsf s.heap.size M _ hc) (kb_X11_requireEnoughKeys hI.T (q533 hI.T) (Nat.le_of_ble_eq_true rfl) (Nat.le_of_ble_eq_true rfl)) (q535 hI.T) (sel_X11_requireEnoughKeys hI.T) (m_recv (g := 12) (i := 16) hI (mokX (by decide) (by decide)) rfl rfl) rfl hl.1 (Nat.le_of_ble_eq_true rfl) dX11_toldValue_21 ⟨Nat.le_of_ble_eq_true rfl, Nat.le_of_ble_eq_true rfl⟩ (fun H locs hI => ?_)
      refine lv_aload_n hx hb dX11_toldValue_24 rfl (lv_at hl 0 rfl) ?_
      refine m_get (g := 12) (i := 16) (ci := 9) (k := 0) (v := .ref (w.1 0 0)) hx hb hI hown (mokX (by decide) (by decide)) rfl rfl (by decide) lyX11 (q294 hI.T) rfl dX11_toldValue_25 ?_
      refine m_get (g := 0) (i := 0) (ci := 8) (k := 0) (v := .ref (w.1 0 1)) hx hb hI hown (mokS (by decide) (by decide)) rfl rfl (by decide) lyX9 (q187 hI.T) rfl dX11_toldValue_28 ?_
      refine lv_iload_n hx hb dX11_toldValue_31 rfl (lv_at hl 1 rfl) ?_
      obtain ⟨r5, hc, hf⟩ := mbp_e hf
      refine m_callV (As := [.int a1]) (rest := []) hx hb hml hown hI (c_X6_toldAt l w H.size 0 (by decide) a1 M _ hc) (kb_X6_toldAt hI.T (q542 hI.T) (Nat.le_of_ble_eq_true rfl) (Nat.le_of_ble_eq_true rfl)) (q543 hI.T) (q544 hI.T) (m_recv (g := 0) (i := 1) hI (mokS (by decide) (by decide)) rfl rfl) rfl hl.1 (Nat.le_of_ble_eq_true rfl) dX11_toldValue_32 ⟨Nat.le_of_ble_eq_true rfl, Nat.le_of_ble_eq_true rfl⟩ (fun H locs hI => ?_)
      exact m_iretxp hx hb hr hlk hI hf dX11_toldValue_35 (Nat.le_of_ble_eq_true rfl) (Nat.le_of_ble_eq_true rfl)
    · have hf := (if_neg c2).symm.trans hf
      exact hj10_6 () s.heap _ _ hf hI (lv_sub hl [] rfl)
abbrev rmX6_allAgree : Room := { frames := 3, cells := 0, slots := 0, locals := 75 }
theorem kb_X6_allAgree {R : Room} {s : State} {args : Array Value} {own : String} {idx : Nat} (hT : mT s) (hlink : (Cond.methodLink own idx yX6_allAgree).before args s = true) (h1 : rmX6_allAgree.frames + 1 ≤ R.frames) (h2 : 8 + (1 + 11) + rmX6_allAgree.locals ≤ R.locals) : CallB R s args own idx yX6_allAgree cX6_allAgree 1 (some .boolean) [Cond.code yX6_allAgree cX6_allAgree 1 (some .boolean)] rmX6_allAgree 0 0 0 := m_callB hT kc_X6_allAgree ki_X6_allAgree hlink (by decide +kernel) ⟨rfl, rfl, h1, h2⟩
set_option maxHeartbeats 4000000 in
set_option maxRecDepth 100000 in
theorem c_X6_allAgree (l : Launch) (w : WD) (sz : Nat) (g : Nat) (hg : g ≤ 10) (M : Mem) (r : Int32) (hf : f_X6_allAgree g M = some r) : mMet l yX6_allAgree cX6_allAgree 1 (some .boolean) rmX6_allAgree w sz M [.ref (w.1 g 1)] (some (.int r)) M := by
  refine m_of (by decide) (Nat.le_of_ble_eq_true rfl) ?_
  intro p e s m args below meth c hx hb hr hml hown hlk hI ls hl
  have hl : lv_has ls 1 [(0, .ref (w.1 g 1))] := hl
  unfold f_X6_allAgree at hf
  refine lv_aload_n hx hb dX6_allAgree_0 rfl (lv_at hl 0 rfl) ?_
  refine lv_aload_n hx hb dX6_allAgree_1 rfl (lv_at hl 0 rfl) ?_
  refine m_get (g := g) (i := 1) (ci := 5) (k := 6) (v := .ref (w.1 g 4)) hx hb hI hown (mokS hg (by decide)) rfl rfl (by decide) lyX6 (q73 hI.T) rfl dX6_allAgree_2 ?_
  refine lv_aload_n hx hb dX6_allAgree_5 rfl (lv_at hl 0 rfl) ?_
  refine m_get (g := g) (i := 1) (ci := 5) (k := 5) (v := .int (M g 1 5)) hx hb hI hown (mokS hg (by decide)) rfl rfl (by decide) lyX6 (q69 hI.T) rfl dX6_allAgree_6 ?_
  obtain ⟨r1, hc, hf⟩ := mbp_e hf
  refine m_callV (As := [.ref (w.1 g 4), .int (M g 1 5)]) (rest := []) hx hb hml hown hI (c_X6_isOneCurve l w s.heap.size g hg g 4 (mokS hg (by decide)) rfl (M g 1 5) M _ hc) (kb_X6_isOneCurve hI.T (q567 hI.T) (Nat.le_of_ble_eq_true rfl) (Nat.le_of_ble_eq_true rfl)) (q568 hI.T) (q569 hI.T) (m_recv (g := g) (i := 1) hI (mokS hg (by decide)) rfl rfl) rfl hl.1 (Nat.le_of_ble_eq_true rfl) dX6_allAgree_9 ⟨Nat.le_of_ble_eq_true rfl, Nat.le_of_ble_eq_true rfl⟩ (fun H locs hI => ?_)
  obtain ⟨hz, hf⟩ := mnz_e hf
  exact m_zretp hx hb hr hlk hI (mnz_n hz) hf dX6_allAgree_12
abbrev rmX11_doAgree : Room := { frames := 9, cells := 1, slots := 6, locals := 160 }
theorem kb_X11_doAgree {R : Room} {s : State} {args : Array Value} {own : String} {idx : Nat} (hT : mT s) (hlink : (Cond.methodLink own idx yX11_doAgree).before args s = true) (h1 : rmX11_doAgree.frames + 1 ≤ R.frames) (h2 : 8 + (1 + 11) + rmX11_doAgree.locals ≤ R.locals) : CallB R s args own idx yX11_doAgree cX11_doAgree 1 (some .boolean) [Cond.code yX11_doAgree cX11_doAgree 1 (some .boolean)] rmX11_doAgree 1 6 0 := m_callB hT kc_X11_doAgree ki_X11_doAgree hlink (by decide +kernel) ⟨rfl, rfl, h1, h2⟩
set_option maxHeartbeats 4000000 in
set_option maxRecDepth 100000 in
theorem c_X11_doAgree (l : Launch) (w : WD) (hsf : l.stackTraces = false) (sz : Nat)  (M : Mem) (r : (Nat ⊕ Int32)) (hf : f_X11_doAgree  M = some r) : mMetx l yX11_doAgree cX11_doAgree 1 (some .boolean) rmX11_doAgree w sz M [.ref (w.1 12 16)] (moI r) M 1 6 := by
  refine m_ofx (by decide) (Nat.le_of_ble_eq_true rfl) ?_
  intro p e s m args below meth c hx hb hr hml hown hlk hxt hI ls hl
  have hl : lv_has ls 1 [(0, .ref (w.1 12 16))] := hl
  unfold f_X11_doAgree at hf
  refine lv_aload_n hx hb dX11_doAgree_0 rfl (lv_at hl 0 rfl) ?_
  rcases mbpx_e hf with ⟨n2, hc, hf⟩ | ⟨r1, hc, hf⟩
  · exact m_callxTVp (As := []) (rest := []) hx hb hml hown hI (c_X11_requireEnoughKeys l w hsf s.heap.size M _ hc) (kb_X11_requireEnoughKeys hI.T (q533 hI.T) (Nat.le_of_ble_eq_true rfl) (Nat.le_of_ble_eq_true rfl)) (q535 hI.T) (sel_X11_requireEnoughKeys hI.T) (m_recv (g := 12) (i := 16) hI (mokX (by decide) (by decide)) rfl rfl) rfl hl.1 (Nat.le_of_ble_eq_true rfl) dX11_doAgree_1 ⟨Nat.le_of_ble_eq_true rfl, Nat.le_of_ble_eq_true rfl⟩ hxt hlk hf (Nat.le_of_ble_eq_true rfl) (Nat.le_of_ble_eq_true rfl)
  refine m_callxRV (As := []) (rest := []) hx hb hml hown hI (c_X11_requireEnoughKeys l w hsf s.heap.size M _ hc) (kb_X11_requireEnoughKeys hI.T (q533 hI.T) (Nat.le_of_ble_eq_true rfl) (Nat.le_of_ble_eq_true rfl)) (q535 hI.T) (sel_X11_requireEnoughKeys hI.T) (m_recv (g := 12) (i := 16) hI (mokX (by decide) (by decide)) rfl rfl) rfl hl.1 (Nat.le_of_ble_eq_true rfl) dX11_doAgree_1 ⟨Nat.le_of_ble_eq_true rfl, Nat.le_of_ble_eq_true rfl⟩ (fun H locs hI => ?_)
  refine lv_aload_n hx hb dX11_doAgree_4 rfl (lv_at hl 0 rfl) ?_
  refine m_get (g := 12) (i := 16) (ci := 9) (k := 0) (v := .ref (w.1 0 0)) hx hb hI hown (mokX (by decide) (by decide)) rfl rfl (by decide) lyX11 (q294 hI.T) rfl dX11_doAgree_5 ?_
  refine m_get (g := 0) (i := 0) (ci := 8) (k := 0) (v := .ref (w.1 0 1)) hx hb hI hown (mokS (by decide) (by decide)) rfl rfl (by decide) lyX9 (q187 hI.T) rfl dX11_doAgree_8 ?_
  obtain ⟨r3, hc, hf⟩ := mbp_e hf
  refine m_callV (As := []) (rest := []) hx hb hml hown hI (c_X6_allAgree l w H.size 0 (by decide) M _ hc) (kb_X6_allAgree hI.T (q563 hI.T) (Nat.le_of_ble_eq_true rfl) (Nat.le_of_ble_eq_true rfl)) (q564 hI.T) (q565 hI.T) (m_recv (g := 0) (i := 1) hI (mokS (by decide) (by decide)) rfl rfl) rfl hl.1 (Nat.le_of_ble_eq_true rfl) dX11_doAgree_11 ⟨Nat.le_of_ble_eq_true rfl, Nat.le_of_ble_eq_true rfl⟩ (fun H locs hI => ?_)
  obtain ⟨hz, hf⟩ := mnz_e hf
  exact m_zretxp hx hb hr hlk hI (mnz_n hz) hf dX11_doAgree_14 (Nat.le_of_ble_eq_true rfl) (Nat.le_of_ble_eq_true rfl)
abbrev rmJ6_bitCount_0f7a4 : Room := { frames := 0, cells := 0, slots := 0, locals := 0 }
theorem kb_J6_bitCount_0f7a4 {R : Room} {s : State} {args : Array Value} {own : String} {idx : Nat} (hT : mT s) (hlink : (Cond.methodLink own idx yJ6_bitCount_0f7a4).before args s = true) (h1 : rmJ6_bitCount_0f7a4.frames + 1 ≤ R.frames) (h2 : 8 + (1 + 11) + rmJ6_bitCount_0f7a4.locals ≤ R.locals) : CallB R s args own idx yJ6_bitCount_0f7a4 cJ6_bitCount_0f7a4 1 (some .int) [Cond.code yJ6_bitCount_0f7a4 cJ6_bitCount_0f7a4 1 (some .int)] rmJ6_bitCount_0f7a4 0 0 1 := m_callB hT kc_J6_bitCount_0f7a4 ki_J6_bitCount_0f7a4 hlink (by decide +kernel) ⟨rfl, rfl, h1, h2⟩
set_option maxHeartbeats 4000000 in
set_option maxRecDepth 100000 in
theorem c_J6_bitCount_0f7a4 (l : Launch) (w : WD) (sz : Nat) (a1 : Int32) (M : Mem) (r : Int32) (hf : f_J6_bitCount_0f7a4 a1 M = some r) : mMet l yJ6_bitCount_0f7a4 cJ6_bitCount_0f7a4 1 (some .int) rmJ6_bitCount_0f7a4 w sz M [.int a1] (some (.int r)) M := by
  refine m_of (by decide) (Nat.le_of_ble_eq_true rfl) ?_
  intro p e s m args below meth c hx hb hr hml hown hlk hI ls hl
  have hl : lv_has ls 1 [(0, .int a1)] := hl
  unfold f_J6_bitCount_0f7a4 at hf
  refine lv_iload_n hx hb dJ6_bitCount_0f7a4_0 rfl (lv_at hl 0 rfl) ?_
  refine lv_iload_n hx hb dJ6_bitCount_0f7a4_1 rfl (lv_at hl 0 rfl) ?_
  refine lv_iconst (v := 1) hx hb dJ6_bitCount_0f7a4_2 (by decide) ?_
  refine lv_iushr hx hb dJ6_bitCount_0f7a4_3 rfl ?_
  refine lv_ldcw hx hb hown (q1406 hI.T) dJ6_bitCount_0f7a4_4 ?_
  refine lv_iand hx hb dJ6_bitCount_0f7a4_7 ?_
  refine lv_isub hx hb dJ6_bitCount_0f7a4_8 ?_
  refine lv_topi (fun x1 ex1 => ?_)
  have hf := mlet_s ex1 hf
  refine lv_istore_n (lv' := [(0, .int x1)]) hx hb dJ6_bitCount_0f7a4_9 rfl hl (by decide) rfl (fun ls hl => ?_)
  refine lv_iload_n hx hb dJ6_bitCount_0f7a4_10 rfl (lv_at hl 0 rfl) ?_
  refine lv_ldcw hx hb hown (q1407 hI.T) dJ6_bitCount_0f7a4_11 ?_
  refine lv_iand hx hb dJ6_bitCount_0f7a4_14 ?_
  refine lv_iload_n hx hb dJ6_bitCount_0f7a4_15 rfl (lv_at hl 0 rfl) ?_
  refine lv_iconst (v := 2) hx hb dJ6_bitCount_0f7a4_16 (by decide) ?_
  refine lv_iushr hx hb dJ6_bitCount_0f7a4_17 rfl ?_
  refine lv_ldcw hx hb hown (q1407 hI.T) dJ6_bitCount_0f7a4_18 ?_
  refine lv_iand hx hb dJ6_bitCount_0f7a4_21 ?_
  refine lv_iadd hx hb dJ6_bitCount_0f7a4_22 ?_
  refine lv_topi (fun x2 ex2 => ?_)
  have hf := mlet_s ex2 hf
  refine lv_istore_n (lv' := [(0, .int x2)]) hx hb dJ6_bitCount_0f7a4_23 rfl hl (by decide) rfl (fun ls hl => ?_)
  refine lv_iload_n hx hb dJ6_bitCount_0f7a4_24 rfl (lv_at hl 0 rfl) ?_
  refine lv_iload_n hx hb dJ6_bitCount_0f7a4_25 rfl (lv_at hl 0 rfl) ?_
  refine lv_iconst (v := 4) hx hb dJ6_bitCount_0f7a4_26 (by decide) ?_
  refine lv_iushr hx hb dJ6_bitCount_0f7a4_27 rfl ?_
  refine lv_iadd hx hb dJ6_bitCount_0f7a4_28 ?_
  refine lv_ldcw hx hb hown (q1408 hI.T) dJ6_bitCount_0f7a4_29 ?_
  refine lv_iand hx hb dJ6_bitCount_0f7a4_32 ?_
  refine lv_topi (fun x3 ex3 => ?_)
  have hf := mlet_s ex3 hf
  refine lv_istore_n (lv' := [(0, .int x3)]) hx hb dJ6_bitCount_0f7a4_33 rfl hl (by decide) rfl (fun ls hl => ?_)
  refine lv_iload_n hx hb dJ6_bitCount_0f7a4_34 rfl (lv_at hl 0 rfl) ?_
  refine lv_iload_n hx hb dJ6_bitCount_0f7a4_35 rfl (lv_at hl 0 rfl) ?_
  refine lv_bipush (v := 8) hx hb dJ6_bitCount_0f7a4_36 (by decide) ?_
  refine lv_iushr hx hb dJ6_bitCount_0f7a4_38 rfl ?_
  refine lv_iadd hx hb dJ6_bitCount_0f7a4_39 ?_
  refine lv_topi (fun x4 ex4 => ?_)
  have hf := mlet_s ex4 hf
  refine lv_istore_n (lv' := [(0, .int x4)]) hx hb dJ6_bitCount_0f7a4_40 rfl hl (by decide) rfl (fun ls hl => ?_)
  refine lv_iload_n hx hb dJ6_bitCount_0f7a4_41 rfl (lv_at hl 0 rfl) ?_
  refine lv_iload_n hx hb dJ6_bitCount_0f7a4_42 rfl (lv_at hl 0 rfl) ?_
  refine lv_bipush (v := 16) hx hb dJ6_bitCount_0f7a4_43 (by decide) ?_
  refine lv_iushr hx hb dJ6_bitCount_0f7a4_45 rfl ?_
  refine lv_iadd hx hb dJ6_bitCount_0f7a4_46 ?_
  refine lv_topi (fun x5 ex5 => ?_)
  have hf := mlet_s ex5 hf
  refine lv_istore_n (lv' := [(0, .int x5)]) hx hb dJ6_bitCount_0f7a4_47 rfl hl (by decide) rfl (fun ls hl => ?_)
  refine lv_iload_n hx hb dJ6_bitCount_0f7a4_48 rfl (lv_at hl 0 rfl) ?_
  refine lv_bipush (v := 63) hx hb dJ6_bitCount_0f7a4_49 (by decide) ?_
  refine lv_iand hx hb dJ6_bitCount_0f7a4_51 ?_
  exact m_iretp hx hb hr hlk hI hf dJ6_bitCount_0f7a4_52
abbrev rmX8_choose : Room := { frames := 0, cells := 0, slots := 0, locals := 0 }
theorem kb_X8_choose {R : Room} {s : State} {args : Array Value} {own : String} {idx : Nat} (hT : mT s) (hlink : (Cond.methodLink own idx yX8_choose).before args s = true) (h1 : rmX8_choose.frames + 1 ≤ R.frames) (h2 : 8 + (5 + 11) + rmX8_choose.locals ≤ R.locals) : CallB R s args own idx yX8_choose cX8_choose 5 (none) [Cond.code yX8_choose cX8_choose 5 (none)] rmX8_choose 0 0 2 := m_callB hT kc_X8_choose ki_X8_choose hlink (by decide +kernel) ⟨rfl, rfl, h1, h2⟩
set_option maxHeartbeats 4000000 in
set_option maxRecDepth 100000 in
theorem c_X8_choose (l : Launch) (w : WD) (sz : Nat) (g1 : Nat) (hg1 : g1 ≤ 10) (a2 : Int32) (M : Mem) (r : Unit) (M9 : Mem) (hf : f_X8_choose g1 a2 M = some (r, M9)) : mMet l yX8_choose cX8_choose 5 (none) rmX8_choose w sz M [.ref (w.1 12 19), .ref (w.1 g1 1), .int a2] none M9 := by
  refine m_of (by decide) (Nat.le_of_ble_eq_true rfl) ?_
  intro p e s m args below meth c hx hb hr hml hown hlk hI ls hl
  have hl : lv_has ls 5 [(0, .ref (w.1 12 19)), (1, .ref (w.1 g1 1)), (2, .int a2)] := hl
  unfold f_X8_choose at hf
  refine lv_iconst (v := 0) hx hb dX8_choose_0 (by decide) ?_
  refine lv_istore_n (lv' := [(3, .int (0 : Int32)), (0, .ref (w.1 12 19)), (1, .ref (w.1 g1 1)), (2, .int a2)]) hx hb dX8_choose_1 rfl hl (by decide) rfl (fun ls hl => ?_)
  refine lv_iconst (v := 0) hx hb dX8_choose_2 (by decide) ?_
  refine lv_istore (lv' := [(4, .int (0 : Int32)), (3, .int (0 : Int32)), (0, .ref (w.1 12 19)), (1, .ref (w.1 g1 1)), (2, .int a2)]) hx hb dX8_choose_3 hl (by decide) rfl (fun ls hl => ?_)
  have hL5 : ∀ (n : Nat) (x1 : Int32) (x2 : Int32) (M3 : Mem) (kk : Mem → Option (Unit × Mem)) (H : Heap) (locs : List Loc) (ls : Array Slot), f_X8_choose_L5 g1 a2 n x1 x2 M3 kk = some (r, M9) → mI w s (mA w s.heap.size) H locs M3 → lv_has ls 5 [(0, .ref (w.1 12 19)), (1, .ref (w.1 g1 1)), (2, .int a2), (3, .int x1), (4, .int x2)] → (∀  (M3 : Mem) (H : Heap) (locs : List Loc) (ls : Array Slot), kk M3 = some (r, M9) → mI w s (mA w s.heap.size) H locs M3 → lv_has ls 5 [] → W p l e rmX8_choose s m args below meth c H locs 0 0 (MQ below (mQ w s.heap.size none M9) args s 0 0 (mA w s.heap.size)) (F0 m 46 ls [])) → W p l e rmX8_choose s m args below meth c H locs 0 0 (MQ below (mQ w s.heap.size none M9) args s 0 0 (mA w s.heap.size)) (F0 m 5 ls []) := by
    intro n
    induction n with
    | zero => intro x1 x2 M3 kk H locs ls hf hI hl hk; rw [f_X8_choose_L5.eq_1] at hf; cases hf
    | succ n ih5 =>
      intro x1 x2 M3 kk H locs ls hf hI hl hk
      rw [f_X8_choose_L5.eq_2] at hf
      refine lv_iload hx hb dX8_choose_5 (lv_at hl 4 rfl) ?_
      refine lv_aload_n hx hb dX8_choose_7 rfl (lv_at hl 1 rfl) ?_
      refine m_get (g := g1) (i := 1) (ci := 5) (k := 5) (v := .int (M3 g1 1 5)) hx hb hI hown (mokS hg1 (by decide)) rfl rfl (by decide) lyX6 (q70 hI.T) rfl dX8_choose_8 ?_
      refine lv_icmp_ge (tgt := 46) hx hb dX8_choose_11 (by decide) (fun c4 => ?_) (fun c4 => ?_)
      · have hf := (if_pos c4).symm.trans hf
        exact hk M3 H _ _ hf hI (lv_sub hl [] rfl)
      · have hf := (if_neg c4).symm.trans hf
        refine lv_iload_n hx hb dX8_choose_14 rfl (lv_at hl 2 rfl) ?_
        refine lv_iload hx hb dX8_choose_15 (lv_at hl 4 rfl) ?_
        refine lv_ishr hx hb dX8_choose_17 ?_
        refine lv_iconst (v := 1) hx hb dX8_choose_18 (by decide) ?_
        refine lv_iand hx hb dX8_choose_19 ?_
        refine lv_iconst (v := 1) hx hb dX8_choose_20 (by decide) ?_
        obtain ⟨k40_11, ek40_11, hf⟩ := mlet_e hf
        have hj40_11 : ∀ (x8 : Int32) (M10 : Mem) (H : Heap) (locs : List Loc) (ls : Array Slot), k40_11 x8 M10 = some (r, M9) → mI w s (mA w s.heap.size) H locs M10 → lv_has ls 5 [(0, .ref (w.1 12 19)), (1, .ref (w.1 g1 1)), (2, .int a2), (3, .int x8), (4, .int x2)] → W p l e rmX8_choose s m args below meth c H locs 0 0 (MQ below (mQ w s.heap.size none M9) args s 0 0 (mA w s.heap.size)) (F0 m 40 ls []) := by
          intro x8 M10 H locs ls hf hI hl
          rw [ek40_11] at hf
          try dsimp only at hf
          obtain ⟨x12, ex12, hf⟩ := mlet_e hf
          refine lv_iinc (v := x12) (lv' := [(4, .int x12), (0, .ref (w.1 12 19)), (1, .ref (w.1 g1 1)), (2, .int a2), (3, .int x8)]) hx hb dX8_choose_40 hl (k := 4) rfl (by rw [ex12]; rfl) (by decide) rfl (fun ls hl => ?_)
          refine lv_goto (tgt := 5) hx hb dX8_choose_43 (by decide) ?_
          exact ih5 x8 x12 M10 kk H _ _ hf hI (lv_sub hl [1, 2, 3, 4, 0] rfl) hk
        refine lv_icmp_ne (tgt := 40) hx hb dX8_choose_21 (by decide) (fun c5 => ?_) (fun c5 => ?_)
        · have hf := (if_neg c5).symm.trans hf
          exact hj40_11 x1 M3 H _ _ hf hI (lv_sub hl [0, 1, 2, 3, 4] rfl)
        · have hf := (if_pos c5).symm.trans hf
          refine lv_aload_n hx hb dX8_choose_24 rfl (lv_at hl 0 rfl) ?_
          refine m_get (g := 12) (i := 19) (ci := 7) (k := 2) (v := .ref (w.1 12 25)) hx hb hI hown (mokX (by decide) (by decide)) rfl rfl (by decide) lyX8 (q239 hI.T) rfl dX8_choose_25 ?_
          refine lv_iload_n hx hb dX8_choose_28 rfl (lv_at hl 3 rfl) ?_
          refine lv_aload_n hx hb dX8_choose_29 rfl (lv_at hl 1 rfl) ?_
          refine m_get (g := g1) (i := 1) (ci := 5) (k := 6) (v := .ref (w.1 g1 4)) hx hb hI hown (mokS hg1 (by decide)) rfl rfl (by decide) lyX6 (q74 hI.T) rfl dX8_choose_30 ?_
          refine lv_iload hx hb dX8_choose_33 (lv_at hl 4 rfl) ?_
          obtain ⟨hi, hf⟩ := mix_e hf
          refine m_iald (g := g1) (i := 4) hx hb hI (mokS hg1 (by decide)) rfl hi dX8_choose_35 ?_
          obtain ⟨hi, hf⟩ := mix_e hf
          obtain ⟨M6, eM6, hf⟩ := mlet_e hf
          refine m_iast (g := 12) (i := 25) (M1 := M6) hx hb hI (mokX (by decide) (by decide)) rfl hi eM6 dX8_choose_36 (fun H locs hI => ?_)
          obtain ⟨x7, ex7, hf⟩ := mlet_e hf
          refine lv_iinc (v := x7) (lv' := [(3, .int x7), (0, .ref (w.1 12 19)), (1, .ref (w.1 g1 1)), (2, .int a2), (4, .int x2)]) hx hb dX8_choose_37 hl (k := 3) rfl (by rw [ex7]; rfl) (by decide) rfl (fun ls hl => ?_)
          exact hj40_11 x7 M6 H _ _ hf hI (lv_sub hl [1, 2, 3, 0, 4] rfl)
  refine hL5 1000 (0 : Int32) (0 : Int32) M _ _ _ _ hf hI (lv_sub hl [2, 3, 4, 1, 0] rfl) ?_
  intro M13 H locs ls hf hI hl
  try dsimp only at hf
  exact m_vretf hx hb hr hlk hI hf dX8_choose_46
abbrev rmX8_countOnCurve : Room := { frames := 1, cells := 0, slots := 0, locals := 23 }
theorem kb_X8_countOnCurve {R : Room} {s : State} {args : Array Value} {own : String} {idx : Nat} (hT : mT s) (hlink : (Cond.methodLink own idx yX8_countOnCurve).before args s = true) (h1 : rmX8_countOnCurve.frames + 1 ≤ R.frames) (h2 : 8 + (5 + 11) + rmX8_countOnCurve.locals ≤ R.locals) : CallB R s args own idx yX8_countOnCurve cX8_countOnCurve 5 (some .int) [Cond.code yX8_countOnCurve cX8_countOnCurve 5 (some .int)] rmX8_countOnCurve 0 0 1 := m_callB hT kc_X8_countOnCurve ki_X8_countOnCurve hlink (by decide +kernel) ⟨rfl, rfl, h1, h2⟩
set_option maxHeartbeats 4000000 in
set_option maxRecDepth 100000 in
theorem c_X8_countOnCurve (l : Launch) (w : WD) (sz : Nat) (g1 : Nat) (hg1 : g1 ≤ 10) (M : Mem) (r : Int32) (hf : f_X8_countOnCurve g1 M = some r) : mMet l yX8_countOnCurve cX8_countOnCurve 5 (some .int) rmX8_countOnCurve w sz M [.ref (w.1 12 19), .ref (w.1 g1 1)] (some (.int r)) M := by
  refine m_of (by decide) (Nat.le_of_ble_eq_true rfl) ?_
  intro p e s m args below meth c hx hb hr hml hown hlk hI ls hl
  have hl : lv_has ls 5 [(0, .ref (w.1 12 19)), (1, .ref (w.1 g1 1))] := hl
  unfold f_X8_countOnCurve at hf
  refine lv_iconst (v := 0) hx hb dX8_countOnCurve_0 (by decide) ?_
  refine lv_istore_n (lv' := [(2, .int (0 : Int32)), (0, .ref (w.1 12 19)), (1, .ref (w.1 g1 1))]) hx hb dX8_countOnCurve_1 rfl hl (by decide) rfl (fun ls hl => ?_)
  refine lv_iconst (v := 0) hx hb dX8_countOnCurve_2 (by decide) ?_
  refine lv_istore_n (lv' := [(3, .int (0 : Int32)), (2, .int (0 : Int32)), (0, .ref (w.1 12 19)), (1, .ref (w.1 g1 1))]) hx hb dX8_countOnCurve_3 rfl hl (by decide) rfl (fun ls hl => ?_)
  have hL4 : ∀ (n : Nat) (x1 : Int32) (x2 : Int32) (kk : Int32 → Option Int32) (H : Heap) (locs : List Loc) (ls : Array Slot), f_X8_countOnCurve_L4 g1 M n x1 x2 kk = some r → mI w s (mA w s.heap.size) H locs M → lv_has ls 5 [(0, .ref (w.1 12 19)), (1, .ref (w.1 g1 1)), (2, .int x1), (3, .int x2)] → (∀ (x1 : Int32) (H : Heap) (locs : List Loc) (ls : Array Slot), kk x1 = some r → mI w s (mA w s.heap.size) H locs M → lv_has ls 5 [(2, .int x1)] → W p l e rmX8_countOnCurve s m args below meth c H locs 0 0 (MQ below (mQ w s.heap.size (some (.int r)) M) args s 0 0 (mA w s.heap.size)) (F0 m 51 ls [])) → W p l e rmX8_countOnCurve s m args below meth c H locs 0 0 (MQ below (mQ w s.heap.size (some (.int r)) M) args s 0 0 (mA w s.heap.size)) (F0 m 4 ls []) := by
    intro n
    induction n with
    | zero => intro x1 x2 kk H locs ls hf hI hl hk; rw [f_X8_countOnCurve_L4.eq_1] at hf; cases hf
    | succ n ih4 =>
      intro x1 x2 kk H locs ls hf hI hl hk
      rw [f_X8_countOnCurve_L4.eq_2] at hf
      refine lv_iload_n hx hb dX8_countOnCurve_4 rfl (lv_at hl 3 rfl) ?_
      refine lv_aload_n hx hb dX8_countOnCurve_5 rfl (lv_at hl 1 rfl) ?_
      refine m_get (g := g1) (i := 1) (ci := 5) (k := 5) (v := .int (M g1 1 5)) hx hb hI hown (mokS hg1 (by decide)) rfl rfl (by decide) lyX6 (q70 hI.T) rfl dX8_countOnCurve_6 ?_
      refine lv_icmp_ge (tgt := 51) hx hb dX8_countOnCurve_9 (by decide) (fun c3 => ?_) (fun c3 => ?_)
      · have hf := (if_pos c3).symm.trans hf
        exact hk x1 H _ _ hf hI (lv_sub hl [2] rfl)
      · have hf := (if_neg c3).symm.trans hf
        refine lv_aload_n hx hb dX8_countOnCurve_12 rfl (lv_at hl 1 rfl) ?_
        refine m_get (g := g1) (i := 1) (ci := 5) (k := 6) (v := .ref (w.1 g1 4)) hx hb hI hown (mokS hg1 (by decide)) rfl rfl (by decide) lyX6 (q74 hI.T) rfl dX8_countOnCurve_13 ?_
        refine lv_iload_n hx hb dX8_countOnCurve_16 rfl (lv_at hl 3 rfl) ?_
        obtain ⟨hi, hf⟩ := mix_e hf
        refine m_iald (g := g1) (i := 4) hx hb hI (mokS hg1 (by decide)) rfl hi dX8_countOnCurve_17 ?_
        refine lv_topi (fun x4 ex4 => ?_)
        have hf := mlet_s ex4 hf
        refine lv_istore (lv' := [(4, .int x4), (0, .ref (w.1 12 19)), (1, .ref (w.1 g1 1)), (2, .int x1), (3, .int x2)]) hx hb dX8_countOnCurve_18 hl (by decide) rfl (fun ls hl => ?_)
        refine lv_aload_n hx hb dX8_countOnCurve_20 rfl (lv_at hl 2 rfl) ?_
        refine m_get (g := g1) (i := 1) (ci := 5) (k := 1) (v := .ref (w.1 g1 2)) hx hb hI hown (mokS hg1 (by decide)) rfl rfl (by decide) lyX6 (q58 hI.T) rfl dX8_countOnCurve_21 ?_
        refine lv_iload hx hb dX8_countOnCurve_24 (lv_at hl 0 rfl) ?_
        obtain ⟨hi, hf⟩ := mix_e hf
        refine m_iald (g := g1) (i := 2) hx hb hI (mokS hg1 (by decide)) rfl hi dX8_countOnCurve_26 ?_
        refine lv_aload_n hx hb dX8_countOnCurve_27 rfl (lv_at hl 1 rfl) ?_
        refine m_get (g := 12) (i := 19) (ci := 7) (k := 1) (v := .ref (w.1 12 24)) hx hb hI hown (mokX (by decide) (by decide)) rfl rfl (by decide) lyX8 (q238 hI.T) rfl dX8_countOnCurve_28 ?_
        refine lv_iload hx hb dX8_countOnCurve_31 (lv_at hl 0 rfl) ?_
        obtain ⟨r5, hc, hf⟩ := mbp_e hf
        refine m_callS (As := [.int x4]) (rest := [.ref (w.1 12 24), .int (M g1 2 x4.toNatClampNeg)]) hx hb hml hown hI (c_X6_positionOf l w H.size x4 M _ hc) (kb_X6_positionOf hI.T (q1428 hI.T) (Nat.le_of_ble_eq_true rfl) (Nat.le_of_ble_eq_true rfl)) (q572 hI.T) rfl hl.1 (Nat.le_of_ble_eq_true rfl) dX8_countOnCurve_33 ⟨Nat.le_of_ble_eq_true rfl, Nat.le_of_ble_eq_true rfl⟩ (fun H locs hI => ?_)
        obtain ⟨r6, hc, hf⟩ := mbp_e hf
        refine m_callS (As := [.ref (w.1 12 24), .int r5]) (rest := [.int (M g1 2 x4.toNatClampNeg)]) hx hb hml hown hI (c_X6_valueOn l w H.size 12 24 (mokX (by decide) (by decide)) rfl r5 M _ hc) (kb_X6_valueOn hI.T (q1468 hI.T) (Nat.le_of_ble_eq_true rfl) (Nat.le_of_ble_eq_true rfl)) (q711 hI.T) rfl hl.1 (Nat.le_of_ble_eq_true rfl) dX8_countOnCurve_36 ⟨Nat.le_of_ble_eq_true rfl, Nat.le_of_ble_eq_true rfl⟩ (fun H locs hI => ?_)
        obtain ⟨k45_10, ek45_10, hf⟩ := mlet_e hf
        have hj45_10 : ∀ (x9 : Int32) (H : Heap) (locs : List Loc) (ls : Array Slot), k45_10 x9 = some r → mI w s (mA w s.heap.size) H locs M → lv_has ls 5 [(0, .ref (w.1 12 19)), (1, .ref (w.1 g1 1)), (2, .int x9), (3, .int x2)] → W p l e rmX8_countOnCurve s m args below meth c H locs 0 0 (MQ below (mQ w s.heap.size (some (.int r)) M) args s 0 0 (mA w s.heap.size)) (F0 m 45 ls []) := by
          intro x9 H locs ls hf hI hl
          rw [ek45_10] at hf
          try dsimp only at hf
          obtain ⟨x11, ex11, hf⟩ := mlet_e hf
          refine lv_iinc (v := x11) (lv' := [(3, .int x11), (0, .ref (w.1 12 19)), (1, .ref (w.1 g1 1)), (2, .int x9)]) hx hb dX8_countOnCurve_45 hl (k := 3) rfl (by rw [ex11]; rfl) (by decide) rfl (fun ls hl => ?_)
          refine lv_goto (tgt := 4) hx hb dX8_countOnCurve_48 (by decide) ?_
          exact ih4 x9 x11 kk H _ _ hf hI (lv_sub hl [1, 2, 3, 0] rfl) hk
        refine lv_icmp_ne (tgt := 45) hx hb dX8_countOnCurve_39 (by decide) (fun c7 => ?_) (fun c7 => ?_)
        · have hf := (if_neg c7).symm.trans hf
          exact hj45_10 x1 H _ _ hf hI (lv_sub hl [1, 2, 3, 4] rfl)
        · have hf := (if_pos c7).symm.trans hf
          obtain ⟨x8, ex8, hf⟩ := mlet_e hf
          refine lv_iinc (v := x8) (lv' := [(2, .int x8), (4, .int x4), (0, .ref (w.1 12 19)), (1, .ref (w.1 g1 1)), (3, .int x2)]) hx hb dX8_countOnCurve_42 hl (k := 3) rfl (by rw [ex8]; rfl) (by decide) rfl (fun ls hl => ?_)
          exact hj45_10 x8 H _ _ hf hI (lv_sub hl [2, 3, 0, 4] rfl)
  refine hL4 1000 (0 : Int32) (0 : Int32) _ _ _ _ hf hI (lv_sub hl [2, 3, 1, 0] rfl) ?_
  intro x12 H locs ls hf hI hl
  try dsimp only at hf
  refine lv_iload_n hx hb dX8_countOnCurve_51 rfl (lv_at hl 0 rfl) ?_
  exact m_iretp hx hb hr hlk hI hf dX8_countOnCurve_52
abbrev rmX8_mostOnCurves : Room := { frames := 4, cells := 0, slots := 0, locals := 96 }
theorem kb_X8_mostOnCurves {R : Room} {s : State} {args : Array Value} {own : String} {idx : Nat} (hT : mT s) (hlink : (Cond.methodLink own idx yX8_mostOnCurves).before args s = true) (h1 : rmX8_mostOnCurves.frames + 1 ≤ R.frames) (h2 : 8 + (4 + 11) + rmX8_mostOnCurves.locals ≤ R.locals) : CallB R s args own idx yX8_mostOnCurves cX8_mostOnCurves 4 (some .int) [Cond.code yX8_mostOnCurves cX8_mostOnCurves 4 (some .int)] rmX8_mostOnCurves 0 0 1 := m_callB hT kc_X8_mostOnCurves ki_X8_mostOnCurves hlink (by decide +kernel) ⟨rfl, rfl, h1, h2⟩
set_option maxHeartbeats 4000000 in
set_option maxRecDepth 100000 in
theorem c_X8_mostOnCurves (l : Launch) (w : WD) (sz : Nat) (g1 : Nat) (hg1 : g1 ≤ 10) (M : Mem) (r : Int32) (M9 : Mem) (hf : f_X8_mostOnCurves g1 M = some (r, M9)) : mMet l yX8_mostOnCurves cX8_mostOnCurves 4 (some .int) rmX8_mostOnCurves w sz M [.ref (w.1 12 19), .ref (w.1 g1 1)] (some (.int r)) M9 := by
  refine m_of (by decide) (Nat.le_of_ble_eq_true rfl) ?_
  intro p e s m args below meth c hx hb hr hml hown hlk hI ls hl
  have hl : lv_has ls 4 [(0, .ref (w.1 12 19)), (1, .ref (w.1 g1 1))] := hl
  unfold f_X8_mostOnCurves at hf
  refine lv_iconst (v := 0) hx hb dX8_mostOnCurves_0 (by decide) ?_
  refine lv_istore_n (lv' := [(2, .int (0 : Int32)), (0, .ref (w.1 12 19)), (1, .ref (w.1 g1 1))]) hx hb dX8_mostOnCurves_1 rfl hl (by decide) rfl (fun ls hl => ?_)
  refine lv_iconst (v := 1) hx hb dX8_mostOnCurves_2 (by decide) ?_
  refine lv_istore_n (lv' := [(3, .int (1 : Int32)), (2, .int (0 : Int32)), (0, .ref (w.1 12 19)), (1, .ref (w.1 g1 1))]) hx hb dX8_mostOnCurves_3 rfl hl (by decide) rfl (fun ls hl => ?_)
  have hL4 : ∀ (n : Nat) (x1 : Int32) (x2 : Int32) (M3 : Mem) (kk : Int32 → Mem → Option (Int32 × Mem)) (H : Heap) (locs : List Loc) (ls : Array Slot), f_X8_mostOnCurves_L4 g1 n x1 x2 M3 kk = some (r, M9) → mI w s (mA w s.heap.size) H locs M3 → lv_has ls 4 [(0, .ref (w.1 12 19)), (1, .ref (w.1 g1 1)), (2, .int x1), (3, .int x2)] → (∀ (x1 : Int32) (M3 : Mem) (H : Heap) (locs : List Loc) (ls : Array Slot), kk x1 M3 = some (r, M9) → mI w s (mA w s.heap.size) H locs M3 → lv_has ls 4 [(2, .int x1)] → W p l e rmX8_mostOnCurves s m args below meth c H locs 0 0 (MQ below (mQ w s.heap.size (some (.int r)) M9) args s 0 0 (mA w s.heap.size)) (F0 m 56 ls [])) → W p l e rmX8_mostOnCurves s m args below meth c H locs 0 0 (MQ below (mQ w s.heap.size (some (.int r)) M9) args s 0 0 (mA w s.heap.size)) (F0 m 4 ls []) := by
    intro n
    induction n with
    | zero => intro x1 x2 M3 kk H locs ls hf hI hl hk; rw [f_X8_mostOnCurves_L4.eq_1] at hf; cases hf
    | succ n ih4 =>
      intro x1 x2 M3 kk H locs ls hf hI hl hk
      rw [f_X8_mostOnCurves_L4.eq_2] at hf
      refine lv_iload_n hx hb dX8_mostOnCurves_4 rfl (lv_at hl 3 rfl) ?_
      refine lv_iconst (v := 1) hx hb dX8_mostOnCurves_5 (by decide) ?_
      refine lv_aload_n hx hb dX8_mostOnCurves_6 rfl (lv_at hl 1 rfl) ?_
      refine m_get (g := g1) (i := 1) (ci := 5) (k := 5) (v := .int (M3 g1 1 5)) hx hb hI hown (mokS hg1 (by decide)) rfl rfl (by decide) lyX6 (q70 hI.T) rfl dX8_mostOnCurves_7 ?_
      refine lv_ishl hx hb dX8_mostOnCurves_10 ?_
      refine lv_icmp_ge (tgt := 56) hx hb dX8_mostOnCurves_11 (by decide) (fun c4 => ?_) (fun c4 => ?_)
      · have hf := (if_pos c4).symm.trans hf
        exact hk x1 M3 H _ _ hf hI (lv_sub hl [2] rfl)
      · have hf := (if_neg c4).symm.trans hf
        refine lv_iload_n hx hb dX8_mostOnCurves_14 rfl (lv_at hl 3 rfl) ?_
        obtain ⟨r5, hc, hf⟩ := mbp_e hf
        refine m_callS (As := [.int x2]) (rest := []) hx hb hml hown hI (c_J6_bitCount_0f7a4 l w H.size x2 M3 _ hc) (kb_J6_bitCount_0f7a4 hI.T (q1459 hI.T) (Nat.le_of_ble_eq_true rfl) (Nat.le_of_ble_eq_true rfl)) (q1404 hI.T) rfl hl.1 (Nat.le_of_ble_eq_true rfl) dX8_mostOnCurves_15 ⟨Nat.le_of_ble_eq_true rfl, Nat.le_of_ble_eq_true rfl⟩ (fun H locs hI => ?_)
        refine lv_aload_n hx hb dX8_mostOnCurves_18 rfl (lv_at hl 1 rfl) ?_
        refine m_get (g := g1) (i := 1) (ci := 5) (k := 3) (v := .int (M3 g1 1 3)) hx hb hI hown (mokS hg1 (by decide)) rfl rfl (by decide) lyX6 (q65 hI.T) rfl dX8_mostOnCurves_19 ?_
        obtain ⟨k50_15, ek50_15, hf⟩ := mlet_e hf
        have hj50_15 : ∀ (x13 : Int32) (M14 : Mem) (H : Heap) (locs : List Loc) (ls : Array Slot), k50_15 x13 M14 = some (r, M9) → mI w s (mA w s.heap.size) H locs M14 → lv_has ls 4 [(0, .ref (w.1 12 19)), (1, .ref (w.1 g1 1)), (2, .int x13), (3, .int x2)] → W p l e rmX8_mostOnCurves s m args below meth c H locs 0 0 (MQ below (mQ w s.heap.size (some (.int r)) M9) args s 0 0 (mA w s.heap.size)) (F0 m 50 ls []) := by
          intro x13 M14 H locs ls hf hI hl
          rw [ek50_15] at hf
          try dsimp only at hf
          obtain ⟨x16, ex16, hf⟩ := mlet_e hf
          refine lv_iinc (v := x16) (lv' := [(3, .int x16), (0, .ref (w.1 12 19)), (1, .ref (w.1 g1 1)), (2, .int x13)]) hx hb dX8_mostOnCurves_50 hl (k := 3) rfl (by rw [ex16]; rfl) (by decide) rfl (fun ls hl => ?_)
          refine lv_goto (tgt := 4) hx hb dX8_mostOnCurves_53 (by decide) ?_
          exact ih4 x13 x16 M14 kk H _ _ hf hI (lv_sub hl [1, 2, 3, 0] rfl) hk
        refine lv_icmp_ne (tgt := 50) hx hb dX8_mostOnCurves_22 (by decide) (fun c6 => ?_) (fun c6 => ?_)
        · have hf := (if_neg c6).symm.trans hf
          exact hj50_15 x1 M3 H _ _ hf hI (lv_sub hl [0, 1, 2, 3] rfl)
        · have hf := (if_pos c6).symm.trans hf
          refine lv_aload_n hx hb dX8_mostOnCurves_25 rfl (lv_at hl 0 rfl) ?_
          refine lv_aload_n hx hb dX8_mostOnCurves_26 rfl (lv_at hl 1 rfl) ?_
          refine lv_iload_n hx hb dX8_mostOnCurves_27 rfl (lv_at hl 3 rfl) ?_
          obtain ⟨r7, M8, hc, hf⟩ := mbnd_e hf
          refine m_callV (As := [.ref (w.1 g1 1), .int x2]) (rest := []) hx hb hml hown hI (c_X8_choose l w H.size g1 hg1 x2 M3 _ _ hc) (kb_X8_choose hI.T (q1460 hI.T) (Nat.le_of_ble_eq_true rfl) (Nat.le_of_ble_eq_true rfl)) (q1462 hI.T) (sel_X8_choose hI.T) (m_recv (g := 12) (i := 19) hI (mokX (by decide) (by decide)) rfl rfl) rfl hl.1 (Nat.le_of_ble_eq_true rfl) dX8_mostOnCurves_28 ⟨Nat.le_of_ble_eq_true rfl, Nat.le_of_ble_eq_true rfl⟩ (fun H locs hI => ?_)
          refine lv_aload_n hx hb dX8_mostOnCurves_31 rfl (lv_at hl 0 rfl) ?_
          refine lv_aload_n hx hb dX8_mostOnCurves_32 rfl (lv_at hl 1 rfl) ?_
          refine lv_aload_n hx hb dX8_mostOnCurves_33 rfl (lv_at hl 0 rfl) ?_
          refine m_get (g := 12) (i := 19) (ci := 7) (k := 2) (v := .ref (w.1 12 25)) hx hb hI hown (mokX (by decide) (by decide)) rfl rfl (by decide) lyX8 (q239 hI.T) rfl dX8_mostOnCurves_34 ?_
          obtain ⟨r9, M10, hc, hf⟩ := mbnd_e hf
          refine m_callV (As := [.ref (w.1 g1 1), .ref (w.1 12 25)]) (rest := []) hx hb hml hown hI (c_X8_fit l w H.size g1 hg1 12 25 (mokX (by decide) (by decide)) rfl M8 _ _ hc) (kb_X8_fit hI.T (q1420 hI.T) (Nat.le_of_ble_eq_true rfl) (Nat.le_of_ble_eq_true rfl)) (q1422 hI.T) (sel_X8_fit hI.T) (m_recv (g := 12) (i := 19) hI (mokX (by decide) (by decide)) rfl rfl) rfl hl.1 (Nat.le_of_ble_eq_true rfl) dX8_mostOnCurves_37 ⟨Nat.le_of_ble_eq_true rfl, Nat.le_of_ble_eq_true rfl⟩ (fun H locs hI => ?_)
          refine lv_iload_n hx hb dX8_mostOnCurves_40 rfl (lv_at hl 2 rfl) ?_
          refine lv_aload_n hx hb dX8_mostOnCurves_41 rfl (lv_at hl 0 rfl) ?_
          refine lv_aload_n hx hb dX8_mostOnCurves_42 rfl (lv_at hl 1 rfl) ?_
          obtain ⟨r11, hc, hf⟩ := mbp_e hf
          refine m_callV (As := [.ref (w.1 g1 1)]) (rest := [.int x1]) hx hb hml hown hI (c_X8_countOnCurve l w H.size g1 hg1 M10 _ hc) (kb_X8_countOnCurve hI.T (q1464 hI.T) (Nat.le_of_ble_eq_true rfl) (Nat.le_of_ble_eq_true rfl)) (q1466 hI.T) (sel_X8_countOnCurve hI.T) (m_recv (g := 12) (i := 19) hI (mokX (by decide) (by decide)) rfl rfl) rfl hl.1 (Nat.le_of_ble_eq_true rfl) dX8_mostOnCurves_43 ⟨Nat.le_of_ble_eq_true rfl, Nat.le_of_ble_eq_true rfl⟩ (fun H locs hI => ?_)
          refine va_mmax hx hb (hml.trans hl.1.symm) hown (q1469 hI.T) (q1022 hI.T) (q21 hI.T) (q1023 hI.T) (Nat.le_of_ble_eq_true rfl) (Nat.le_of_ble_eq_true rfl) (Nat.le_of_ble_eq_true rfl) (Nat.le_of_ble_eq_true rfl) dX8_mostOnCurves_46 ?_
          refine lv_topi (fun x12 ex12 => ?_)
          have hf := mlet_s ex12 hf
          refine lv_istore_n (lv' := [(2, .int x12), (0, .ref (w.1 12 19)), (1, .ref (w.1 g1 1)), (3, .int x2)]) hx hb dX8_mostOnCurves_49 rfl hl (by decide) rfl (fun ls hl => ?_)
          exact hj50_15 x12 M10 H _ _ hf hI (lv_sub hl [1, 2, 0, 3] rfl)
  refine hL4 1000 (0 : Int32) (1 : Int32) M _ _ _ _ hf hI (lv_sub hl [2, 3, 1, 0] rfl) ?_
  intro x17 M18 H locs ls hf hI hl
  try dsimp only at hf
  refine lv_iload_n hx hb dX8_mostOnCurves_56 rfl (lv_at hl 0 rfl) ?_
  exact m_iretf hx hb hr hlk hI hf dX8_mostOnCurves_57
abbrev rmX11_mostAgreeing : Room := { frames := 9, cells := 1, slots := 6, locals := 160 }
theorem kb_X11_mostAgreeing {R : Room} {s : State} {args : Array Value} {own : String} {idx : Nat} (hT : mT s) (hlink : (Cond.methodLink own idx yX11_mostAgreeing).before args s = true) (h1 : rmX11_mostAgreeing.frames + 1 ≤ R.frames) (h2 : 8 + (1 + 11) + rmX11_mostAgreeing.locals ≤ R.locals) : CallB R s args own idx yX11_mostAgreeing cX11_mostAgreeing 1 (some .int) [Cond.code yX11_mostAgreeing cX11_mostAgreeing 1 (some .int)] rmX11_mostAgreeing 1 6 0 := m_callB hT kc_X11_mostAgreeing ki_X11_mostAgreeing hlink (by decide +kernel) ⟨rfl, rfl, h1, h2⟩
set_option maxHeartbeats 4000000 in
set_option maxRecDepth 100000 in
theorem c_X11_mostAgreeing (l : Launch) (w : WD) (hsf : l.stackTraces = false) (sz : Nat)  (M : Mem) (r : (Nat ⊕ Int32)) (M9 : Mem) (hf : f_X11_mostAgreeing  M = some (r, M9)) : mMetx l yX11_mostAgreeing cX11_mostAgreeing 1 (some .int) rmX11_mostAgreeing w sz M [.ref (w.1 12 16)] (moI r) M9 1 6 := by
  refine m_ofx (by decide) (Nat.le_of_ble_eq_true rfl) ?_
  intro p e s m args below meth c hx hb hr hml hown hlk hxt hI ls hl
  have hl : lv_has ls 1 [(0, .ref (w.1 12 16))] := hl
  unfold f_X11_mostAgreeing at hf
  refine lv_aload_n hx hb dX11_mostAgreeing_0 rfl (lv_at hl 0 rfl) ?_
  rcases mbpx_em hf with ⟨n2, hc, hf⟩ | ⟨r1, hc, hf⟩
  · exact m_callxTV (As := []) (rest := []) hx hb hml hown hI (c_X11_requireEnoughKeys l w hsf s.heap.size M _ hc) (kb_X11_requireEnoughKeys hI.T (q533 hI.T) (Nat.le_of_ble_eq_true rfl) (Nat.le_of_ble_eq_true rfl)) (q535 hI.T) (sel_X11_requireEnoughKeys hI.T) (m_recv (g := 12) (i := 16) hI (mokX (by decide) (by decide)) rfl rfl) rfl hl.1 (Nat.le_of_ble_eq_true rfl) dX11_mostAgreeing_1 ⟨Nat.le_of_ble_eq_true rfl, Nat.le_of_ble_eq_true rfl⟩ hxt hlk hf (Nat.le_of_ble_eq_true rfl) (Nat.le_of_ble_eq_true rfl)
  refine m_callxRV (As := []) (rest := []) hx hb hml hown hI (c_X11_requireEnoughKeys l w hsf s.heap.size M _ hc) (kb_X11_requireEnoughKeys hI.T (q533 hI.T) (Nat.le_of_ble_eq_true rfl) (Nat.le_of_ble_eq_true rfl)) (q535 hI.T) (sel_X11_requireEnoughKeys hI.T) (m_recv (g := 12) (i := 16) hI (mokX (by decide) (by decide)) rfl rfl) rfl hl.1 (Nat.le_of_ble_eq_true rfl) dX11_mostAgreeing_1 ⟨Nat.le_of_ble_eq_true rfl, Nat.le_of_ble_eq_true rfl⟩ (fun H locs hI => ?_)
  refine lv_aload_n hx hb dX11_mostAgreeing_4 rfl (lv_at hl 0 rfl) ?_
  refine m_get (g := 12) (i := 16) (ci := 9) (k := 5) (v := .ref (w.1 12 19)) hx hb hI hown (mokX (by decide) (by decide)) rfl rfl (by decide) lyX11 (q299 hI.T) rfl dX11_mostAgreeing_5 ?_
  refine lv_aload_n hx hb dX11_mostAgreeing_8 rfl (lv_at hl 0 rfl) ?_
  refine m_get (g := 12) (i := 16) (ci := 9) (k := 0) (v := .ref (w.1 0 0)) hx hb hI hown (mokX (by decide) (by decide)) rfl rfl (by decide) lyX11 (q294 hI.T) rfl dX11_mostAgreeing_9 ?_
  refine m_get (g := 0) (i := 0) (ci := 8) (k := 0) (v := .ref (w.1 0 1)) hx hb hI hown (mokS (by decide) (by decide)) rfl rfl (by decide) lyX9 (q187 hI.T) rfl dX11_mostAgreeing_12 ?_
  obtain ⟨r3, M4, hc, hf⟩ := mbnd_e hf
  refine m_callV (As := [.ref (w.1 0 1)]) (rest := []) hx hb hml hown hI (c_X8_mostOnCurves l w H.size 0 (by decide) M _ _ hc) (kb_X8_mostOnCurves hI.T (q1455 hI.T) (Nat.le_of_ble_eq_true rfl) (Nat.le_of_ble_eq_true rfl)) (q1456 hI.T) (q1457 hI.T) (m_recv (g := 12) (i := 19) hI (mokX (by decide) (by decide)) rfl rfl) rfl hl.1 (Nat.le_of_ble_eq_true rfl) dX11_mostAgreeing_15 ⟨Nat.le_of_ble_eq_true rfl, Nat.le_of_ble_eq_true rfl⟩ (fun H locs hI => ?_)
  exact m_iretx hx hb hr hlk hI hf dX11_mostAgreeing_18 (Nat.le_of_ble_eq_true rfl) (Nat.le_of_ble_eq_true rfl)
abbrev rmX8_mostInSets : Room := { frames := 3, cells := 0, slots := 0, locals := 75 }
theorem kb_X8_mostInSets {R : Room} {s : State} {args : Array Value} {own : String} {idx : Nat} (hT : mT s) (hlink : (Cond.methodLink own idx yX8_mostInSets).before args s = true) (h1 : rmX8_mostInSets.frames + 1 ≤ R.frames) (h2 : 8 + (5 + 11) + rmX8_mostInSets.locals ≤ R.locals) : CallB R s args own idx yX8_mostInSets cX8_mostInSets 5 (some .int) [Cond.code yX8_mostInSets cX8_mostInSets 5 (some .int)] rmX8_mostInSets 0 0 1 := m_callB hT kc_X8_mostInSets ki_X8_mostInSets hlink (by decide +kernel) ⟨rfl, rfl, h1, h2⟩
set_option maxHeartbeats 4000000 in
set_option maxRecDepth 100000 in
theorem c_X8_mostInSets (l : Launch) (w : WD) (sz : Nat) (g1 : Nat) (hg1 : g1 ≤ 10) (M : Mem) (r : Int32) (M9 : Mem) (hf : f_X8_mostInSets g1 M = some (r, M9)) : mMet l yX8_mostInSets cX8_mostInSets 5 (some .int) rmX8_mostInSets w sz M [.ref (w.1 12 19), .ref (w.1 g1 1)] (some (.int r)) M9 := by
  refine m_of (by decide) (Nat.le_of_ble_eq_true rfl) ?_
  intro p e s m args below meth c hx hb hr hml hown hlk hI ls hl
  have hl : lv_has ls 5 [(0, .ref (w.1 12 19)), (1, .ref (w.1 g1 1))] := hl
  unfold f_X8_mostInSets at hf
  refine lv_iconst (v := 0) hx hb dX8_mostInSets_0 (by decide) ?_
  refine lv_istore_n (lv' := [(2, .int (0 : Int32)), (0, .ref (w.1 12 19)), (1, .ref (w.1 g1 1))]) hx hb dX8_mostInSets_1 rfl hl (by decide) rfl (fun ls hl => ?_)
  refine lv_iconst (v := 1) hx hb dX8_mostInSets_2 (by decide) ?_
  refine lv_istore_n (lv' := [(3, .int (1 : Int32)), (2, .int (0 : Int32)), (0, .ref (w.1 12 19)), (1, .ref (w.1 g1 1))]) hx hb dX8_mostInSets_3 rfl hl (by decide) rfl (fun ls hl => ?_)
  have hL4 : ∀ (n : Nat) (x1 : Int32) (x2 : Int32) (M3 : Mem) (kk : Int32 → Mem → Option (Int32 × Mem)) (H : Heap) (locs : List Loc) (ls : Array Slot), f_X8_mostInSets_L4 g1 n x1 x2 M3 kk = some (r, M9) → mI w s (mA w s.heap.size) H locs M3 → lv_has ls 5 [(0, .ref (w.1 12 19)), (1, .ref (w.1 g1 1)), (2, .int x1), (3, .int x2)] → (∀ (x1 : Int32) (M3 : Mem) (H : Heap) (locs : List Loc) (ls : Array Slot), kk x1 M3 = some (r, M9) → mI w s (mA w s.heap.size) H locs M3 → lv_has ls 5 [(2, .int x1)] → W p l e rmX8_mostInSets s m args below meth c H locs 0 0 (MQ below (mQ w s.heap.size (some (.int r)) M9) args s 0 0 (mA w s.heap.size)) (F0 m 54 ls [])) → W p l e rmX8_mostInSets s m args below meth c H locs 0 0 (MQ below (mQ w s.heap.size (some (.int r)) M9) args s 0 0 (mA w s.heap.size)) (F0 m 4 ls []) := by
    intro n
    induction n with
    | zero => intro x1 x2 M3 kk H locs ls hf hI hl hk; rw [f_X8_mostInSets_L4.eq_1] at hf; cases hf
    | succ n ih4 =>
      intro x1 x2 M3 kk H locs ls hf hI hl hk
      rw [f_X8_mostInSets_L4.eq_2] at hf
      refine lv_iload_n hx hb dX8_mostInSets_4 rfl (lv_at hl 3 rfl) ?_
      refine lv_iconst (v := 1) hx hb dX8_mostInSets_5 (by decide) ?_
      refine lv_aload_n hx hb dX8_mostInSets_6 rfl (lv_at hl 1 rfl) ?_
      refine m_get (g := g1) (i := 1) (ci := 5) (k := 5) (v := .int (M3 g1 1 5)) hx hb hI hown (mokS hg1 (by decide)) rfl rfl (by decide) lyX6 (q70 hI.T) rfl dX8_mostInSets_7 ?_
      refine lv_ishl hx hb dX8_mostInSets_10 ?_
      refine lv_icmp_ge (tgt := 54) hx hb dX8_mostInSets_11 (by decide) (fun c4 => ?_) (fun c4 => ?_)
      · have hf := (if_pos c4).symm.trans hf
        exact hk x1 M3 H _ _ hf hI (lv_sub hl [2] rfl)
      · have hf := (if_neg c4).symm.trans hf
        refine lv_iload_n hx hb dX8_mostInSets_14 rfl (lv_at hl 3 rfl) ?_
        obtain ⟨r5, hc, hf⟩ := mbp_e hf
        refine m_callS (As := [.int x2]) (rest := []) hx hb hml hown hI (c_J6_bitCount_0f7a4 l w H.size x2 M3 _ hc) (kb_J6_bitCount_0f7a4 hI.T (q1459 hI.T) (Nat.le_of_ble_eq_true rfl) (Nat.le_of_ble_eq_true rfl)) (q1404 hI.T) rfl hl.1 (Nat.le_of_ble_eq_true rfl) dX8_mostInSets_15 ⟨Nat.le_of_ble_eq_true rfl, Nat.le_of_ble_eq_true rfl⟩ (fun H locs hI => ?_)
        refine lv_istore (lv' := [(4, .int r5), (0, .ref (w.1 12 19)), (1, .ref (w.1 g1 1)), (2, .int x1), (3, .int x2)]) hx hb dX8_mostInSets_18 hl (by decide) rfl (fun ls hl => ?_)
        refine lv_iload hx hb dX8_mostInSets_20 (lv_at hl 0 rfl) ?_
        refine lv_iload_n hx hb dX8_mostInSets_22 rfl (lv_at hl 3 rfl) ?_
        obtain ⟨k48_13, ek48_13, hf⟩ := mlet_e hf
        have hj48_13 : ∀ (x11 : Int32) (M12 : Mem) (H : Heap) (locs : List Loc) (ls : Array Slot), k48_13 x11 M12 = some (r, M9) → mI w s (mA w s.heap.size) H locs M12 → lv_has ls 5 [(0, .ref (w.1 12 19)), (1, .ref (w.1 g1 1)), (2, .int x11), (3, .int x2)] → W p l e rmX8_mostInSets s m args below meth c H locs 0 0 (MQ below (mQ w s.heap.size (some (.int r)) M9) args s 0 0 (mA w s.heap.size)) (F0 m 48 ls []) := by
          intro x11 M12 H locs ls hf hI hl
          rw [ek48_13] at hf
          try dsimp only at hf
          obtain ⟨x14, ex14, hf⟩ := mlet_e hf
          refine lv_iinc (v := x14) (lv' := [(3, .int x14), (0, .ref (w.1 12 19)), (1, .ref (w.1 g1 1)), (2, .int x11)]) hx hb dX8_mostInSets_48 hl (k := 3) rfl (by rw [ex14]; rfl) (by decide) rfl (fun ls hl => ?_)
          refine lv_goto (tgt := 4) hx hb dX8_mostInSets_51 (by decide) ?_
          exact ih4 x11 x14 M12 kk H _ _ hf hI (lv_sub hl [1, 2, 3, 0] rfl) hk
        refine lv_icmp_le (tgt := 48) hx hb dX8_mostInSets_23 (by decide) (fun c6 => ?_) (fun c6 => ?_)
        · have hf := (if_pos c6).symm.trans hf
          exact hj48_13 x1 M3 H _ _ hf hI (lv_sub hl [1, 2, 3, 4] rfl)
        · have hf := (if_neg c6).symm.trans hf
          refine lv_aload_n hx hb dX8_mostInSets_26 rfl (lv_at hl 1 rfl) ?_
          refine lv_aload_n hx hb dX8_mostInSets_27 rfl (lv_at hl 2 rfl) ?_
          refine lv_iload_n hx hb dX8_mostInSets_28 rfl (lv_at hl 4 rfl) ?_
          obtain ⟨r7, M8, hc, hf⟩ := mbnd_e hf
          refine m_callV (As := [.ref (w.1 g1 1), .int x2]) (rest := []) hx hb hml hown hI (c_X8_choose l w H.size g1 hg1 x2 M3 _ _ hc) (kb_X8_choose hI.T (q1460 hI.T) (Nat.le_of_ble_eq_true rfl) (Nat.le_of_ble_eq_true rfl)) (q1462 hI.T) (sel_X8_choose hI.T) (m_recv (g := 12) (i := 19) hI (mokX (by decide) (by decide)) rfl rfl) rfl hl.1 (Nat.le_of_ble_eq_true rfl) dX8_mostInSets_29 ⟨Nat.le_of_ble_eq_true rfl, Nat.le_of_ble_eq_true rfl⟩ (fun H locs hI => ?_)
          refine lv_aload_n hx hb dX8_mostInSets_32 rfl (lv_at hl 2 rfl) ?_
          refine lv_aload_n hx hb dX8_mostInSets_33 rfl (lv_at hl 1 rfl) ?_
          refine m_get (g := 12) (i := 19) (ci := 7) (k := 2) (v := .ref (w.1 12 25)) hx hb hI hown (mokX (by decide) (by decide)) rfl rfl (by decide) lyX8 (q239 hI.T) rfl dX8_mostInSets_34 ?_
          refine lv_iload hx hb dX8_mostInSets_37 (lv_at hl 0 rfl) ?_
          obtain ⟨r9, hc, hf⟩ := mbp_e hf
          refine m_callV (As := [.ref (w.1 12 25), .int r5]) (rest := []) hx hb hml hown hI (c_X6_isOneCurve l w H.size g1 hg1 12 25 (mokX (by decide) (by decide)) rfl r5 M8 _ hc) (kb_X6_isOneCurve hI.T (q1481 hI.T) (Nat.le_of_ble_eq_true rfl) (Nat.le_of_ble_eq_true rfl)) (q568 hI.T) (q569 hI.T) (m_recv (g := g1) (i := 1) hI (mokS hg1 (by decide)) rfl rfl) rfl hl.1 (Nat.le_of_ble_eq_true rfl) dX8_mostInSets_39 ⟨Nat.le_of_ble_eq_true rfl, Nat.le_of_ble_eq_true rfl⟩ (fun H locs hI => ?_)
          refine lv_if_eq (tgt := 48) hx hb dX8_mostInSets_42 (by decide) (fun c10 => ?_) (fun c10 => ?_)
          · have hf := (if_pos c10).symm.trans hf
            exact hj48_13 x1 M8 H _ _ hf hI (lv_sub hl [1, 2, 3, 4] rfl)
          · have hf := (if_neg c10).symm.trans hf
            refine lv_iload hx hb dX8_mostInSets_45 (lv_at hl 0 rfl) ?_
            refine lv_istore_n (lv' := [(2, .int r5), (4, .int r5), (0, .ref (w.1 12 19)), (1, .ref (w.1 g1 1)), (3, .int x2)]) hx hb dX8_mostInSets_47 rfl hl (by decide) rfl (fun ls hl => ?_)
            exact hj48_13 r5 M8 H _ _ hf hI (lv_sub hl [2, 3, 0, 4] rfl)
  refine hL4 1000 (0 : Int32) (1 : Int32) M _ _ _ _ hf hI (lv_sub hl [2, 3, 1, 0] rfl) ?_
  intro x15 M16 H locs ls hf hI hl
  try dsimp only at hf
  refine lv_iload_n hx hb dX8_mostInSets_54 rfl (lv_at hl 0 rfl) ?_
  exact m_iretf hx hb hr hlk hI hf dX8_mostInSets_55
abbrev rmX11_mostAgreeingBySets : Room := { frames := 9, cells := 1, slots := 6, locals := 160 }
theorem kb_X11_mostAgreeingBySets {R : Room} {s : State} {args : Array Value} {own : String} {idx : Nat} (hT : mT s) (hlink : (Cond.methodLink own idx yX11_mostAgreeingBySets).before args s = true) (h1 : rmX11_mostAgreeingBySets.frames + 1 ≤ R.frames) (h2 : 8 + (1 + 11) + rmX11_mostAgreeingBySets.locals ≤ R.locals) : CallB R s args own idx yX11_mostAgreeingBySets cX11_mostAgreeingBySets 1 (some .int) [Cond.code yX11_mostAgreeingBySets cX11_mostAgreeingBySets 1 (some .int)] rmX11_mostAgreeingBySets 1 6 0 := m_callB hT kc_X11_mostAgreeingBySets ki_X11_mostAgreeingBySets hlink (by decide +kernel) ⟨rfl, rfl, h1, h2⟩
set_option maxHeartbeats 4000000 in
set_option maxRecDepth 100000 in
theorem c_X11_mostAgreeingBySets (l : Launch) (w : WD) (hsf : l.stackTraces = false) (sz : Nat)  (M : Mem) (r : (Nat ⊕ Int32)) (M9 : Mem) (hf : f_X11_mostAgreeingBySets  M = some (r, M9)) : mMetx l yX11_mostAgreeingBySets cX11_mostAgreeingBySets 1 (some .int) rmX11_mostAgreeingBySets w sz M [.ref (w.1 12 16)] (moI r) M9 1 6 := by
  refine m_ofx (by decide) (Nat.le_of_ble_eq_true rfl) ?_
  intro p e s m args below meth c hx hb hr hml hown hlk hxt hI ls hl
  have hl : lv_has ls 1 [(0, .ref (w.1 12 16))] := hl
  unfold f_X11_mostAgreeingBySets at hf
  refine lv_aload_n hx hb dX11_mostAgreeingBySets_0 rfl (lv_at hl 0 rfl) ?_
  rcases mbpx_em hf with ⟨n2, hc, hf⟩ | ⟨r1, hc, hf⟩
  · exact m_callxTV (As := []) (rest := []) hx hb hml hown hI (c_X11_requireEnoughKeys l w hsf s.heap.size M _ hc) (kb_X11_requireEnoughKeys hI.T (q533 hI.T) (Nat.le_of_ble_eq_true rfl) (Nat.le_of_ble_eq_true rfl)) (q535 hI.T) (sel_X11_requireEnoughKeys hI.T) (m_recv (g := 12) (i := 16) hI (mokX (by decide) (by decide)) rfl rfl) rfl hl.1 (Nat.le_of_ble_eq_true rfl) dX11_mostAgreeingBySets_1 ⟨Nat.le_of_ble_eq_true rfl, Nat.le_of_ble_eq_true rfl⟩ hxt hlk hf (Nat.le_of_ble_eq_true rfl) (Nat.le_of_ble_eq_true rfl)
  refine m_callxRV (As := []) (rest := []) hx hb hml hown hI (c_X11_requireEnoughKeys l w hsf s.heap.size M _ hc) (kb_X11_requireEnoughKeys hI.T (q533 hI.T) (Nat.le_of_ble_eq_true rfl) (Nat.le_of_ble_eq_true rfl)) (q535 hI.T) (sel_X11_requireEnoughKeys hI.T) (m_recv (g := 12) (i := 16) hI (mokX (by decide) (by decide)) rfl rfl) rfl hl.1 (Nat.le_of_ble_eq_true rfl) dX11_mostAgreeingBySets_1 ⟨Nat.le_of_ble_eq_true rfl, Nat.le_of_ble_eq_true rfl⟩ (fun H locs hI => ?_)
  refine lv_aload_n hx hb dX11_mostAgreeingBySets_4 rfl (lv_at hl 0 rfl) ?_
  refine m_get (g := 12) (i := 16) (ci := 9) (k := 5) (v := .ref (w.1 12 19)) hx hb hI hown (mokX (by decide) (by decide)) rfl rfl (by decide) lyX11 (q299 hI.T) rfl dX11_mostAgreeingBySets_5 ?_
  refine lv_aload_n hx hb dX11_mostAgreeingBySets_8 rfl (lv_at hl 0 rfl) ?_
  refine m_get (g := 12) (i := 16) (ci := 9) (k := 0) (v := .ref (w.1 0 0)) hx hb hI hown (mokX (by decide) (by decide)) rfl rfl (by decide) lyX11 (q294 hI.T) rfl dX11_mostAgreeingBySets_9 ?_
  refine m_get (g := 0) (i := 0) (ci := 8) (k := 0) (v := .ref (w.1 0 1)) hx hb hI hown (mokS (by decide) (by decide)) rfl rfl (by decide) lyX9 (q187 hI.T) rfl dX11_mostAgreeingBySets_12 ?_
  obtain ⟨r3, M4, hc, hf⟩ := mbnd_e hf
  refine m_callV (As := [.ref (w.1 0 1)]) (rest := []) hx hb hml hown hI (c_X8_mostInSets l w H.size 0 (by decide) M _ _ hc) (kb_X8_mostInSets hI.T (q1477 hI.T) (Nat.le_of_ble_eq_true rfl) (Nat.le_of_ble_eq_true rfl)) (q1478 hI.T) (q1479 hI.T) (m_recv (g := 12) (i := 19) hI (mokX (by decide) (by decide)) rfl rfl) rfl hl.1 (Nat.le_of_ble_eq_true rfl) dX11_mostAgreeingBySets_15 ⟨Nat.le_of_ble_eq_true rfl, Nat.le_of_ble_eq_true rfl⟩ (fun H locs hI => ?_)
  exact m_iretx hx hb hr hlk hI hf dX11_mostAgreeingBySets_18 (Nat.le_of_ble_eq_true rfl) (Nat.le_of_ble_eq_true rfl)
abbrev rmX11_isOpen : Room := { frames := 0, cells := 0, slots := 0, locals := 0 }
theorem kb_X11_isOpen {R : Room} {s : State} {args : Array Value} {own : String} {idx : Nat} (hT : mT s) (hlink : (Cond.methodLink own idx yX11_isOpen).before args s = true) (h1 : rmX11_isOpen.frames + 1 ≤ R.frames) (h2 : 8 + (1 + 11) + rmX11_isOpen.locals ≤ R.locals) : CallB R s args own idx yX11_isOpen cX11_isOpen 1 (some .boolean) [Cond.code yX11_isOpen cX11_isOpen 1 (some .boolean)] rmX11_isOpen 0 0 0 := m_callB hT kc_X11_isOpen ki_X11_isOpen hlink (by decide +kernel) ⟨rfl, rfl, h1, h2⟩
set_option maxHeartbeats 4000000 in
set_option maxRecDepth 100000 in
theorem c_X11_isOpen (l : Launch) (w : WD) (sz : Nat)  (M : Mem) (r : Int32) (hf : f_X11_isOpen  M = some r) : mMet l yX11_isOpen cX11_isOpen 1 (some .boolean) rmX11_isOpen w sz M [.ref (w.1 12 16)] (some (.int r)) M := by
  refine m_of (by decide) (Nat.le_of_ble_eq_true rfl) ?_
  intro p e s m args below meth c hx hb hr hml hown hlk hI ls hl
  have hl : lv_has ls 1 [(0, .ref (w.1 12 16))] := hl
  unfold f_X11_isOpen at hf
  refine lv_aload_n hx hb dX11_isOpen_0 rfl (lv_at hl 0 rfl) ?_
  refine m_get (g := 12) (i := 16) (ci := 9) (k := 0) (v := .ref (w.1 0 0)) hx hb hI hown (mokX (by decide) (by decide)) rfl rfl (by decide) lyX11 (q294 hI.T) rfl dX11_isOpen_1 ?_
  refine m_get (g := 0) (i := 0) (ci := 8) (k := 1) (v := .ref (w.1 0 5)) hx hb hI hown (mokS (by decide) (by decide)) rfl rfl (by decide) lyX9 (q189 hI.T) rfl dX11_isOpen_4 ?_
  refine m_get (g := 0) (i := 5) (ci := 2) (k := 0) (v := .int (M 0 5 0)) hx hb hI hown (mokS (by decide) (by decide)) rfl rfl (by decide) lyX3 (q100 hI.T) rfl dX11_isOpen_7 ?_
  obtain ⟨hz, hf⟩ := mnz_e hf
  exact m_zretp hx hb hr hlk hI (mnz_n hz) hf dX11_isOpen_10
abbrev rmX11_lockedHours : Room := { frames := 0, cells := 0, slots := 0, locals := 0 }
theorem kb_X11_lockedHours {R : Room} {s : State} {args : Array Value} {own : String} {idx : Nat} (hT : mT s) (hlink : (Cond.methodLink own idx yX11_lockedHours).before args s = true) (h1 : rmX11_lockedHours.frames + 1 ≤ R.frames) (h2 : 8 + (1 + 11) + rmX11_lockedHours.locals ≤ R.locals) : CallB R s args own idx yX11_lockedHours cX11_lockedHours 1 (some .int) [Cond.code yX11_lockedHours cX11_lockedHours 1 (some .int)] rmX11_lockedHours 0 0 0 := m_callB hT kc_X11_lockedHours ki_X11_lockedHours hlink (by decide +kernel) ⟨rfl, rfl, h1, h2⟩
set_option maxHeartbeats 4000000 in
set_option maxRecDepth 100000 in
theorem c_X11_lockedHours (l : Launch) (w : WD) (sz : Nat)  (M : Mem) (r : Int32) (hf : f_X11_lockedHours  M = some r) : mMet l yX11_lockedHours cX11_lockedHours 1 (some .int) rmX11_lockedHours w sz M [.ref (w.1 12 16)] (some (.int r)) M := by
  refine m_of (by decide) (Nat.le_of_ble_eq_true rfl) ?_
  intro p e s m args below meth c hx hb hr hml hown hlk hI ls hl
  have hl : lv_has ls 1 [(0, .ref (w.1 12 16))] := hl
  unfold f_X11_lockedHours at hf
  refine lv_aload_n hx hb dX11_lockedHours_0 rfl (lv_at hl 0 rfl) ?_
  refine m_get (g := 12) (i := 16) (ci := 9) (k := 0) (v := .ref (w.1 0 0)) hx hb hI hown (mokX (by decide) (by decide)) rfl rfl (by decide) lyX11 (q294 hI.T) rfl dX11_lockedHours_1 ?_
  refine m_get (g := 0) (i := 0) (ci := 8) (k := 1) (v := .ref (w.1 0 5)) hx hb hI hown (mokS (by decide) (by decide)) rfl rfl (by decide) lyX9 (q189 hI.T) rfl dX11_lockedHours_4 ?_
  refine m_get (g := 0) (i := 5) (ci := 2) (k := 1) (v := .int (M 0 5 1)) hx hb hI hown (mokS (by decide) (by decide)) rfl rfl (by decide) lyX3 (q103 hI.T) rfl dX11_lockedHours_7 ?_
  exact m_iretp hx hb hr hlk hI hf dX11_lockedHours_10
abbrev rmX11_failedAttempts : Room := { frames := 0, cells := 0, slots := 0, locals := 0 }
theorem kb_X11_failedAttempts {R : Room} {s : State} {args : Array Value} {own : String} {idx : Nat} (hT : mT s) (hlink : (Cond.methodLink own idx yX11_failedAttempts).before args s = true) (h1 : rmX11_failedAttempts.frames + 1 ≤ R.frames) (h2 : 8 + (1 + 11) + rmX11_failedAttempts.locals ≤ R.locals) : CallB R s args own idx yX11_failedAttempts cX11_failedAttempts 1 (some .int) [Cond.code yX11_failedAttempts cX11_failedAttempts 1 (some .int)] rmX11_failedAttempts 0 0 0 := m_callB hT kc_X11_failedAttempts ki_X11_failedAttempts hlink (by decide +kernel) ⟨rfl, rfl, h1, h2⟩
set_option maxHeartbeats 4000000 in
set_option maxRecDepth 100000 in
theorem c_X11_failedAttempts (l : Launch) (w : WD) (sz : Nat)  (M : Mem) (r : Int32) (hf : f_X11_failedAttempts  M = some r) : mMet l yX11_failedAttempts cX11_failedAttempts 1 (some .int) rmX11_failedAttempts w sz M [.ref (w.1 12 16)] (some (.int r)) M := by
  refine m_of (by decide) (Nat.le_of_ble_eq_true rfl) ?_
  intro p e s m args below meth c hx hb hr hml hown hlk hI ls hl
  have hl : lv_has ls 1 [(0, .ref (w.1 12 16))] := hl
  unfold f_X11_failedAttempts at hf
  refine lv_aload_n hx hb dX11_failedAttempts_0 rfl (lv_at hl 0 rfl) ?_
  refine m_get (g := 12) (i := 16) (ci := 9) (k := 0) (v := .ref (w.1 0 0)) hx hb hI hown (mokX (by decide) (by decide)) rfl rfl (by decide) lyX11 (q294 hI.T) rfl dX11_failedAttempts_1 ?_
  refine m_get (g := 0) (i := 0) (ci := 8) (k := 1) (v := .ref (w.1 0 5)) hx hb hI hown (mokS (by decide) (by decide)) rfl rfl (by decide) lyX9 (q189 hI.T) rfl dX11_failedAttempts_4 ?_
  refine m_get (g := 0) (i := 5) (ci := 2) (k := 2) (v := .int (M 0 5 2)) hx hb hI hown (mokS (by decide) (by decide)) rfl rfl (by decide) lyX3 (q106 hI.T) rfl dX11_failedAttempts_7 ?_
  exact m_iretp hx hb hr hlk hI hf dX11_failedAttempts_10
abbrev rmX11_guardCount : Room := { frames := 0, cells := 0, slots := 0, locals := 0 }
theorem kb_X11_guardCount {R : Room} {s : State} {args : Array Value} {own : String} {idx : Nat} (hT : mT s) (hlink : (Cond.methodLink own idx yX11_guardCount).before args s = true) (h1 : rmX11_guardCount.frames + 1 ≤ R.frames) (h2 : 8 + (1 + 11) + rmX11_guardCount.locals ≤ R.locals) : CallB R s args own idx yX11_guardCount cX11_guardCount 1 (some .int) [Cond.code yX11_guardCount cX11_guardCount 1 (some .int)] rmX11_guardCount 0 0 0 := m_callB hT kc_X11_guardCount ki_X11_guardCount hlink (by decide +kernel) ⟨rfl, rfl, h1, h2⟩
set_option maxHeartbeats 4000000 in
set_option maxRecDepth 100000 in
theorem c_X11_guardCount (l : Launch) (w : WD) (sz : Nat)  (M : Mem) (r : Int32) (hf : f_X11_guardCount  M = some r) : mMet l yX11_guardCount cX11_guardCount 1 (some .int) rmX11_guardCount w sz M [.ref (w.1 12 16)] (some (.int r)) M := by
  refine m_of (by decide) (Nat.le_of_ble_eq_true rfl) ?_
  intro p e s m args below meth c hx hb hr hml hown hlk hI ls hl
  have hl : lv_has ls 1 [(0, .ref (w.1 12 16))] := hl
  unfold f_X11_guardCount at hf
  refine lv_aload_n hx hb dX11_guardCount_0 rfl (lv_at hl 0 rfl) ?_
  refine m_get (g := 12) (i := 16) (ci := 9) (k := 0) (v := .ref (w.1 0 0)) hx hb hI hown (mokX (by decide) (by decide)) rfl rfl (by decide) lyX11 (q294 hI.T) rfl dX11_guardCount_1 ?_
  refine m_get (g := 0) (i := 0) (ci := 8) (k := 2) (v := .ref (w.1 0 6)) hx hb hI hown (mokS (by decide) (by decide)) rfl rfl (by decide) lyX9 (q191 hI.T) rfl dX11_guardCount_4 ?_
  refine m_get (g := 0) (i := 6) (ci := 0) (k := 4) (v := .int (M 0 6 4)) hx hb hI hown (mokS (by decide) (by decide)) rfl rfl (by decide) lyX1 (q137 hI.T) rfl dX11_guardCount_7 ?_
  exact m_iretp hx hb hr hlk hI hf dX11_guardCount_10
abbrev rmX11_requireGuard : Room := { frames := 8, cells := 1, slots := 6, locals := 140 }
theorem kb_X11_requireGuard {R : Room} {s : State} {args : Array Value} {own : String} {idx : Nat} (hT : mT s) (hlink : (Cond.methodLink own idx yX11_requireGuard).before args s = true) (h1 : rmX11_requireGuard.frames + 1 ≤ R.frames) (h2 : 8 + (2 + 11) + rmX11_requireGuard.locals ≤ R.locals) : CallB R s args own idx yX11_requireGuard cX11_requireGuard 2 (none) [Cond.code yX11_requireGuard cX11_requireGuard 2 (none)] rmX11_requireGuard 1 6 1 := m_callB hT kc_X11_requireGuard ki_X11_requireGuard hlink (by decide +kernel) ⟨rfl, rfl, h1, h2⟩
set_option maxHeartbeats 4000000 in
set_option maxRecDepth 100000 in
theorem c_X11_requireGuard (l : Launch) (w : WD) (hsf : l.stackTraces = false) (sz : Nat) (a1 : Int32) (M : Mem) (r : (Nat ⊕ Unit)) (hf : f_X11_requireGuard a1 M = some r) : mMetx l yX11_requireGuard cX11_requireGuard 2 (none) rmX11_requireGuard w sz M [.ref (w.1 12 16), .int a1] (moU r) M 1 6 := by
  refine m_ofx (by decide) (Nat.le_of_ble_eq_true rfl) ?_
  intro p e s m args below meth c hx hb hr hml hown hlk hxt hI ls hl
  have hl : lv_has ls 2 [(0, .ref (w.1 12 16)), (1, .int a1)] := hl
  unfold f_X11_requireGuard at hf
  refine lv_aload_n hx hb dX11_requireGuard_0 rfl (lv_at hl 0 rfl) ?_
  refine m_get (g := 12) (i := 16) (ci := 9) (k := 0) (v := .ref (w.1 0 0)) hx hb hI hown (mokX (by decide) (by decide)) rfl rfl (by decide) lyX11 (q294 hI.T) rfl dX11_requireGuard_1 ?_
  refine m_get (g := 0) (i := 0) (ci := 8) (k := 2) (v := .ref (w.1 0 6)) hx hb hI hown (mokS (by decide) (by decide)) rfl rfl (by decide) lyX9 (q191 hI.T) rfl dX11_requireGuard_4 ?_
  refine lv_iload_n hx hb dX11_requireGuard_7 rfl (lv_at hl 1 rfl) ?_
  obtain ⟨r1, hc, hf⟩ := mbp_e hf
  refine m_callV (As := [.int a1]) (rest := []) hx hb hml hown hI (c_X1_hasGuard l w s.heap.size 0 (by decide) a1 M _ hc) (kb_X1_hasGuard hI.T (q691 hI.T) (Nat.le_of_ble_eq_true rfl) (Nat.le_of_ble_eq_true rfl)) (q692 hI.T) (q693 hI.T) (m_recv (g := 0) (i := 6) hI (mokS (by decide) (by decide)) rfl rfl) rfl hl.1 (Nat.le_of_ble_eq_true rfl) dX11_requireGuard_8 ⟨Nat.le_of_ble_eq_true rfl, Nat.le_of_ble_eq_true rfl⟩ (fun H locs hI => ?_)
  refine lv_if_ne (tgt := 25) hx hb dX11_requireGuard_11 (by decide) (fun c2 => ?_) (fun c2 => ?_)
  · have hf := (if_neg c2).symm.trans hf
    exact m_vretxp hx hb hr hlk hI hf dX11_requireGuard_25 (Nat.le_of_ble_eq_true rfl) (Nat.le_of_ble_eq_true rfl)
  · have hf := (if_pos c2).symm.trans hf
    exact m_throwWp (n := 1) (ix := 14) hx hb hsf hown hI rfl (q501 hI.T) (q15 hI.T) (m_thw_1_X11_378 hI) hl.1 hml dX11_requireGuard_14 dX11_requireGuard_17 dX11_requireGuard_18 dX11_requireGuard_21 dX11_requireGuard_24 hxt (Nat.le_of_ble_eq_true rfl) (Nat.le_of_ble_eq_true rfl) (Nat.le_of_ble_eq_true rfl) (Nat.le_of_ble_eq_true rfl) hlk hf (Nat.le_of_ble_eq_true rfl) (Nat.le_of_ble_eq_true rfl)
abbrev rmX11_zoneOf : Room := { frames := 9, cells := 1, slots := 6, locals := 161 }
theorem kb_X11_zoneOf {R : Room} {s : State} {args : Array Value} {own : String} {idx : Nat} (hT : mT s) (hlink : (Cond.methodLink own idx yX11_zoneOf).before args s = true) (h1 : rmX11_zoneOf.frames + 1 ≤ R.frames) (h2 : 8 + (2 + 11) + rmX11_zoneOf.locals ≤ R.locals) : CallB R s args own idx yX11_zoneOf cX11_zoneOf 2 (some .int) [Cond.code yX11_zoneOf cX11_zoneOf 2 (some .int)] rmX11_zoneOf 1 6 1 := m_callB hT kc_X11_zoneOf ki_X11_zoneOf hlink (by decide +kernel) ⟨rfl, rfl, h1, h2⟩
set_option maxHeartbeats 4000000 in
set_option maxRecDepth 100000 in
theorem c_X11_zoneOf (l : Launch) (w : WD) (hsf : l.stackTraces = false) (sz : Nat) (a1 : Int32) (M : Mem) (r : (Nat ⊕ Int32)) (hf : f_X11_zoneOf a1 M = some r) : mMetx l yX11_zoneOf cX11_zoneOf 2 (some .int) rmX11_zoneOf w sz M [.ref (w.1 12 16), .int a1] (moI r) M 1 6 := by
  refine m_ofx (by decide) (Nat.le_of_ble_eq_true rfl) ?_
  intro p e s m args below meth c hx hb hr hml hown hlk hxt hI ls hl
  have hl : lv_has ls 2 [(0, .ref (w.1 12 16)), (1, .int a1)] := hl
  unfold f_X11_zoneOf at hf
  refine lv_aload_n hx hb dX11_zoneOf_0 rfl (lv_at hl 0 rfl) ?_
  refine lv_iload_n hx hb dX11_zoneOf_1 rfl (lv_at hl 1 rfl) ?_
  rcases mbpx_e hf with ⟨n2, hc, hf⟩ | ⟨r1, hc, hf⟩
  · exact m_callxTVp (As := [.int a1]) (rest := []) hx hb hml hown hI (c_X11_requireGuard l w hsf s.heap.size a1 M _ hc) (kb_X11_requireGuard hI.T (q687 hI.T) (Nat.le_of_ble_eq_true rfl) (Nat.le_of_ble_eq_true rfl)) (q689 hI.T) (sel_X11_requireGuard hI.T) (m_recv (g := 12) (i := 16) hI (mokX (by decide) (by decide)) rfl rfl) rfl hl.1 (Nat.le_of_ble_eq_true rfl) dX11_zoneOf_2 ⟨Nat.le_of_ble_eq_true rfl, Nat.le_of_ble_eq_true rfl⟩ hxt hlk hf (Nat.le_of_ble_eq_true rfl) (Nat.le_of_ble_eq_true rfl)
  refine m_callxRV (As := [.int a1]) (rest := []) hx hb hml hown hI (c_X11_requireGuard l w hsf s.heap.size a1 M _ hc) (kb_X11_requireGuard hI.T (q687 hI.T) (Nat.le_of_ble_eq_true rfl) (Nat.le_of_ble_eq_true rfl)) (q689 hI.T) (sel_X11_requireGuard hI.T) (m_recv (g := 12) (i := 16) hI (mokX (by decide) (by decide)) rfl rfl) rfl hl.1 (Nat.le_of_ble_eq_true rfl) dX11_zoneOf_2 ⟨Nat.le_of_ble_eq_true rfl, Nat.le_of_ble_eq_true rfl⟩ (fun H locs hI => ?_)
  refine lv_aload_n hx hb dX11_zoneOf_5 rfl (lv_at hl 0 rfl) ?_
  refine m_get (g := 12) (i := 16) (ci := 9) (k := 0) (v := .ref (w.1 0 0)) hx hb hI hown (mokX (by decide) (by decide)) rfl rfl (by decide) lyX11 (q294 hI.T) rfl dX11_zoneOf_6 ?_
  refine m_get (g := 0) (i := 0) (ci := 8) (k := 2) (v := .ref (w.1 0 6)) hx hb hI hown (mokS (by decide) (by decide)) rfl rfl (by decide) lyX9 (q191 hI.T) rfl dX11_zoneOf_9 ?_
  refine m_get (g := 0) (i := 6) (ci := 0) (k := 5) (v := .ref (w.1 0 9)) hx hb hI hown (mokS (by decide) (by decide)) rfl rfl (by decide) lyX1 (q139 hI.T) rfl dX11_zoneOf_12 ?_
  refine lv_iload_n hx hb dX11_zoneOf_15 rfl (lv_at hl 1 rfl) ?_
  obtain ⟨hi, hf⟩ := mix_e hf
  refine m_iald (g := 0) (i := 9) hx hb hI (mokS (by decide) (by decide)) rfl hi dX11_zoneOf_16 ?_
  exact m_iretxp hx hb hr hlk hI hf dX11_zoneOf_17 (Nat.le_of_ble_eq_true rfl) (Nat.le_of_ble_eq_true rfl)
abbrev rmX11_isForwards : Room := { frames := 9, cells := 1, slots := 6, locals := 161 }
theorem kb_X11_isForwards {R : Room} {s : State} {args : Array Value} {own : String} {idx : Nat} (hT : mT s) (hlink : (Cond.methodLink own idx yX11_isForwards).before args s = true) (h1 : rmX11_isForwards.frames + 1 ≤ R.frames) (h2 : 8 + (2 + 11) + rmX11_isForwards.locals ≤ R.locals) : CallB R s args own idx yX11_isForwards cX11_isForwards 2 (some .boolean) [Cond.code yX11_isForwards cX11_isForwards 2 (some .boolean)] rmX11_isForwards 1 6 1 := m_callB hT kc_X11_isForwards ki_X11_isForwards hlink (by decide +kernel) ⟨rfl, rfl, h1, h2⟩
set_option maxHeartbeats 4000000 in
set_option maxRecDepth 100000 in
theorem c_X11_isForwards (l : Launch) (w : WD) (hsf : l.stackTraces = false) (sz : Nat) (a1 : Int32) (M : Mem) (r : (Nat ⊕ Int32)) (hf : f_X11_isForwards a1 M = some r) : mMetx l yX11_isForwards cX11_isForwards 2 (some .boolean) rmX11_isForwards w sz M [.ref (w.1 12 16), .int a1] (moI r) M 1 6 := by
  refine m_ofx (by decide) (Nat.le_of_ble_eq_true rfl) ?_
  intro p e s m args below meth c hx hb hr hml hown hlk hxt hI ls hl
  have hl : lv_has ls 2 [(0, .ref (w.1 12 16)), (1, .int a1)] := hl
  unfold f_X11_isForwards at hf
  refine lv_aload_n hx hb dX11_isForwards_0 rfl (lv_at hl 0 rfl) ?_
  refine lv_iload_n hx hb dX11_isForwards_1 rfl (lv_at hl 1 rfl) ?_
  rcases mbpx_e hf with ⟨n2, hc, hf⟩ | ⟨r1, hc, hf⟩
  · exact m_callxTVp (As := [.int a1]) (rest := []) hx hb hml hown hI (c_X11_requireGuard l w hsf s.heap.size a1 M _ hc) (kb_X11_requireGuard hI.T (q687 hI.T) (Nat.le_of_ble_eq_true rfl) (Nat.le_of_ble_eq_true rfl)) (q689 hI.T) (sel_X11_requireGuard hI.T) (m_recv (g := 12) (i := 16) hI (mokX (by decide) (by decide)) rfl rfl) rfl hl.1 (Nat.le_of_ble_eq_true rfl) dX11_isForwards_2 ⟨Nat.le_of_ble_eq_true rfl, Nat.le_of_ble_eq_true rfl⟩ hxt hlk hf (Nat.le_of_ble_eq_true rfl) (Nat.le_of_ble_eq_true rfl)
  refine m_callxRV (As := [.int a1]) (rest := []) hx hb hml hown hI (c_X11_requireGuard l w hsf s.heap.size a1 M _ hc) (kb_X11_requireGuard hI.T (q687 hI.T) (Nat.le_of_ble_eq_true rfl) (Nat.le_of_ble_eq_true rfl)) (q689 hI.T) (sel_X11_requireGuard hI.T) (m_recv (g := 12) (i := 16) hI (mokX (by decide) (by decide)) rfl rfl) rfl hl.1 (Nat.le_of_ble_eq_true rfl) dX11_isForwards_2 ⟨Nat.le_of_ble_eq_true rfl, Nat.le_of_ble_eq_true rfl⟩ (fun H locs hI => ?_)
  refine lv_aload_n hx hb dX11_isForwards_5 rfl (lv_at hl 0 rfl) ?_
  refine m_get (g := 12) (i := 16) (ci := 9) (k := 0) (v := .ref (w.1 0 0)) hx hb hI hown (mokX (by decide) (by decide)) rfl rfl (by decide) lyX11 (q294 hI.T) rfl dX11_isForwards_6 ?_
  refine m_get (g := 0) (i := 0) (ci := 8) (k := 2) (v := .ref (w.1 0 6)) hx hb hI hown (mokS (by decide) (by decide)) rfl rfl (by decide) lyX9 (q191 hI.T) rfl dX11_isForwards_9 ?_
  refine m_get (g := 0) (i := 6) (ci := 0) (k := 6) (v := .ref (w.1 0 10)) hx hb hI hown (mokS (by decide) (by decide)) rfl rfl (by decide) lyX1 (q142 hI.T) rfl dX11_isForwards_12 ?_
  refine lv_iload_n hx hb dX11_isForwards_15 rfl (lv_at hl 1 rfl) ?_
  obtain ⟨hi, hf⟩ := mix_e hf
  refine m_zald (g := 0) hx hb hI (mokS (by decide) (by decide)) hi dX11_isForwards_16 ?_
  obtain ⟨hz, hf⟩ := mnz_e hf
  exact m_zretxp hx hb hr hlk hI (mnz_n hz) hf dX11_isForwards_17 (Nat.le_of_ble_eq_true rfl) (Nat.le_of_ble_eq_true rfl)
abbrev rmX11_requireZone : Room := { frames := 8, cells := 1, slots := 6, locals := 140 }
theorem kb_X11_requireZone {R : Room} {s : State} {args : Array Value} {own : String} {idx : Nat} (hT : mT s) (hlink : (Cond.methodLink own idx yX11_requireZone).before args s = true) (h1 : rmX11_requireZone.frames + 1 ≤ R.frames) (h2 : 8 + (2 + 11) + rmX11_requireZone.locals ≤ R.locals) : CallB R s args own idx yX11_requireZone cX11_requireZone 2 (none) [Cond.code yX11_requireZone cX11_requireZone 2 (none)] rmX11_requireZone 1 6 1 := m_callB hT kc_X11_requireZone ki_X11_requireZone hlink (by decide +kernel) ⟨rfl, rfl, h1, h2⟩
set_option maxHeartbeats 4000000 in
set_option maxRecDepth 100000 in
theorem c_X11_requireZone (l : Launch) (w : WD) (hsf : l.stackTraces = false) (sz : Nat) (a1 : Int32) (M : Mem) (r : (Nat ⊕ Unit)) (hf : f_X11_requireZone a1 M = some r) : mMetx l yX11_requireZone cX11_requireZone 2 (none) rmX11_requireZone w sz M [.ref (w.1 12 16), .int a1] (moU r) M 1 6 := by
  refine m_ofx (by decide) (Nat.le_of_ble_eq_true rfl) ?_
  intro p e s m args below meth c hx hb hr hml hown hlk hxt hI ls hl
  have hl : lv_has ls 2 [(0, .ref (w.1 12 16)), (1, .int a1)] := hl
  unfold f_X11_requireZone at hf
  refine lv_iload_n hx hb dX11_requireZone_0 rfl (lv_at hl 1 rfl) ?_
  obtain ⟨r1, hc, hf⟩ := mbp_e hf
  refine m_callS (As := [.int a1]) (rest := []) hx hb hml hown hI (c_X1_hasZone l w s.heap.size a1 M _ hc) (kb_X1_hasZone hI.T (q586 hI.T) (Nat.le_of_ble_eq_true rfl) (Nat.le_of_ble_eq_true rfl)) (q587 hI.T) rfl hl.1 (Nat.le_of_ble_eq_true rfl) dX11_requireZone_1 ⟨Nat.le_of_ble_eq_true rfl, Nat.le_of_ble_eq_true rfl⟩ (fun H locs hI => ?_)
  refine lv_if_ne (tgt := 18) hx hb dX11_requireZone_4 (by decide) (fun c2 => ?_) (fun c2 => ?_)
  · have hf := (if_neg c2).symm.trans hf
    exact m_vretxp hx hb hr hlk hI hf dX11_requireZone_18 (Nat.le_of_ble_eq_true rfl) (Nat.le_of_ble_eq_true rfl)
  · have hf := (if_pos c2).symm.trans hf
    exact m_throwWp (n := 2) (ix := 16) hx hb hsf hown hI rfl (q589 hI.T) (q18 hI.T) (m_thw_2_X11_175 hI) hl.1 hml dX11_requireZone_7 dX11_requireZone_10 dX11_requireZone_11 dX11_requireZone_14 dX11_requireZone_17 hxt (Nat.le_of_ble_eq_true rfl) (Nat.le_of_ble_eq_true rfl) (Nat.le_of_ble_eq_true rfl) (Nat.le_of_ble_eq_true rfl) hlk hf (Nat.le_of_ble_eq_true rfl) (Nat.le_of_ble_eq_true rfl)
abbrev rmX11_noise : Room := { frames := 9, cells := 1, slots := 6, locals := 161 }
theorem kb_X11_noise {R : Room} {s : State} {args : Array Value} {own : String} {idx : Nat} (hT : mT s) (hlink : (Cond.methodLink own idx yX11_noise).before args s = true) (h1 : rmX11_noise.frames + 1 ≤ R.frames) (h2 : 8 + (2 + 11) + rmX11_noise.locals ≤ R.locals) : CallB R s args own idx yX11_noise cX11_noise 2 (some .int) [Cond.code yX11_noise cX11_noise 2 (some .int)] rmX11_noise 1 6 1 := m_callB hT kc_X11_noise ki_X11_noise hlink (by decide +kernel) ⟨rfl, rfl, h1, h2⟩
set_option maxHeartbeats 4000000 in
set_option maxRecDepth 100000 in
theorem c_X11_noise (l : Launch) (w : WD) (hsf : l.stackTraces = false) (sz : Nat) (a1 : Int32) (M : Mem) (r : (Nat ⊕ Int32)) (hf : f_X11_noise a1 M = some r) : mMetx l yX11_noise cX11_noise 2 (some .int) rmX11_noise w sz M [.ref (w.1 12 16), .int a1] (moI r) M 1 6 := by
  refine m_ofx (by decide) (Nat.le_of_ble_eq_true rfl) ?_
  intro p e s m args below meth c hx hb hr hml hown hlk hxt hI ls hl
  have hl : lv_has ls 2 [(0, .ref (w.1 12 16)), (1, .int a1)] := hl
  unfold f_X11_noise at hf
  refine lv_aload_n hx hb dX11_noise_0 rfl (lv_at hl 0 rfl) ?_
  refine lv_iload_n hx hb dX11_noise_1 rfl (lv_at hl 1 rfl) ?_
  rcases mbpx_e hf with ⟨n2, hc, hf⟩ | ⟨r1, hc, hf⟩
  · exact m_callxTVp (As := [.int a1]) (rest := []) hx hb hml hown hI (c_X11_requireZone l w hsf s.heap.size a1 M _ hc) (kb_X11_requireZone hI.T (q582 hI.T) (Nat.le_of_ble_eq_true rfl) (Nat.le_of_ble_eq_true rfl)) (q584 hI.T) (sel_X11_requireZone hI.T) (m_recv (g := 12) (i := 16) hI (mokX (by decide) (by decide)) rfl rfl) rfl hl.1 (Nat.le_of_ble_eq_true rfl) dX11_noise_2 ⟨Nat.le_of_ble_eq_true rfl, Nat.le_of_ble_eq_true rfl⟩ hxt hlk hf (Nat.le_of_ble_eq_true rfl) (Nat.le_of_ble_eq_true rfl)
  refine m_callxRV (As := [.int a1]) (rest := []) hx hb hml hown hI (c_X11_requireZone l w hsf s.heap.size a1 M _ hc) (kb_X11_requireZone hI.T (q582 hI.T) (Nat.le_of_ble_eq_true rfl) (Nat.le_of_ble_eq_true rfl)) (q584 hI.T) (sel_X11_requireZone hI.T) (m_recv (g := 12) (i := 16) hI (mokX (by decide) (by decide)) rfl rfl) rfl hl.1 (Nat.le_of_ble_eq_true rfl) dX11_noise_2 ⟨Nat.le_of_ble_eq_true rfl, Nat.le_of_ble_eq_true rfl⟩ (fun H locs hI => ?_)
  refine lv_aload_n hx hb dX11_noise_5 rfl (lv_at hl 0 rfl) ?_
  refine m_get (g := 12) (i := 16) (ci := 9) (k := 0) (v := .ref (w.1 0 0)) hx hb hI hown (mokX (by decide) (by decide)) rfl rfl (by decide) lyX11 (q294 hI.T) rfl dX11_noise_6 ?_
  refine m_get (g := 0) (i := 0) (ci := 8) (k := 2) (v := .ref (w.1 0 6)) hx hb hI hown (mokS (by decide) (by decide)) rfl rfl (by decide) lyX9 (q191 hI.T) rfl dX11_noise_9 ?_
  refine m_get (g := 0) (i := 6) (ci := 0) (k := 1) (v := .ref (w.1 0 7)) hx hb hI hown (mokS (by decide) (by decide)) rfl rfl (by decide) lyX1 (q129 hI.T) rfl dX11_noise_12 ?_
  refine lv_iload_n hx hb dX11_noise_15 rfl (lv_at hl 1 rfl) ?_
  obtain ⟨hi, hf⟩ := mix_e hf
  refine m_iald (g := 0) (i := 7) hx hb hI (mokS (by decide) (by decide)) rfl hi dX11_noise_16 ?_
  exact m_iretxp hx hb hr hlk hI hf dX11_noise_17 (Nat.le_of_ble_eq_true rfl) (Nat.le_of_ble_eq_true rfl)
abbrev rmX11_isGuarded : Room := { frames := 9, cells := 1, slots := 6, locals := 161 }
theorem kb_X11_isGuarded {R : Room} {s : State} {args : Array Value} {own : String} {idx : Nat} (hT : mT s) (hlink : (Cond.methodLink own idx yX11_isGuarded).before args s = true) (h1 : rmX11_isGuarded.frames + 1 ≤ R.frames) (h2 : 8 + (2 + 11) + rmX11_isGuarded.locals ≤ R.locals) : CallB R s args own idx yX11_isGuarded cX11_isGuarded 2 (some .boolean) [Cond.code yX11_isGuarded cX11_isGuarded 2 (some .boolean)] rmX11_isGuarded 1 6 1 := m_callB hT kc_X11_isGuarded ki_X11_isGuarded hlink (by decide +kernel) ⟨rfl, rfl, h1, h2⟩
set_option maxHeartbeats 4000000 in
set_option maxRecDepth 100000 in
theorem c_X11_isGuarded (l : Launch) (w : WD) (hsf : l.stackTraces = false) (sz : Nat) (a1 : Int32) (M : Mem) (r : (Nat ⊕ Int32)) (hf : f_X11_isGuarded a1 M = some r) : mMetx l yX11_isGuarded cX11_isGuarded 2 (some .boolean) rmX11_isGuarded w sz M [.ref (w.1 12 16), .int a1] (moI r) M 1 6 := by
  refine m_ofx (by decide) (Nat.le_of_ble_eq_true rfl) ?_
  intro p e s m args below meth c hx hb hr hml hown hlk hxt hI ls hl
  have hl : lv_has ls 2 [(0, .ref (w.1 12 16)), (1, .int a1)] := hl
  unfold f_X11_isGuarded at hf
  refine lv_aload_n hx hb dX11_isGuarded_0 rfl (lv_at hl 0 rfl) ?_
  refine lv_iload_n hx hb dX11_isGuarded_1 rfl (lv_at hl 1 rfl) ?_
  rcases mbpx_e hf with ⟨n2, hc, hf⟩ | ⟨r1, hc, hf⟩
  · exact m_callxTVp (As := [.int a1]) (rest := []) hx hb hml hown hI (c_X11_requireZone l w hsf s.heap.size a1 M _ hc) (kb_X11_requireZone hI.T (q582 hI.T) (Nat.le_of_ble_eq_true rfl) (Nat.le_of_ble_eq_true rfl)) (q584 hI.T) (sel_X11_requireZone hI.T) (m_recv (g := 12) (i := 16) hI (mokX (by decide) (by decide)) rfl rfl) rfl hl.1 (Nat.le_of_ble_eq_true rfl) dX11_isGuarded_2 ⟨Nat.le_of_ble_eq_true rfl, Nat.le_of_ble_eq_true rfl⟩ hxt hlk hf (Nat.le_of_ble_eq_true rfl) (Nat.le_of_ble_eq_true rfl)
  refine m_callxRV (As := [.int a1]) (rest := []) hx hb hml hown hI (c_X11_requireZone l w hsf s.heap.size a1 M _ hc) (kb_X11_requireZone hI.T (q582 hI.T) (Nat.le_of_ble_eq_true rfl) (Nat.le_of_ble_eq_true rfl)) (q584 hI.T) (sel_X11_requireZone hI.T) (m_recv (g := 12) (i := 16) hI (mokX (by decide) (by decide)) rfl rfl) rfl hl.1 (Nat.le_of_ble_eq_true rfl) dX11_isGuarded_2 ⟨Nat.le_of_ble_eq_true rfl, Nat.le_of_ble_eq_true rfl⟩ (fun H locs hI => ?_)
  refine lv_aload_n hx hb dX11_isGuarded_5 rfl (lv_at hl 0 rfl) ?_
  refine m_get (g := 12) (i := 16) (ci := 9) (k := 0) (v := .ref (w.1 0 0)) hx hb hI hown (mokX (by decide) (by decide)) rfl rfl (by decide) lyX11 (q294 hI.T) rfl dX11_isGuarded_6 ?_
  refine m_get (g := 0) (i := 0) (ci := 8) (k := 2) (v := .ref (w.1 0 6)) hx hb hI hown (mokS (by decide) (by decide)) rfl rfl (by decide) lyX9 (q191 hI.T) rfl dX11_isGuarded_9 ?_
  refine lv_iload_n hx hb dX11_isGuarded_12 rfl (lv_at hl 1 rfl) ?_
  obtain ⟨r3, hc, hf⟩ := mbp_e hf
  refine m_callV (As := [.int a1]) (rest := []) hx hb hml hown hI (c_X1_hasGuardIn l w H.size 0 (by decide) a1 M _ hc) (kb_X1_hasGuardIn hI.T (q621 hI.T) (Nat.le_of_ble_eq_true rfl) (Nat.le_of_ble_eq_true rfl)) (q622 hI.T) (q623 hI.T) (m_recv (g := 0) (i := 6) hI (mokS (by decide) (by decide)) rfl rfl) rfl hl.1 (Nat.le_of_ble_eq_true rfl) dX11_isGuarded_13 ⟨Nat.le_of_ble_eq_true rfl, Nat.le_of_ble_eq_true rfl⟩ (fun H locs hI => ?_)
  obtain ⟨k33_7, ek33_7, hf⟩ := mlet_e hf
  have hj33_7 : ∀ (_u : Unit) (H : Heap) (locs : List Loc) (ls : Array Slot), k33_7 _u = some r → mI w s (mA w s.heap.size) H locs M → lv_has ls 2 [] → W p l e rmX11_isGuarded s m args below meth c H locs 1 6 (vx_MQ below (mQx w s.heap.size (moI r) M) (mXx w s.heap.size (moI r) M) args s 1 6 (mA w s.heap.size)) (F0 m 33 ls []) := by
    intro _u H locs ls hf hI hl
    rw [ek33_7] at hf
    try dsimp only at hf
    refine lv_iconst (v := 1) hx hb dX11_isGuarded_33 (by decide) ?_
    refine lv_goto (tgt := 38) hx hb dX11_isGuarded_34 (by decide) ?_
    exact m_zretxp hx hb hr hlk hI rfl hf dX11_isGuarded_38 (Nat.le_of_ble_eq_true rfl) (Nat.le_of_ble_eq_true rfl)
  refine lv_if_ne (tgt := 33) hx hb dX11_isGuarded_16 (by decide) (fun c4 => ?_) (fun c4 => ?_)
  · have hf := (if_neg c4).symm.trans hf
    exact hj33_7 () H _ _ hf hI (lv_sub hl [] rfl)
  · have hf := (if_pos c4).symm.trans hf
    refine lv_aload_n hx hb dX11_isGuarded_19 rfl (lv_at hl 0 rfl) ?_
    refine m_get (g := 12) (i := 16) (ci := 9) (k := 0) (v := .ref (w.1 0 0)) hx hb hI hown (mokX (by decide) (by decide)) rfl rfl (by decide) lyX11 (q294 hI.T) rfl dX11_isGuarded_20 ?_
    refine m_get (g := 0) (i := 0) (ci := 8) (k := 2) (v := .ref (w.1 0 6)) hx hb hI hown (mokS (by decide) (by decide)) rfl rfl (by decide) lyX9 (q191 hI.T) rfl dX11_isGuarded_23 ?_
    refine lv_iload_n hx hb dX11_isGuarded_26 rfl (lv_at hl 1 rfl) ?_
    obtain ⟨r5, hc, hf⟩ := mbp_e hf
    refine m_callV (As := [.int a1]) (rest := []) hx hb hml hown hI (c_X1_hasGuardBeside l w H.size 0 (by decide) a1 M _ hc) (kb_X1_hasGuardBeside hI.T (q1512 hI.T) (Nat.le_of_ble_eq_true rfl) (Nat.le_of_ble_eq_true rfl)) (q644 hI.T) (q645 hI.T) (m_recv (g := 0) (i := 6) hI (mokS (by decide) (by decide)) rfl rfl) rfl hl.1 (Nat.le_of_ble_eq_true rfl) dX11_isGuarded_27 ⟨Nat.le_of_ble_eq_true rfl, Nat.le_of_ble_eq_true rfl⟩ (fun H locs hI => ?_)
    refine lv_if_eq (tgt := 37) hx hb dX11_isGuarded_30 (by decide) (fun c6 => ?_) (fun c6 => ?_)
    · have hf := (if_pos c6).symm.trans hf
      refine lv_iconst (v := 0) hx hb dX11_isGuarded_37 (by decide) ?_
      exact m_zretxp hx hb hr hlk hI rfl hf dX11_isGuarded_38 (Nat.le_of_ble_eq_true rfl) (Nat.le_of_ble_eq_true rfl)
    · have hf := (if_neg c6).symm.trans hf
      exact hj33_7 () H _ _ hf hI (lv_sub hl [] rfl)
abbrev rmX11_requireGuards : Room := { frames := 8, cells := 1, slots := 6, locals := 140 }
theorem kb_X11_requireGuards {R : Room} {s : State} {args : Array Value} {own : String} {idx : Nat} (hT : mT s) (hlink : (Cond.methodLink own idx yX11_requireGuards).before args s = true) (h1 : rmX11_requireGuards.frames + 1 ≤ R.frames) (h2 : 8 + (1 + 11) + rmX11_requireGuards.locals ≤ R.locals) : CallB R s args own idx yX11_requireGuards cX11_requireGuards 1 (none) [Cond.code yX11_requireGuards cX11_requireGuards 1 (none)] rmX11_requireGuards 1 6 0 := m_callB hT kc_X11_requireGuards ki_X11_requireGuards hlink (by decide +kernel) ⟨rfl, rfl, h1, h2⟩
set_option maxHeartbeats 4000000 in
set_option maxRecDepth 100000 in
theorem c_X11_requireGuards (l : Launch) (w : WD) (hsf : l.stackTraces = false) (sz : Nat)  (M : Mem) (r : (Nat ⊕ Unit)) (hf : f_X11_requireGuards  M = some r) : mMetx l yX11_requireGuards cX11_requireGuards 1 (none) rmX11_requireGuards w sz M [.ref (w.1 12 16)] (moU r) M 1 6 := by
  refine m_ofx (by decide) (Nat.le_of_ble_eq_true rfl) ?_
  intro p e s m args below meth c hx hb hr hml hown hlk hxt hI ls hl
  have hl : lv_has ls 1 [(0, .ref (w.1 12 16))] := hl
  unfold f_X11_requireGuards at hf
  refine lv_aload_n hx hb dX11_requireGuards_0 rfl (lv_at hl 0 rfl) ?_
  refine m_get (g := 12) (i := 16) (ci := 9) (k := 0) (v := .ref (w.1 0 0)) hx hb hI hown (mokX (by decide) (by decide)) rfl rfl (by decide) lyX11 (q294 hI.T) rfl dX11_requireGuards_1 ?_
  refine m_get (g := 0) (i := 0) (ci := 8) (k := 2) (v := .ref (w.1 0 6)) hx hb hI hown (mokS (by decide) (by decide)) rfl rfl (by decide) lyX9 (q191 hI.T) rfl dX11_requireGuards_4 ?_
  refine m_get (g := 0) (i := 6) (ci := 0) (k := 4) (v := .int (M 0 6 4)) hx hb hI hown (mokS (by decide) (by decide)) rfl rfl (by decide) lyX1 (q137 hI.T) rfl dX11_requireGuards_7 ?_
  refine lv_if_ne (tgt := 24) hx hb dX11_requireGuards_10 (by decide) (fun c1 => ?_) (fun c1 => ?_)
  · have hf := (if_neg c1).symm.trans hf
    exact m_vretxp hx hb hr hlk hI hf dX11_requireGuards_24 (Nat.le_of_ble_eq_true rfl) (Nat.le_of_ble_eq_true rfl)
  · have hf := (if_pos c1).symm.trans hf
    exact m_throwXWp (n := 4) (ix := 15) hx hb hsf hown hI rfl (q390 hI.T) (q14 hI.T) (m_thw_4_X11_155 hI) hl.1 hml dX11_requireGuards_13 dX11_requireGuards_16 dX11_requireGuards_17 dX11_requireGuards_20 dX11_requireGuards_23 hxt (Nat.le_of_ble_eq_true rfl) (Nat.le_of_ble_eq_true rfl) (Nat.le_of_ble_eq_true rfl) (Nat.le_of_ble_eq_true rfl) hlk hf (Nat.le_of_ble_eq_true rfl) (Nat.le_of_ble_eq_true rfl)
abbrev rmX11_visitByHours : Room := { frames := 2, cells := 0, slots := 0, locals := 62 }
theorem kb_X11_visitByHours {R : Room} {s : State} {args : Array Value} {own : String} {idx : Nat} (hT : mT s) (hlink : (Cond.methodLink own idx yX11_visitByHours).before args s = true) (h1 : rmX11_visitByHours.frames + 1 ≤ R.frames) (h2 : 8 + (3 + 11) + rmX11_visitByHours.locals ≤ R.locals) : CallB R s args own idx yX11_visitByHours cX11_visitByHours 3 (some .int) [Cond.code yX11_visitByHours cX11_visitByHours 3 (some .int)] rmX11_visitByHours 0 0 1 := m_callB hT kc_X11_visitByHours ki_X11_visitByHours hlink (by decide +kernel) ⟨rfl, rfl, h1, h2⟩
set_option maxHeartbeats 4000000 in
set_option maxRecDepth 100000 in
theorem c_X11_visitByHours (l : Launch) (w : WD) (sz : Nat) (a1 : Int32) (M : Mem) (r : Int32) (M9 : Mem) (hf : f_X11_visitByHours a1 M = some (r, M9)) : mMet l yX11_visitByHours cX11_visitByHours 3 (some .int) rmX11_visitByHours w sz M [.ref (w.1 12 16), .int a1] (some (.int r)) M9 := by
  refine m_of (by decide) (Nat.le_of_ble_eq_true rfl) ?_
  intro p e s m args below meth c hx hb hr hml hown hlk hI ls hl
  have hl : lv_has ls 3 [(0, .ref (w.1 12 16)), (1, .int a1)] := hl
  unfold f_X11_visitByHours at hf
  refine lv_aload_n hx hb dX11_visitByHours_0 rfl (lv_at hl 0 rfl) ?_
  refine m_get (g := 12) (i := 16) (ci := 9) (k := 4) (v := .ref (w.1 11 6)) hx hb hI hown (mokX (by decide) (by decide)) rfl rfl (by decide) lyX11 (q298 hI.T) rfl dX11_visitByHours_1 ?_
  refine lv_aload_n hx hb dX11_visitByHours_4 rfl (lv_at hl 0 rfl) ?_
  refine m_get (g := 12) (i := 16) (ci := 9) (k := 0) (v := .ref (w.1 0 0)) hx hb hI hown (mokX (by decide) (by decide)) rfl rfl (by decide) lyX11 (q294 hI.T) rfl dX11_visitByHours_5 ?_
  refine m_get (g := 0) (i := 0) (ci := 8) (k := 2) (v := .ref (w.1 0 6)) hx hb hI hown (mokS (by decide) (by decide)) rfl rfl (by decide) lyX9 (q191 hI.T) rfl dX11_visitByHours_8 ?_
  obtain ⟨r1, M2, hc, hf⟩ := mbnd_e hf
  refine m_callV (As := [.ref (w.1 0 6)]) (rest := []) hx hb hml hown hI (c_X1_copyFrom l w s.heap.size 11 (by decide) 0 (by decide) M _ _ hc) (kb_X1_copyFrom hI.T (q614 hI.T) (Nat.le_of_ble_eq_true rfl) (Nat.le_of_ble_eq_true rfl)) (q615 hI.T) (q616 hI.T) (m_recv (g := 11) (i := 6) hI (mokB (by decide) (by decide) (by decide)) rfl rfl) rfl hl.1 (Nat.le_of_ble_eq_true rfl) dX11_visitByHours_11 ⟨Nat.le_of_ble_eq_true rfl, Nat.le_of_ble_eq_true rfl⟩ (fun H locs hI => ?_)
  refine lv_iconst (v := 0) hx hb dX11_visitByHours_14 (by decide) ?_
  refine lv_istore_n (lv' := [(2, .int (0 : Int32)), (0, .ref (w.1 12 16)), (1, .int a1)]) hx hb dX11_visitByHours_15 rfl hl (by decide) rfl (fun ls hl => ?_)
  have hL16 : ∀ (n : Nat) (x3 : Int32) (M4 : Mem) (kk : Int32 → Mem → Option (Int32 × Mem)) (H : Heap) (locs : List Loc) (ls : Array Slot), f_X11_visitByHours_L16 a1 n x3 M4 kk = some (r, M9) → mI w s (mA w s.heap.size) H locs M4 → lv_has ls 3 [(0, .ref (w.1 12 16)), (1, .int a1), (2, .int x3)] → (∀ (x3 : Int32) (M4 : Mem) (H : Heap) (locs : List Loc) (ls : Array Slot), kk x3 M4 = some (r, M9) → mI w s (mA w s.heap.size) H locs M4 → lv_has ls 3 [(2, .int x3)] → W p l e rmX11_visitByHours s m args below meth c H locs 0 0 (MQ below (mQ w s.heap.size (some (.int r)) M9) args s 0 0 (mA w s.heap.size)) (F0 m 46 ls [])) → W p l e rmX11_visitByHours s m args below meth c H locs 0 0 (MQ below (mQ w s.heap.size (some (.int r)) M9) args s 0 0 (mA w s.heap.size)) (F0 m 16 ls []) := by
    intro n
    induction n with
    | zero => intro x3 M4 kk H locs ls hf hI hl hk; rw [f_X11_visitByHours_L16.eq_1] at hf; cases hf
    | succ n ih16 =>
      intro x3 M4 kk H locs ls hf hI hl hk
      rw [f_X11_visitByHours_L16.eq_2] at hf
      refine lv_iload_n hx hb dX11_visitByHours_16 rfl (lv_at hl 2 rfl) ?_
      refine lv_bipush (v := 32) hx hb dX11_visitByHours_17 (by decide) ?_
      refine lv_icmp_ge (tgt := 46) hx hb dX11_visitByHours_19 (by decide) (fun c5 => ?_) (fun c5 => ?_)
      · have hf := (if_pos c5).symm.trans hf
        exact hk x3 M4 H _ _ hf hI (lv_sub hl [2] rfl)
      · have hf := (if_neg c5).symm.trans hf
        refine lv_aload_n hx hb dX11_visitByHours_22 rfl (lv_at hl 0 rfl) ?_
        refine m_get (g := 12) (i := 16) (ci := 9) (k := 4) (v := .ref (w.1 11 6)) hx hb hI hown (mokX (by decide) (by decide)) rfl rfl (by decide) lyX11 (q298 hI.T) rfl dX11_visitByHours_23 ?_
        refine lv_iload_n hx hb dX11_visitByHours_26 rfl (lv_at hl 1 rfl) ?_
        obtain ⟨r6, hc, hf⟩ := mbp_e hf
        refine m_callV (As := [.int a1]) (rest := []) hx hb hml hown hI (c_X1_hasGuardIn l w H.size 11 (by decide) a1 M4 _ hc) (kb_X1_hasGuardIn hI.T (q621 hI.T) (Nat.le_of_ble_eq_true rfl) (Nat.le_of_ble_eq_true rfl)) (q622 hI.T) (q623 hI.T) (m_recv (g := 11) (i := 6) hI (mokB (by decide) (by decide) (by decide)) rfl rfl) rfl hl.1 (Nat.le_of_ble_eq_true rfl) dX11_visitByHours_27 ⟨Nat.le_of_ble_eq_true rfl, Nat.le_of_ble_eq_true rfl⟩ (fun H locs hI => ?_)
        refine lv_if_ne (tgt := 46) hx hb dX11_visitByHours_30 (by decide) (fun c7 => ?_) (fun c7 => ?_)
        · have hf := (if_neg c7).symm.trans hf
          exact hk x3 M4 H _ _ hf hI (lv_sub hl [2] rfl)
        · have hf := (if_pos c7).symm.trans hf
          refine lv_aload_n hx hb dX11_visitByHours_33 rfl (lv_at hl 0 rfl) ?_
          refine m_get (g := 12) (i := 16) (ci := 9) (k := 4) (v := .ref (w.1 11 6)) hx hb hI hown (mokX (by decide) (by decide)) rfl rfl (by decide) lyX11 (q298 hI.T) rfl dX11_visitByHours_34 ?_
          obtain ⟨r8, M10, hc, hf⟩ := mbnd_e hf
          refine m_callV (As := []) (rest := []) hx hb hml hown hI (c_X1_beginHour l w H.size 11 (by decide) M4 _ _ hc) (kb_X1_beginHour hI.T (q625 hI.T) (Nat.le_of_ble_eq_true rfl) (Nat.le_of_ble_eq_true rfl)) (q626 hI.T) (q627 hI.T) (m_recv (g := 11) (i := 6) hI (mokB (by decide) (by decide) (by decide)) rfl rfl) rfl hl.1 (Nat.le_of_ble_eq_true rfl) dX11_visitByHours_37 ⟨Nat.le_of_ble_eq_true rfl, Nat.le_of_ble_eq_true rfl⟩ (fun H locs hI => ?_)
          obtain ⟨x11, ex11, hf⟩ := mlet_e hf
          refine lv_iinc (v := x11) (lv' := [(2, .int x11), (0, .ref (w.1 12 16)), (1, .int a1)]) hx hb dX11_visitByHours_40 hl (k := 2) rfl (by rw [ex11]; rfl) (by decide) rfl (fun ls hl => ?_)
          refine lv_goto (tgt := 16) hx hb dX11_visitByHours_43 (by decide) ?_
          exact ih16 x11 M10 kk H _ _ hf hI (lv_sub hl [1, 2, 0] rfl) hk
  refine hL16 1000 (0 : Int32) M2 _ _ _ _ hf hI (lv_sub hl [1, 2, 0] rfl) ?_
  intro x12 M13 H locs ls hf hI hl
  try dsimp only at hf
  refine lv_iload_n hx hb dX11_visitByHours_46 rfl (lv_at hl 0 rfl) ?_
  exact m_iretf hx hb hr hlk hI hf dX11_visitByHours_47
abbrev rmX11_hoursUntilVisit : Room := { frames := 9, cells := 2, slots := 12, locals := 161 }
theorem kb_X11_hoursUntilVisit {R : Room} {s : State} {args : Array Value} {own : String} {idx : Nat} (hT : mT s) (hlink : (Cond.methodLink own idx yX11_hoursUntilVisit).before args s = true) (h1 : rmX11_hoursUntilVisit.frames + 1 ≤ R.frames) (h2 : 8 + (2 + 11) + rmX11_hoursUntilVisit.locals ≤ R.locals) : CallB R s args own idx yX11_hoursUntilVisit cX11_hoursUntilVisit 2 (some .int) [Cond.code yX11_hoursUntilVisit cX11_hoursUntilVisit 2 (some .int)] rmX11_hoursUntilVisit 2 12 1 := m_callB hT kc_X11_hoursUntilVisit ki_X11_hoursUntilVisit hlink (by decide +kernel) ⟨rfl, rfl, h1, h2⟩
set_option maxHeartbeats 4000000 in
set_option maxRecDepth 100000 in
theorem c_X11_hoursUntilVisit (l : Launch) (w : WD) (hsf : l.stackTraces = false) (sz : Nat) (a1 : Int32) (M : Mem) (r : (Nat ⊕ Int32)) (M9 : Mem) (hf : f_X11_hoursUntilVisit a1 M = some (r, M9)) : mMetx l yX11_hoursUntilVisit cX11_hoursUntilVisit 2 (some .int) rmX11_hoursUntilVisit w sz M [.ref (w.1 12 16), .int a1] (moI r) M9 2 12 := by
  refine m_ofx (by decide) (Nat.le_of_ble_eq_true rfl) ?_
  intro p e s m args below meth c hx hb hr hml hown hlk hxt hI ls hl
  have hl : lv_has ls 2 [(0, .ref (w.1 12 16)), (1, .int a1)] := hl
  unfold f_X11_hoursUntilVisit at hf
  refine lv_aload_n hx hb dX11_hoursUntilVisit_0 rfl (lv_at hl 0 rfl) ?_
  refine lv_iload_n hx hb dX11_hoursUntilVisit_1 rfl (lv_at hl 1 rfl) ?_
  rcases mbpx_em hf with ⟨n2, hc, hf⟩ | ⟨r1, hc, hf⟩
  · exact m_callxTV (As := [.int a1]) (rest := []) hx hb hml hown hI (c_X11_requireZone l w hsf s.heap.size a1 M _ hc) (kb_X11_requireZone hI.T (q582 hI.T) (Nat.le_of_ble_eq_true rfl) (Nat.le_of_ble_eq_true rfl)) (q584 hI.T) (sel_X11_requireZone hI.T) (m_recv (g := 12) (i := 16) hI (mokX (by decide) (by decide)) rfl rfl) rfl hl.1 (Nat.le_of_ble_eq_true rfl) dX11_hoursUntilVisit_2 ⟨Nat.le_of_ble_eq_true rfl, Nat.le_of_ble_eq_true rfl⟩ hxt hlk hf (Nat.le_of_ble_eq_true rfl) (Nat.le_of_ble_eq_true rfl)
  refine m_callxRV (As := [.int a1]) (rest := []) hx hb hml hown hI (c_X11_requireZone l w hsf s.heap.size a1 M _ hc) (kb_X11_requireZone hI.T (q582 hI.T) (Nat.le_of_ble_eq_true rfl) (Nat.le_of_ble_eq_true rfl)) (q584 hI.T) (sel_X11_requireZone hI.T) (m_recv (g := 12) (i := 16) hI (mokX (by decide) (by decide)) rfl rfl) rfl hl.1 (Nat.le_of_ble_eq_true rfl) dX11_hoursUntilVisit_2 ⟨Nat.le_of_ble_eq_true rfl, Nat.le_of_ble_eq_true rfl⟩ (fun H locs hI => ?_)
  refine lv_aload_n hx hb dX11_hoursUntilVisit_5 rfl (lv_at hl 0 rfl) ?_
  rcases mbpx_em hf with ⟨n4, hc, hf⟩ | ⟨r3, hc, hf⟩
  · exact m_callxTV (As := []) (rest := []) hx hb hml hown hI (c_X11_requireGuards l w hsf H.size M _ hc) (kb_X11_requireGuards hI.T (q605 hI.T) (Nat.le_of_ble_eq_true rfl) (Nat.le_of_ble_eq_true rfl)) (q607 hI.T) (sel_X11_requireGuards hI.T) (m_recv (g := 12) (i := 16) hI (mokX (by decide) (by decide)) rfl rfl) rfl hl.1 (Nat.le_of_ble_eq_true rfl) dX11_hoursUntilVisit_6 ⟨Nat.le_of_ble_eq_true rfl, Nat.le_of_ble_eq_true rfl⟩ hxt hlk hf (Nat.le_of_ble_eq_true rfl) (Nat.le_of_ble_eq_true rfl)
  refine m_callxRV (As := []) (rest := []) hx hb hml hown hI (c_X11_requireGuards l w hsf H.size M _ hc) (kb_X11_requireGuards hI.T (q605 hI.T) (Nat.le_of_ble_eq_true rfl) (Nat.le_of_ble_eq_true rfl)) (q607 hI.T) (sel_X11_requireGuards hI.T) (m_recv (g := 12) (i := 16) hI (mokX (by decide) (by decide)) rfl rfl) rfl hl.1 (Nat.le_of_ble_eq_true rfl) dX11_hoursUntilVisit_6 ⟨Nat.le_of_ble_eq_true rfl, Nat.le_of_ble_eq_true rfl⟩ (fun H locs hI => ?_)
  refine lv_aload_n hx hb dX11_hoursUntilVisit_9 rfl (lv_at hl 0 rfl) ?_
  refine lv_iload_n hx hb dX11_hoursUntilVisit_10 rfl (lv_at hl 1 rfl) ?_
  obtain ⟨r5, M6, hc, hf⟩ := mbnd_e hf
  refine m_callV (As := [.int a1]) (rest := []) hx hb hml hown hI (c_X11_visitByHours l w H.size a1 M _ _ hc) (kb_X11_visitByHours hI.T (q610 hI.T) (Nat.le_of_ble_eq_true rfl) (Nat.le_of_ble_eq_true rfl)) (q612 hI.T) (sel_X11_visitByHours hI.T) (m_recv (g := 12) (i := 16) hI (mokX (by decide) (by decide)) rfl rfl) rfl hl.1 (Nat.le_of_ble_eq_true rfl) dX11_hoursUntilVisit_11 ⟨Nat.le_of_ble_eq_true rfl, Nat.le_of_ble_eq_true rfl⟩ (fun H locs hI => ?_)
  exact m_iretx hx hb hr hlk hI hf dX11_hoursUntilVisit_14 (Nat.le_of_ble_eq_true rfl) (Nat.le_of_ble_eq_true rfl)
abbrev rmX1_visitOf : Room := { frames := 1, cells := 0, slots := 0, locals := 22 }
theorem kb_X1_visitOf {R : Room} {s : State} {args : Array Value} {own : String} {idx : Nat} (hT : mT s) (hlink : (Cond.methodLink own idx yX1_visitOf).before args s = true) (h1 : rmX1_visitOf.frames + 1 ≤ R.frames) (h2 : 8 + (5 + 11) + rmX1_visitOf.locals ≤ R.locals) : CallB R s args own idx yX1_visitOf cX1_visitOf 5 (some .int) [Cond.code yX1_visitOf cX1_visitOf 5 (some .int)] rmX1_visitOf 0 0 2 := m_callB hT kc_X1_visitOf ki_X1_visitOf hlink (by decide +kernel) ⟨rfl, rfl, h1, h2⟩
set_option maxHeartbeats 4000000 in
set_option maxRecDepth 100000 in
theorem c_X1_visitOf (l : Launch) (w : WD) (sz : Nat) (g : Nat) (hg : g ≤ 11) (a1 : Int32) (a2 : Int32) (M : Mem) (r : Int32) (hf : f_X1_visitOf g a1 a2 M = some r) : mMet l yX1_visitOf cX1_visitOf 5 (some .int) rmX1_visitOf w sz M [.ref (w.1 g 6), .int a1, .int a2] (some (.int r)) M := by
  refine m_of (by decide) (Nat.le_of_ble_eq_true rfl) ?_
  intro p e s m args below meth c hx hb hr hml hown hlk hI ls hl
  have hl : lv_has ls 5 [(0, .ref (w.1 g 6)), (1, .int a1), (2, .int a2)] := hl
  unfold f_X1_visitOf at hf
  refine lv_aload_n hx hb dX1_visitOf_0 rfl (lv_at hl 0 rfl) ?_
  refine m_get (g := g) (i := 6) (ci := 0) (k := 6) (v := .ref (w.1 g 10)) hx hb hI hown (mokB hg (by decide) (by decide)) rfl rfl (by decide) lyX1 (q140 hI.T) rfl dX1_visitOf_1 ?_
  refine lv_iload_n hx hb dX1_visitOf_4 rfl (lv_at hl 1 rfl) ?_
  obtain ⟨hi, hf⟩ := mix_e hf
  refine m_zald (g := g) hx hb hI (mokB hg (by decide) (by decide)) hi dX1_visitOf_5 ?_
  obtain ⟨k28_3, ek28_3, hf⟩ := mlet_e hf
  have hj28_3 : ∀ (x2 : Int32) (H : Heap) (locs : List Loc) (ls : Array Slot), k28_3 x2 = some r → mI w s (mA w s.heap.size) H locs M → lv_has ls 5 [(0, .ref (w.1 g 6)), (1, .int a1)] → W p l e rmX1_visitOf s m args below meth c H locs 0 0 (MQ below (mQ w s.heap.size (some (.int r)) M) args s 0 0 (mA w s.heap.size)) (F0 m 28 ls [.int x2]) := by
    intro x2 H locs ls hf hI hl
    rw [ek28_3] at hf
    try dsimp only at hf
    refine lv_istore_n (lv' := [(3, .int x2), (0, .ref (w.1 g 6)), (1, .int a1)]) hx hb dX1_visitOf_28 rfl hl (by decide) rfl (fun ls hl => ?_)
    refine lv_iload_n hx hb dX1_visitOf_29 rfl (lv_at hl 0 rfl) ?_
    refine lv_bipush (v := 8) hx hb dX1_visitOf_30 (by decide) ?_
    obtain ⟨r4, hc, hf⟩ := mbp_e hf
    refine m_callS (As := [.int x2, .int (8 : Int32)]) (rest := []) hx hb hml hown hI (c_J9_floorMod_7cf53 l w H.size x2 (8 : Int32) M _ hc) (kb_J9_floorMod_7cf53 hI.T (q1528 hI.T) (Nat.le_of_ble_eq_true rfl) (Nat.le_of_ble_eq_true rfl)) (q1438 hI.T) rfl hl.1 (Nat.le_of_ble_eq_true rfl) dX1_visitOf_32 ⟨Nat.le_of_ble_eq_true rfl, Nat.le_of_ble_eq_true rfl⟩ (fun H locs hI => ?_)
    refine lv_istore (lv' := [(4, .int r4), (3, .int x2), (0, .ref (w.1 g 6)), (1, .int a1)]) hx hb dX1_visitOf_35 hl (by decide) rfl (fun ls hl => ?_)
    refine lv_iload hx hb dX1_visitOf_37 (lv_at hl 0 rfl) ?_
    refine lv_if_ne (tgt := 46) hx hb dX1_visitOf_39 (by decide) (fun c5 => ?_) (fun c5 => ?_)
    · have hf := (if_neg c5).symm.trans hf
      refine lv_iload hx hb dX1_visitOf_46 (lv_at hl 0 rfl) ?_
      refine lv_aload_n hx hb dX1_visitOf_48 rfl (lv_at hl 2 rfl) ?_
      refine m_get (g := g) (i := 6) (ci := 0) (k := 7) (v := .ref (w.1 g 11)) hx hb hI hown (mokB hg (by decide) (by decide)) rfl rfl (by decide) lyX1 (q143 hI.T) rfl dX1_visitOf_49 ?_
      refine lv_iload_n hx hb dX1_visitOf_52 rfl (lv_at hl 3 rfl) ?_
      obtain ⟨hi, hf⟩ := mix_e hf
      refine m_iald (g := g) (i := 11) hx hb hI (mokB hg (by decide) (by decide)) rfl hi dX1_visitOf_53 ?_
      refine lv_imul hx hb dX1_visitOf_54 ?_
      refine lv_aload_n hx hb dX1_visitOf_55 rfl (lv_at hl 2 rfl) ?_
      refine m_get (g := g) (i := 6) (ci := 0) (k := 0) (v := .int (M g 6 0)) hx hb hI hown (mokB hg (by decide) (by decide)) rfl rfl (by decide) lyX1 (q124 hI.T) rfl dX1_visitOf_56 ?_
      refine lv_aload_n hx hb dX1_visitOf_59 rfl (lv_at hl 2 rfl) ?_
      refine m_get (g := g) (i := 6) (ci := 0) (k := 7) (v := .ref (w.1 g 11)) hx hb hI hown (mokB hg (by decide) (by decide)) rfl rfl (by decide) lyX1 (q143 hI.T) rfl dX1_visitOf_60 ?_
      refine lv_iload_n hx hb dX1_visitOf_63 rfl (lv_at hl 3 rfl) ?_
      obtain ⟨hi, hf⟩ := mix_e hf
      refine m_iald (g := g) (i := 11) hx hb hI (mokB hg (by decide) (by decide)) rfl hi dX1_visitOf_64 ?_
      obtain ⟨hd, hf⟩ := mdiv_e hf
      refine lv_irem hx hb dX1_visitOf_65 hd ?_
      refine lv_isub hx hb dX1_visitOf_66 ?_
      exact m_iretp hx hb hr hlk hI hf dX1_visitOf_67
    · have hf := (if_pos c5).symm.trans hf
      refine lv_iconst (v := 0) hx hb dX1_visitOf_42 (by decide) ?_
      refine lv_goto (tgt := 67) hx hb dX1_visitOf_43 (by decide) ?_
      exact m_iretp hx hb hr hlk hI hf dX1_visitOf_67
  refine lv_if_eq (tgt := 20) hx hb dX1_visitOf_6 (by decide) (fun c1 => ?_) (fun c1 => ?_)
  · have hf := (if_pos c1).symm.trans hf
    refine lv_aload_n hx hb dX1_visitOf_20 rfl (lv_at hl 0 rfl) ?_
    refine m_get (g := g) (i := 6) (ci := 0) (k := 5) (v := .ref (w.1 g 9)) hx hb hI hown (mokB hg (by decide) (by decide)) rfl rfl (by decide) lyX1 (q138 hI.T) rfl dX1_visitOf_21 ?_
    refine lv_iload_n hx hb dX1_visitOf_24 rfl (lv_at hl 1 rfl) ?_
    obtain ⟨hi, hf⟩ := mix_e hf
    refine m_iald (g := g) (i := 9) hx hb hI (mokB hg (by decide) (by decide)) rfl hi dX1_visitOf_25 ?_
    refine lv_iload_n hx hb dX1_visitOf_26 rfl (lv_at hl 2 rfl) ?_
    refine lv_isub hx hb dX1_visitOf_27 ?_
    exact hj28_3 ((M g 9 a1.toNatClampNeg) - a2) s.heap _ _ hf hI (lv_sub hl [0, 1] rfl)
  · have hf := (if_neg c1).symm.trans hf
    refine lv_iload_n hx hb dX1_visitOf_9 rfl (lv_at hl 2 rfl) ?_
    refine lv_aload_n hx hb dX1_visitOf_10 rfl (lv_at hl 0 rfl) ?_
    refine m_get (g := g) (i := 6) (ci := 0) (k := 5) (v := .ref (w.1 g 9)) hx hb hI hown (mokB hg (by decide) (by decide)) rfl rfl (by decide) lyX1 (q138 hI.T) rfl dX1_visitOf_11 ?_
    refine lv_iload_n hx hb dX1_visitOf_14 rfl (lv_at hl 1 rfl) ?_
    obtain ⟨hi, hf⟩ := mix_e hf
    refine m_iald (g := g) (i := 9) hx hb hI (mokB hg (by decide) (by decide)) rfl hi dX1_visitOf_15 ?_
    refine lv_isub hx hb dX1_visitOf_16 ?_
    refine lv_goto (tgt := 28) hx hb dX1_visitOf_17 (by decide) ?_
    exact hj28_3 (a2 - (M g 9 a1.toNatClampNeg)) s.heap _ _ hf hI (lv_sub hl [0, 1] rfl)
abbrev rmX1_visitByRemainders : Room := { frames := 2, cells := 0, slots := 0, locals := 46 }
theorem kb_X1_visitByRemainders {R : Room} {s : State} {args : Array Value} {own : String} {idx : Nat} (hT : mT s) (hlink : (Cond.methodLink own idx yX1_visitByRemainders).before args s = true) (h1 : rmX1_visitByRemainders.frames + 1 ≤ R.frames) (h2 : 8 + (4 + 11) + rmX1_visitByRemainders.locals ≤ R.locals) : CallB R s args own idx yX1_visitByRemainders cX1_visitByRemainders 4 (some .int) [Cond.code yX1_visitByRemainders cX1_visitByRemainders 4 (some .int)] rmX1_visitByRemainders 0 0 1 := m_callB hT kc_X1_visitByRemainders ki_X1_visitByRemainders hlink (by decide +kernel) ⟨rfl, rfl, h1, h2⟩
set_option maxHeartbeats 4000000 in
set_option maxRecDepth 100000 in
theorem c_X1_visitByRemainders (l : Launch) (w : WD) (sz : Nat) (g : Nat) (hg : g ≤ 11) (a1 : Int32) (M : Mem) (r : Int32) (hf : f_X1_visitByRemainders g a1 M = some r) : mMet l yX1_visitByRemainders cX1_visitByRemainders 4 (some .int) rmX1_visitByRemainders w sz M [.ref (w.1 g 6), .int a1] (some (.int r)) M := by
  refine m_of (by decide) (Nat.le_of_ble_eq_true rfl) ?_
  intro p e s m args below meth c hx hb hr hml hown hlk hI ls hl
  have hl : lv_has ls 4 [(0, .ref (w.1 g 6)), (1, .int a1)] := hl
  unfold f_X1_visitByRemainders at hf
  refine lv_bipush (v := 32) hx hb dX1_visitByRemainders_0 (by decide) ?_
  refine lv_istore_n (lv' := [(2, .int (32 : Int32)), (0, .ref (w.1 g 6)), (1, .int a1)]) hx hb dX1_visitByRemainders_2 rfl hl (by decide) rfl (fun ls hl => ?_)
  refine lv_iconst (v := 0) hx hb dX1_visitByRemainders_3 (by decide) ?_
  refine lv_istore_n (lv' := [(3, .int (0 : Int32)), (2, .int (32 : Int32)), (0, .ref (w.1 g 6)), (1, .int a1)]) hx hb dX1_visitByRemainders_4 rfl hl (by decide) rfl (fun ls hl => ?_)
  have hL5 : ∀ (n : Nat) (x1 : Int32) (x2 : Int32) (kk : Int32 → Option Int32) (H : Heap) (locs : List Loc) (ls : Array Slot), f_X1_visitByRemainders_L5 g a1 M n x1 x2 kk = some r → mI w s (mA w s.heap.size) H locs M → lv_has ls 4 [(0, .ref (w.1 g 6)), (1, .int a1), (2, .int x1), (3, .int x2)] → (∀ (x1 : Int32) (H : Heap) (locs : List Loc) (ls : Array Slot), kk x1 = some r → mI w s (mA w s.heap.size) H locs M → lv_has ls 4 [(2, .int x1)] → W p l e rmX1_visitByRemainders s m args below meth c H locs 0 0 (MQ below (mQ w s.heap.size (some (.int r)) M) args s 0 0 (mA w s.heap.size)) (F0 m 30 ls [])) → W p l e rmX1_visitByRemainders s m args below meth c H locs 0 0 (MQ below (mQ w s.heap.size (some (.int r)) M) args s 0 0 (mA w s.heap.size)) (F0 m 5 ls []) := by
    intro n
    induction n with
    | zero => intro x1 x2 kk H locs ls hf hI hl hk; rw [f_X1_visitByRemainders_L5.eq_1] at hf; cases hf
    | succ n ih5 =>
      intro x1 x2 kk H locs ls hf hI hl hk
      rw [f_X1_visitByRemainders_L5.eq_2] at hf
      refine lv_iload_n hx hb dX1_visitByRemainders_5 rfl (lv_at hl 3 rfl) ?_
      refine lv_aload_n hx hb dX1_visitByRemainders_6 rfl (lv_at hl 0 rfl) ?_
      refine m_get (g := g) (i := 6) (ci := 0) (k := 4) (v := .int (M g 6 4)) hx hb hI hown (mokB hg (by decide) (by decide)) rfl rfl (by decide) lyX1 (q135 hI.T) rfl dX1_visitByRemainders_7 ?_
      refine lv_icmp_ge (tgt := 30) hx hb dX1_visitByRemainders_10 (by decide) (fun c3 => ?_) (fun c3 => ?_)
      · have hf := (if_pos c3).symm.trans hf
        exact hk x1 H _ _ hf hI (lv_sub hl [2] rfl)
      · have hf := (if_neg c3).symm.trans hf
        refine lv_iload_n hx hb dX1_visitByRemainders_13 rfl (lv_at hl 2 rfl) ?_
        refine lv_aload_n hx hb dX1_visitByRemainders_14 rfl (lv_at hl 0 rfl) ?_
        refine lv_iload_n hx hb dX1_visitByRemainders_15 rfl (lv_at hl 3 rfl) ?_
        refine lv_iload_n hx hb dX1_visitByRemainders_16 rfl (lv_at hl 1 rfl) ?_
        obtain ⟨r4, hc, hf⟩ := mbp_e hf
        refine m_callV (As := [.int x2, .int a1]) (rest := [.int x1]) hx hb hml hown hI (c_X1_visitOf l w H.size g hg x2 a1 M _ hc) (kb_X1_visitOf hI.T (q1524 hI.T) (Nat.le_of_ble_eq_true rfl) (Nat.le_of_ble_eq_true rfl)) (q1526 hI.T) (sel_X1_visitOf hI.T) (m_recv (g := g) (i := 6) hI (mokB hg (by decide) (by decide)) rfl rfl) rfl hl.1 (Nat.le_of_ble_eq_true rfl) dX1_visitByRemainders_17 ⟨Nat.le_of_ble_eq_true rfl, Nat.le_of_ble_eq_true rfl⟩ (fun H locs hI => ?_)
        refine va_mmin hx hb (hml.trans hl.1.symm) hown (q1529 hI.T) (q792 hI.T) (q21 hI.T) (q793 hI.T) (Nat.le_of_ble_eq_true rfl) (Nat.le_of_ble_eq_true rfl) (Nat.le_of_ble_eq_true rfl) (Nat.le_of_ble_eq_true rfl) dX1_visitByRemainders_20 ?_
        refine lv_topi (fun x5 ex5 => ?_)
        have hf := mlet_s ex5 hf
        refine lv_istore_n (lv' := [(2, .int x5), (0, .ref (w.1 g 6)), (1, .int a1), (3, .int x2)]) hx hb dX1_visitByRemainders_23 rfl hl (by decide) rfl (fun ls hl => ?_)
        obtain ⟨x6, ex6, hf⟩ := mlet_e hf
        refine lv_iinc (v := x6) (lv' := [(3, .int x6), (2, .int x5), (0, .ref (w.1 g 6)), (1, .int a1)]) hx hb dX1_visitByRemainders_24 hl (k := 3) rfl (by rw [ex6]; rfl) (by decide) rfl (fun ls hl => ?_)
        refine lv_goto (tgt := 5) hx hb dX1_visitByRemainders_27 (by decide) ?_
        exact ih5 x5 x6 kk H _ _ hf hI (lv_sub hl [2, 3, 1, 0] rfl) hk
  refine hL5 1000 (32 : Int32) (0 : Int32) _ _ _ _ hf hI (lv_sub hl [2, 3, 1, 0] rfl) ?_
  intro x7 H locs ls hf hI hl
  try dsimp only at hf
  refine lv_iload_n hx hb dX1_visitByRemainders_30 rfl (lv_at hl 0 rfl) ?_
  exact m_iretp hx hb hr hlk hI hf dX1_visitByRemainders_31
abbrev rmX11_hoursUntilVisitByRemainders : Room := { frames := 9, cells := 2, slots := 12, locals := 161 }
theorem kb_X11_hoursUntilVisitByRemainders {R : Room} {s : State} {args : Array Value} {own : String} {idx : Nat} (hT : mT s) (hlink : (Cond.methodLink own idx yX11_hoursUntilVisitByRemainders).before args s = true) (h1 : rmX11_hoursUntilVisitByRemainders.frames + 1 ≤ R.frames) (h2 : 8 + (2 + 11) + rmX11_hoursUntilVisitByRemainders.locals ≤ R.locals) : CallB R s args own idx yX11_hoursUntilVisitByRemainders cX11_hoursUntilVisitByRemainders 2 (some .int) [Cond.code yX11_hoursUntilVisitByRemainders cX11_hoursUntilVisitByRemainders 2 (some .int)] rmX11_hoursUntilVisitByRemainders 2 12 1 := m_callB hT kc_X11_hoursUntilVisitByRemainders ki_X11_hoursUntilVisitByRemainders hlink (by decide +kernel) ⟨rfl, rfl, h1, h2⟩
set_option maxHeartbeats 4000000 in
set_option maxRecDepth 100000 in
theorem c_X11_hoursUntilVisitByRemainders (l : Launch) (w : WD) (hsf : l.stackTraces = false) (sz : Nat) (a1 : Int32) (M : Mem) (r : (Nat ⊕ Int32)) (hf : f_X11_hoursUntilVisitByRemainders a1 M = some r) : mMetx l yX11_hoursUntilVisitByRemainders cX11_hoursUntilVisitByRemainders 2 (some .int) rmX11_hoursUntilVisitByRemainders w sz M [.ref (w.1 12 16), .int a1] (moI r) M 2 12 := by
  refine m_ofx (by decide) (Nat.le_of_ble_eq_true rfl) ?_
  intro p e s m args below meth c hx hb hr hml hown hlk hxt hI ls hl
  have hl : lv_has ls 2 [(0, .ref (w.1 12 16)), (1, .int a1)] := hl
  unfold f_X11_hoursUntilVisitByRemainders at hf
  refine lv_aload_n hx hb dX11_hoursUntilVisitByRemainders_0 rfl (lv_at hl 0 rfl) ?_
  refine lv_iload_n hx hb dX11_hoursUntilVisitByRemainders_1 rfl (lv_at hl 1 rfl) ?_
  rcases mbpx_e hf with ⟨n2, hc, hf⟩ | ⟨r1, hc, hf⟩
  · exact m_callxTVp (As := [.int a1]) (rest := []) hx hb hml hown hI (c_X11_requireZone l w hsf s.heap.size a1 M _ hc) (kb_X11_requireZone hI.T (q582 hI.T) (Nat.le_of_ble_eq_true rfl) (Nat.le_of_ble_eq_true rfl)) (q584 hI.T) (sel_X11_requireZone hI.T) (m_recv (g := 12) (i := 16) hI (mokX (by decide) (by decide)) rfl rfl) rfl hl.1 (Nat.le_of_ble_eq_true rfl) dX11_hoursUntilVisitByRemainders_2 ⟨Nat.le_of_ble_eq_true rfl, Nat.le_of_ble_eq_true rfl⟩ hxt hlk hf (Nat.le_of_ble_eq_true rfl) (Nat.le_of_ble_eq_true rfl)
  refine m_callxRV (As := [.int a1]) (rest := []) hx hb hml hown hI (c_X11_requireZone l w hsf s.heap.size a1 M _ hc) (kb_X11_requireZone hI.T (q582 hI.T) (Nat.le_of_ble_eq_true rfl) (Nat.le_of_ble_eq_true rfl)) (q584 hI.T) (sel_X11_requireZone hI.T) (m_recv (g := 12) (i := 16) hI (mokX (by decide) (by decide)) rfl rfl) rfl hl.1 (Nat.le_of_ble_eq_true rfl) dX11_hoursUntilVisitByRemainders_2 ⟨Nat.le_of_ble_eq_true rfl, Nat.le_of_ble_eq_true rfl⟩ (fun H locs hI => ?_)
  refine lv_aload_n hx hb dX11_hoursUntilVisitByRemainders_5 rfl (lv_at hl 0 rfl) ?_
  rcases mbpx_e hf with ⟨n4, hc, hf⟩ | ⟨r3, hc, hf⟩
  · exact m_callxTVp (As := []) (rest := []) hx hb hml hown hI (c_X11_requireGuards l w hsf H.size M _ hc) (kb_X11_requireGuards hI.T (q605 hI.T) (Nat.le_of_ble_eq_true rfl) (Nat.le_of_ble_eq_true rfl)) (q607 hI.T) (sel_X11_requireGuards hI.T) (m_recv (g := 12) (i := 16) hI (mokX (by decide) (by decide)) rfl rfl) rfl hl.1 (Nat.le_of_ble_eq_true rfl) dX11_hoursUntilVisitByRemainders_6 ⟨Nat.le_of_ble_eq_true rfl, Nat.le_of_ble_eq_true rfl⟩ hxt hlk hf (Nat.le_of_ble_eq_true rfl) (Nat.le_of_ble_eq_true rfl)
  refine m_callxRV (As := []) (rest := []) hx hb hml hown hI (c_X11_requireGuards l w hsf H.size M _ hc) (kb_X11_requireGuards hI.T (q605 hI.T) (Nat.le_of_ble_eq_true rfl) (Nat.le_of_ble_eq_true rfl)) (q607 hI.T) (sel_X11_requireGuards hI.T) (m_recv (g := 12) (i := 16) hI (mokX (by decide) (by decide)) rfl rfl) rfl hl.1 (Nat.le_of_ble_eq_true rfl) dX11_hoursUntilVisitByRemainders_6 ⟨Nat.le_of_ble_eq_true rfl, Nat.le_of_ble_eq_true rfl⟩ (fun H locs hI => ?_)
  refine lv_aload_n hx hb dX11_hoursUntilVisitByRemainders_9 rfl (lv_at hl 0 rfl) ?_
  refine m_get (g := 12) (i := 16) (ci := 9) (k := 0) (v := .ref (w.1 0 0)) hx hb hI hown (mokX (by decide) (by decide)) rfl rfl (by decide) lyX11 (q294 hI.T) rfl dX11_hoursUntilVisitByRemainders_10 ?_
  refine m_get (g := 0) (i := 0) (ci := 8) (k := 2) (v := .ref (w.1 0 6)) hx hb hI hown (mokS (by decide) (by decide)) rfl rfl (by decide) lyX9 (q191 hI.T) rfl dX11_hoursUntilVisitByRemainders_13 ?_
  refine lv_iload_n hx hb dX11_hoursUntilVisitByRemainders_16 rfl (lv_at hl 1 rfl) ?_
  obtain ⟨r5, hc, hf⟩ := mbp_e hf
  refine m_callV (As := [.int a1]) (rest := []) hx hb hml hown hI (c_X1_visitByRemainders l w H.size 0 (by decide) a1 M _ hc) (kb_X1_visitByRemainders hI.T (q1520 hI.T) (Nat.le_of_ble_eq_true rfl) (Nat.le_of_ble_eq_true rfl)) (q1521 hI.T) (q1522 hI.T) (m_recv (g := 0) (i := 6) hI (mokS (by decide) (by decide)) rfl rfl) rfl hl.1 (Nat.le_of_ble_eq_true rfl) dX11_hoursUntilVisitByRemainders_17 ⟨Nat.le_of_ble_eq_true rfl, Nat.le_of_ble_eq_true rfl⟩ (fun H locs hI => ?_)
  exact m_iretxp hx hb hr hlk hI hf dX11_hoursUntilVisitByRemainders_20 (Nat.le_of_ble_eq_true rfl) (Nat.le_of_ble_eq_true rfl)
