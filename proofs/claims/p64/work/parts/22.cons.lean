abbrev rmX11_alarmsIn : Room := { frames := 8, cells := 1, slots := 6, locals := 140 }
theorem kb_X11_alarmsIn {R : Room} {s : State} {args : Array Value} {own : String} {idx : Nat} (hT : mT s) (hlink : (Cond.methodLink own idx yX11_alarmsIn).before args s = true) (h1 : rmX11_alarmsIn.frames + 1 ≤ R.frames) (h2 : 8 + (3 + 11) + rmX11_alarmsIn.locals ≤ R.locals) : CallB R s args own idx yX11_alarmsIn cX11_alarmsIn 3 (some .int) [Cond.code yX11_alarmsIn cX11_alarmsIn 3 (some .int)] rmX11_alarmsIn 1 6 1 := m_callB hT kc_X11_alarmsIn ki_X11_alarmsIn hlink (by decide +kernel) ⟨rfl, rfl, h1, h2⟩
set_option maxHeartbeats 4000000 in
set_option maxRecDepth 100000 in
theorem c_X11_alarmsIn (l : Launch) (w : WD) (hsf : l.stackTraces = false) (sz : Nat) (a1 : Int32) (M : Mem) (r : (Nat ⊕ Int32)) (M9 : Mem) (hf : f_X11_alarmsIn a1 M = some (r, M9)) : mMetx l yX11_alarmsIn cX11_alarmsIn 3 (some .int) rmX11_alarmsIn w sz M [.ref (w.1 12 16), .int a1] (moI r) M9 1 6 := by
  refine m_ofx (by decide) (Nat.le_of_ble_eq_true rfl) ?_
  intro p e s m args below meth c hx hb hr hml hown hlk hxt hI ls hl
  have hl : lv_has ls 3 [(0, .ref (w.1 12 16)), (1, .int a1)] := hl
  unfold f_X11_alarmsIn at hf
  refine lv_iload_n hx hb dX11_alarmsIn_0 rfl (lv_at hl 1 rfl) ?_
  obtain ⟨k10_13, ek10_13, hf⟩ := mlet_e hf
  have hj10_13 : ∀ (_u : Unit) (H : Heap) (locs : List Loc) (ls : Array Slot), k10_13 _u = some (r, M9) → mI w s (mA w s.heap.size) H locs M → lv_has ls 3 [] → W p l e rmX11_alarmsIn s m args below meth c H locs 0 0 (vx_MQ below (mQx w s.heap.size (moI r) M9) (mXx w s.heap.size (moI r) M9) args s 1 6 (mA w s.heap.size)) (F0 m 10 ls []) := by
    intro _u H locs ls hf hI hl
    rw [ek10_13] at hf
    try dsimp only at hf
    exact m_throw (n := 2) (ix := 2) hx hb hsf hown hI rfl (q589 hI.T) (q18 hI.T) (m_thw_2_X11_175 hI) hl.1 hml dX11_alarmsIn_10 dX11_alarmsIn_13 dX11_alarmsIn_14 dX11_alarmsIn_16 dX11_alarmsIn_19 hxt (Nat.le_of_ble_eq_true rfl) (Nat.le_of_ble_eq_true rfl) (Nat.le_of_ble_eq_true rfl) (Nat.le_of_ble_eq_true rfl) hlk hf (Nat.le_of_ble_eq_true rfl) (Nat.le_of_ble_eq_true rfl)
  refine lv_if_lt (tgt := 10) hx hb dX11_alarmsIn_1 (by decide) (fun c1 => ?_) (fun c1 => ?_)
  · have hf := (if_pos c1).symm.trans hf
    exact hj10_13 () s.heap _ _ hf hI (lv_sub hl [] rfl)
  · have hf := (if_neg c1).symm.trans hf
    refine lv_iload_n hx hb dX11_alarmsIn_4 rfl (lv_at hl 1 rfl) ?_
    refine lv_bipush (v := 24) hx hb dX11_alarmsIn_5 (by decide) ?_
    refine lv_icmp_le (tgt := 20) hx hb dX11_alarmsIn_7 (by decide) (fun c2 => ?_) (fun c2 => ?_)
    · have hf := (if_pos c2).symm.trans hf
      refine lv_aload_n hx hb dX11_alarmsIn_20 rfl (lv_at hl 0 rfl) ?_
      refine m_get (g := 12) (i := 16) (ci := 9) (k := 4) (v := .ref (w.1 11 6)) hx hb hI hown (mokX (by decide) (by decide)) rfl rfl (by decide) lyX11 (q298 hI.T) rfl dX11_alarmsIn_21 ?_
      refine lv_aload_n hx hb dX11_alarmsIn_24 rfl (lv_at hl 0 rfl) ?_
      refine m_get (g := 12) (i := 16) (ci := 9) (k := 0) (v := .ref (w.1 0 0)) hx hb hI hown (mokX (by decide) (by decide)) rfl rfl (by decide) lyX11 (q294 hI.T) rfl dX11_alarmsIn_25 ?_
      refine m_get (g := 0) (i := 0) (ci := 8) (k := 2) (v := .ref (w.1 0 6)) hx hb hI hown (mokS (by decide) (by decide)) rfl rfl (by decide) lyX9 (q191 hI.T) rfl dX11_alarmsIn_28 ?_
      obtain ⟨r3, M4, hc, hf⟩ := mbnd_e hf
      refine m_callV (As := [.ref (w.1 0 6)]) (rest := []) hx hb hml hown hI (c_X1_copyFrom l w s.heap.size 11 (by decide) 0 (by decide) M _ _ hc) (kb_X1_copyFrom hI.T (q614 hI.T) (Nat.le_of_ble_eq_true rfl) (Nat.le_of_ble_eq_true rfl)) (q615 hI.T) (q616 hI.T) (m_recv (g := 11) (i := 6) hI (mokB (by decide) (by decide) (by decide)) rfl rfl) rfl hl.1 (Nat.le_of_ble_eq_true rfl) dX11_alarmsIn_31 ⟨Nat.le_of_ble_eq_true rfl, Nat.le_of_ble_eq_true rfl⟩ (fun H locs hI => ?_)
      refine lv_iconst (v := 0) hx hb dX11_alarmsIn_34 (by decide) ?_
      refine lv_istore_n (lv' := [(2, .int (0 : Int32)), (0, .ref (w.1 12 16)), (1, .int a1)]) hx hb dX11_alarmsIn_35 rfl hl (by decide) rfl (fun ls hl => ?_)
      have hL36 : ∀ (n : Nat) (x5 : Int32) (M6 : Mem) (kk : Mem → Option ((Nat ⊕ Int32) × Mem)) (H : Heap) (locs : List Loc) (ls : Array Slot), f_X11_alarmsIn_L36 a1 n x5 M6 kk = some (r, M9) → mI w s (mA w s.heap.size) H locs M6 → lv_has ls 3 [(0, .ref (w.1 12 16)), (1, .int a1), (2, .int x5)] → (∀  (M6 : Mem) (H : Heap) (locs : List Loc) (ls : Array Slot), kk M6 = some (r, M9) → mI w s (mA w s.heap.size) H locs M6 → lv_has ls 3 [(0, .ref (w.1 12 16))] → W p l e rmX11_alarmsIn s m args below meth c H locs 0 0 (vx_MQ below (mQx w s.heap.size (moI r) M9) (mXx w s.heap.size (moI r) M9) args s 1 6 (mA w s.heap.size)) (F0 m 55 ls [])) → W p l e rmX11_alarmsIn s m args below meth c H locs 0 0 (vx_MQ below (mQx w s.heap.size (moI r) M9) (mXx w s.heap.size (moI r) M9) args s 1 6 (mA w s.heap.size)) (F0 m 36 ls []) := by
        intro n
        induction n with
        | zero => intro x5 M6 kk H locs ls hf hI hl hk; rw [f_X11_alarmsIn_L36.eq_1] at hf; cases hf
        | succ n ih36 =>
          intro x5 M6 kk H locs ls hf hI hl hk
          rw [f_X11_alarmsIn_L36.eq_2] at hf
          refine lv_iload_n hx hb dX11_alarmsIn_36 rfl (lv_at hl 2 rfl) ?_
          refine lv_iload_n hx hb dX11_alarmsIn_37 rfl (lv_at hl 1 rfl) ?_
          refine lv_icmp_ge (tgt := 55) hx hb dX11_alarmsIn_38 (by decide) (fun c7 => ?_) (fun c7 => ?_)
          · have hf := (if_pos c7).symm.trans hf
            exact hk M6 H _ _ hf hI (lv_sub hl [0] rfl)
          · have hf := (if_neg c7).symm.trans hf
            refine lv_aload_n hx hb dX11_alarmsIn_41 rfl (lv_at hl 0 rfl) ?_
            refine m_get (g := 12) (i := 16) (ci := 9) (k := 4) (v := .ref (w.1 11 6)) hx hb hI hown (mokX (by decide) (by decide)) rfl rfl (by decide) lyX11 (q298 hI.T) rfl dX11_alarmsIn_42 ?_
            obtain ⟨r8, M10, hc, hf⟩ := mbnd_e hf
            refine m_callV (As := []) (rest := []) hx hb hml hown hI (c_X1_passOneHour l w H.size 11 (by decide) M6 _ _ hc) (kb_X1_passOneHour hI.T (q637 hI.T) (Nat.le_of_ble_eq_true rfl) (Nat.le_of_ble_eq_true rfl)) (q638 hI.T) (q639 hI.T) (m_recv (g := 11) (i := 6) hI (mokB (by decide) (by decide) (by decide)) rfl rfl) rfl hl.1 (Nat.le_of_ble_eq_true rfl) dX11_alarmsIn_45 ⟨Nat.le_of_ble_eq_true rfl, Nat.le_of_ble_eq_true rfl⟩ (fun H locs hI => ?_)
            refine lv_pop hx hb dX11_alarmsIn_48 rfl ?_
            obtain ⟨x11, ex11, hf⟩ := mlet_e hf
            refine lv_iinc (v := x11) (lv' := [(2, .int x11), (0, .ref (w.1 12 16)), (1, .int a1)]) hx hb dX11_alarmsIn_49 hl (k := 2) rfl (by rw [ex11]; rfl) (by decide) rfl (fun ls hl => ?_)
            refine lv_goto (tgt := 36) hx hb dX11_alarmsIn_52 (by decide) ?_
            exact ih36 x11 M10 kk H _ _ hf hI (lv_sub hl [1, 2, 0] rfl) hk
      refine hL36 1000 (0 : Int32) M4 _ _ _ _ hf hI (lv_sub hl [1, 2, 0] rfl) ?_
      intro M12 H locs ls hf hI hl
      try dsimp only at hf
      refine lv_aload_n hx hb dX11_alarmsIn_55 rfl (lv_at hl 0 rfl) ?_
      refine m_get (g := 12) (i := 16) (ci := 9) (k := 4) (v := .ref (w.1 11 6)) hx hb hI hown (mokX (by decide) (by decide)) rfl rfl (by decide) lyX11 (q298 hI.T) rfl dX11_alarmsIn_56 ?_
      refine m_get (g := 11) (i := 6) (ci := 0) (k := 3) (v := .int (M12 11 6 3)) hx hb hI hown (mokB (by decide) (by decide) (by decide)) rfl rfl (by decide) lyX1 (q134 hI.T) rfl dX11_alarmsIn_59 ?_
      refine lv_aload_n hx hb dX11_alarmsIn_62 rfl (lv_at hl 0 rfl) ?_
      refine m_get (g := 12) (i := 16) (ci := 9) (k := 0) (v := .ref (w.1 0 0)) hx hb hI hown (mokX (by decide) (by decide)) rfl rfl (by decide) lyX11 (q294 hI.T) rfl dX11_alarmsIn_63 ?_
      refine m_get (g := 0) (i := 0) (ci := 8) (k := 2) (v := .ref (w.1 0 6)) hx hb hI hown (mokS (by decide) (by decide)) rfl rfl (by decide) lyX9 (q191 hI.T) rfl dX11_alarmsIn_66 ?_
      refine m_get (g := 0) (i := 6) (ci := 0) (k := 3) (v := .int (M12 0 6 3)) hx hb hI hown (mokS (by decide) (by decide)) rfl rfl (by decide) lyX1 (q134 hI.T) rfl dX11_alarmsIn_69 ?_
      refine lv_isub hx hb dX11_alarmsIn_72 ?_
      exact m_iretx hx hb hr hlk hI hf dX11_alarmsIn_73 (Nat.le_of_ble_eq_true rfl) (Nat.le_of_ble_eq_true rfl)
    · have hf := (if_neg c2).symm.trans hf
      exact hj10_13 () s.heap _ _ hf hI (lv_sub hl [] rfl)
abbrev rmX1_comesBefore : Room := { frames := 0, cells := 0, slots := 0, locals := 0 }
theorem kb_X1_comesBefore {R : Room} {s : State} {args : Array Value} {own : String} {idx : Nat} (hT : mT s) (hlink : (Cond.methodLink own idx yX1_comesBefore).before args s = true) (h1 : rmX1_comesBefore.frames + 1 ≤ R.frames) (h2 : 8 + (3 + 11) + rmX1_comesBefore.locals ≤ R.locals) : CallB R s args own idx yX1_comesBefore cX1_comesBefore 3 (some .boolean) [Cond.code yX1_comesBefore cX1_comesBefore 3 (some .boolean)] rmX1_comesBefore 0 0 2 := m_callB hT kc_X1_comesBefore ki_X1_comesBefore hlink (by decide +kernel) ⟨rfl, rfl, h1, h2⟩
set_option maxHeartbeats 4000000 in
set_option maxRecDepth 100000 in
theorem c_X1_comesBefore (l : Launch) (w : WD) (sz : Nat) (g : Nat) (hg : g ≤ 11) (a1 : Int32) (a2 : Int32) (M : Mem) (r : Int32) (hf : f_X1_comesBefore g a1 a2 M = some r) : mMet l yX1_comesBefore cX1_comesBefore 3 (some .boolean) rmX1_comesBefore w sz M [.ref (w.1 g 6), .int a1, .int a2] (some (.int r)) M := by
  refine m_of (by decide) (Nat.le_of_ble_eq_true rfl) ?_
  intro p e s m args below meth c hx hb hr hml hown hlk hI ls hl
  have hl : lv_has ls 3 [(0, .ref (w.1 g 6)), (1, .int a1), (2, .int a2)] := hl
  unfold f_X1_comesBefore at hf
  refine lv_aload_n hx hb dX1_comesBefore_0 rfl (lv_at hl 0 rfl) ?_
  refine m_get (g := g) (i := 6) (ci := 0) (k := 1) (v := .ref (w.1 g 7)) hx hb hI hown (mokB hg (by decide) (by decide)) rfl rfl (by decide) lyX1 (q127 hI.T) rfl dX1_comesBefore_1 ?_
  refine lv_iload_n hx hb dX1_comesBefore_4 rfl (lv_at hl 1 rfl) ?_
  obtain ⟨hi, hf⟩ := mix_e hf
  refine m_iald (g := g) (i := 7) hx hb hI (mokB hg (by decide) (by decide)) rfl hi dX1_comesBefore_5 ?_
  refine lv_aload_n hx hb dX1_comesBefore_6 rfl (lv_at hl 0 rfl) ?_
  refine m_get (g := g) (i := 6) (ci := 0) (k := 1) (v := .ref (w.1 g 7)) hx hb hI hown (mokB hg (by decide) (by decide)) rfl rfl (by decide) lyX1 (q127 hI.T) rfl dX1_comesBefore_7 ?_
  refine lv_iload_n hx hb dX1_comesBefore_10 rfl (lv_at hl 2 rfl) ?_
  obtain ⟨hi, hf⟩ := mix_e hf
  refine m_iald (g := g) (i := 7) hx hb hI (mokB hg (by decide) (by decide)) rfl hi dX1_comesBefore_11 ?_
  refine lv_icmp_eq (tgt := 36) hx hb dX1_comesBefore_12 (by decide) (fun c1 => ?_) (fun c1 => ?_)
  · have hf := (if_pos c1).symm.trans hf
    refine lv_aload_n hx hb dX1_comesBefore_36 rfl (lv_at hl 0 rfl) ?_
    refine m_get (g := g) (i := 6) (ci := 0) (k := 2) (v := .ref (w.1 g 8)) hx hb hI hown (mokB hg (by decide) (by decide)) rfl rfl (by decide) lyX1 (q130 hI.T) rfl dX1_comesBefore_37 ?_
    refine lv_iload_n hx hb dX1_comesBefore_40 rfl (lv_at hl 1 rfl) ?_
    obtain ⟨hi, hf⟩ := mix_e hf
    refine m_iald (g := g) (i := 8) hx hb hI (mokB hg (by decide) (by decide)) rfl hi dX1_comesBefore_41 ?_
    refine lv_aload_n hx hb dX1_comesBefore_42 rfl (lv_at hl 0 rfl) ?_
    refine m_get (g := g) (i := 6) (ci := 0) (k := 2) (v := .ref (w.1 g 8)) hx hb hI hown (mokB hg (by decide) (by decide)) rfl rfl (by decide) lyX1 (q130 hI.T) rfl dX1_comesBefore_43 ?_
    refine lv_iload_n hx hb dX1_comesBefore_46 rfl (lv_at hl 2 rfl) ?_
    obtain ⟨hi, hf⟩ := mix_e hf
    refine m_iald (g := g) (i := 8) hx hb hI (mokB hg (by decide) (by decide)) rfl hi dX1_comesBefore_47 ?_
    refine lv_icmp_eq (tgt := 72) hx hb dX1_comesBefore_48 (by decide) (fun c2 => ?_) (fun c2 => ?_)
    · have hf := (if_pos c2).symm.trans hf
      refine lv_iload_n hx hb dX1_comesBefore_72 rfl (lv_at hl 1 rfl) ?_
      refine lv_iload_n hx hb dX1_comesBefore_73 rfl (lv_at hl 2 rfl) ?_
      refine lv_icmp_ge (tgt := 81) hx hb dX1_comesBefore_74 (by decide) (fun c3 => ?_) (fun c3 => ?_)
      · have hf := (if_pos c3).symm.trans hf
        refine lv_iconst (v := 0) hx hb dX1_comesBefore_81 (by decide) ?_
        exact m_zretp hx hb hr hlk hI rfl hf dX1_comesBefore_82
      · have hf := (if_neg c3).symm.trans hf
        refine lv_iconst (v := 1) hx hb dX1_comesBefore_77 (by decide) ?_
        refine lv_goto (tgt := 82) hx hb dX1_comesBefore_78 (by decide) ?_
        exact m_zretp hx hb hr hlk hI rfl hf dX1_comesBefore_82
    · have hf := (if_neg c2).symm.trans hf
      refine lv_aload_n hx hb dX1_comesBefore_51 rfl (lv_at hl 0 rfl) ?_
      refine m_get (g := g) (i := 6) (ci := 0) (k := 2) (v := .ref (w.1 g 8)) hx hb hI hown (mokB hg (by decide) (by decide)) rfl rfl (by decide) lyX1 (q130 hI.T) rfl dX1_comesBefore_52 ?_
      refine lv_iload_n hx hb dX1_comesBefore_55 rfl (lv_at hl 1 rfl) ?_
      obtain ⟨hi, hf⟩ := mix_e hf
      refine m_iald (g := g) (i := 8) hx hb hI (mokB hg (by decide) (by decide)) rfl hi dX1_comesBefore_56 ?_
      refine lv_aload_n hx hb dX1_comesBefore_57 rfl (lv_at hl 0 rfl) ?_
      refine m_get (g := g) (i := 6) (ci := 0) (k := 2) (v := .ref (w.1 g 8)) hx hb hI hown (mokB hg (by decide) (by decide)) rfl rfl (by decide) lyX1 (q130 hI.T) rfl dX1_comesBefore_58 ?_
      refine lv_iload_n hx hb dX1_comesBefore_61 rfl (lv_at hl 2 rfl) ?_
      obtain ⟨hi, hf⟩ := mix_e hf
      refine m_iald (g := g) (i := 8) hx hb hI (mokB hg (by decide) (by decide)) rfl hi dX1_comesBefore_62 ?_
      refine lv_icmp_le (tgt := 70) hx hb dX1_comesBefore_63 (by decide) (fun c4 => ?_) (fun c4 => ?_)
      · have hf := (if_pos c4).symm.trans hf
        refine lv_iconst (v := 0) hx hb dX1_comesBefore_70 (by decide) ?_
        exact m_zretp hx hb hr hlk hI rfl hf dX1_comesBefore_71
      · have hf := (if_neg c4).symm.trans hf
        refine lv_iconst (v := 1) hx hb dX1_comesBefore_66 (by decide) ?_
        refine lv_goto (tgt := 71) hx hb dX1_comesBefore_67 (by decide) ?_
        exact m_zretp hx hb hr hlk hI rfl hf dX1_comesBefore_71
  · have hf := (if_neg c1).symm.trans hf
    refine lv_aload_n hx hb dX1_comesBefore_15 rfl (lv_at hl 0 rfl) ?_
    refine m_get (g := g) (i := 6) (ci := 0) (k := 1) (v := .ref (w.1 g 7)) hx hb hI hown (mokB hg (by decide) (by decide)) rfl rfl (by decide) lyX1 (q127 hI.T) rfl dX1_comesBefore_16 ?_
    refine lv_iload_n hx hb dX1_comesBefore_19 rfl (lv_at hl 1 rfl) ?_
    obtain ⟨hi, hf⟩ := mix_e hf
    refine m_iald (g := g) (i := 7) hx hb hI (mokB hg (by decide) (by decide)) rfl hi dX1_comesBefore_20 ?_
    refine lv_aload_n hx hb dX1_comesBefore_21 rfl (lv_at hl 0 rfl) ?_
    refine m_get (g := g) (i := 6) (ci := 0) (k := 1) (v := .ref (w.1 g 7)) hx hb hI hown (mokB hg (by decide) (by decide)) rfl rfl (by decide) lyX1 (q127 hI.T) rfl dX1_comesBefore_22 ?_
    refine lv_iload_n hx hb dX1_comesBefore_25 rfl (lv_at hl 2 rfl) ?_
    obtain ⟨hi, hf⟩ := mix_e hf
    refine m_iald (g := g) (i := 7) hx hb hI (mokB hg (by decide) (by decide)) rfl hi dX1_comesBefore_26 ?_
    refine lv_icmp_le (tgt := 34) hx hb dX1_comesBefore_27 (by decide) (fun c5 => ?_) (fun c5 => ?_)
    · have hf := (if_pos c5).symm.trans hf
      refine lv_iconst (v := 0) hx hb dX1_comesBefore_34 (by decide) ?_
      exact m_zretp hx hb hr hlk hI rfl hf dX1_comesBefore_35
    · have hf := (if_neg c5).symm.trans hf
      refine lv_iconst (v := 1) hx hb dX1_comesBefore_30 (by decide) ?_
      refine lv_goto (tgt := 35) hx hb dX1_comesBefore_31 (by decide) ?_
      exact m_zretp hx hb hr hlk hI rfl hf dX1_comesBefore_35
abbrev rmX1_rankOf : Room := { frames := 1, cells := 0, slots := 0, locals := 22 }
theorem kb_X1_rankOf {R : Room} {s : State} {args : Array Value} {own : String} {idx : Nat} (hT : mT s) (hlink : (Cond.methodLink own idx yX1_rankOf).before args s = true) (h1 : rmX1_rankOf.frames + 1 ≤ R.frames) (h2 : 8 + (4 + 11) + rmX1_rankOf.locals ≤ R.locals) : CallB R s args own idx yX1_rankOf cX1_rankOf 4 (some .int) [Cond.code yX1_rankOf cX1_rankOf 4 (some .int)] rmX1_rankOf 0 0 1 := m_callB hT kc_X1_rankOf ki_X1_rankOf hlink (by decide +kernel) ⟨rfl, rfl, h1, h2⟩
set_option maxHeartbeats 4000000 in
set_option maxRecDepth 100000 in
theorem c_X1_rankOf (l : Launch) (w : WD) (sz : Nat) (g : Nat) (hg : g ≤ 11) (a1 : Int32) (M : Mem) (r : Int32) (hf : f_X1_rankOf g a1 M = some r) : mMet l yX1_rankOf cX1_rankOf 4 (some .int) rmX1_rankOf w sz M [.ref (w.1 g 6), .int a1] (some (.int r)) M := by
  refine m_of (by decide) (Nat.le_of_ble_eq_true rfl) ?_
  intro p e s m args below meth c hx hb hr hml hown hlk hI ls hl
  have hl : lv_has ls 4 [(0, .ref (w.1 g 6)), (1, .int a1)] := hl
  unfold f_X1_rankOf at hf
  refine lv_iconst (v := 0) hx hb dX1_rankOf_0 (by decide) ?_
  refine lv_istore_n (lv' := [(2, .int (0 : Int32)), (0, .ref (w.1 g 6)), (1, .int a1)]) hx hb dX1_rankOf_1 rfl hl (by decide) rfl (fun ls hl => ?_)
  refine lv_iconst (v := 0) hx hb dX1_rankOf_2 (by decide) ?_
  refine lv_istore_n (lv' := [(3, .int (0 : Int32)), (2, .int (0 : Int32)), (0, .ref (w.1 g 6)), (1, .int a1)]) hx hb dX1_rankOf_3 rfl hl (by decide) rfl (fun ls hl => ?_)
  have hL4 : ∀ (n : Nat) (x1 : Int32) (x2 : Int32) (kk : Int32 → Option Int32) (H : Heap) (locs : List Loc) (ls : Array Slot), f_X1_rankOf_L4 g a1 M n x1 x2 kk = some r → mI w s (mA w s.heap.size) H locs M → lv_has ls 4 [(0, .ref (w.1 g 6)), (1, .int a1), (2, .int x1), (3, .int x2)] → (∀ (x1 : Int32) (H : Heap) (locs : List Loc) (ls : Array Slot), kk x1 = some r → mI w s (mA w s.heap.size) H locs M → lv_has ls 4 [(2, .int x1)] → W p l e rmX1_rankOf s m args below meth c H locs 0 0 (MQ below (mQ w s.heap.size (some (.int r)) M) args s 0 0 (mA w s.heap.size)) (F0 m 28 ls [])) → W p l e rmX1_rankOf s m args below meth c H locs 0 0 (MQ below (mQ w s.heap.size (some (.int r)) M) args s 0 0 (mA w s.heap.size)) (F0 m 4 ls []) := by
    intro n
    induction n with
    | zero => intro x1 x2 kk H locs ls hf hI hl hk; rw [f_X1_rankOf_L4.eq_1] at hf; cases hf
    | succ n ih4 =>
      intro x1 x2 kk H locs ls hf hI hl hk
      rw [f_X1_rankOf_L4.eq_2] at hf
      refine lv_iload_n hx hb dX1_rankOf_4 rfl (lv_at hl 3 rfl) ?_
      refine lv_bipush (v := 8) hx hb dX1_rankOf_5 (by decide) ?_
      refine lv_icmp_ge (tgt := 28) hx hb dX1_rankOf_7 (by decide) (fun c3 => ?_) (fun c3 => ?_)
      · have hf := (if_pos c3).symm.trans hf
        exact hk x1 H _ _ hf hI (lv_sub hl [2] rfl)
      · have hf := (if_neg c3).symm.trans hf
        refine lv_aload_n hx hb dX1_rankOf_10 rfl (lv_at hl 0 rfl) ?_
        refine lv_iload_n hx hb dX1_rankOf_11 rfl (lv_at hl 3 rfl) ?_
        refine lv_iload_n hx hb dX1_rankOf_12 rfl (lv_at hl 1 rfl) ?_
        obtain ⟨r4, hc, hf⟩ := mbp_e hf
        refine m_callV (As := [.int x2, .int a1]) (rest := []) hx hb hml hown hI (c_X1_comesBefore l w H.size g hg x2 a1 M _ hc) (kb_X1_comesBefore hI.T (q1501 hI.T) (Nat.le_of_ble_eq_true rfl) (Nat.le_of_ble_eq_true rfl)) (q1503 hI.T) (sel_X1_comesBefore hI.T) (m_recv (g := g) (i := 6) hI (mokB hg (by decide) (by decide)) rfl rfl) rfl hl.1 (Nat.le_of_ble_eq_true rfl) dX1_rankOf_13 ⟨Nat.le_of_ble_eq_true rfl, Nat.le_of_ble_eq_true rfl⟩ (fun H locs hI => ?_)
        obtain ⟨k22_8, ek22_8, hf⟩ := mlet_e hf
        have hj22_8 : ∀ (x7 : Int32) (H : Heap) (locs : List Loc) (ls : Array Slot), k22_8 x7 = some r → mI w s (mA w s.heap.size) H locs M → lv_has ls 4 [(0, .ref (w.1 g 6)), (1, .int a1), (2, .int x7), (3, .int x2)] → W p l e rmX1_rankOf s m args below meth c H locs 0 0 (MQ below (mQ w s.heap.size (some (.int r)) M) args s 0 0 (mA w s.heap.size)) (F0 m 22 ls []) := by
          intro x7 H locs ls hf hI hl
          rw [ek22_8] at hf
          try dsimp only at hf
          obtain ⟨x9, ex9, hf⟩ := mlet_e hf
          refine lv_iinc (v := x9) (lv' := [(3, .int x9), (0, .ref (w.1 g 6)), (1, .int a1), (2, .int x7)]) hx hb dX1_rankOf_22 hl (k := 3) rfl (by rw [ex9]; rfl) (by decide) rfl (fun ls hl => ?_)
          refine lv_goto (tgt := 4) hx hb dX1_rankOf_25 (by decide) ?_
          exact ih4 x7 x9 kk H _ _ hf hI (lv_sub hl [1, 2, 3, 0] rfl) hk
        refine lv_if_eq (tgt := 22) hx hb dX1_rankOf_16 (by decide) (fun c5 => ?_) (fun c5 => ?_)
        · have hf := (if_pos c5).symm.trans hf
          exact hj22_8 x1 H _ _ hf hI (lv_sub hl [0, 1, 2, 3] rfl)
        · have hf := (if_neg c5).symm.trans hf
          obtain ⟨x6, ex6, hf⟩ := mlet_e hf
          refine lv_iinc (v := x6) (lv' := [(2, .int x6), (0, .ref (w.1 g 6)), (1, .int a1), (3, .int x2)]) hx hb dX1_rankOf_19 hl (k := 2) rfl (by rw [ex6]; rfl) (by decide) rfl (fun ls hl => ?_)
          exact hj22_8 x6 H _ _ hf hI (lv_sub hl [1, 2, 0, 3] rfl)
  refine hL4 1000 (0 : Int32) (0 : Int32) _ _ _ _ hf hI (lv_sub hl [2, 3, 1, 0] rfl) ?_
  intro x10 H locs ls hf hI hl
  try dsimp only at hf
  refine lv_iload_n hx hb dX1_rankOf_28 rfl (lv_at hl 0 rfl) ?_
  exact m_iretp hx hb hr hlk hI hf dX1_rankOf_29
abbrev rmX1_zoneAtRank : Room := { frames := 2, cells := 0, slots := 0, locals := 45 }
theorem kb_X1_zoneAtRank {R : Room} {s : State} {args : Array Value} {own : String} {idx : Nat} (hT : mT s) (hlink : (Cond.methodLink own idx yX1_zoneAtRank).before args s = true) (h1 : rmX1_zoneAtRank.frames + 1 ≤ R.frames) (h2 : 8 + (3 + 11) + rmX1_zoneAtRank.locals ≤ R.locals) : CallB R s args own idx yX1_zoneAtRank cX1_zoneAtRank 3 (some .int) [Cond.code yX1_zoneAtRank cX1_zoneAtRank 3 (some .int)] rmX1_zoneAtRank 0 0 1 := m_callB hT kc_X1_zoneAtRank ki_X1_zoneAtRank hlink (by decide +kernel) ⟨rfl, rfl, h1, h2⟩
set_option maxHeartbeats 4000000 in
set_option maxRecDepth 100000 in
theorem c_X1_zoneAtRank (l : Launch) (w : WD) (sz : Nat) (g : Nat) (hg : g ≤ 11) (a1 : Int32) (M : Mem) (r : Int32) (hf : f_X1_zoneAtRank g a1 M = some r) : mMet l yX1_zoneAtRank cX1_zoneAtRank 3 (some .int) rmX1_zoneAtRank w sz M [.ref (w.1 g 6), .int a1] (some (.int r)) M := by
  refine m_of (by decide) (Nat.le_of_ble_eq_true rfl) ?_
  intro p e s m args below meth c hx hb hr hml hown hlk hI ls hl
  have hl : lv_has ls 3 [(0, .ref (w.1 g 6)), (1, .int a1)] := hl
  unfold f_X1_zoneAtRank at hf
  refine lv_iconst (v := 0) hx hb dX1_zoneAtRank_0 (by decide) ?_
  refine lv_istore_n (lv' := [(2, .int (0 : Int32)), (0, .ref (w.1 g 6)), (1, .int a1)]) hx hb dX1_zoneAtRank_1 rfl hl (by decide) rfl (fun ls hl => ?_)
  have hL2 : ∀ (n : Nat) (x1 : Int32) (kk : Unit → Option Int32) (H : Heap) (locs : List Loc) (ls : Array Slot), f_X1_zoneAtRank_L2 g a1 M n x1 kk = some r → mI w s (mA w s.heap.size) H locs M → lv_has ls 3 [(0, .ref (w.1 g 6)), (1, .int a1), (2, .int x1)] → (∀ (_u : Unit) (H : Heap) (locs : List Loc) (ls : Array Slot), kk () = some r → mI w s (mA w s.heap.size) H locs M → lv_has ls 3 [] → W p l e rmX1_zoneAtRank s m args below meth c H locs 0 0 (MQ below (mQ w s.heap.size (some (.int r)) M) args s 0 0 (mA w s.heap.size)) (F0 m 25 ls [])) → W p l e rmX1_zoneAtRank s m args below meth c H locs 0 0 (MQ below (mQ w s.heap.size (some (.int r)) M) args s 0 0 (mA w s.heap.size)) (F0 m 2 ls []) := by
    intro n
    induction n with
    | zero => intro x1 kk H locs ls hf hI hl hk; rw [f_X1_zoneAtRank_L2.eq_1] at hf; cases hf
    | succ n ih2 =>
      intro x1 kk H locs ls hf hI hl hk
      rw [f_X1_zoneAtRank_L2.eq_2] at hf
      refine lv_iload_n hx hb dX1_zoneAtRank_2 rfl (lv_at hl 2 rfl) ?_
      refine lv_bipush (v := 8) hx hb dX1_zoneAtRank_3 (by decide) ?_
      refine lv_icmp_ge (tgt := 25) hx hb dX1_zoneAtRank_5 (by decide) (fun c2 => ?_) (fun c2 => ?_)
      · have hf := (if_pos c2).symm.trans hf
        exact hk () H _ _ hf hI (lv_sub hl [] rfl)
      · have hf := (if_neg c2).symm.trans hf
        refine lv_aload_n hx hb dX1_zoneAtRank_8 rfl (lv_at hl 0 rfl) ?_
        refine lv_iload_n hx hb dX1_zoneAtRank_9 rfl (lv_at hl 2 rfl) ?_
        obtain ⟨r3, hc, hf⟩ := mbp_e hf
        refine m_callV (As := [.int x1]) (rest := []) hx hb hml hown hI (c_X1_rankOf l w H.size g hg x1 M _ hc) (kb_X1_rankOf hI.T (q1497 hI.T) (Nat.le_of_ble_eq_true rfl) (Nat.le_of_ble_eq_true rfl)) (q1499 hI.T) (sel_X1_rankOf hI.T) (m_recv (g := g) (i := 6) hI (mokB hg (by decide) (by decide)) rfl rfl) rfl hl.1 (Nat.le_of_ble_eq_true rfl) dX1_zoneAtRank_10 ⟨Nat.le_of_ble_eq_true rfl, Nat.le_of_ble_eq_true rfl⟩ (fun H locs hI => ?_)
        refine lv_iload_n hx hb dX1_zoneAtRank_13 rfl (lv_at hl 1 rfl) ?_
        refine lv_icmp_ne (tgt := 19) hx hb dX1_zoneAtRank_14 (by decide) (fun c4 => ?_) (fun c4 => ?_)
        · have hf := (if_neg c4).symm.trans hf
          obtain ⟨x5, ex5, hf⟩ := mlet_e hf
          refine lv_iinc (v := x5) (lv' := [(2, .int x5), (0, .ref (w.1 g 6)), (1, .int a1)]) hx hb dX1_zoneAtRank_19 hl (k := 2) rfl (by rw [ex5]; rfl) (by decide) rfl (fun ls hl => ?_)
          refine lv_goto (tgt := 2) hx hb dX1_zoneAtRank_22 (by decide) ?_
          exact ih2 x5 kk H _ _ hf hI (lv_sub hl [1, 2, 0] rfl) hk
        · have hf := (if_pos c4).symm.trans hf
          refine lv_iload_n hx hb dX1_zoneAtRank_17 rfl (lv_at hl 2 rfl) ?_
          exact m_iretp hx hb hr hlk hI hf dX1_zoneAtRank_18
  refine hL2 1000 (0 : Int32) _ _ _ _ hf hI (lv_sub hl [1, 2, 0] rfl) ?_
  intro _u H locs ls hf hI hl
  try dsimp only at hf
  refine lv_iconst (v := (-1)) hx hb dX1_zoneAtRank_25 (by decide) ?_
  exact m_iretp hx hb hr hlk hI hf dX1_zoneAtRank_26
abbrev rmX11_zoneByNoise : Room := { frames := 8, cells := 1, slots := 6, locals := 140 }
theorem kb_X11_zoneByNoise {R : Room} {s : State} {args : Array Value} {own : String} {idx : Nat} (hT : mT s) (hlink : (Cond.methodLink own idx yX11_zoneByNoise).before args s = true) (h1 : rmX11_zoneByNoise.frames + 1 ≤ R.frames) (h2 : 8 + (2 + 11) + rmX11_zoneByNoise.locals ≤ R.locals) : CallB R s args own idx yX11_zoneByNoise cX11_zoneByNoise 2 (some .int) [Cond.code yX11_zoneByNoise cX11_zoneByNoise 2 (some .int)] rmX11_zoneByNoise 1 6 1 := m_callB hT kc_X11_zoneByNoise ki_X11_zoneByNoise hlink (by decide +kernel) ⟨rfl, rfl, h1, h2⟩
set_option maxHeartbeats 4000000 in
set_option maxRecDepth 100000 in
theorem c_X11_zoneByNoise (l : Launch) (w : WD) (hsf : l.stackTraces = false) (sz : Nat) (a1 : Int32) (M : Mem) (r : (Nat ⊕ Int32)) (hf : f_X11_zoneByNoise a1 M = some r) : mMetx l yX11_zoneByNoise cX11_zoneByNoise 2 (some .int) rmX11_zoneByNoise w sz M [.ref (w.1 12 16), .int a1] (moI r) M 1 6 := by
  refine m_ofx (by decide) (Nat.le_of_ble_eq_true rfl) ?_
  intro p e s m args below meth c hx hb hr hml hown hlk hxt hI ls hl
  have hl : lv_has ls 2 [(0, .ref (w.1 12 16)), (1, .int a1)] := hl
  unfold f_X11_zoneByNoise at hf
  refine lv_iload_n hx hb dX11_zoneByNoise_0 rfl (lv_at hl 1 rfl) ?_
  obtain ⟨k10_4, ek10_4, hf⟩ := mlet_e hf
  have hj10_4 : ∀ (_u : Unit) (H : Heap) (locs : List Loc) (ls : Array Slot), k10_4 _u = some r → mI w s (mA w s.heap.size) H locs M → lv_has ls 2 [] → W p l e rmX11_zoneByNoise s m args below meth c H locs 0 0 (vx_MQ below (mQx w s.heap.size (moI r) M) (mXx w s.heap.size (moI r) M) args s 1 6 (mA w s.heap.size)) (F0 m 10 ls []) := by
    intro _u H locs ls hf hI hl
    rw [ek10_4] at hf
    try dsimp only at hf
    exact m_throwXp (n := 4) (ix := 3) hx hb hsf hown hI rfl (q390 hI.T) (q14 hI.T) (m_thw_4_X11_155 hI) hl.1 hml dX11_zoneByNoise_10 dX11_zoneByNoise_13 dX11_zoneByNoise_14 dX11_zoneByNoise_16 dX11_zoneByNoise_19 hxt (Nat.le_of_ble_eq_true rfl) (Nat.le_of_ble_eq_true rfl) (Nat.le_of_ble_eq_true rfl) (Nat.le_of_ble_eq_true rfl) hlk hf (Nat.le_of_ble_eq_true rfl) (Nat.le_of_ble_eq_true rfl)
  refine lv_if_lt (tgt := 10) hx hb dX11_zoneByNoise_1 (by decide) (fun c1 => ?_) (fun c1 => ?_)
  · have hf := (if_pos c1).symm.trans hf
    exact hj10_4 () s.heap _ _ hf hI (lv_sub hl [] rfl)
  · have hf := (if_neg c1).symm.trans hf
    refine lv_iload_n hx hb dX11_zoneByNoise_4 rfl (lv_at hl 1 rfl) ?_
    refine lv_bipush (v := 8) hx hb dX11_zoneByNoise_5 (by decide) ?_
    refine lv_icmp_lt (tgt := 20) hx hb dX11_zoneByNoise_7 (by decide) (fun c2 => ?_) (fun c2 => ?_)
    · have hf := (if_pos c2).symm.trans hf
      refine lv_aload_n hx hb dX11_zoneByNoise_20 rfl (lv_at hl 0 rfl) ?_
      refine m_get (g := 12) (i := 16) (ci := 9) (k := 0) (v := .ref (w.1 0 0)) hx hb hI hown (mokX (by decide) (by decide)) rfl rfl (by decide) lyX11 (q294 hI.T) rfl dX11_zoneByNoise_21 ?_
      refine m_get (g := 0) (i := 0) (ci := 8) (k := 2) (v := .ref (w.1 0 6)) hx hb hI hown (mokS (by decide) (by decide)) rfl rfl (by decide) lyX9 (q191 hI.T) rfl dX11_zoneByNoise_24 ?_
      refine lv_iload_n hx hb dX11_zoneByNoise_27 rfl (lv_at hl 1 rfl) ?_
      obtain ⟨r3, hc, hf⟩ := mbp_e hf
      refine m_callV (As := [.int a1]) (rest := []) hx hb hml hown hI (c_X1_zoneAtRank l w s.heap.size 0 (by decide) a1 M _ hc) (kb_X1_zoneAtRank hI.T (q1493 hI.T) (Nat.le_of_ble_eq_true rfl) (Nat.le_of_ble_eq_true rfl)) (q1494 hI.T) (q1495 hI.T) (m_recv (g := 0) (i := 6) hI (mokS (by decide) (by decide)) rfl rfl) rfl hl.1 (Nat.le_of_ble_eq_true rfl) dX11_zoneByNoise_28 ⟨Nat.le_of_ble_eq_true rfl, Nat.le_of_ble_eq_true rfl⟩ (fun H locs hI => ?_)
      exact m_iretxp hx hb hr hlk hI hf dX11_zoneByNoise_31 (Nat.le_of_ble_eq_true rfl) (Nat.le_of_ble_eq_true rfl)
    · have hf := (if_neg c2).symm.trans hf
      exact hj10_4 () s.heap _ _ hf hI (lv_sub hl [] rfl)
abbrev rmX11_alarmsOf : Room := { frames := 9, cells := 1, slots := 6, locals := 161 }
theorem kb_X11_alarmsOf {R : Room} {s : State} {args : Array Value} {own : String} {idx : Nat} (hT : mT s) (hlink : (Cond.methodLink own idx yX11_alarmsOf).before args s = true) (h1 : rmX11_alarmsOf.frames + 1 ≤ R.frames) (h2 : 8 + (2 + 11) + rmX11_alarmsOf.locals ≤ R.locals) : CallB R s args own idx yX11_alarmsOf cX11_alarmsOf 2 (some .int) [Cond.code yX11_alarmsOf cX11_alarmsOf 2 (some .int)] rmX11_alarmsOf 1 6 1 := m_callB hT kc_X11_alarmsOf ki_X11_alarmsOf hlink (by decide +kernel) ⟨rfl, rfl, h1, h2⟩
set_option maxHeartbeats 4000000 in
set_option maxRecDepth 100000 in
theorem c_X11_alarmsOf (l : Launch) (w : WD) (hsf : l.stackTraces = false) (sz : Nat) (a1 : Int32) (M : Mem) (r : (Nat ⊕ Int32)) (hf : f_X11_alarmsOf a1 M = some r) : mMetx l yX11_alarmsOf cX11_alarmsOf 2 (some .int) rmX11_alarmsOf w sz M [.ref (w.1 12 16), .int a1] (moI r) M 1 6 := by
  refine m_ofx (by decide) (Nat.le_of_ble_eq_true rfl) ?_
  intro p e s m args below meth c hx hb hr hml hown hlk hxt hI ls hl
  have hl : lv_has ls 2 [(0, .ref (w.1 12 16)), (1, .int a1)] := hl
  unfold f_X11_alarmsOf at hf
  refine lv_aload_n hx hb dX11_alarmsOf_0 rfl (lv_at hl 0 rfl) ?_
  refine lv_iload_n hx hb dX11_alarmsOf_1 rfl (lv_at hl 1 rfl) ?_
  rcases mbpx_e hf with ⟨n2, hc, hf⟩ | ⟨r1, hc, hf⟩
  · exact m_callxTVp (As := [.int a1]) (rest := []) hx hb hml hown hI (c_X11_requireZone l w hsf s.heap.size a1 M _ hc) (kb_X11_requireZone hI.T (q582 hI.T) (Nat.le_of_ble_eq_true rfl) (Nat.le_of_ble_eq_true rfl)) (q584 hI.T) (sel_X11_requireZone hI.T) (m_recv (g := 12) (i := 16) hI (mokX (by decide) (by decide)) rfl rfl) rfl hl.1 (Nat.le_of_ble_eq_true rfl) dX11_alarmsOf_2 ⟨Nat.le_of_ble_eq_true rfl, Nat.le_of_ble_eq_true rfl⟩ hxt hlk hf (Nat.le_of_ble_eq_true rfl) (Nat.le_of_ble_eq_true rfl)
  refine m_callxRV (As := [.int a1]) (rest := []) hx hb hml hown hI (c_X11_requireZone l w hsf s.heap.size a1 M _ hc) (kb_X11_requireZone hI.T (q582 hI.T) (Nat.le_of_ble_eq_true rfl) (Nat.le_of_ble_eq_true rfl)) (q584 hI.T) (sel_X11_requireZone hI.T) (m_recv (g := 12) (i := 16) hI (mokX (by decide) (by decide)) rfl rfl) rfl hl.1 (Nat.le_of_ble_eq_true rfl) dX11_alarmsOf_2 ⟨Nat.le_of_ble_eq_true rfl, Nat.le_of_ble_eq_true rfl⟩ (fun H locs hI => ?_)
  refine lv_aload_n hx hb dX11_alarmsOf_5 rfl (lv_at hl 0 rfl) ?_
  refine m_get (g := 12) (i := 16) (ci := 9) (k := 0) (v := .ref (w.1 0 0)) hx hb hI hown (mokX (by decide) (by decide)) rfl rfl (by decide) lyX11 (q294 hI.T) rfl dX11_alarmsOf_6 ?_
  refine m_get (g := 0) (i := 0) (ci := 8) (k := 2) (v := .ref (w.1 0 6)) hx hb hI hown (mokS (by decide) (by decide)) rfl rfl (by decide) lyX9 (q191 hI.T) rfl dX11_alarmsOf_9 ?_
  refine m_get (g := 0) (i := 6) (ci := 0) (k := 2) (v := .ref (w.1 0 8)) hx hb hI hown (mokS (by decide) (by decide)) rfl rfl (by decide) lyX1 (q131 hI.T) rfl dX11_alarmsOf_12 ?_
  refine lv_iload_n hx hb dX11_alarmsOf_15 rfl (lv_at hl 1 rfl) ?_
  obtain ⟨hi, hf⟩ := mix_e hf
  refine m_iald (g := 0) (i := 8) hx hb hI (mokS (by decide) (by decide)) rfl hi dX11_alarmsOf_16 ?_
  exact m_iretxp hx hb hr hlk hI hf dX11_alarmsOf_17 (Nat.le_of_ble_eq_true rfl) (Nat.le_of_ble_eq_true rfl)
abbrev rmX11_alarmCount : Room := { frames := 0, cells := 0, slots := 0, locals := 0 }
theorem kb_X11_alarmCount {R : Room} {s : State} {args : Array Value} {own : String} {idx : Nat} (hT : mT s) (hlink : (Cond.methodLink own idx yX11_alarmCount).before args s = true) (h1 : rmX11_alarmCount.frames + 1 ≤ R.frames) (h2 : 8 + (1 + 11) + rmX11_alarmCount.locals ≤ R.locals) : CallB R s args own idx yX11_alarmCount cX11_alarmCount 1 (some .int) [Cond.code yX11_alarmCount cX11_alarmCount 1 (some .int)] rmX11_alarmCount 0 0 0 := m_callB hT kc_X11_alarmCount ki_X11_alarmCount hlink (by decide +kernel) ⟨rfl, rfl, h1, h2⟩
set_option maxHeartbeats 4000000 in
set_option maxRecDepth 100000 in
theorem c_X11_alarmCount (l : Launch) (w : WD) (sz : Nat)  (M : Mem) (r : Int32) (hf : f_X11_alarmCount  M = some r) : mMet l yX11_alarmCount cX11_alarmCount 1 (some .int) rmX11_alarmCount w sz M [.ref (w.1 12 16)] (some (.int r)) M := by
  refine m_of (by decide) (Nat.le_of_ble_eq_true rfl) ?_
  intro p e s m args below meth c hx hb hr hml hown hlk hI ls hl
  have hl : lv_has ls 1 [(0, .ref (w.1 12 16))] := hl
  unfold f_X11_alarmCount at hf
  refine lv_aload_n hx hb dX11_alarmCount_0 rfl (lv_at hl 0 rfl) ?_
  refine m_get (g := 12) (i := 16) (ci := 9) (k := 0) (v := .ref (w.1 0 0)) hx hb hI hown (mokX (by decide) (by decide)) rfl rfl (by decide) lyX11 (q294 hI.T) rfl dX11_alarmCount_1 ?_
  refine m_get (g := 0) (i := 0) (ci := 8) (k := 2) (v := .ref (w.1 0 6)) hx hb hI hown (mokS (by decide) (by decide)) rfl rfl (by decide) lyX9 (q191 hI.T) rfl dX11_alarmCount_4 ?_
  refine m_get (g := 0) (i := 6) (ci := 0) (k := 3) (v := .int (M 0 6 3)) hx hb hI hown (mokS (by decide) (by decide)) rfl rfl (by decide) lyX1 (q134 hI.T) rfl dX11_alarmCount_7 ?_
  exact m_iretp hx hb hr hlk hI hf dX11_alarmCount_10
abbrev rmX11_openingCount : Room := { frames := 0, cells := 0, slots := 0, locals := 0 }
theorem kb_X11_openingCount {R : Room} {s : State} {args : Array Value} {own : String} {idx : Nat} (hT : mT s) (hlink : (Cond.methodLink own idx yX11_openingCount).before args s = true) (h1 : rmX11_openingCount.frames + 1 ≤ R.frames) (h2 : 8 + (1 + 11) + rmX11_openingCount.locals ≤ R.locals) : CallB R s args own idx yX11_openingCount cX11_openingCount 1 (some .int) [Cond.code yX11_openingCount cX11_openingCount 1 (some .int)] rmX11_openingCount 0 0 0 := m_callB hT kc_X11_openingCount ki_X11_openingCount hlink (by decide +kernel) ⟨rfl, rfl, h1, h2⟩
set_option maxHeartbeats 4000000 in
set_option maxRecDepth 100000 in
theorem c_X11_openingCount (l : Launch) (w : WD) (sz : Nat)  (M : Mem) (r : Int32) (hf : f_X11_openingCount  M = some r) : mMet l yX11_openingCount cX11_openingCount 1 (some .int) rmX11_openingCount w sz M [.ref (w.1 12 16)] (some (.int r)) M := by
  refine m_of (by decide) (Nat.le_of_ble_eq_true rfl) ?_
  intro p e s m args below meth c hx hb hr hml hown hlk hI ls hl
  have hl : lv_has ls 1 [(0, .ref (w.1 12 16))] := hl
  unfold f_X11_openingCount at hf
  refine lv_aload_n hx hb dX11_openingCount_0 rfl (lv_at hl 0 rfl) ?_
  refine m_get (g := 12) (i := 16) (ci := 9) (k := 0) (v := .ref (w.1 0 0)) hx hb hI hown (mokX (by decide) (by decide)) rfl rfl (by decide) lyX11 (q294 hI.T) rfl dX11_openingCount_1 ?_
  refine m_get (g := 0) (i := 0) (ci := 8) (k := 1) (v := .ref (w.1 0 5)) hx hb hI hown (mokS (by decide) (by decide)) rfl rfl (by decide) lyX9 (q189 hI.T) rfl dX11_openingCount_4 ?_
  refine m_get (g := 0) (i := 5) (ci := 2) (k := 3) (v := .int (M 0 5 3)) hx hb hI hown (mokS (by decide) (by decide)) rfl rfl (by decide) lyX3 (q108 hI.T) rfl dX11_openingCount_7 ?_
  exact m_iretp hx hb hr hlk hI hf dX11_openingCount_10
abbrev rmX11_logCount : Room := { frames := 0, cells := 0, slots := 0, locals := 0 }
theorem kb_X11_logCount {R : Room} {s : State} {args : Array Value} {own : String} {idx : Nat} (hT : mT s) (hlink : (Cond.methodLink own idx yX11_logCount).before args s = true) (h1 : rmX11_logCount.frames + 1 ≤ R.frames) (h2 : 8 + (1 + 11) + rmX11_logCount.locals ≤ R.locals) : CallB R s args own idx yX11_logCount cX11_logCount 1 (some .int) [Cond.code yX11_logCount cX11_logCount 1 (some .int)] rmX11_logCount 0 0 0 := m_callB hT kc_X11_logCount ki_X11_logCount hlink (by decide +kernel) ⟨rfl, rfl, h1, h2⟩
set_option maxHeartbeats 4000000 in
set_option maxRecDepth 100000 in
theorem c_X11_logCount (l : Launch) (w : WD) (sz : Nat)  (M : Mem) (r : Int32) (hf : f_X11_logCount  M = some r) : mMet l yX11_logCount cX11_logCount 1 (some .int) rmX11_logCount w sz M [.ref (w.1 12 16)] (some (.int r)) M := by
  refine m_of (by decide) (Nat.le_of_ble_eq_true rfl) ?_
  intro p e s m args below meth c hx hb hr hml hown hlk hI ls hl
  have hl : lv_has ls 1 [(0, .ref (w.1 12 16))] := hl
  unfold f_X11_logCount at hf
  refine lv_aload_n hx hb dX11_logCount_0 rfl (lv_at hl 0 rfl) ?_
  refine m_get (g := 12) (i := 16) (ci := 9) (k := 0) (v := .ref (w.1 0 0)) hx hb hI hown (mokX (by decide) (by decide)) rfl rfl (by decide) lyX11 (q294 hI.T) rfl dX11_logCount_1 ?_
  refine m_get (g := 0) (i := 0) (ci := 8) (k := 3) (v := .ref (w.1 0 12)) hx hb hI hown (mokS (by decide) (by decide)) rfl rfl (by decide) lyX9 (q193 hI.T) rfl dX11_logCount_4 ?_
  refine m_get (g := 0) (i := 12) (ci := 4) (k := 0) (v := .int (M 0 12 0)) hx hb hI hown (mokS (by decide) (by decide)) rfl rfl (by decide) lyX5 (q169 hI.T) rfl dX11_logCount_7 ?_
  exact m_iretp hx hb hr hlk hI hf dX11_logCount_10
abbrev rmX11_requireEntry : Room := { frames := 8, cells := 1, slots := 6, locals := 140 }
theorem kb_X11_requireEntry {R : Room} {s : State} {args : Array Value} {own : String} {idx : Nat} (hT : mT s) (hlink : (Cond.methodLink own idx yX11_requireEntry).before args s = true) (h1 : rmX11_requireEntry.frames + 1 ≤ R.frames) (h2 : 8 + (2 + 11) + rmX11_requireEntry.locals ≤ R.locals) : CallB R s args own idx yX11_requireEntry cX11_requireEntry 2 (none) [Cond.code yX11_requireEntry cX11_requireEntry 2 (none)] rmX11_requireEntry 1 6 1 := m_callB hT kc_X11_requireEntry ki_X11_requireEntry hlink (by decide +kernel) ⟨rfl, rfl, h1, h2⟩
set_option maxHeartbeats 4000000 in
set_option maxRecDepth 100000 in
theorem c_X11_requireEntry (l : Launch) (w : WD) (hsf : l.stackTraces = false) (sz : Nat) (a1 : Int32) (M : Mem) (r : (Nat ⊕ Unit)) (hf : f_X11_requireEntry a1 M = some r) : mMetx l yX11_requireEntry cX11_requireEntry 2 (none) rmX11_requireEntry w sz M [.ref (w.1 12 16), .int a1] (moU r) M 1 6 := by
  refine m_ofx (by decide) (Nat.le_of_ble_eq_true rfl) ?_
  intro p e s m args below meth c hx hb hr hml hown hlk hxt hI ls hl
  have hl : lv_has ls 2 [(0, .ref (w.1 12 16)), (1, .int a1)] := hl
  unfold f_X11_requireEntry at hf
  refine lv_iload_n hx hb dX11_requireEntry_0 rfl (lv_at hl 1 rfl) ?_
  obtain ⟨k18_3, ek18_3, hf⟩ := mlet_e hf
  have hj18_3 : ∀ (_u : Unit) (H : Heap) (locs : List Loc) (ls : Array Slot), k18_3 _u = some r → mI w s (mA w s.heap.size) H locs M → lv_has ls 2 [] → W p l e rmX11_requireEntry s m args below meth c H locs 0 0 (vx_MQ below (mQx w s.heap.size (moU r) M) (mXx w s.heap.size (moU r) M) args s 1 6 (mA w s.heap.size)) (F0 m 18 ls []) := by
    intro _u H locs ls hf hI hl
    rw [ek18_3] at hf
    try dsimp only at hf
    exact m_throwXWp (n := 4) (ix := 19) hx hb hsf hown hI rfl (q390 hI.T) (q14 hI.T) (m_thw_4_X11_155 hI) hl.1 hml dX11_requireEntry_18 dX11_requireEntry_21 dX11_requireEntry_22 dX11_requireEntry_25 dX11_requireEntry_28 hxt (Nat.le_of_ble_eq_true rfl) (Nat.le_of_ble_eq_true rfl) (Nat.le_of_ble_eq_true rfl) (Nat.le_of_ble_eq_true rfl) hlk hf (Nat.le_of_ble_eq_true rfl) (Nat.le_of_ble_eq_true rfl)
  refine lv_if_lt (tgt := 18) hx hb dX11_requireEntry_1 (by decide) (fun c1 => ?_) (fun c1 => ?_)
  · have hf := (if_pos c1).symm.trans hf
    exact hj18_3 () s.heap _ _ hf hI (lv_sub hl [] rfl)
  · have hf := (if_neg c1).symm.trans hf
    refine lv_iload_n hx hb dX11_requireEntry_4 rfl (lv_at hl 1 rfl) ?_
    refine lv_aload_n hx hb dX11_requireEntry_5 rfl (lv_at hl 0 rfl) ?_
    refine m_get (g := 12) (i := 16) (ci := 9) (k := 0) (v := .ref (w.1 0 0)) hx hb hI hown (mokX (by decide) (by decide)) rfl rfl (by decide) lyX11 (q294 hI.T) rfl dX11_requireEntry_6 ?_
    refine m_get (g := 0) (i := 0) (ci := 8) (k := 3) (v := .ref (w.1 0 12)) hx hb hI hown (mokS (by decide) (by decide)) rfl rfl (by decide) lyX9 (q193 hI.T) rfl dX11_requireEntry_9 ?_
    refine m_get (g := 0) (i := 12) (ci := 4) (k := 0) (v := .int (M 0 12 0)) hx hb hI hown (mokS (by decide) (by decide)) rfl rfl (by decide) lyX5 (q169 hI.T) rfl dX11_requireEntry_12 ?_
    refine lv_icmp_lt (tgt := 29) hx hb dX11_requireEntry_15 (by decide) (fun c2 => ?_) (fun c2 => ?_)
    · have hf := (if_pos c2).symm.trans hf
      exact m_vretxp hx hb hr hlk hI hf dX11_requireEntry_29 (Nat.le_of_ble_eq_true rfl) (Nat.le_of_ble_eq_true rfl)
    · have hf := (if_neg c2).symm.trans hf
      exact hj18_3 () s.heap _ _ hf hI (lv_sub hl [] rfl)
abbrev rmX11_logHour : Room := { frames := 9, cells := 1, slots := 6, locals := 161 }
theorem kb_X11_logHour {R : Room} {s : State} {args : Array Value} {own : String} {idx : Nat} (hT : mT s) (hlink : (Cond.methodLink own idx yX11_logHour).before args s = true) (h1 : rmX11_logHour.frames + 1 ≤ R.frames) (h2 : 8 + (2 + 11) + rmX11_logHour.locals ≤ R.locals) : CallB R s args own idx yX11_logHour cX11_logHour 2 (some .int) [Cond.code yX11_logHour cX11_logHour 2 (some .int)] rmX11_logHour 1 6 1 := m_callB hT kc_X11_logHour ki_X11_logHour hlink (by decide +kernel) ⟨rfl, rfl, h1, h2⟩
set_option maxHeartbeats 4000000 in
set_option maxRecDepth 100000 in
theorem c_X11_logHour (l : Launch) (w : WD) (hsf : l.stackTraces = false) (sz : Nat) (a1 : Int32) (M : Mem) (r : (Nat ⊕ Int32)) (hf : f_X11_logHour a1 M = some r) : mMetx l yX11_logHour cX11_logHour 2 (some .int) rmX11_logHour w sz M [.ref (w.1 12 16), .int a1] (moI r) M 1 6 := by
  refine m_ofx (by decide) (Nat.le_of_ble_eq_true rfl) ?_
  intro p e s m args below meth c hx hb hr hml hown hlk hxt hI ls hl
  have hl : lv_has ls 2 [(0, .ref (w.1 12 16)), (1, .int a1)] := hl
  unfold f_X11_logHour at hf
  refine lv_aload_n hx hb dX11_logHour_0 rfl (lv_at hl 0 rfl) ?_
  refine lv_iload_n hx hb dX11_logHour_1 rfl (lv_at hl 1 rfl) ?_
  rcases mbpx_e hf with ⟨n2, hc, hf⟩ | ⟨r1, hc, hf⟩
  · exact m_callxTVp (As := [.int a1]) (rest := []) hx hb hml hown hI (c_X11_requireEntry l w hsf s.heap.size a1 M _ hc) (kb_X11_requireEntry hI.T (q654 hI.T) (Nat.le_of_ble_eq_true rfl) (Nat.le_of_ble_eq_true rfl)) (q656 hI.T) (sel_X11_requireEntry hI.T) (m_recv (g := 12) (i := 16) hI (mokX (by decide) (by decide)) rfl rfl) rfl hl.1 (Nat.le_of_ble_eq_true rfl) dX11_logHour_2 ⟨Nat.le_of_ble_eq_true rfl, Nat.le_of_ble_eq_true rfl⟩ hxt hlk hf (Nat.le_of_ble_eq_true rfl) (Nat.le_of_ble_eq_true rfl)
  refine m_callxRV (As := [.int a1]) (rest := []) hx hb hml hown hI (c_X11_requireEntry l w hsf s.heap.size a1 M _ hc) (kb_X11_requireEntry hI.T (q654 hI.T) (Nat.le_of_ble_eq_true rfl) (Nat.le_of_ble_eq_true rfl)) (q656 hI.T) (sel_X11_requireEntry hI.T) (m_recv (g := 12) (i := 16) hI (mokX (by decide) (by decide)) rfl rfl) rfl hl.1 (Nat.le_of_ble_eq_true rfl) dX11_logHour_2 ⟨Nat.le_of_ble_eq_true rfl, Nat.le_of_ble_eq_true rfl⟩ (fun H locs hI => ?_)
  refine lv_aload_n hx hb dX11_logHour_5 rfl (lv_at hl 0 rfl) ?_
  refine m_get (g := 12) (i := 16) (ci := 9) (k := 0) (v := .ref (w.1 0 0)) hx hb hI hown (mokX (by decide) (by decide)) rfl rfl (by decide) lyX11 (q294 hI.T) rfl dX11_logHour_6 ?_
  refine m_get (g := 0) (i := 0) (ci := 8) (k := 3) (v := .ref (w.1 0 12)) hx hb hI hown (mokS (by decide) (by decide)) rfl rfl (by decide) lyX9 (q193 hI.T) rfl dX11_logHour_9 ?_
  refine m_get (g := 0) (i := 12) (ci := 4) (k := 1) (v := .ref (w.1 0 13)) hx hb hI hown (mokS (by decide) (by decide)) rfl rfl (by decide) lyX5 (q171 hI.T) rfl dX11_logHour_12 ?_
  refine lv_iload_n hx hb dX11_logHour_15 rfl (lv_at hl 1 rfl) ?_
  obtain ⟨hi, hf⟩ := mix_e hf
  refine m_iald (g := 0) (i := 13) hx hb hI (mokS (by decide) (by decide)) rfl hi dX11_logHour_16 ?_
  exact m_iretxp hx hb hr hlk hI hf dX11_logHour_17 (Nat.le_of_ble_eq_true rfl) (Nat.le_of_ble_eq_true rfl)
abbrev rmX11_logKind : Room := { frames := 9, cells := 1, slots := 6, locals := 161 }
theorem kb_X11_logKind {R : Room} {s : State} {args : Array Value} {own : String} {idx : Nat} (hT : mT s) (hlink : (Cond.methodLink own idx yX11_logKind).before args s = true) (h1 : rmX11_logKind.frames + 1 ≤ R.frames) (h2 : 8 + (2 + 11) + rmX11_logKind.locals ≤ R.locals) : CallB R s args own idx yX11_logKind cX11_logKind 2 (some .char) [Cond.code yX11_logKind cX11_logKind 2 (some .char)] rmX11_logKind 1 6 1 := m_callB hT kc_X11_logKind ki_X11_logKind hlink (by decide +kernel) ⟨rfl, rfl, h1, h2⟩
set_option maxHeartbeats 4000000 in
set_option maxRecDepth 100000 in
theorem c_X11_logKind (l : Launch) (w : WD) (hsf : l.stackTraces = false) (sz : Nat) (a1 : Int32) (M : Mem) (r : (Nat ⊕ Int32)) (hf : f_X11_logKind a1 M = some r) : mMetx l yX11_logKind cX11_logKind 2 (some .char) rmX11_logKind w sz M [.ref (w.1 12 16), .int a1] (moI r) M 1 6 := by
  refine m_ofx (by decide) (Nat.le_of_ble_eq_true rfl) ?_
  intro p e s m args below meth c hx hb hr hml hown hlk hxt hI ls hl
  have hl : lv_has ls 2 [(0, .ref (w.1 12 16)), (1, .int a1)] := hl
  unfold f_X11_logKind at hf
  refine lv_aload_n hx hb dX11_logKind_0 rfl (lv_at hl 0 rfl) ?_
  refine lv_iload_n hx hb dX11_logKind_1 rfl (lv_at hl 1 rfl) ?_
  rcases mbpx_e hf with ⟨n2, hc, hf⟩ | ⟨r1, hc, hf⟩
  · exact m_callxTVp (As := [.int a1]) (rest := []) hx hb hml hown hI (c_X11_requireEntry l w hsf s.heap.size a1 M _ hc) (kb_X11_requireEntry hI.T (q654 hI.T) (Nat.le_of_ble_eq_true rfl) (Nat.le_of_ble_eq_true rfl)) (q656 hI.T) (sel_X11_requireEntry hI.T) (m_recv (g := 12) (i := 16) hI (mokX (by decide) (by decide)) rfl rfl) rfl hl.1 (Nat.le_of_ble_eq_true rfl) dX11_logKind_2 ⟨Nat.le_of_ble_eq_true rfl, Nat.le_of_ble_eq_true rfl⟩ hxt hlk hf (Nat.le_of_ble_eq_true rfl) (Nat.le_of_ble_eq_true rfl)
  refine m_callxRV (As := [.int a1]) (rest := []) hx hb hml hown hI (c_X11_requireEntry l w hsf s.heap.size a1 M _ hc) (kb_X11_requireEntry hI.T (q654 hI.T) (Nat.le_of_ble_eq_true rfl) (Nat.le_of_ble_eq_true rfl)) (q656 hI.T) (sel_X11_requireEntry hI.T) (m_recv (g := 12) (i := 16) hI (mokX (by decide) (by decide)) rfl rfl) rfl hl.1 (Nat.le_of_ble_eq_true rfl) dX11_logKind_2 ⟨Nat.le_of_ble_eq_true rfl, Nat.le_of_ble_eq_true rfl⟩ (fun H locs hI => ?_)
  refine lv_aload_n hx hb dX11_logKind_5 rfl (lv_at hl 0 rfl) ?_
  refine m_get (g := 12) (i := 16) (ci := 9) (k := 0) (v := .ref (w.1 0 0)) hx hb hI hown (mokX (by decide) (by decide)) rfl rfl (by decide) lyX11 (q294 hI.T) rfl dX11_logKind_6 ?_
  refine m_get (g := 0) (i := 0) (ci := 8) (k := 3) (v := .ref (w.1 0 12)) hx hb hI hown (mokS (by decide) (by decide)) rfl rfl (by decide) lyX9 (q193 hI.T) rfl dX11_logKind_9 ?_
  refine m_get (g := 0) (i := 12) (ci := 4) (k := 2) (v := .ref (w.1 0 14)) hx hb hI hown (mokS (by decide) (by decide)) rfl rfl (by decide) lyX5 (q173 hI.T) rfl dX11_logKind_12 ?_
  refine lv_iload_n hx hb dX11_logKind_15 rfl (lv_at hl 1 rfl) ?_
  obtain ⟨hi, hf⟩ := mix_e hf
  refine m_cald (g := 0) (i := 14) hx hb hI (mokS (by decide) (by decide)) rfl hi dX11_logKind_16 ?_
  obtain ⟨hz, hf⟩ := mnc_e hf
  exact m_zretxp hx hb hr hlk hI hz hf dX11_logKind_17 (Nat.le_of_ble_eq_true rfl) (Nat.le_of_ble_eq_true rfl)
abbrev rmX11_logDetail : Room := { frames := 9, cells := 1, slots := 6, locals := 161 }
theorem kb_X11_logDetail {R : Room} {s : State} {args : Array Value} {own : String} {idx : Nat} (hT : mT s) (hlink : (Cond.methodLink own idx yX11_logDetail).before args s = true) (h1 : rmX11_logDetail.frames + 1 ≤ R.frames) (h2 : 8 + (2 + 11) + rmX11_logDetail.locals ≤ R.locals) : CallB R s args own idx yX11_logDetail cX11_logDetail 2 (some .int) [Cond.code yX11_logDetail cX11_logDetail 2 (some .int)] rmX11_logDetail 1 6 1 := m_callB hT kc_X11_logDetail ki_X11_logDetail hlink (by decide +kernel) ⟨rfl, rfl, h1, h2⟩
set_option maxHeartbeats 4000000 in
set_option maxRecDepth 100000 in
theorem c_X11_logDetail (l : Launch) (w : WD) (hsf : l.stackTraces = false) (sz : Nat) (a1 : Int32) (M : Mem) (r : (Nat ⊕ Int32)) (hf : f_X11_logDetail a1 M = some r) : mMetx l yX11_logDetail cX11_logDetail 2 (some .int) rmX11_logDetail w sz M [.ref (w.1 12 16), .int a1] (moI r) M 1 6 := by
  refine m_ofx (by decide) (Nat.le_of_ble_eq_true rfl) ?_
  intro p e s m args below meth c hx hb hr hml hown hlk hxt hI ls hl
  have hl : lv_has ls 2 [(0, .ref (w.1 12 16)), (1, .int a1)] := hl
  unfold f_X11_logDetail at hf
  refine lv_aload_n hx hb dX11_logDetail_0 rfl (lv_at hl 0 rfl) ?_
  refine lv_iload_n hx hb dX11_logDetail_1 rfl (lv_at hl 1 rfl) ?_
  rcases mbpx_e hf with ⟨n2, hc, hf⟩ | ⟨r1, hc, hf⟩
  · exact m_callxTVp (As := [.int a1]) (rest := []) hx hb hml hown hI (c_X11_requireEntry l w hsf s.heap.size a1 M _ hc) (kb_X11_requireEntry hI.T (q654 hI.T) (Nat.le_of_ble_eq_true rfl) (Nat.le_of_ble_eq_true rfl)) (q656 hI.T) (sel_X11_requireEntry hI.T) (m_recv (g := 12) (i := 16) hI (mokX (by decide) (by decide)) rfl rfl) rfl hl.1 (Nat.le_of_ble_eq_true rfl) dX11_logDetail_2 ⟨Nat.le_of_ble_eq_true rfl, Nat.le_of_ble_eq_true rfl⟩ hxt hlk hf (Nat.le_of_ble_eq_true rfl) (Nat.le_of_ble_eq_true rfl)
  refine m_callxRV (As := [.int a1]) (rest := []) hx hb hml hown hI (c_X11_requireEntry l w hsf s.heap.size a1 M _ hc) (kb_X11_requireEntry hI.T (q654 hI.T) (Nat.le_of_ble_eq_true rfl) (Nat.le_of_ble_eq_true rfl)) (q656 hI.T) (sel_X11_requireEntry hI.T) (m_recv (g := 12) (i := 16) hI (mokX (by decide) (by decide)) rfl rfl) rfl hl.1 (Nat.le_of_ble_eq_true rfl) dX11_logDetail_2 ⟨Nat.le_of_ble_eq_true rfl, Nat.le_of_ble_eq_true rfl⟩ (fun H locs hI => ?_)
  refine lv_aload_n hx hb dX11_logDetail_5 rfl (lv_at hl 0 rfl) ?_
  refine m_get (g := 12) (i := 16) (ci := 9) (k := 0) (v := .ref (w.1 0 0)) hx hb hI hown (mokX (by decide) (by decide)) rfl rfl (by decide) lyX11 (q294 hI.T) rfl dX11_logDetail_6 ?_
  refine m_get (g := 0) (i := 0) (ci := 8) (k := 3) (v := .ref (w.1 0 12)) hx hb hI hown (mokS (by decide) (by decide)) rfl rfl (by decide) lyX9 (q193 hI.T) rfl dX11_logDetail_9 ?_
  refine m_get (g := 0) (i := 12) (ci := 4) (k := 3) (v := .ref (w.1 0 15)) hx hb hI hown (mokS (by decide) (by decide)) rfl rfl (by decide) lyX5 (q175 hI.T) rfl dX11_logDetail_12 ?_
  refine lv_iload_n hx hb dX11_logDetail_15 rfl (lv_at hl 1 rfl) ?_
  obtain ⟨hi, hf⟩ := mix_e hf
  refine m_iald (g := 0) (i := 15) hx hb hI (mokS (by decide) (by decide)) rfl hi dX11_logDetail_16 ?_
  exact m_iretxp hx hb hr hlk hI hf dX11_logDetail_17 (Nat.le_of_ble_eq_true rfl) (Nat.le_of_ble_eq_true rfl)
abbrev rmX1_sumOf : Room := { frames := 0, cells := 0, slots := 0, locals := 0 }
theorem kb_X1_sumOf {R : Room} {s : State} {args : Array Value} {own : String} {idx : Nat} (hT : mT s) (hlink : (Cond.methodLink own idx yX1_sumOf).before args s = true) (h1 : rmX1_sumOf.frames + 1 ≤ R.frames) (h2 : 8 + (6 + 11) + rmX1_sumOf.locals ≤ R.locals) : CallB R s args own idx yX1_sumOf cX1_sumOf 6 (some .int) [Cond.code yX1_sumOf cX1_sumOf 6 (some .int)] rmX1_sumOf 0 0 1 := m_callB hT kc_X1_sumOf ki_X1_sumOf hlink (by decide +kernel) ⟨rfl, rfl, h1, h2⟩
set_option maxHeartbeats 4000000 in
set_option maxRecDepth 100000 in
theorem c_X1_sumOf (l : Launch) (w : WD) (sz : Nat) (ga1 ia1 : Nat) (ho1 : mok ga1 ia1) (hn1 : mil ia1 = some 8) (M : Mem) (r : Int32) (hf : f_X1_sumOf ga1 ia1 M = some r) : mMet l yX1_sumOf cX1_sumOf 6 (some .int) rmX1_sumOf w sz M [.ref (w.1 ga1 ia1)] (some (.int r)) M := by
  refine m_of (by decide) (Nat.le_of_ble_eq_true rfl) ?_
  intro p e s m args below meth c hx hb hr hml hown hlk hI ls hl
  have hl : lv_has ls 6 [(0, .ref (w.1 ga1 ia1))] := hl
  unfold f_X1_sumOf at hf
  refine lv_iconst (v := 0) hx hb dX1_sumOf_0 (by decide) ?_
  refine lv_istore_n (lv' := [(1, .int (0 : Int32)), (0, .ref (w.1 ga1 ia1))]) hx hb dX1_sumOf_1 rfl hl (by decide) rfl (fun ls hl => ?_)
  refine lv_aload_n hx hb dX1_sumOf_2 rfl (lv_at hl 1 rfl) ?_
  refine lv_astore_n (lv' := [(2, .ref (w.1 ga1 ia1)), (1, .int (0 : Int32)), (0, .ref (w.1 ga1 ia1))]) hx hb dX1_sumOf_3 rfl hl (by decide) rfl (fun ls hl => ?_)
  refine lv_aload_n hx hb dX1_sumOf_4 rfl (lv_at hl 0 rfl) ?_
  refine m_alen (v := 8) (g := ga1) (i := ia1) hx hb hI ho1 hn1 rfl dX1_sumOf_5 ?_
  refine lv_istore_n (lv' := [(3, .int (8 : Int32)), (2, .ref (w.1 ga1 ia1)), (1, .int (0 : Int32)), (0, .ref (w.1 ga1 ia1))]) hx hb dX1_sumOf_6 rfl hl (by decide) rfl (fun ls hl => ?_)
  refine lv_iconst (v := 0) hx hb dX1_sumOf_7 (by decide) ?_
  refine lv_istore (lv' := [(4, .int (0 : Int32)), (3, .int (8 : Int32)), (2, .ref (w.1 ga1 ia1)), (1, .int (0 : Int32)), (0, .ref (w.1 ga1 ia1))]) hx hb dX1_sumOf_8 hl (by decide) rfl (fun ls hl => ?_)
  have hL10 : ∀ (n : Nat) (x1 : Int32) (x2 : Int32) (kk : Int32 → Option Int32) (H : Heap) (locs : List Loc) (ls : Array Slot), f_X1_sumOf_L10 ga1 ia1 M n x1 x2 kk = some r → mI w s (mA w s.heap.size) H locs M → lv_has ls 6 [(1, .int x1), (2, .ref (w.1 ga1 ia1)), (3, .int (8 : Int32)), (4, .int x2)] → (∀ (x1 : Int32) (H : Heap) (locs : List Loc) (ls : Array Slot), kk x1 = some r → mI w s (mA w s.heap.size) H locs M → lv_has ls 6 [(1, .int x1)] → W p l e rmX1_sumOf s m args below meth c H locs 0 0 (MQ below (mQ w s.heap.size (some (.int r)) M) args s 0 0 (mA w s.heap.size)) (F0 m 33 ls [])) → W p l e rmX1_sumOf s m args below meth c H locs 0 0 (MQ below (mQ w s.heap.size (some (.int r)) M) args s 0 0 (mA w s.heap.size)) (F0 m 10 ls []) := by
    intro n
    induction n with
    | zero => intro x1 x2 kk H locs ls hf hI hl hk; rw [f_X1_sumOf_L10.eq_1] at hf; cases hf
    | succ n ih10 =>
      intro x1 x2 kk H locs ls hf hI hl hk
      rw [f_X1_sumOf_L10.eq_2] at hf
      refine lv_iload hx hb dX1_sumOf_10 (lv_at hl 3 rfl) ?_
      refine lv_iload_n hx hb dX1_sumOf_12 rfl (lv_at hl 2 rfl) ?_
      refine lv_icmp_ge (tgt := 33) hx hb dX1_sumOf_13 (by decide) (fun c3 => ?_) (fun c3 => ?_)
      · have hf := (if_pos c3).symm.trans hf
        exact hk x1 H _ _ hf hI (lv_sub hl [0] rfl)
      · have hf := (if_neg c3).symm.trans hf
        refine lv_aload_n hx hb dX1_sumOf_16 rfl (lv_at hl 1 rfl) ?_
        refine lv_iload hx hb dX1_sumOf_17 (lv_at hl 3 rfl) ?_
        obtain ⟨hi, hf⟩ := mix_e hf
        refine m_iald (g := ga1) (i := ia1) hx hb hI ho1 hn1 hi dX1_sumOf_19 ?_
        refine lv_topi (fun x4 ex4 => ?_)
        have hf := mlet_s ex4 hf
        refine lv_istore (lv' := [(5, .int x4), (1, .int x1), (2, .ref (w.1 ga1 ia1)), (3, .int (8 : Int32)), (4, .int x2)]) hx hb dX1_sumOf_20 hl (by decide) rfl (fun ls hl => ?_)
        refine lv_iload_n hx hb dX1_sumOf_22 rfl (lv_at hl 1 rfl) ?_
        refine lv_iload hx hb dX1_sumOf_23 (lv_at hl 0 rfl) ?_
        refine lv_iadd hx hb dX1_sumOf_25 ?_
        refine lv_topi (fun x5 ex5 => ?_)
        have hf := mlet_s ex5 hf
        refine lv_istore_n (lv' := [(1, .int x5), (5, .int x4), (2, .ref (w.1 ga1 ia1)), (3, .int (8 : Int32)), (4, .int x2)]) hx hb dX1_sumOf_26 rfl hl (by decide) rfl (fun ls hl => ?_)
        obtain ⟨x6, ex6, hf⟩ := mlet_e hf
        refine lv_iinc (v := x6) (lv' := [(4, .int x6), (1, .int x5), (5, .int x4), (2, .ref (w.1 ga1 ia1)), (3, .int (8 : Int32))]) hx hb dX1_sumOf_27 hl (k := 4) rfl (by rw [ex6]; rfl) (by decide) rfl (fun ls hl => ?_)
        refine lv_goto (tgt := 10) hx hb dX1_sumOf_30 (by decide) ?_
        exact ih10 x5 x6 kk H _ _ hf hI (lv_sub hl [1, 3, 4, 0] rfl) hk
  refine hL10 1000 (0 : Int32) (0 : Int32) _ _ _ _ hf hI (lv_sub hl [3, 2, 1, 0] rfl) ?_
  intro x7 H locs ls hf hI hl
  try dsimp only at hf
  refine lv_iload_n hx hb dX1_sumOf_33 rfl (lv_at hl 0 rfl) ?_
  exact m_iretp hx hb hr hlk hI hf dX1_sumOf_34
abbrev rmX11_meanNoise : Room := { frames := 1, cells := 0, slots := 0, locals := 25 }
theorem kb_X11_meanNoise {R : Room} {s : State} {args : Array Value} {own : String} {idx : Nat} (hT : mT s) (hlink : (Cond.methodLink own idx yX11_meanNoise).before args s = true) (h1 : rmX11_meanNoise.frames + 1 ≤ R.frames) (h2 : 8 + (1 + 11) + rmX11_meanNoise.locals ≤ R.locals) : CallB R s args own idx yX11_meanNoise cX11_meanNoise 1 (some .double) [Cond.code yX11_meanNoise cX11_meanNoise 1 (some .double)] rmX11_meanNoise 0 0 0 := m_callB hT kc_X11_meanNoise ki_X11_meanNoise hlink (by decide +kernel) ⟨rfl, rfl, h1, h2⟩
set_option maxHeartbeats 4000000 in
set_option maxRecDepth 100000 in
theorem c_X11_meanNoise (l : Launch) (w : WD) (sz : Nat)  (M : Mem) (r : UInt64) (hf : f_X11_meanNoise  M = some r) : mMet l yX11_meanNoise cX11_meanNoise 1 (some .double) rmX11_meanNoise w sz M [.ref (w.1 12 16)] (some (.double r)) M := by
  refine m_of (by decide) (Nat.le_of_ble_eq_true rfl) ?_
  intro p e s m args below meth c hx hb hr hml hown hlk hI ls hl
  have hl : lv_has ls 1 [(0, .ref (w.1 12 16))] := hl
  unfold f_X11_meanNoise at hf
  refine lv_aload_n hx hb dX11_meanNoise_0 rfl (lv_at hl 0 rfl) ?_
  refine m_get (g := 12) (i := 16) (ci := 9) (k := 0) (v := .ref (w.1 0 0)) hx hb hI hown (mokX (by decide) (by decide)) rfl rfl (by decide) lyX11 (q294 hI.T) rfl dX11_meanNoise_1 ?_
  refine m_get (g := 0) (i := 0) (ci := 8) (k := 2) (v := .ref (w.1 0 6)) hx hb hI hown (mokS (by decide) (by decide)) rfl rfl (by decide) lyX9 (q191 hI.T) rfl dX11_meanNoise_4 ?_
  refine m_get (g := 0) (i := 6) (ci := 0) (k := 1) (v := .ref (w.1 0 7)) hx hb hI hown (mokS (by decide) (by decide)) rfl rfl (by decide) lyX1 (q129 hI.T) rfl dX11_meanNoise_7 ?_
  obtain ⟨r1, hc, hf⟩ := mbp_e hf
  refine m_callS (As := [.ref (w.1 0 7)]) (rest := []) hx hb hml hown hI (c_X1_sumOf l w s.heap.size 0 7 (mokS (by decide) (by decide)) rfl M _ hc) (kb_X1_sumOf hI.T (q1560 hI.T) (Nat.le_of_ble_eq_true rfl) (Nat.le_of_ble_eq_true rfl)) (q1561 hI.T) rfl hl.1 (Nat.le_of_ble_eq_true rfl) dX11_meanNoise_10 ⟨Nat.le_of_ble_eq_true rfl, Nat.le_of_ble_eq_true rfl⟩ (fun H locs hI => ?_)
  refine lv_i2d hx hb dX11_meanNoise_13 ?_
  refine lv_ldc2d hx hb hown (q1563 hI.T) dX11_meanNoise_14 ?_
  obtain ⟨hd, hf⟩ := mn64_e hf
  refine lv_ddiv hx hb dX11_meanNoise_17 hd ?_
  exact m_dretp hx hb hr hlk hI hf dX11_meanNoise_18
abbrev rmX11_alarmShare : Room := { frames := 9, cells := 2, slots := 12, locals := 161 }
theorem kb_X11_alarmShare {R : Room} {s : State} {args : Array Value} {own : String} {idx : Nat} (hT : mT s) (hlink : (Cond.methodLink own idx yX11_alarmShare).before args s = true) (h1 : rmX11_alarmShare.frames + 1 ≤ R.frames) (h2 : 8 + (2 + 11) + rmX11_alarmShare.locals ≤ R.locals) : CallB R s args own idx yX11_alarmShare cX11_alarmShare 2 (some .float) [Cond.code yX11_alarmShare cX11_alarmShare 2 (some .float)] rmX11_alarmShare 2 12 1 := m_callB hT kc_X11_alarmShare ki_X11_alarmShare hlink (by decide +kernel) ⟨rfl, rfl, h1, h2⟩
set_option maxHeartbeats 4000000 in
set_option maxRecDepth 100000 in
theorem c_X11_alarmShare (l : Launch) (w : WD) (hsf : l.stackTraces = false) (sz : Nat) (a1 : Int32) (M : Mem) (r : (Nat ⊕ UInt32)) (hf : f_X11_alarmShare a1 M = some r) : mMetx l yX11_alarmShare cX11_alarmShare 2 (some .float) rmX11_alarmShare w sz M [.ref (w.1 12 16), .int a1] (moF r) M 2 12 := by
  refine m_ofx (by decide) (Nat.le_of_ble_eq_true rfl) ?_
  intro p e s m args below meth c hx hb hr hml hown hlk hxt hI ls hl
  have hl : lv_has ls 2 [(0, .ref (w.1 12 16)), (1, .int a1)] := hl
  unfold f_X11_alarmShare at hf
  refine lv_aload_n hx hb dX11_alarmShare_0 rfl (lv_at hl 0 rfl) ?_
  refine lv_iload_n hx hb dX11_alarmShare_1 rfl (lv_at hl 1 rfl) ?_
  rcases mbpx_e hf with ⟨n2, hc, hf⟩ | ⟨r1, hc, hf⟩
  · exact m_callxTVp (As := [.int a1]) (rest := []) hx hb hml hown hI (c_X11_requireZone l w hsf s.heap.size a1 M _ hc) (kb_X11_requireZone hI.T (q582 hI.T) (Nat.le_of_ble_eq_true rfl) (Nat.le_of_ble_eq_true rfl)) (q584 hI.T) (sel_X11_requireZone hI.T) (m_recv (g := 12) (i := 16) hI (mokX (by decide) (by decide)) rfl rfl) rfl hl.1 (Nat.le_of_ble_eq_true rfl) dX11_alarmShare_2 ⟨Nat.le_of_ble_eq_true rfl, Nat.le_of_ble_eq_true rfl⟩ hxt hlk hf (Nat.le_of_ble_eq_true rfl) (Nat.le_of_ble_eq_true rfl)
  refine m_callxRV (As := [.int a1]) (rest := []) hx hb hml hown hI (c_X11_requireZone l w hsf s.heap.size a1 M _ hc) (kb_X11_requireZone hI.T (q582 hI.T) (Nat.le_of_ble_eq_true rfl) (Nat.le_of_ble_eq_true rfl)) (q584 hI.T) (sel_X11_requireZone hI.T) (m_recv (g := 12) (i := 16) hI (mokX (by decide) (by decide)) rfl rfl) rfl hl.1 (Nat.le_of_ble_eq_true rfl) dX11_alarmShare_2 ⟨Nat.le_of_ble_eq_true rfl, Nat.le_of_ble_eq_true rfl⟩ (fun H locs hI => ?_)
  refine lv_aload_n hx hb dX11_alarmShare_5 rfl (lv_at hl 0 rfl) ?_
  refine m_get (g := 12) (i := 16) (ci := 9) (k := 0) (v := .ref (w.1 0 0)) hx hb hI hown (mokX (by decide) (by decide)) rfl rfl (by decide) lyX11 (q294 hI.T) rfl dX11_alarmShare_6 ?_
  refine m_get (g := 0) (i := 0) (ci := 8) (k := 2) (v := .ref (w.1 0 6)) hx hb hI hown (mokS (by decide) (by decide)) rfl rfl (by decide) lyX9 (q191 hI.T) rfl dX11_alarmShare_9 ?_
  refine m_get (g := 0) (i := 6) (ci := 0) (k := 3) (v := .int (M 0 6 3)) hx hb hI hown (mokS (by decide) (by decide)) rfl rfl (by decide) lyX1 (q134 hI.T) rfl dX11_alarmShare_12 ?_
  refine lv_if_ne (tgt := 29) hx hb dX11_alarmShare_15 (by decide) (fun c3 => ?_) (fun c3 => ?_)
  · have hf := (if_neg c3).symm.trans hf
    refine lv_aload_n hx hb dX11_alarmShare_29 rfl (lv_at hl 0 rfl) ?_
    refine m_get (g := 12) (i := 16) (ci := 9) (k := 0) (v := .ref (w.1 0 0)) hx hb hI hown (mokX (by decide) (by decide)) rfl rfl (by decide) lyX11 (q294 hI.T) rfl dX11_alarmShare_30 ?_
    refine m_get (g := 0) (i := 0) (ci := 8) (k := 2) (v := .ref (w.1 0 6)) hx hb hI hown (mokS (by decide) (by decide)) rfl rfl (by decide) lyX9 (q191 hI.T) rfl dX11_alarmShare_33 ?_
    refine m_get (g := 0) (i := 6) (ci := 0) (k := 2) (v := .ref (w.1 0 8)) hx hb hI hown (mokS (by decide) (by decide)) rfl rfl (by decide) lyX1 (q131 hI.T) rfl dX11_alarmShare_36 ?_
    refine lv_iload_n hx hb dX11_alarmShare_39 rfl (lv_at hl 1 rfl) ?_
    obtain ⟨hi, hf⟩ := mix_e hf
    refine m_iald (g := 0) (i := 8) hx hb hI (mokS (by decide) (by decide)) rfl hi dX11_alarmShare_40 ?_
    refine lv_i2f hx hb dX11_alarmShare_41 ?_
    refine lv_aload_n hx hb dX11_alarmShare_42 rfl (lv_at hl 0 rfl) ?_
    refine m_get (g := 12) (i := 16) (ci := 9) (k := 0) (v := .ref (w.1 0 0)) hx hb hI hown (mokX (by decide) (by decide)) rfl rfl (by decide) lyX11 (q294 hI.T) rfl dX11_alarmShare_43 ?_
    refine m_get (g := 0) (i := 0) (ci := 8) (k := 2) (v := .ref (w.1 0 6)) hx hb hI hown (mokS (by decide) (by decide)) rfl rfl (by decide) lyX9 (q191 hI.T) rfl dX11_alarmShare_46 ?_
    refine m_get (g := 0) (i := 6) (ci := 0) (k := 3) (v := .int (M 0 6 3)) hx hb hI hown (mokS (by decide) (by decide)) rfl rfl (by decide) lyX1 (q134 hI.T) rfl dX11_alarmShare_49 ?_
    refine lv_i2f hx hb dX11_alarmShare_52 ?_
    obtain ⟨hd, hf⟩ := mn32_e hf
    refine lv_fdiv hx hb dX11_alarmShare_53 hd ?_
    exact m_fretxp hx hb hr hlk hI hf dX11_alarmShare_54 (Nat.le_of_ble_eq_true rfl) (Nat.le_of_ble_eq_true rfl)
  · have hf := (if_pos c3).symm.trans hf
    exact m_throwWp (n := 6) (ix := 4) hx hb hsf hown hI rfl (q1551 hI.T) (q33 hI.T) (m_thw_6_X11_291 hI) hl.1 hml dX11_alarmShare_18 dX11_alarmShare_21 dX11_alarmShare_22 dX11_alarmShare_25 dX11_alarmShare_28 hxt (Nat.le_of_ble_eq_true rfl) (Nat.le_of_ble_eq_true rfl) (Nat.le_of_ble_eq_true rfl) (Nat.le_of_ble_eq_true rfl) hlk hf (Nat.le_of_ble_eq_true rfl) (Nat.le_of_ble_eq_true rfl)
abbrev rmX11_doVisitsMatch : Room := { frames := 3, cells := 0, slots := 0, locals := 84 }
theorem kb_X11_doVisitsMatch {R : Room} {s : State} {args : Array Value} {own : String} {idx : Nat} (hT : mT s) (hlink : (Cond.methodLink own idx yX11_doVisitsMatch).before args s = true) (h1 : rmX11_doVisitsMatch.frames + 1 ≤ R.frames) (h2 : 8 + (2 + 11) + rmX11_doVisitsMatch.locals ≤ R.locals) : CallB R s args own idx yX11_doVisitsMatch cX11_doVisitsMatch 2 (some .boolean) [Cond.code yX11_doVisitsMatch cX11_doVisitsMatch 2 (some .boolean)] rmX11_doVisitsMatch 0 0 0 := m_callB hT kc_X11_doVisitsMatch ki_X11_doVisitsMatch hlink (by decide +kernel) ⟨rfl, rfl, h1, h2⟩
set_option maxHeartbeats 4000000 in
set_option maxRecDepth 100000 in
theorem c_X11_doVisitsMatch (l : Launch) (w : WD) (sz : Nat)  (M : Mem) (r : Int32) (M9 : Mem) (hf : f_X11_doVisitsMatch  M = some (r, M9)) : mMet l yX11_doVisitsMatch cX11_doVisitsMatch 2 (some .boolean) rmX11_doVisitsMatch w sz M [.ref (w.1 12 16)] (some (.int r)) M9 := by
  refine m_of (by decide) (Nat.le_of_ble_eq_true rfl) ?_
  intro p e s m args below meth c hx hb hr hml hown hlk hI ls hl
  have hl : lv_has ls 2 [(0, .ref (w.1 12 16))] := hl
  unfold f_X11_doVisitsMatch at hf
  refine lv_aload_n hx hb dX11_doVisitsMatch_0 rfl (lv_at hl 0 rfl) ?_
  refine m_get (g := 12) (i := 16) (ci := 9) (k := 0) (v := .ref (w.1 0 0)) hx hb hI hown (mokX (by decide) (by decide)) rfl rfl (by decide) lyX11 (q294 hI.T) rfl dX11_doVisitsMatch_1 ?_
  refine m_get (g := 0) (i := 0) (ci := 8) (k := 2) (v := .ref (w.1 0 6)) hx hb hI hown (mokS (by decide) (by decide)) rfl rfl (by decide) lyX9 (q191 hI.T) rfl dX11_doVisitsMatch_4 ?_
  refine m_get (g := 0) (i := 6) (ci := 0) (k := 4) (v := .int (M 0 6 4)) hx hb hI hown (mokS (by decide) (by decide)) rfl rfl (by decide) lyX1 (q137 hI.T) rfl dX11_doVisitsMatch_7 ?_
  refine lv_if_ne (tgt := 15) hx hb dX11_doVisitsMatch_10 (by decide) (fun c1 => ?_) (fun c1 => ?_)
  · have hf := (if_neg c1).symm.trans hf
    refine lv_iconst (v := 0) hx hb dX11_doVisitsMatch_15 (by decide) ?_
    refine lv_istore_n (lv' := [(1, .int (0 : Int32)), (0, .ref (w.1 12 16))]) hx hb dX11_doVisitsMatch_16 rfl hl (by decide) rfl (fun ls hl => ?_)
    have hL17 : ∀ (n : Nat) (x2 : Int32) (M3 : Mem) (kk : Mem → Option (Int32 × Mem)) (H : Heap) (locs : List Loc) (ls : Array Slot), f_X11_doVisitsMatch_L17 n x2 M3 kk = some (r, M9) → mI w s (mA w s.heap.size) H locs M3 → lv_has ls 2 [(0, .ref (w.1 12 16)), (1, .int x2)] → (∀  (M3 : Mem) (H : Heap) (locs : List Loc) (ls : Array Slot), kk M3 = some (r, M9) → mI w s (mA w s.heap.size) H locs M3 → lv_has ls 2 [] → W p l e rmX11_doVisitsMatch s m args below meth c H locs 0 0 (MQ below (mQ w s.heap.size (some (.int r)) M9) args s 0 0 (mA w s.heap.size)) (F0 m 50 ls [])) → W p l e rmX11_doVisitsMatch s m args below meth c H locs 0 0 (MQ below (mQ w s.heap.size (some (.int r)) M9) args s 0 0 (mA w s.heap.size)) (F0 m 17 ls []) := by
      intro n
      induction n with
      | zero => intro x2 M3 kk H locs ls hf hI hl hk; rw [f_X11_doVisitsMatch_L17.eq_1] at hf; cases hf
      | succ n ih17 =>
        intro x2 M3 kk H locs ls hf hI hl hk
        rw [f_X11_doVisitsMatch_L17.eq_2] at hf
        refine lv_iload_n hx hb dX11_doVisitsMatch_17 rfl (lv_at hl 1 rfl) ?_
        refine lv_bipush (v := 8) hx hb dX11_doVisitsMatch_18 (by decide) ?_
        refine lv_icmp_ge (tgt := 50) hx hb dX11_doVisitsMatch_20 (by decide) (fun c4 => ?_) (fun c4 => ?_)
        · have hf := (if_pos c4).symm.trans hf
          exact hk M3 H _ _ hf hI (lv_sub hl [] rfl)
        · have hf := (if_neg c4).symm.trans hf
          refine lv_aload_n hx hb dX11_doVisitsMatch_23 rfl (lv_at hl 0 rfl) ?_
          refine lv_iload_n hx hb dX11_doVisitsMatch_24 rfl (lv_at hl 1 rfl) ?_
          obtain ⟨r5, M6, hc, hf⟩ := mbnd_e hf
          refine m_callV (As := [.int x2]) (rest := []) hx hb hml hown hI (c_X11_visitByHours l w H.size x2 M3 _ _ hc) (kb_X11_visitByHours hI.T (q610 hI.T) (Nat.le_of_ble_eq_true rfl) (Nat.le_of_ble_eq_true rfl)) (q612 hI.T) (sel_X11_visitByHours hI.T) (m_recv (g := 12) (i := 16) hI (mokX (by decide) (by decide)) rfl rfl) rfl hl.1 (Nat.le_of_ble_eq_true rfl) dX11_doVisitsMatch_25 ⟨Nat.le_of_ble_eq_true rfl, Nat.le_of_ble_eq_true rfl⟩ (fun H locs hI => ?_)
          refine lv_aload_n hx hb dX11_doVisitsMatch_28 rfl (lv_at hl 0 rfl) ?_
          refine m_get (g := 12) (i := 16) (ci := 9) (k := 0) (v := .ref (w.1 0 0)) hx hb hI hown (mokX (by decide) (by decide)) rfl rfl (by decide) lyX11 (q294 hI.T) rfl dX11_doVisitsMatch_29 ?_
          refine m_get (g := 0) (i := 0) (ci := 8) (k := 2) (v := .ref (w.1 0 6)) hx hb hI hown (mokS (by decide) (by decide)) rfl rfl (by decide) lyX9 (q191 hI.T) rfl dX11_doVisitsMatch_32 ?_
          refine lv_iload_n hx hb dX11_doVisitsMatch_35 rfl (lv_at hl 1 rfl) ?_
          obtain ⟨r7, hc, hf⟩ := mbp_e hf
          refine m_callV (As := [.int x2]) (rest := [.int r5]) hx hb hml hown hI (c_X1_visitByRemainders l w H.size 0 (by decide) x2 M6 _ hc) (kb_X1_visitByRemainders hI.T (q1520 hI.T) (Nat.le_of_ble_eq_true rfl) (Nat.le_of_ble_eq_true rfl)) (q1521 hI.T) (q1522 hI.T) (m_recv (g := 0) (i := 6) hI (mokS (by decide) (by decide)) rfl rfl) rfl hl.1 (Nat.le_of_ble_eq_true rfl) dX11_doVisitsMatch_36 ⟨Nat.le_of_ble_eq_true rfl, Nat.le_of_ble_eq_true rfl⟩ (fun H locs hI => ?_)
          refine lv_icmp_eq (tgt := 44) hx hb dX11_doVisitsMatch_39 (by decide) (fun c8 => ?_) (fun c8 => ?_)
          · have hf := (if_pos c8).symm.trans hf
            obtain ⟨x9, ex9, hf⟩ := mlet_e hf
            refine lv_iinc (v := x9) (lv' := [(1, .int x9), (0, .ref (w.1 12 16))]) hx hb dX11_doVisitsMatch_44 hl (k := 1) rfl (by rw [ex9]; rfl) (by decide) rfl (fun ls hl => ?_)
            refine lv_goto (tgt := 17) hx hb dX11_doVisitsMatch_47 (by decide) ?_
            exact ih17 x9 M6 kk H _ _ hf hI (lv_sub hl [1, 0] rfl) hk
          · have hf := (if_neg c8).symm.trans hf
            refine lv_iconst (v := 0) hx hb dX11_doVisitsMatch_42 (by decide) ?_
            exact m_zretf hx hb hr hlk hI rfl hf dX11_doVisitsMatch_43
    refine hL17 1000 (0 : Int32) M _ _ _ _ hf hI (lv_sub hl [1, 0] rfl) ?_
    intro M10 H locs ls hf hI hl
    try dsimp only at hf
    refine lv_iconst (v := 1) hx hb dX11_doVisitsMatch_50 (by decide) ?_
    exact m_zretf hx hb hr hlk hI rfl hf dX11_doVisitsMatch_51
  · have hf := (if_pos c1).symm.trans hf
    refine lv_iconst (v := 1) hx hb dX11_doVisitsMatch_13 (by decide) ?_
    exact m_zretf hx hb hr hlk hI rfl hf dX11_doVisitsMatch_14
abbrev rmX11_doTellingsMatch : Room := { frames := 5, cells := 0, slots := 0, locals := 119 }
theorem kb_X11_doTellingsMatch {R : Room} {s : State} {args : Array Value} {own : String} {idx : Nat} (hT : mT s) (hlink : (Cond.methodLink own idx yX11_doTellingsMatch).before args s = true) (h1 : rmX11_doTellingsMatch.frames + 1 ≤ R.frames) (h2 : 8 + (2 + 11) + rmX11_doTellingsMatch.locals ≤ R.locals) : CallB R s args own idx yX11_doTellingsMatch cX11_doTellingsMatch 2 (some .boolean) [Cond.code yX11_doTellingsMatch cX11_doTellingsMatch 2 (some .boolean)] rmX11_doTellingsMatch 0 0 0 := m_callB hT kc_X11_doTellingsMatch ki_X11_doTellingsMatch hlink (by decide +kernel) ⟨rfl, rfl, h1, h2⟩
set_option maxHeartbeats 4000000 in
set_option maxRecDepth 100000 in
theorem c_X11_doTellingsMatch (l : Launch) (w : WD) (sz : Nat)  (M : Mem) (r : Int32) (M9 : Mem) (hf : f_X11_doTellingsMatch  M = some (r, M9)) : mMet l yX11_doTellingsMatch cX11_doTellingsMatch 2 (some .boolean) rmX11_doTellingsMatch w sz M [.ref (w.1 12 16)] (some (.int r)) M9 := by
  refine m_of (by decide) (Nat.le_of_ble_eq_true rfl) ?_
  intro p e s m args below meth c hx hb hr hml hown hlk hI ls hl
  have hl : lv_has ls 2 [(0, .ref (w.1 12 16))] := hl
  unfold f_X11_doTellingsMatch at hf
  refine lv_aload_n hx hb dX11_doTellingsMatch_0 rfl (lv_at hl 0 rfl) ?_
  refine m_get (g := 12) (i := 16) (ci := 9) (k := 0) (v := .ref (w.1 0 0)) hx hb hI hown (mokX (by decide) (by decide)) rfl rfl (by decide) lyX11 (q294 hI.T) rfl dX11_doTellingsMatch_1 ?_
  refine m_get (g := 0) (i := 0) (ci := 8) (k := 0) (v := .ref (w.1 0 1)) hx hb hI hown (mokS (by decide) (by decide)) rfl rfl (by decide) lyX9 (q187 hI.T) rfl dX11_doTellingsMatch_4 ?_
  refine lv_astore_n (lv' := [(1, .ref (w.1 0 1)), (0, .ref (w.1 12 16))]) hx hb dX11_doTellingsMatch_7 rfl hl (by decide) rfl (fun ls hl => ?_)
  refine lv_aload_n hx hb dX11_doTellingsMatch_8 rfl (lv_at hl 0 rfl) ?_
  obtain ⟨r1, hc, hf⟩ := mbp_e hf
  refine m_callV (As := []) (rest := []) hx hb hml hown hI (c_X6_areEnough l w s.heap.size 0 (by decide) M _ hc) (kb_X6_areEnough hI.T (q537 hI.T) (Nat.le_of_ble_eq_true rfl) (Nat.le_of_ble_eq_true rfl)) (q538 hI.T) (q539 hI.T) (m_recv (g := 0) (i := 1) hI (mokS (by decide) (by decide)) rfl rfl) rfl hl.1 (Nat.le_of_ble_eq_true rfl) dX11_doTellingsMatch_9 ⟨Nat.le_of_ble_eq_true rfl, Nat.le_of_ble_eq_true rfl⟩ (fun H locs hI => ?_)
  refine lv_if_ne (tgt := 17) hx hb dX11_doTellingsMatch_12 (by decide) (fun c2 => ?_) (fun c2 => ?_)
  · have hf := (if_neg c2).symm.trans hf
    refine lv_aload_n hx hb dX11_doTellingsMatch_17 rfl (lv_at hl 0 rfl) ?_
    refine lv_iconst (v := 0) hx hb dX11_doTellingsMatch_18 (by decide) ?_
    obtain ⟨r3, hc, hf⟩ := mbp_e hf
    refine m_callV (As := [.int (0 : Int32)]) (rest := []) hx hb hml hown hI (c_X6_toldAt l w H.size 0 (by decide) (0 : Int32) M _ hc) (kb_X6_toldAt hI.T (q542 hI.T) (Nat.le_of_ble_eq_true rfl) (Nat.le_of_ble_eq_true rfl)) (q543 hI.T) (q544 hI.T) (m_recv (g := 0) (i := 1) hI (mokS (by decide) (by decide)) rfl rfl) rfl hl.1 (Nat.le_of_ble_eq_true rfl) dX11_doTellingsMatch_19 ⟨Nat.le_of_ble_eq_true rfl, Nat.le_of_ble_eq_true rfl⟩ (fun H locs hI => ?_)
    refine lv_aload_n hx hb dX11_doTellingsMatch_22 rfl (lv_at hl 1 rfl) ?_
    refine m_get (g := 12) (i := 16) (ci := 9) (k := 5) (v := .ref (w.1 12 19)) hx hb hI hown (mokX (by decide) (by decide)) rfl rfl (by decide) lyX11 (q299 hI.T) rfl dX11_doTellingsMatch_23 ?_
    refine lv_aload_n hx hb dX11_doTellingsMatch_26 rfl (lv_at hl 0 rfl) ?_
    obtain ⟨r4, M5, hc, hf⟩ := mbnd_e hf
    refine m_callV (As := [.ref (w.1 0 1)]) (rest := [.int r3]) hx hb hml hown hI (c_X8_secretOf l w H.size 0 (by decide) M _ _ hc) (kb_X8_secretOf hI.T (q1416 hI.T) (Nat.le_of_ble_eq_true rfl) (Nat.le_of_ble_eq_true rfl)) (q1417 hI.T) (q1418 hI.T) (m_recv (g := 12) (i := 19) hI (mokX (by decide) (by decide)) rfl rfl) rfl hl.1 (Nat.le_of_ble_eq_true rfl) dX11_doTellingsMatch_27 ⟨Nat.le_of_ble_eq_true rfl, Nat.le_of_ble_eq_true rfl⟩ (fun H locs hI => ?_)
    refine lv_icmp_ne (tgt := 56) hx hb dX11_doTellingsMatch_30 (by decide) (fun c6 => ?_) (fun c6 => ?_)
    · have hf := (if_neg c6).symm.trans hf
      refine lv_iconst (v := 0) hx hb dX11_doTellingsMatch_56 (by decide) ?_
      exact m_zretf hx hb hr hlk hI rfl hf dX11_doTellingsMatch_57
    · have hf := (if_pos c6).symm.trans hf
      refine lv_aload_n hx hb dX11_doTellingsMatch_33 rfl (lv_at hl 1 rfl) ?_
      refine m_get (g := 12) (i := 16) (ci := 9) (k := 5) (v := .ref (w.1 12 19)) hx hb hI hown (mokX (by decide) (by decide)) rfl rfl (by decide) lyX11 (q299 hI.T) rfl dX11_doTellingsMatch_34 ?_
      refine lv_aload_n hx hb dX11_doTellingsMatch_37 rfl (lv_at hl 0 rfl) ?_
      obtain ⟨r7, M8, hc, hf⟩ := mbnd_e hf
      refine m_callV (As := [.ref (w.1 0 1)]) (rest := []) hx hb hml hown hI (c_X8_mostOnCurves l w H.size 0 (by decide) M5 _ _ hc) (kb_X8_mostOnCurves hI.T (q1455 hI.T) (Nat.le_of_ble_eq_true rfl) (Nat.le_of_ble_eq_true rfl)) (q1456 hI.T) (q1457 hI.T) (m_recv (g := 12) (i := 19) hI (mokX (by decide) (by decide)) rfl rfl) rfl hl.1 (Nat.le_of_ble_eq_true rfl) dX11_doTellingsMatch_38 ⟨Nat.le_of_ble_eq_true rfl, Nat.le_of_ble_eq_true rfl⟩ (fun H locs hI => ?_)
      refine lv_aload_n hx hb dX11_doTellingsMatch_41 rfl (lv_at hl 1 rfl) ?_
      refine m_get (g := 12) (i := 16) (ci := 9) (k := 5) (v := .ref (w.1 12 19)) hx hb hI hown (mokX (by decide) (by decide)) rfl rfl (by decide) lyX11 (q299 hI.T) rfl dX11_doTellingsMatch_42 ?_
      refine lv_aload_n hx hb dX11_doTellingsMatch_45 rfl (lv_at hl 0 rfl) ?_
      obtain ⟨r9, M10, hc, hf⟩ := mbnd_e hf
      refine m_callV (As := [.ref (w.1 0 1)]) (rest := [.int r7]) hx hb hml hown hI (c_X8_mostInSets l w H.size 0 (by decide) M8 _ _ hc) (kb_X8_mostInSets hI.T (q1477 hI.T) (Nat.le_of_ble_eq_true rfl) (Nat.le_of_ble_eq_true rfl)) (q1478 hI.T) (q1479 hI.T) (m_recv (g := 12) (i := 19) hI (mokX (by decide) (by decide)) rfl rfl) rfl hl.1 (Nat.le_of_ble_eq_true rfl) dX11_doTellingsMatch_46 ⟨Nat.le_of_ble_eq_true rfl, Nat.le_of_ble_eq_true rfl⟩ (fun H locs hI => ?_)
      refine lv_icmp_ne (tgt := 56) hx hb dX11_doTellingsMatch_49 (by decide) (fun c11 => ?_) (fun c11 => ?_)
      · have hf := (if_neg c11).symm.trans hf
        refine lv_iconst (v := 0) hx hb dX11_doTellingsMatch_56 (by decide) ?_
        exact m_zretf hx hb hr hlk hI rfl hf dX11_doTellingsMatch_57
      · have hf := (if_pos c11).symm.trans hf
        refine lv_iconst (v := 1) hx hb dX11_doTellingsMatch_52 (by decide) ?_
        refine lv_goto (tgt := 57) hx hb dX11_doTellingsMatch_53 (by decide) ?_
        exact m_zretf hx hb hr hlk hI rfl hf dX11_doTellingsMatch_57
  · have hf := (if_pos c2).symm.trans hf
    refine lv_iconst (v := 1) hx hb dX11_doTellingsMatch_15 (by decide) ?_
    exact m_zretf hx hb hr hlk hI rfl hf dX11_doTellingsMatch_16
abbrev rmX11_isConsistent : Room := { frames := 6, cells := 0, slots := 0, locals := 140 }
theorem kb_X11_isConsistent {R : Room} {s : State} {args : Array Value} {own : String} {idx : Nat} (hT : mT s) (hlink : (Cond.methodLink own idx yX11_isConsistent).before args s = true) (h1 : rmX11_isConsistent.frames + 1 ≤ R.frames) (h2 : 8 + (1 + 11) + rmX11_isConsistent.locals ≤ R.locals) : CallB R s args own idx yX11_isConsistent cX11_isConsistent 1 (some .boolean) [Cond.code yX11_isConsistent cX11_isConsistent 1 (some .boolean)] rmX11_isConsistent 0 0 0 := m_callB hT kc_X11_isConsistent ki_X11_isConsistent hlink (by decide +kernel) ⟨rfl, rfl, h1, h2⟩
set_option maxHeartbeats 4000000 in
set_option maxRecDepth 100000 in
theorem c_X11_isConsistent (l : Launch) (w : WD) (sz : Nat)  (M : Mem) (r : Int32) (M9 : Mem) (hf : f_X11_isConsistent  M = some (r, M9)) : mMet l yX11_isConsistent cX11_isConsistent 1 (some .boolean) rmX11_isConsistent w sz M [.ref (w.1 12 16)] (some (.int r)) M9 := by
  refine m_of (by decide) (Nat.le_of_ble_eq_true rfl) ?_
  intro p e s m args below meth c hx hb hr hml hown hlk hI ls hl
  have hl : lv_has ls 1 [(0, .ref (w.1 12 16))] := hl
  unfold f_X11_isConsistent at hf
  refine lv_aload_n hx hb dX11_isConsistent_0 rfl (lv_at hl 0 rfl) ?_
  refine m_get (g := 12) (i := 16) (ci := 9) (k := 0) (v := .ref (w.1 0 0)) hx hb hI hown (mokX (by decide) (by decide)) rfl rfl (by decide) lyX11 (q294 hI.T) rfl dX11_isConsistent_1 ?_
  refine m_get (g := 0) (i := 0) (ci := 8) (k := 2) (v := .ref (w.1 0 6)) hx hb hI hown (mokS (by decide) (by decide)) rfl rfl (by decide) lyX9 (q191 hI.T) rfl dX11_isConsistent_4 ?_
  refine m_get (g := 0) (i := 6) (ci := 0) (k := 2) (v := .ref (w.1 0 8)) hx hb hI hown (mokS (by decide) (by decide)) rfl rfl (by decide) lyX1 (q131 hI.T) rfl dX11_isConsistent_7 ?_
  obtain ⟨r1, hc, hf⟩ := mbp_e hf
  refine m_callS (As := [.ref (w.1 0 8)]) (rest := []) hx hb hml hown hI (c_X1_sumOf l w s.heap.size 0 8 (mokS (by decide) (by decide)) rfl M _ hc) (kb_X1_sumOf hI.T (q1560 hI.T) (Nat.le_of_ble_eq_true rfl) (Nat.le_of_ble_eq_true rfl)) (q1561 hI.T) rfl hl.1 (Nat.le_of_ble_eq_true rfl) dX11_isConsistent_10 ⟨Nat.le_of_ble_eq_true rfl, Nat.le_of_ble_eq_true rfl⟩ (fun H locs hI => ?_)
  refine lv_aload_n hx hb dX11_isConsistent_13 rfl (lv_at hl 0 rfl) ?_
  refine m_get (g := 12) (i := 16) (ci := 9) (k := 0) (v := .ref (w.1 0 0)) hx hb hI hown (mokX (by decide) (by decide)) rfl rfl (by decide) lyX11 (q294 hI.T) rfl dX11_isConsistent_14 ?_
  refine m_get (g := 0) (i := 0) (ci := 8) (k := 2) (v := .ref (w.1 0 6)) hx hb hI hown (mokS (by decide) (by decide)) rfl rfl (by decide) lyX9 (q191 hI.T) rfl dX11_isConsistent_17 ?_
  refine m_get (g := 0) (i := 6) (ci := 0) (k := 3) (v := .int (M 0 6 3)) hx hb hI hown (mokS (by decide) (by decide)) rfl rfl (by decide) lyX1 (q134 hI.T) rfl dX11_isConsistent_20 ?_
  refine lv_icmp_ne (tgt := 44) hx hb dX11_isConsistent_23 (by decide) (fun c2 => ?_) (fun c2 => ?_)
  · have hf := (if_neg c2).symm.trans hf
    refine lv_iconst (v := 0) hx hb dX11_isConsistent_44 (by decide) ?_
    exact m_zretf hx hb hr hlk hI rfl hf dX11_isConsistent_45
  · have hf := (if_pos c2).symm.trans hf
    refine lv_aload_n hx hb dX11_isConsistent_26 rfl (lv_at hl 0 rfl) ?_
    obtain ⟨r3, M4, hc, hf⟩ := mbnd_e hf
    refine m_callV (As := []) (rest := []) hx hb hml hown hI (c_X11_doVisitsMatch l w H.size M _ _ hc) (kb_X11_doVisitsMatch hI.T (q1569 hI.T) (Nat.le_of_ble_eq_true rfl) (Nat.le_of_ble_eq_true rfl)) (q1571 hI.T) (sel_X11_doVisitsMatch hI.T) (m_recv (g := 12) (i := 16) hI (mokX (by decide) (by decide)) rfl rfl) rfl hl.1 (Nat.le_of_ble_eq_true rfl) dX11_isConsistent_27 ⟨Nat.le_of_ble_eq_true rfl, Nat.le_of_ble_eq_true rfl⟩ (fun H locs hI => ?_)
    refine lv_if_eq (tgt := 44) hx hb dX11_isConsistent_30 (by decide) (fun c5 => ?_) (fun c5 => ?_)
    · have hf := (if_pos c5).symm.trans hf
      refine lv_iconst (v := 0) hx hb dX11_isConsistent_44 (by decide) ?_
      exact m_zretf hx hb hr hlk hI rfl hf dX11_isConsistent_45
    · have hf := (if_neg c5).symm.trans hf
      refine lv_aload_n hx hb dX11_isConsistent_33 rfl (lv_at hl 0 rfl) ?_
      obtain ⟨r6, M7, hc, hf⟩ := mbnd_e hf
      refine m_callV (As := []) (rest := []) hx hb hml hown hI (c_X11_doTellingsMatch l w H.size M4 _ _ hc) (kb_X11_doTellingsMatch hI.T (q1573 hI.T) (Nat.le_of_ble_eq_true rfl) (Nat.le_of_ble_eq_true rfl)) (q1575 hI.T) (sel_X11_doTellingsMatch hI.T) (m_recv (g := 12) (i := 16) hI (mokX (by decide) (by decide)) rfl rfl) rfl hl.1 (Nat.le_of_ble_eq_true rfl) dX11_isConsistent_34 ⟨Nat.le_of_ble_eq_true rfl, Nat.le_of_ble_eq_true rfl⟩ (fun H locs hI => ?_)
      refine lv_if_eq (tgt := 44) hx hb dX11_isConsistent_37 (by decide) (fun c8 => ?_) (fun c8 => ?_)
      · have hf := (if_pos c8).symm.trans hf
        refine lv_iconst (v := 0) hx hb dX11_isConsistent_44 (by decide) ?_
        exact m_zretf hx hb hr hlk hI rfl hf dX11_isConsistent_45
      · have hf := (if_neg c8).symm.trans hf
        refine lv_iconst (v := 1) hx hb dX11_isConsistent_40 (by decide) ?_
        refine lv_goto (tgt := 45) hx hb dX11_isConsistent_41 (by decide) ?_
        exact m_zretf hx hb hr hlk hI rfl hf dX11_isConsistent_45
abbrev rmX2_append : Room := { frames := 0, cells := 0, slots := 0, locals := 0 }
theorem kb_X2_append {R : Room} {s : State} {args : Array Value} {own : String} {idx : Nat} (hT : mT s) (hlink : (Cond.methodLink own idx yX2_append).before args s = true) (h1 : rmX2_append.frames + 1 ≤ R.frames) (h2 : 8 + (2 + 11) + rmX2_append.locals ≤ R.locals) : CallB R s args own idx yX2_append cX2_append 2 (some .int) [Cond.code yX2_append cX2_append 2 (some .int)] rmX2_append 0 0 1 := m_callB hT kc_X2_append ki_X2_append hlink (by decide +kernel) ⟨rfl, rfl, h1, h2⟩
set_option maxHeartbeats 4000000 in
set_option maxRecDepth 100000 in
theorem c_X2_append (l : Launch) (w : WD) (sz : Nat) (a1 : Int32) (M : Mem) (r : Int32) (M9 : Mem) (hf : f_X2_append a1 M = some (r, M9)) : mMet l yX2_append cX2_append 2 (some .int) rmX2_append w sz M [.ref (w.1 12 26), .int a1] (some (.int r)) M9 := by
  refine m_of (by decide) (Nat.le_of_ble_eq_true rfl) ?_
  intro p e s m args below meth c hx hb hr hml hown hlk hI ls hl
  have hl : lv_has ls 2 [(0, .ref (w.1 12 26)), (1, .int a1)] := hl
  unfold f_X2_append at hf
  refine lv_aload_n hx hb dX2_append_0 rfl (lv_at hl 0 rfl) ?_
  refine m_get (g := 12) (i := 26) (ci := 1) (k := 0) (v := .ref (w.1 12 27)) hx hb hI hown (mokX (by decide) (by decide)) rfl rfl (by decide) lyX2 (q256 hI.T) rfl dX2_append_1 ?_
  refine lv_aload_n hx hb dX2_append_4 rfl (lv_at hl 0 rfl) ?_
  refine m_get (g := 12) (i := 26) (ci := 1) (k := 1) (v := .int (M 12 26 1)) hx hb hI hown (mokX (by decide) (by decide)) rfl rfl (by decide) lyX2 (q257 hI.T) rfl dX2_append_5 ?_
  refine lv_iload_n hx hb dX2_append_8 rfl (lv_at hl 1 rfl) ?_
  obtain ⟨hi, hf⟩ := mix_e hf
  obtain ⟨M1, eM1, hf⟩ := mlet_e hf
  refine m_cast (g := 12) (i := 27) (M1 := M1) hx hb hI (mokX (by decide) (by decide)) rfl hi eM1 dX2_append_9 (fun H locs hI => ?_)
  refine lv_aload_n hx hb dX2_append_10 rfl (lv_at hl 0 rfl) ?_
  refine lv_dup hx hb dX2_append_11 rfl ?_
  refine m_get (g := 12) (i := 26) (ci := 1) (k := 1) (v := .int (M1 12 26 1)) hx hb hI hown (mokX (by decide) (by decide)) rfl rfl (by decide) lyX2 (q257 hI.T) rfl dX2_append_12 ?_
  refine lv_iconst (v := 1) hx hb dX2_append_15 (by decide) ?_
  refine lv_iadd hx hb dX2_append_16 ?_
  obtain ⟨M2, eM2, hf⟩ := mlet_e hf
  refine m_put (g := 12) (i := 26) (ci := 1) (k := 1) (ty := .int) (M1 := M2) hx hb hI hown (mokX (by decide) (by decide)) rfl rfl (by decide) lyX2 tyX2 tyX2_ok nmX2 (q257 hI.T) rfl rfl rfl rfl (Nat.le_of_ble_eq_true rfl) rfl eM2 dX2_append_17 (fun H locs hI => ?_)
  refine lv_aload_n hx hb dX2_append_20 rfl (lv_at hl 0 rfl) ?_
  refine m_get (g := 12) (i := 26) (ci := 1) (k := 1) (v := .int (M2 12 26 1)) hx hb hI hown (mokX (by decide) (by decide)) rfl rfl (by decide) lyX2 (q257 hI.T) rfl dX2_append_21 ?_
  exact m_iretf hx hb hr hlk hI hf dX2_append_24
abbrev rmX11_feed : Room := { frames := 8, cells := 1, slots := 6, locals := 140 }
theorem kb_X11_feed {R : Room} {s : State} {args : Array Value} {own : String} {idx : Nat} (hT : mT s) (hlink : (Cond.methodLink own idx yX11_feed).before args s = true) (h1 : rmX11_feed.frames + 1 ≤ R.frames) (h2 : 8 + (2 + 11) + rmX11_feed.locals ≤ R.locals) : CallB R s args own idx yX11_feed cX11_feed 2 (some .int) [Cond.code yX11_feed cX11_feed 2 (some .int)] rmX11_feed 1 6 1 := m_callB hT kc_X11_feed ki_X11_feed hlink (by decide +kernel) ⟨rfl, rfl, h1, h2⟩
set_option maxHeartbeats 4000000 in
set_option maxRecDepth 100000 in
theorem c_X11_feed (l : Launch) (w : WD) (hsf : l.stackTraces = false) (sz : Nat) (a1 : Int32) (M : Mem) (r : (Nat ⊕ Int32)) (M9 : Mem) (hf : f_X11_feed a1 M = some (r, M9)) : mMetx l yX11_feed cX11_feed 2 (some .int) rmX11_feed w sz M [.ref (w.1 12 16), .int a1] (moI r) M9 1 6 := by
  refine m_ofx (by decide) (Nat.le_of_ble_eq_true rfl) ?_
  intro p e s m args below meth c hx hb hr hml hown hlk hxt hI ls hl
  have hl : lv_has ls 2 [(0, .ref (w.1 12 16)), (1, .int a1)] := hl
  unfold f_X11_feed at hf
  refine lv_aload_n hx hb dX11_feed_0 rfl (lv_at hl 0 rfl) ?_
  refine m_get (g := 12) (i := 16) (ci := 9) (k := 6) (v := .ref (w.1 12 26)) hx hb hI hown (mokX (by decide) (by decide)) rfl rfl (by decide) lyX11 (q300 hI.T) rfl dX11_feed_1 ?_
  refine m_get (g := 12) (i := 26) (ci := 1) (k := 1) (v := .int (M 12 26 1)) hx hb hI hown (mokX (by decide) (by decide)) rfl rfl (by decide) lyX2 (q258 hI.T) rfl dX11_feed_4 ?_
  refine lv_bipush (v := 60) hx hb dX11_feed_7 (by decide) ?_
  refine lv_icmp_lt (tgt := 23) hx hb dX11_feed_9 (by decide) (fun c1 => ?_) (fun c1 => ?_)
  · have hf := (if_pos c1).symm.trans hf
    refine lv_aload_n hx hb dX11_feed_23 rfl (lv_at hl 0 rfl) ?_
    refine m_get (g := 12) (i := 16) (ci := 9) (k := 6) (v := .ref (w.1 12 26)) hx hb hI hown (mokX (by decide) (by decide)) rfl rfl (by decide) lyX11 (q300 hI.T) rfl dX11_feed_24 ?_
    refine lv_iload_n hx hb dX11_feed_27 rfl (lv_at hl 1 rfl) ?_
    obtain ⟨r2, M3, hc, hf⟩ := mbnd_e hf
    refine m_callV (As := [.int a1]) (rest := []) hx hb hml hown hI (c_X2_append l w s.heap.size a1 M _ _ hc) (kb_X2_append hI.T (q1260 hI.T) (Nat.le_of_ble_eq_true rfl) (Nat.le_of_ble_eq_true rfl)) (q1261 hI.T) (q1262 hI.T) (m_recv (g := 12) (i := 26) hI (mokX (by decide) (by decide)) rfl rfl) rfl hl.1 (Nat.le_of_ble_eq_true rfl) dX11_feed_28 ⟨Nat.le_of_ble_eq_true rfl, Nat.le_of_ble_eq_true rfl⟩ (fun H locs hI => ?_)
    exact m_iretx hx hb hr hlk hI hf dX11_feed_31 (Nat.le_of_ble_eq_true rfl) (Nat.le_of_ble_eq_true rfl)
  · have hf := (if_neg c1).symm.trans hf
    exact m_throwW (n := 5) (ix := 5) hx hb hsf hown hI rfl (q1244 hI.T) (q31 hI.T) (m_thw_5_X11_313 hI) hl.1 hml dX11_feed_12 dX11_feed_15 dX11_feed_16 dX11_feed_19 dX11_feed_22 hxt (Nat.le_of_ble_eq_true rfl) (Nat.le_of_ble_eq_true rfl) (Nat.le_of_ble_eq_true rfl) (Nat.le_of_ble_eq_true rfl) hlk hf (Nat.le_of_ble_eq_true rfl) (Nat.le_of_ble_eq_true rfl)
abbrev rmX2_matchingLetters : Room := { frames := 5, cells := 0, slots := 0, locals := 200 }
theorem kb_X2_matchingLetters {R : Room} {s : State} {args : Array Value} {own : String} {idx : Nat} (hT : mT s) (hlink : (Cond.methodLink own idx yX2_matchingLetters).before args s = true) (h1 : rmX2_matchingLetters.frames + 1 ≤ R.frames) (h2 : 8 + (3 + 11) + rmX2_matchingLetters.locals ≤ R.locals) : CallB R s args own idx yX2_matchingLetters cX2_matchingLetters 3 (some .int) [Cond.code yX2_matchingLetters cX2_matchingLetters 3 (some .int)] rmX2_matchingLetters 0 0 1 := m_callB hT kc_X2_matchingLetters ki_X2_matchingLetters hlink (by decide +kernel) ⟨rfl, rfl, h1, h2⟩
set_option maxHeartbeats 4000000 in
set_option maxRecDepth 100000 in
theorem c_X2_matchingLetters (l : Launch) (w : WD) (sz : Nat) (t1 : Nat) (ht1 : mtx t1) (M : Mem) (r : Int32) (hf : f_X2_matchingLetters t1 M = some r) : mMet l yX2_matchingLetters cX2_matchingLetters 3 (some .int) rmX2_matchingLetters w sz M [.ref (w.1 12 26), .ref (w.2.2.2 1 t1)] (some (.int r)) M := by
  refine m_of (by decide) (Nat.le_of_ble_eq_true rfl) ?_
  intro p e s m args below meth c hx hb hr hml hown hlk hI ls hl
  have hl : lv_has ls 3 [(0, .ref (w.1 12 26)), (1, .ref (w.2.2.2 1 t1))] := hl
  unfold f_X2_matchingLetters at hf
  refine lv_iconst (v := 0) hx hb dX2_matchingLetters_0 (by decide) ?_
  refine lv_istore_n (lv' := [(2, .int (0 : Int32)), (0, .ref (w.1 12 26)), (1, .ref (w.2.2.2 1 t1))]) hx hb dX2_matchingLetters_1 rfl hl (by decide) rfl (fun ls hl => ?_)
  have hL2 : ∀ (n : Nat) (x1 : Int32) (kk : Int32 → Option Int32) (H : Heap) (locs : List Loc) (ls : Array Slot), f_X2_matchingLetters_L2 t1 M n x1 kk = some r → mI w s (mA w s.heap.size) H locs M → lv_has ls 3 [(0, .ref (w.1 12 26)), (1, .ref (w.2.2.2 1 t1)), (2, .int x1)] → (∀ (x1 : Int32) (H : Heap) (locs : List Loc) (ls : Array Slot), kk x1 = some r → mI w s (mA w s.heap.size) H locs M → lv_has ls 3 [(2, .int x1)] → W p l e rmX2_matchingLetters s m args below meth c H locs 0 0 (MQ below (mQ w s.heap.size (some (.int r)) M) args s 0 0 (mA w s.heap.size)) (F0 m 48 ls [])) → W p l e rmX2_matchingLetters s m args below meth c H locs 0 0 (MQ below (mQ w s.heap.size (some (.int r)) M) args s 0 0 (mA w s.heap.size)) (F0 m 2 ls []) := by
    intro n
    induction n with
    | zero => intro x1 kk H locs ls hf hI hl hk; rw [f_X2_matchingLetters_L2.eq_1] at hf; cases hf
    | succ n ih2 =>
      intro x1 kk H locs ls hf hI hl hk
      rw [f_X2_matchingLetters_L2.eq_2] at hf
      refine lv_iload_n hx hb dX2_matchingLetters_2 rfl (lv_at hl 2 rfl) ?_
      refine lv_aload_n hx hb dX2_matchingLetters_3 rfl (lv_at hl 1 rfl) ?_
      refine m_slen hx hb hml hown hI ht1 (q1289 hI.T) hl.1 (Nat.le_of_ble_eq_true rfl) (Nat.le_of_ble_eq_true rfl) (Nat.le_of_ble_eq_true rfl) dX2_matchingLetters_4 ⟨Nat.le_of_ble_eq_true rfl, Nat.le_of_ble_eq_true rfl⟩ (fun H locs hI => ?_)
      refine lv_icmp_ge (tgt := 48) hx hb dX2_matchingLetters_7 (by decide) (fun c2 => ?_) (fun c2 => ?_)
      · have hf := (if_pos c2).symm.trans hf
        exact hk x1 H _ _ hf hI (lv_sub hl [2] rfl)
      · have hf := (if_neg c2).symm.trans hf
        refine lv_aload_n hx hb dX2_matchingLetters_10 rfl (lv_at hl 0 rfl) ?_
        refine m_get (g := 12) (i := 26) (ci := 1) (k := 2) (v := .int (M 12 26 2)) hx hb hI hown (mokX (by decide) (by decide)) rfl rfl (by decide) lyX2 (q259 hI.T) rfl dX2_matchingLetters_11 ?_
        refine lv_iload_n hx hb dX2_matchingLetters_14 rfl (lv_at hl 2 rfl) ?_
        refine lv_iadd hx hb dX2_matchingLetters_15 ?_
        refine lv_aload_n hx hb dX2_matchingLetters_16 rfl (lv_at hl 0 rfl) ?_
        refine m_get (g := 12) (i := 26) (ci := 1) (k := 1) (v := .int (M 12 26 1)) hx hb hI hown (mokX (by decide) (by decide)) rfl rfl (by decide) lyX2 (q257 hI.T) rfl dX2_matchingLetters_17 ?_
        refine lv_icmp_ge (tgt := 48) hx hb dX2_matchingLetters_20 (by decide) (fun c3 => ?_) (fun c3 => ?_)
        · have hf := (if_pos c3).symm.trans hf
          exact hk x1 H _ _ hf hI (lv_sub hl [2] rfl)
        · have hf := (if_neg c3).symm.trans hf
          refine lv_aload_n hx hb dX2_matchingLetters_23 rfl (lv_at hl 0 rfl) ?_
          refine m_get (g := 12) (i := 26) (ci := 1) (k := 0) (v := .ref (w.1 12 27)) hx hb hI hown (mokX (by decide) (by decide)) rfl rfl (by decide) lyX2 (q256 hI.T) rfl dX2_matchingLetters_24 ?_
          refine lv_aload_n hx hb dX2_matchingLetters_27 rfl (lv_at hl 0 rfl) ?_
          refine m_get (g := 12) (i := 26) (ci := 1) (k := 2) (v := .int (M 12 26 2)) hx hb hI hown (mokX (by decide) (by decide)) rfl rfl (by decide) lyX2 (q259 hI.T) rfl dX2_matchingLetters_28 ?_
          refine lv_iload_n hx hb dX2_matchingLetters_31 rfl (lv_at hl 2 rfl) ?_
          refine lv_iadd hx hb dX2_matchingLetters_32 ?_
          obtain ⟨hi, hf⟩ := mix_e hf
          refine m_cald (g := 12) (i := 27) hx hb hI (mokX (by decide) (by decide)) rfl hi dX2_matchingLetters_33 ?_
          refine lv_aload_n hx hb dX2_matchingLetters_34 rfl (lv_at hl 1 rfl) ?_
          refine lv_iload_n hx hb dX2_matchingLetters_35 rfl (lv_at hl 2 rfl) ?_
          obtain ⟨hi, hf⟩ := mix_e hf
          refine m_sat hx hb hml hown hI ht1 hi (q1290 hI.T) hl.1 (Nat.le_of_ble_eq_true rfl) (Nat.le_of_ble_eq_true rfl) (Nat.le_of_ble_eq_true rfl) dX2_matchingLetters_36 ⟨Nat.le_of_ble_eq_true rfl, Nat.le_of_ble_eq_true rfl⟩ (fun H locs hI => ?_)
          refine lv_icmp_ne (tgt := 48) hx hb dX2_matchingLetters_39 (by decide) (fun c4 => ?_) (fun c4 => ?_)
          · have hf := (if_neg c4).symm.trans hf
            exact hk x1 H _ _ hf hI (lv_sub hl [2] rfl)
          · have hf := (if_pos c4).symm.trans hf
            obtain ⟨x5, ex5, hf⟩ := mlet_e hf
            refine lv_iinc (v := x5) (lv' := [(2, .int x5), (0, .ref (w.1 12 26)), (1, .ref (w.2.2.2 1 t1))]) hx hb dX2_matchingLetters_42 hl (k := 2) rfl (by rw [ex5]; rfl) (by decide) rfl (fun ls hl => ?_)
            refine lv_goto (tgt := 2) hx hb dX2_matchingLetters_45 (by decide) ?_
            exact ih2 x5 kk H _ _ hf hI (lv_sub hl [1, 2, 0] rfl) hk
  refine hL2 1000 (0 : Int32) _ _ _ _ hf hI (lv_sub hl [1, 2, 0] rfl) ?_
  intro x6 H locs ls hf hI hl
  try dsimp only at hf
  refine lv_iload_n hx hb dX2_matchingLetters_48 rfl (lv_at hl 0 rfl) ?_
  exact m_iretp hx hb hr hlk hI hf dX2_matchingLetters_49
abbrev rmX2_readWord : Room := { frames := 6, cells := 0, slots := 0, locals := 222 }
theorem kb_X2_readWord {R : Room} {s : State} {args : Array Value} {own : String} {idx : Nat} (hT : mT s) (hlink : (Cond.methodLink own idx yX2_readWord).before args s = true) (h1 : rmX2_readWord.frames + 1 ≤ R.frames) (h2 : 8 + (7 + 11) + rmX2_readWord.locals ≤ R.locals) : CallB R s args own idx yX2_readWord cX2_readWord 7 (some (.object "ShareVault$Word")) [Cond.code yX2_readWord cX2_readWord 7 (some (.object "ShareVault$Word"))] rmX2_readWord 0 0 0 := m_callB hT kc_X2_readWord ki_X2_readWord hlink (by decide +kernel) ⟨rfl, rfl, h1, h2⟩
set_option maxHeartbeats 4000000 in
set_option maxRecDepth 100000 in
theorem c_X2_readWord (l : Launch) (w : WD) (sz : Nat)  (M : Mem) (r : (Option Nat)) (M9 : Mem) (hf : f_X2_readWord  M = some (r, M9)) : mMet l yX2_readWord cX2_readWord 7 (some (.object "ShareVault$Word")) rmX2_readWord w sz M [.ref (w.1 12 26)] (some (va_rf (r.map (w.2.2.2 0)))) M9 := by
  refine m_of (by decide) (Nat.le_of_ble_eq_true rfl) ?_
  intro p e s m args below meth c hx hb hr hml hown hlk hI ls hl
  have hl : lv_has ls 7 [(0, .ref (w.1 12 26))] := hl
  unfold f_X2_readWord at hf
  refine lv_iconst (v := 0) hx hb dX2_readWord_0 (by decide) ?_
  refine lv_istore_n (lv' := [(1, .int (0 : Int32)), (0, .ref (w.1 12 26))]) hx hb dX2_readWord_1 rfl hl (by decide) rfl (fun ls hl => ?_)
  refine va_gets hx hb hI.Zwords hI.S hown (q1283 hI.T) (fun _ h => h) dX2_readWord_2 ?_
  refine lv_astore_n (lv' := [(2, .ref (w.2.2.2 3 1)), (1, .int (0 : Int32)), (0, .ref (w.1 12 26))]) hx hb dX2_readWord_5 rfl hl (by decide) rfl (fun ls hl => ?_)
  refine lv_aload_n hx hb dX2_readWord_6 rfl (lv_at hl 0 rfl) ?_
  refine va_tlen (v := 11) hx hb hI.Twords hI.S rfl dX2_readWord_7 ?_
  refine lv_istore_n (lv' := [(3, .int (11 : Int32)), (2, .ref (w.2.2.2 3 1)), (1, .int (0 : Int32)), (0, .ref (w.1 12 26))]) hx hb dX2_readWord_8 rfl hl (by decide) rfl (fun ls hl => ?_)
  refine lv_iconst (v := 0) hx hb dX2_readWord_9 (by decide) ?_
  refine lv_istore (lv' := [(4, .int (0 : Int32)), (3, .int (11 : Int32)), (2, .ref (w.2.2.2 3 1)), (1, .int (0 : Int32)), (0, .ref (w.1 12 26))]) hx hb dX2_readWord_10 hl (by decide) rfl (fun ls hl => ?_)
  have hL12 : ∀ (n : Nat) (x1 : Int32) (x2 : Int32) (kk : Int32 → Option ((Option Nat) × Mem)) (H : Heap) (locs : List Loc) (ls : Array Slot), f_X2_readWord_L12 M n x1 x2 kk = some (r, M9) → mI w s (mA w s.heap.size) H locs M → lv_has ls 7 [(0, .ref (w.1 12 26)), (1, .int x1), (2, .ref (w.2.2.2 3 1)), (3, .int (11 : Int32)), (4, .int x2)] → (∀ (x1 : Int32) (H : Heap) (locs : List Loc) (ls : Array Slot), kk x1 = some (r, M9) → mI w s (mA w s.heap.size) H locs M → lv_has ls 7 [(0, .ref (w.1 12 26)), (1, .int x1)] → W p l e rmX2_readWord s m args below meth c H locs 0 0 (MQ below (mQ w s.heap.size (some (va_rf (r.map (w.2.2.2 0)))) M9) args s 0 0 (mA w s.heap.size)) (F0 m 75 ls [])) → W p l e rmX2_readWord s m args below meth c H locs 0 0 (MQ below (mQ w s.heap.size (some (va_rf (r.map (w.2.2.2 0)))) M9) args s 0 0 (mA w s.heap.size)) (F0 m 12 ls []) := by
    intro n
    induction n with
    | zero => intro x1 x2 kk H locs ls hf hI hl hk; rw [f_X2_readWord_L12.eq_1] at hf; cases hf
    | succ n ih12 =>
      intro x1 x2 kk H locs ls hf hI hl hk
      rw [f_X2_readWord_L12.eq_2] at hf
      refine lv_iload hx hb dX2_readWord_12 (lv_at hl 4 rfl) ?_
      refine lv_iload_n hx hb dX2_readWord_14 rfl (lv_at hl 3 rfl) ?_
      refine lv_icmp_ge (tgt := 75) hx hb dX2_readWord_15 (by decide) (fun c3 => ?_) (fun c3 => ?_)
      · have hf := (if_pos c3).symm.trans hf
        exact hk x1 H _ _ hf hI (lv_sub hl [0, 1] rfl)
      · have hf := (if_neg c3).symm.trans hf
        refine lv_aload_n hx hb dX2_readWord_18 rfl (lv_at hl 2 rfl) ?_
        refine lv_iload hx hb dX2_readWord_19 (lv_at hl 4 rfl) ?_
        obtain ⟨hi, hf⟩ := mix_e hf
        have hk21 := mix_lt hi
        refine vb_tq hx hb hI.Twords hI.S hi rfl dX2_readWord_21 ?_
        refine lv_astore (lv' := [(5, .ref (w.2.2.2 0 (x2.toNatClampNeg))), (0, .ref (w.1 12 26)), (1, .int x1), (2, .ref (w.2.2.2 3 1)), (3, .int (11 : Int32)), (4, .int x2)]) hx hb dX2_readWord_22 hl (by decide) rfl (fun ls hl => ?_)
        refine lv_aload_n hx hb dX2_readWord_24 rfl (lv_at hl 1 rfl) ?_
        refine lv_aload hx hb dX2_readWord_25 (lv_at hl 0 rfl) ?_
        refine m_enletters hx hb hI hown hk21 (q1642 hI.T) dX2_readWord_27 ?_
        obtain ⟨r4, hc, hf⟩ := mbp_e hf
        refine m_callV (As := [.ref (w.2.2.2 1 (mLt.getD (x2.toNatClampNeg) 0))]) (rest := []) hx hb hml hown hI (c_X2_matchingLetters l w H.size (mLt.getD (x2.toNatClampNeg) 0) (mLt_lt hk21) M _ hc) (kb_X2_matchingLetters hI.T (q1285 hI.T) (Nat.le_of_ble_eq_true rfl) (Nat.le_of_ble_eq_true rfl)) (q1287 hI.T) (sel_X2_matchingLetters hI.T) (m_recv (g := 12) (i := 26) hI (mokX (by decide) (by decide)) rfl rfl) rfl hl.1 (Nat.le_of_ble_eq_true rfl) dX2_readWord_30 ⟨Nat.le_of_ble_eq_true rfl, Nat.le_of_ble_eq_true rfl⟩ (fun H locs hI => ?_)
        refine lv_istore (lv' := [(6, .int r4), (5, .ref (w.2.2.2 0 (x2.toNatClampNeg))), (0, .ref (w.1 12 26)), (1, .int x1), (2, .ref (w.2.2.2 3 1)), (3, .int (11 : Int32)), (4, .int x2)]) hx hb dX2_readWord_33 hl (by decide) rfl (fun ls hl => ?_)
        refine lv_iload hx hb dX2_readWord_35 (lv_at hl 0 rfl) ?_
        refine lv_aload hx hb dX2_readWord_37 (lv_at hl 1 rfl) ?_
        refine m_enletters hx hb hI hown hk21 (q1642 hI.T) dX2_readWord_39 ?_
        refine m_slen hx hb hml hown hI (mLt_lt hk21) (q1289 hI.T) hl.1 (Nat.le_of_ble_eq_true rfl) (Nat.le_of_ble_eq_true rfl) (Nat.le_of_ble_eq_true rfl) dX2_readWord_42 ⟨Nat.le_of_ble_eq_true rfl, Nat.le_of_ble_eq_true rfl⟩ (fun H locs hI => ?_)
        refine lv_icmp_ne (tgt := 62) hx hb dX2_readWord_45 (by decide) (fun c5 => ?_) (fun c5 => ?_)
        · have hf := (if_neg c5).symm.trans hf
          refine lv_iload_n hx hb dX2_readWord_62 rfl (lv_at hl 3 rfl) ?_
          refine lv_iload hx hb dX2_readWord_63 (lv_at hl 0 rfl) ?_
          refine va_mmax hx hb (hml.trans hl.1.symm) hown (q1291 hI.T) (q1022 hI.T) (q21 hI.T) (q1023 hI.T) (Nat.le_of_ble_eq_true rfl) (Nat.le_of_ble_eq_true rfl) (Nat.le_of_ble_eq_true rfl) (Nat.le_of_ble_eq_true rfl) dX2_readWord_65 ?_
          refine lv_topi (fun x6 ex6 => ?_)
          have hf := mlet_s ex6 hf
          refine lv_istore_n (lv' := [(1, .int x6), (6, .int r4), (5, .ref (w.2.2.2 0 (x2.toNatClampNeg))), (0, .ref (w.1 12 26)), (2, .ref (w.2.2.2 3 1)), (3, .int (11 : Int32)), (4, .int x2)]) hx hb dX2_readWord_68 rfl hl (by decide) rfl (fun ls hl => ?_)
          obtain ⟨x7, ex7, hf⟩ := mlet_e hf
          refine lv_iinc (v := x7) (lv' := [(4, .int x7), (1, .int x6), (6, .int r4), (5, .ref (w.2.2.2 0 (x2.toNatClampNeg))), (0, .ref (w.1 12 26)), (2, .ref (w.2.2.2 3 1)), (3, .int (11 : Int32))]) hx hb dX2_readWord_69 hl (k := 6) rfl (by rw [ex7]; rfl) (by decide) rfl (fun ls hl => ?_)
          refine lv_goto (tgt := 12) hx hb dX2_readWord_72 (by decide) ?_
          exact ih12 x6 x7 kk H _ _ hf hI (lv_sub hl [4, 1, 5, 6, 0] rfl) hk
        · have hf := (if_pos c5).symm.trans hf
          refine lv_aload_n hx hb dX2_readWord_48 rfl (lv_at hl 2 rfl) ?_
          refine lv_dup hx hb dX2_readWord_49 rfl ?_
          refine m_get (g := 12) (i := 26) (ci := 1) (k := 2) (v := .int (M 12 26 2)) hx hb hI hown (mokX (by decide) (by decide)) rfl rfl (by decide) lyX2 (q259 hI.T) rfl dX2_readWord_50 ?_
          refine lv_iload hx hb dX2_readWord_53 (lv_at hl 0 rfl) ?_
          refine lv_iadd hx hb dX2_readWord_55 ?_
          obtain ⟨M8, eM8, hf⟩ := mlet_e hf
          refine m_put (g := 12) (i := 26) (ci := 1) (k := 2) (ty := .int) (M1 := M8) hx hb hI hown (mokX (by decide) (by decide)) rfl rfl (by decide) lyX2 tyX2 tyX2_ok nmX2 (q259 hI.T) rfl rfl rfl rfl (Nat.le_of_ble_eq_true rfl) rfl eM8 dX2_readWord_56 (fun H locs hI => ?_)
          refine lv_aload hx hb dX2_readWord_59 (lv_at hl 1 rfl) ?_
          exact m_eretf hx hb hr hlk hI hf (Or.inr ⟨_, rfl, rfl⟩) dX2_readWord_61
  refine hL12 1000 (0 : Int32) (0 : Int32) _ _ _ _ hf hI (lv_sub hl [4, 3, 2, 1, 0] rfl) ?_
  intro x9 H locs ls hf hI hl
  try dsimp only at hf
  refine lv_aload_n hx hb dX2_readWord_75 rfl (lv_at hl 0 rfl) ?_
  refine lv_dup hx hb dX2_readWord_76 rfl ?_
  refine m_get (g := 12) (i := 26) (ci := 1) (k := 2) (v := .int (M 12 26 2)) hx hb hI hown (mokX (by decide) (by decide)) rfl rfl (by decide) lyX2 (q259 hI.T) rfl dX2_readWord_77 ?_
  refine lv_iload_n hx hb dX2_readWord_80 rfl (lv_at hl 1 rfl) ?_
  refine lv_iadd hx hb dX2_readWord_81 ?_
  obtain ⟨M10, eM10, hf⟩ := mlet_e hf
  refine m_put (g := 12) (i := 26) (ci := 1) (k := 2) (ty := .int) (M1 := M10) hx hb hI hown (mokX (by decide) (by decide)) rfl rfl (by decide) lyX2 tyX2 tyX2_ok nmX2 (q259 hI.T) rfl rfl rfl rfl (Nat.le_of_ble_eq_true rfl) rfl eM10 dX2_readWord_82 (fun H locs hI => ?_)
  refine lv_null hx hb dX2_readWord_85 ?_
  exact m_eretf hx hb hr hlk hI hf (Or.inl ⟨rfl, rfl⟩) dX2_readWord_86
abbrev rmX2_peek : Room := { frames := 0, cells := 0, slots := 0, locals := 0 }
theorem kb_X2_peek {R : Room} {s : State} {args : Array Value} {own : String} {idx : Nat} (hT : mT s) (hlink : (Cond.methodLink own idx yX2_peek).before args s = true) (h1 : rmX2_peek.frames + 1 ≤ R.frames) (h2 : 8 + (1 + 11) + rmX2_peek.locals ≤ R.locals) : CallB R s args own idx yX2_peek cX2_peek 1 (some .int) [Cond.code yX2_peek cX2_peek 1 (some .int)] rmX2_peek 0 0 0 := m_callB hT kc_X2_peek ki_X2_peek hlink (by decide +kernel) ⟨rfl, rfl, h1, h2⟩
set_option maxHeartbeats 4000000 in
set_option maxRecDepth 100000 in
theorem c_X2_peek (l : Launch) (w : WD) (sz : Nat)  (M : Mem) (r : Int32) (hf : f_X2_peek  M = some r) : mMet l yX2_peek cX2_peek 1 (some .int) rmX2_peek w sz M [.ref (w.1 12 26)] (some (.int r)) M := by
  refine m_of (by decide) (Nat.le_of_ble_eq_true rfl) ?_
  intro p e s m args below meth c hx hb hr hml hown hlk hI ls hl
  have hl : lv_has ls 1 [(0, .ref (w.1 12 26))] := hl
  unfold f_X2_peek at hf
  refine lv_aload_n hx hb dX2_peek_0 rfl (lv_at hl 0 rfl) ?_
  refine m_get (g := 12) (i := 26) (ci := 1) (k := 2) (v := .int (M 12 26 2)) hx hb hI hown (mokX (by decide) (by decide)) rfl rfl (by decide) lyX2 (q259 hI.T) rfl dX2_peek_1 ?_
  refine lv_aload_n hx hb dX2_peek_4 rfl (lv_at hl 0 rfl) ?_
  refine m_get (g := 12) (i := 26) (ci := 1) (k := 1) (v := .int (M 12 26 1)) hx hb hI hown (mokX (by decide) (by decide)) rfl rfl (by decide) lyX2 (q257 hI.T) rfl dX2_peek_5 ?_
  refine lv_icmp_ge (tgt := 23) hx hb dX2_peek_8 (by decide) (fun c1 => ?_) (fun c1 => ?_)
  · have hf := (if_pos c1).symm.trans hf
    refine lv_iconst (v := (-1)) hx hb dX2_peek_23 (by decide) ?_
    exact m_iretp hx hb hr hlk hI hf dX2_peek_24
  · have hf := (if_neg c1).symm.trans hf
    refine lv_aload_n hx hb dX2_peek_11 rfl (lv_at hl 0 rfl) ?_
    refine m_get (g := 12) (i := 26) (ci := 1) (k := 0) (v := .ref (w.1 12 27)) hx hb hI hown (mokX (by decide) (by decide)) rfl rfl (by decide) lyX2 (q256 hI.T) rfl dX2_peek_12 ?_
    refine lv_aload_n hx hb dX2_peek_15 rfl (lv_at hl 0 rfl) ?_
    refine m_get (g := 12) (i := 26) (ci := 1) (k := 2) (v := .int (M 12 26 2)) hx hb hI hown (mokX (by decide) (by decide)) rfl rfl (by decide) lyX2 (q259 hI.T) rfl dX2_peek_16 ?_
    obtain ⟨hi, hf⟩ := mix_e hf
    refine m_cald (g := 12) (i := 27) hx hb hI (mokX (by decide) (by decide)) rfl hi dX2_peek_19 ?_
    refine lv_goto (tgt := 24) hx hb dX2_peek_20 (by decide) ?_
    exact m_iretp hx hb hr hlk hI hf dX2_peek_24
abbrev rmX2_addNumber : Room := { frames := 0, cells := 0, slots := 0, locals := 0 }
theorem kb_X2_addNumber {R : Room} {s : State} {args : Array Value} {own : String} {idx : Nat} (hT : mT s) (hlink : (Cond.methodLink own idx yX2_addNumber).before args s = true) (h1 : rmX2_addNumber.frames + 1 ≤ R.frames) (h2 : 8 + (2 + 11) + rmX2_addNumber.locals ≤ R.locals) : CallB R s args own idx yX2_addNumber cX2_addNumber 2 (none) [Cond.code yX2_addNumber cX2_addNumber 2 (none)] rmX2_addNumber 0 0 1 := m_callB hT kc_X2_addNumber ki_X2_addNumber hlink (by decide +kernel) ⟨rfl, rfl, h1, h2⟩
set_option maxHeartbeats 4000000 in
set_option maxRecDepth 100000 in
theorem c_X2_addNumber (l : Launch) (w : WD) (sz : Nat) (a1 : Int32) (M : Mem) (r : Unit) (M9 : Mem) (hf : f_X2_addNumber a1 M = some (r, M9)) : mMet l yX2_addNumber cX2_addNumber 2 (none) rmX2_addNumber w sz M [.ref (w.1 12 26), .int a1] none M9 := by
  refine m_of (by decide) (Nat.le_of_ble_eq_true rfl) ?_
  intro p e s m args below meth c hx hb hr hml hown hlk hI ls hl
  have hl : lv_has ls 2 [(0, .ref (w.1 12 26)), (1, .int a1)] := hl
  unfold f_X2_addNumber at hf
  refine lv_aload_n hx hb dX2_addNumber_0 rfl (lv_at hl 0 rfl) ?_
  refine m_get (g := 12) (i := 26) (ci := 1) (k := 6) (v := .int (M 12 26 6)) hx hb hI hown (mokX (by decide) (by decide)) rfl rfl (by decide) lyX2 (q266 hI.T) rfl dX2_addNumber_1 ?_
  refine lv_iconst (v := 4) hx hb dX2_addNumber_4 (by decide) ?_
  refine lv_icmp_ge (tgt := 33) hx hb dX2_addNumber_5 (by decide) (fun c1 => ?_) (fun c1 => ?_)
  · have hf := (if_pos c1).symm.trans hf
    exact m_vretf hx hb hr hlk hI hf dX2_addNumber_33
  · have hf := (if_neg c1).symm.trans hf
    refine lv_aload_n hx hb dX2_addNumber_8 rfl (lv_at hl 0 rfl) ?_
    refine m_get (g := 12) (i := 26) (ci := 1) (k := 5) (v := .ref (w.1 12 29)) hx hb hI hown (mokX (by decide) (by decide)) rfl rfl (by decide) lyX2 (q264 hI.T) rfl dX2_addNumber_9 ?_
    refine lv_aload_n hx hb dX2_addNumber_12 rfl (lv_at hl 0 rfl) ?_
    refine m_get (g := 12) (i := 26) (ci := 1) (k := 3) (v := .int (M 12 26 3)) hx hb hI hown (mokX (by decide) (by decide)) rfl rfl (by decide) lyX2 (q260 hI.T) rfl dX2_addNumber_13 ?_
    obtain ⟨hi, hf⟩ := mix_e hf
    have hk16 := mix_lt hi
    refine m_aald (g := 12) (i := 29) (t0 := 4) (v := .ref (w.1 12 (30 + (M 12 26 3).toNatClampNeg))) hx hb hI (mokX (by decide) (by decide)) rfl rfl rfl hi rfl dX2_addNumber_16 ?_
    refine lv_aload_n hx hb dX2_addNumber_17 rfl (lv_at hl 0 rfl) ?_
    refine m_get (g := 12) (i := 26) (ci := 1) (k := 6) (v := .int (M 12 26 6)) hx hb hI hown (mokX (by decide) (by decide)) rfl rfl (by decide) lyX2 (q266 hI.T) rfl dX2_addNumber_18 ?_
    refine lv_iload_n hx hb dX2_addNumber_21 rfl (lv_at hl 1 rfl) ?_
    obtain ⟨hi, hf⟩ := mix_e hf
    obtain ⟨M2, eM2, hf⟩ := mlet_e hf
    refine m_iast (g := 12) (i := (30 + (M 12 26 3).toNatClampNeg)) (M1 := M2) hx hb hI (mok_nu hk16) (mil_nu hk16) hi eM2 dX2_addNumber_22 (fun H locs hI => ?_)
    refine lv_aload_n hx hb dX2_addNumber_23 rfl (lv_at hl 0 rfl) ?_
    refine lv_dup hx hb dX2_addNumber_24 rfl ?_
    refine m_get (g := 12) (i := 26) (ci := 1) (k := 6) (v := .int (M2 12 26 6)) hx hb hI hown (mokX (by decide) (by decide)) rfl rfl (by decide) lyX2 (q266 hI.T) rfl dX2_addNumber_25 ?_
    refine lv_iconst (v := 1) hx hb dX2_addNumber_28 (by decide) ?_
    refine lv_iadd hx hb dX2_addNumber_29 ?_
    obtain ⟨M3, eM3, hf⟩ := mlet_e hf
    refine m_put (g := 12) (i := 26) (ci := 1) (k := 6) (ty := .int) (M1 := M3) hx hb hI hown (mokX (by decide) (by decide)) rfl rfl (by decide) lyX2 tyX2 tyX2_ok nmX2 (q266 hI.T) rfl rfl rfl rfl (Nat.le_of_ble_eq_true rfl) rfl eM3 dX2_addNumber_30 (fun H locs hI => ?_)
    exact m_vretf hx hb hr hlk hI hf dX2_addNumber_33
abbrev rmX2_readNumber : Room := { frames := 1, cells := 0, slots := 0, locals := 21 }
theorem kb_X2_readNumber {R : Room} {s : State} {args : Array Value} {own : String} {idx : Nat} (hT : mT s) (hlink : (Cond.methodLink own idx yX2_readNumber).before args s = true) (h1 : rmX2_readNumber.frames + 1 ≤ R.frames) (h2 : 8 + (4 + 11) + rmX2_readNumber.locals ≤ R.locals) : CallB R s args own idx yX2_readNumber cX2_readNumber 4 (some .boolean) [Cond.code yX2_readNumber cX2_readNumber 4 (some .boolean)] rmX2_readNumber 0 0 1 := m_callB hT kc_X2_readNumber ki_X2_readNumber hlink (by decide +kernel) ⟨rfl, rfl, h1, h2⟩
set_option maxHeartbeats 4000000 in
set_option maxRecDepth 100000 in
theorem c_X2_readNumber (l : Launch) (w : WD) (sz : Nat) (a1 : Int32) (M : Mem) (r : Int32) (M9 : Mem) (hf : f_X2_readNumber a1 M = some (r, M9)) : mMet l yX2_readNumber cX2_readNumber 4 (some .boolean) rmX2_readNumber w sz M [.ref (w.1 12 26), .int a1] (some (.int r)) M9 := by
  refine m_of (by decide) (Nat.le_of_ble_eq_true rfl) ?_
  intro p e s m args below meth c hx hb hr hml hown hlk hI ls hl
  have hl : lv_has ls 4 [(0, .ref (w.1 12 26)), (1, .int a1)] := hl
  unfold f_X2_readNumber at hf
  refine lv_iconst (v := 0) hx hb dX2_readNumber_0 (by decide) ?_
  refine lv_istore_n (lv' := [(2, .int (0 : Int32)), (0, .ref (w.1 12 26)), (1, .int a1)]) hx hb dX2_readNumber_1 rfl hl (by decide) rfl (fun ls hl => ?_)
  refine lv_iconst (v := 0) hx hb dX2_readNumber_2 (by decide) ?_
  refine lv_istore_n (lv' := [(3, .int (0 : Int32)), (2, .int (0 : Int32)), (0, .ref (w.1 12 26)), (1, .int a1)]) hx hb dX2_readNumber_3 rfl hl (by decide) rfl (fun ls hl => ?_)
  have hL4 : ∀ (n : Nat) (x1 : Int32) (x2 : Int32) (M3 : Mem) (kk : Int32 → Int32 → Mem → Option (Int32 × Mem)) (H : Heap) (locs : List Loc) (ls : Array Slot), f_X2_readNumber_L4 a1 n x1 x2 M3 kk = some (r, M9) → mI w s (mA w s.heap.size) H locs M3 → lv_has ls 4 [(0, .ref (w.1 12 26)), (1, .int a1), (2, .int x1), (3, .int x2)] → (∀ (x1 : Int32) (x2 : Int32) (M3 : Mem) (H : Heap) (locs : List Loc) (ls : Array Slot), kk x1 x2 M3 = some (r, M9) → mI w s (mA w s.heap.size) H locs M3 → lv_has ls 4 [(0, .ref (w.1 12 26)), (2, .int x1), (3, .int x2)] → W p l e rmX2_readNumber s m args below meth c H locs 0 0 (MQ below (mQ w s.heap.size (some (.int r)) M9) args s 0 0 (mA w s.heap.size)) (F0 m 56 ls [])) → W p l e rmX2_readNumber s m args below meth c H locs 0 0 (MQ below (mQ w s.heap.size (some (.int r)) M9) args s 0 0 (mA w s.heap.size)) (F0 m 4 ls []) := by
    intro n
    induction n with
    | zero => intro x1 x2 M3 kk H locs ls hf hI hl hk; rw [f_X2_readNumber_L4.eq_1] at hf; cases hf
    | succ n ih4 =>
      intro x1 x2 M3 kk H locs ls hf hI hl hk
      rw [f_X2_readNumber_L4.eq_2] at hf
      refine lv_iload_n hx hb dX2_readNumber_4 rfl (lv_at hl 2 rfl) ?_
      refine lv_iload_n hx hb dX2_readNumber_5 rfl (lv_at hl 1 rfl) ?_
      refine lv_icmp_ge (tgt := 56) hx hb dX2_readNumber_6 (by decide) (fun c4 => ?_) (fun c4 => ?_)
      · have hf := (if_pos c4).symm.trans hf
        exact hk x1 x2 M3 H _ _ hf hI (lv_sub hl [0, 2, 3] rfl)
      · have hf := (if_neg c4).symm.trans hf
        refine lv_aload_n hx hb dX2_readNumber_9 rfl (lv_at hl 0 rfl) ?_
        obtain ⟨r5, hc, hf⟩ := mbp_e hf
        refine m_callV (As := []) (rest := []) hx hb hml hown hI (c_X2_peek l w H.size M3 _ hc) (kb_X2_peek hI.T (q1296 hI.T) (Nat.le_of_ble_eq_true rfl) (Nat.le_of_ble_eq_true rfl)) (q1298 hI.T) (sel_X2_peek hI.T) (m_recv (g := 12) (i := 26) hI (mokX (by decide) (by decide)) rfl rfl) rfl hl.1 (Nat.le_of_ble_eq_true rfl) dX2_readNumber_10 ⟨Nat.le_of_ble_eq_true rfl, Nat.le_of_ble_eq_true rfl⟩ (fun H locs hI => ?_)
        refine lv_bipush (v := 48) hx hb dX2_readNumber_13 (by decide) ?_
        refine lv_icmp_lt (tgt := 56) hx hb dX2_readNumber_15 (by decide) (fun c6 => ?_) (fun c6 => ?_)
        · have hf := (if_pos c6).symm.trans hf
          exact hk x1 x2 M3 H _ _ hf hI (lv_sub hl [0, 2, 3] rfl)
        · have hf := (if_neg c6).symm.trans hf
          refine lv_aload_n hx hb dX2_readNumber_18 rfl (lv_at hl 0 rfl) ?_
          obtain ⟨r7, hc, hf⟩ := mbp_e hf
          refine m_callV (As := []) (rest := []) hx hb hml hown hI (c_X2_peek l w H.size M3 _ hc) (kb_X2_peek hI.T (q1296 hI.T) (Nat.le_of_ble_eq_true rfl) (Nat.le_of_ble_eq_true rfl)) (q1298 hI.T) (sel_X2_peek hI.T) (m_recv (g := 12) (i := 26) hI (mokX (by decide) (by decide)) rfl rfl) rfl hl.1 (Nat.le_of_ble_eq_true rfl) dX2_readNumber_19 ⟨Nat.le_of_ble_eq_true rfl, Nat.le_of_ble_eq_true rfl⟩ (fun H locs hI => ?_)
          refine lv_bipush (v := 57) hx hb dX2_readNumber_22 (by decide) ?_
          refine lv_icmp_gt (tgt := 56) hx hb dX2_readNumber_24 (by decide) (fun c8 => ?_) (fun c8 => ?_)
          · have hf := (if_pos c8).symm.trans hf
            exact hk x1 x2 M3 H _ _ hf hI (lv_sub hl [0, 2, 3] rfl)
          · have hf := (if_neg c8).symm.trans hf
            refine lv_iload_n hx hb dX2_readNumber_27 rfl (lv_at hl 3 rfl) ?_
            refine lv_bipush (v := 10) hx hb dX2_readNumber_28 (by decide) ?_
            refine lv_imul hx hb dX2_readNumber_30 ?_
            refine lv_aload_n hx hb dX2_readNumber_31 rfl (lv_at hl 0 rfl) ?_
            obtain ⟨r9, hc, hf⟩ := mbp_e hf
            refine m_callV (As := []) (rest := [.int (x2 * (10 : Int32))]) hx hb hml hown hI (c_X2_peek l w H.size M3 _ hc) (kb_X2_peek hI.T (q1296 hI.T) (Nat.le_of_ble_eq_true rfl) (Nat.le_of_ble_eq_true rfl)) (q1298 hI.T) (sel_X2_peek hI.T) (m_recv (g := 12) (i := 26) hI (mokX (by decide) (by decide)) rfl rfl) rfl hl.1 (Nat.le_of_ble_eq_true rfl) dX2_readNumber_32 ⟨Nat.le_of_ble_eq_true rfl, Nat.le_of_ble_eq_true rfl⟩ (fun H locs hI => ?_)
            refine lv_iadd hx hb dX2_readNumber_35 ?_
            refine lv_bipush (v := 48) hx hb dX2_readNumber_36 (by decide) ?_
            refine lv_isub hx hb dX2_readNumber_38 ?_
            refine lv_topi (fun x10 ex10 => ?_)
            have hf := mlet_s ex10 hf
            refine lv_istore_n (lv' := [(3, .int x10), (0, .ref (w.1 12 26)), (1, .int a1), (2, .int x1)]) hx hb dX2_readNumber_39 rfl hl (by decide) rfl (fun ls hl => ?_)
            obtain ⟨x11, ex11, hf⟩ := mlet_e hf
            refine lv_iinc (v := x11) (lv' := [(2, .int x11), (3, .int x10), (0, .ref (w.1 12 26)), (1, .int a1)]) hx hb dX2_readNumber_40 hl (k := 3) rfl (by rw [ex11]; rfl) (by decide) rfl (fun ls hl => ?_)
            refine lv_aload_n hx hb dX2_readNumber_43 rfl (lv_at hl 2 rfl) ?_
            refine lv_dup hx hb dX2_readNumber_44 rfl ?_
            refine m_get (g := 12) (i := 26) (ci := 1) (k := 2) (v := .int (M3 12 26 2)) hx hb hI hown (mokX (by decide) (by decide)) rfl rfl (by decide) lyX2 (q259 hI.T) rfl dX2_readNumber_45 ?_
            refine lv_iconst (v := 1) hx hb dX2_readNumber_48 (by decide) ?_
            refine lv_iadd hx hb dX2_readNumber_49 ?_
            obtain ⟨M12, eM12, hf⟩ := mlet_e hf
            refine m_put (g := 12) (i := 26) (ci := 1) (k := 2) (ty := .int) (M1 := M12) hx hb hI hown (mokX (by decide) (by decide)) rfl rfl (by decide) lyX2 tyX2 tyX2_ok nmX2 (q259 hI.T) rfl rfl rfl rfl (Nat.le_of_ble_eq_true rfl) rfl eM12 dX2_readNumber_50 (fun H locs hI => ?_)
            refine lv_goto (tgt := 4) hx hb dX2_readNumber_53 (by decide) ?_
            exact ih4 x11 x10 M12 kk H _ _ hf hI (lv_sub hl [2, 3, 0, 1] rfl) hk
  refine hL4 1000 (0 : Int32) (0 : Int32) M _ _ _ _ hf hI (lv_sub hl [2, 3, 1, 0] rfl) ?_
  intro x13 x14 M15 H locs ls hf hI hl
  try dsimp only at hf
  refine lv_iload_n hx hb dX2_readNumber_56 rfl (lv_at hl 1 rfl) ?_
  refine lv_if_ne (tgt := 62) hx hb dX2_readNumber_57 (by decide) (fun c16 => ?_) (fun c16 => ?_)
  · have hf := (if_neg c16).symm.trans hf
    refine lv_aload_n hx hb dX2_readNumber_62 rfl (lv_at hl 0 rfl) ?_
    refine lv_iload_n hx hb dX2_readNumber_63 rfl (lv_at hl 2 rfl) ?_
    obtain ⟨r17, M18, hc, hf⟩ := mbnd_e hf
    refine m_callV (As := [.int x14]) (rest := []) hx hb hml hown hI (c_X2_addNumber l w H.size x14 M15 _ _ hc) (kb_X2_addNumber hI.T (q1300 hI.T) (Nat.le_of_ble_eq_true rfl) (Nat.le_of_ble_eq_true rfl)) (q1302 hI.T) (sel_X2_addNumber hI.T) (m_recv (g := 12) (i := 26) hI (mokX (by decide) (by decide)) rfl rfl) rfl hl.1 (Nat.le_of_ble_eq_true rfl) dX2_readNumber_64 ⟨Nat.le_of_ble_eq_true rfl, Nat.le_of_ble_eq_true rfl⟩ (fun H locs hI => ?_)
    refine lv_iconst (v := 1) hx hb dX2_readNumber_67 (by decide) ?_
    exact m_zretf hx hb hr hlk hI rfl hf dX2_readNumber_68
  · have hf := (if_pos c16).symm.trans hf
    refine lv_iconst (v := 0) hx hb dX2_readNumber_60 (by decide) ?_
    exact m_zretf hx hb hr hlk hI rfl hf dX2_readNumber_61
abbrev rmX2_readDirection : Room := { frames := 1, cells := 0, slots := 0, locals := 21 }
theorem kb_X2_readDirection {R : Room} {s : State} {args : Array Value} {own : String} {idx : Nat} (hT : mT s) (hlink : (Cond.methodLink own idx yX2_readDirection).before args s = true) (h1 : rmX2_readDirection.frames + 1 ≤ R.frames) (h2 : 8 + (2 + 11) + rmX2_readDirection.locals ≤ R.locals) : CallB R s args own idx yX2_readDirection cX2_readDirection 2 (some .boolean) [Cond.code yX2_readDirection cX2_readDirection 2 (some .boolean)] rmX2_readDirection 0 0 0 := m_callB hT kc_X2_readDirection ki_X2_readDirection hlink (by decide +kernel) ⟨rfl, rfl, h1, h2⟩
set_option maxHeartbeats 4000000 in
set_option maxRecDepth 100000 in
theorem c_X2_readDirection (l : Launch) (w : WD) (sz : Nat)  (M : Mem) (r : Int32) (M9 : Mem) (hf : f_X2_readDirection  M = some (r, M9)) : mMet l yX2_readDirection cX2_readDirection 2 (some .boolean) rmX2_readDirection w sz M [.ref (w.1 12 26)] (some (.int r)) M9 := by
  refine m_of (by decide) (Nat.le_of_ble_eq_true rfl) ?_
  intro p e s m args below meth c hx hb hr hml hown hlk hI ls hl
  have hl : lv_has ls 2 [(0, .ref (w.1 12 26))] := hl
  unfold f_X2_readDirection at hf
  refine lv_aload_n hx hb dX2_readDirection_0 rfl (lv_at hl 0 rfl) ?_
  obtain ⟨r1, hc, hf⟩ := mbp_e hf
  refine m_callV (As := []) (rest := []) hx hb hml hown hI (c_X2_peek l w s.heap.size M _ hc) (kb_X2_peek hI.T (q1296 hI.T) (Nat.le_of_ble_eq_true rfl) (Nat.le_of_ble_eq_true rfl)) (q1298 hI.T) (sel_X2_peek hI.T) (m_recv (g := 12) (i := 26) hI (mokX (by decide) (by decide)) rfl rfl) rfl hl.1 (Nat.le_of_ble_eq_true rfl) dX2_readDirection_1 ⟨Nat.le_of_ble_eq_true rfl, Nat.le_of_ble_eq_true rfl⟩ (fun H locs hI => ?_)
  refine lv_istore_n (lv' := [(1, .int r1), (0, .ref (w.1 12 26))]) hx hb dX2_readDirection_4 rfl hl (by decide) rfl (fun ls hl => ?_)
  refine lv_iload_n hx hb dX2_readDirection_5 rfl (lv_at hl 0 rfl) ?_
  refine lv_bipush (v := 43) hx hb dX2_readDirection_6 (by decide) ?_
  obtain ⟨k19_4, ek19_4, hf⟩ := mlet_e hf
  have hj19_4 : ∀ (_u : Unit) (H : Heap) (locs : List Loc) (ls : Array Slot), k19_4 _u = some (r, M9) → mI w s (mA w s.heap.size) H locs M → lv_has ls 2 [(0, .ref (w.1 12 26)), (1, .int r1)] → W p l e rmX2_readDirection s m args below meth c H locs 0 0 (MQ below (mQ w s.heap.size (some (.int r)) M9) args s 0 0 (mA w s.heap.size)) (F0 m 19 ls []) := by
    intro _u H locs ls hf hI hl
    rw [ek19_4] at hf
    try dsimp only at hf
    refine lv_aload_n hx hb dX2_readDirection_19 rfl (lv_at hl 0 rfl) ?_
    refine lv_dup hx hb dX2_readDirection_20 rfl ?_
    refine m_get (g := 12) (i := 26) (ci := 1) (k := 2) (v := .int (M 12 26 2)) hx hb hI hown (mokX (by decide) (by decide)) rfl rfl (by decide) lyX2 (q259 hI.T) rfl dX2_readDirection_21 ?_
    refine lv_iconst (v := 1) hx hb dX2_readDirection_24 (by decide) ?_
    refine lv_iadd hx hb dX2_readDirection_25 ?_
    obtain ⟨M5, eM5, hf⟩ := mlet_e hf
    refine m_put (g := 12) (i := 26) (ci := 1) (k := 2) (ty := .int) (M1 := M5) hx hb hI hown (mokX (by decide) (by decide)) rfl rfl (by decide) lyX2 tyX2 tyX2_ok nmX2 (q259 hI.T) rfl rfl rfl rfl (Nat.le_of_ble_eq_true rfl) rfl eM5 dX2_readDirection_26 (fun H locs hI => ?_)
    refine lv_aload_n hx hb dX2_readDirection_29 rfl (lv_at hl 0 rfl) ?_
    refine lv_iload_n hx hb dX2_readDirection_30 rfl (lv_at hl 1 rfl) ?_
    refine lv_bipush (v := 43) hx hb dX2_readDirection_31 (by decide) ?_
    obtain ⟨k41_8, ek41_8, hf⟩ := mlet_e hf
    have hj41_8 : ∀ (x7 : Int32) (H : Heap) (locs : List Loc) (ls : Array Slot), k41_8 x7 = some (r, M9) → mI w s (mA w s.heap.size) H locs M5 → lv_has ls 2 [] → W p l e rmX2_readDirection s m args below meth c H locs 0 0 (MQ below (mQ w s.heap.size (some (.int r)) M9) args s 0 0 (mA w s.heap.size)) (F0 m 41 ls [.int x7, .ref (w.1 12 26)]) := by
      intro x7 H locs ls hf hI hl
      rw [ek41_8] at hf
      try dsimp only at hf
      obtain ⟨r9, M10, hc, hf⟩ := mbnd_e hf
      refine m_callV (As := [.int x7]) (rest := []) hx hb hml hown hI (c_X2_addNumber l w H.size x7 M5 _ _ hc) (kb_X2_addNumber hI.T (q1300 hI.T) (Nat.le_of_ble_eq_true rfl) (Nat.le_of_ble_eq_true rfl)) (q1302 hI.T) (sel_X2_addNumber hI.T) (m_recv (g := 12) (i := 26) hI (mokX (by decide) (by decide)) rfl rfl) rfl hl.1 (Nat.le_of_ble_eq_true rfl) dX2_readDirection_41 ⟨Nat.le_of_ble_eq_true rfl, Nat.le_of_ble_eq_true rfl⟩ (fun H locs hI => ?_)
      refine lv_iconst (v := 1) hx hb dX2_readDirection_44 (by decide) ?_
      exact m_zretf hx hb hr hlk hI rfl hf dX2_readDirection_45
    refine lv_icmp_ne (tgt := 40) hx hb dX2_readDirection_33 (by decide) (fun c6 => ?_) (fun c6 => ?_)
    · have hf := (if_neg c6).symm.trans hf
      refine lv_iconst (v := 0) hx hb dX2_readDirection_40 (by decide) ?_
      exact hj41_8 (0 : Int32) H _ _ hf hI (lv_sub hl [] rfl)
    · have hf := (if_pos c6).symm.trans hf
      refine lv_iconst (v := 1) hx hb dX2_readDirection_36 (by decide) ?_
      refine lv_goto (tgt := 41) hx hb dX2_readDirection_37 (by decide) ?_
      exact hj41_8 (1 : Int32) H _ _ hf hI (lv_sub hl [] rfl)
  refine lv_icmp_eq (tgt := 19) hx hb dX2_readDirection_8 (by decide) (fun c2 => ?_) (fun c2 => ?_)
  · have hf := (if_pos c2).symm.trans hf
    exact hj19_4 () H _ _ hf hI (lv_sub hl [1, 0] rfl)
  · have hf := (if_neg c2).symm.trans hf
    refine lv_iload_n hx hb dX2_readDirection_11 rfl (lv_at hl 0 rfl) ?_
    refine lv_bipush (v := 45) hx hb dX2_readDirection_12 (by decide) ?_
    refine lv_icmp_eq (tgt := 19) hx hb dX2_readDirection_14 (by decide) (fun c3 => ?_) (fun c3 => ?_)
    · have hf := (if_pos c3).symm.trans hf
      exact hj19_4 () H _ _ hf hI (lv_sub hl [1, 0] rfl)
    · have hf := (if_neg c3).symm.trans hf
      refine lv_iconst (v := 0) hx hb dX2_readDirection_17 (by decide) ?_
      exact m_zretf hx hb hr hlk hI rfl hf dX2_readDirection_18
abbrev rmX2_readBlank : Room := { frames := 1, cells := 0, slots := 0, locals := 20 }
theorem kb_X2_readBlank {R : Room} {s : State} {args : Array Value} {own : String} {idx : Nat} (hT : mT s) (hlink : (Cond.methodLink own idx yX2_readBlank).before args s = true) (h1 : rmX2_readBlank.frames + 1 ≤ R.frames) (h2 : 8 + (1 + 11) + rmX2_readBlank.locals ≤ R.locals) : CallB R s args own idx yX2_readBlank cX2_readBlank 1 (some .boolean) [Cond.code yX2_readBlank cX2_readBlank 1 (some .boolean)] rmX2_readBlank 0 0 0 := m_callB hT kc_X2_readBlank ki_X2_readBlank hlink (by decide +kernel) ⟨rfl, rfl, h1, h2⟩
set_option maxHeartbeats 4000000 in
set_option maxRecDepth 100000 in
theorem c_X2_readBlank (l : Launch) (w : WD) (sz : Nat)  (M : Mem) (r : Int32) (M9 : Mem) (hf : f_X2_readBlank  M = some (r, M9)) : mMet l yX2_readBlank cX2_readBlank 1 (some .boolean) rmX2_readBlank w sz M [.ref (w.1 12 26)] (some (.int r)) M9 := by
  refine m_of (by decide) (Nat.le_of_ble_eq_true rfl) ?_
  intro p e s m args below meth c hx hb hr hml hown hlk hI ls hl
  have hl : lv_has ls 1 [(0, .ref (w.1 12 26))] := hl
  unfold f_X2_readBlank at hf
  refine lv_aload_n hx hb dX2_readBlank_0 rfl (lv_at hl 0 rfl) ?_
  obtain ⟨r1, hc, hf⟩ := mbp_e hf
  refine m_callV (As := []) (rest := []) hx hb hml hown hI (c_X2_peek l w s.heap.size M _ hc) (kb_X2_peek hI.T (q1296 hI.T) (Nat.le_of_ble_eq_true rfl) (Nat.le_of_ble_eq_true rfl)) (q1298 hI.T) (sel_X2_peek hI.T) (m_recv (g := 12) (i := 26) hI (mokX (by decide) (by decide)) rfl rfl) rfl hl.1 (Nat.le_of_ble_eq_true rfl) dX2_readBlank_1 ⟨Nat.le_of_ble_eq_true rfl, Nat.le_of_ble_eq_true rfl⟩ (fun H locs hI => ?_)
  refine lv_bipush (v := 32) hx hb dX2_readBlank_4 (by decide) ?_
  refine lv_icmp_eq (tgt := 11) hx hb dX2_readBlank_6 (by decide) (fun c2 => ?_) (fun c2 => ?_)
  · have hf := (if_pos c2).symm.trans hf
    refine lv_aload_n hx hb dX2_readBlank_11 rfl (lv_at hl 0 rfl) ?_
    refine lv_dup hx hb dX2_readBlank_12 rfl ?_
    refine m_get (g := 12) (i := 26) (ci := 1) (k := 2) (v := .int (M 12 26 2)) hx hb hI hown (mokX (by decide) (by decide)) rfl rfl (by decide) lyX2 (q259 hI.T) rfl dX2_readBlank_13 ?_
    refine lv_iconst (v := 1) hx hb dX2_readBlank_16 (by decide) ?_
    refine lv_iadd hx hb dX2_readBlank_17 ?_
    obtain ⟨M3, eM3, hf⟩ := mlet_e hf
    refine m_put (g := 12) (i := 26) (ci := 1) (k := 2) (ty := .int) (M1 := M3) hx hb hI hown (mokX (by decide) (by decide)) rfl rfl (by decide) lyX2 tyX2 tyX2_ok nmX2 (q259 hI.T) rfl rfl rfl rfl (Nat.le_of_ble_eq_true rfl) rfl eM3 dX2_readBlank_18 (fun H locs hI => ?_)
    refine lv_iconst (v := 1) hx hb dX2_readBlank_21 (by decide) ?_
    exact m_zretf hx hb hr hlk hI rfl hf dX2_readBlank_22
  · have hf := (if_neg c2).symm.trans hf
    refine lv_iconst (v := 0) hx hb dX2_readBlank_9 (by decide) ?_
    exact m_zretf hx hb hr hlk hI rfl hf dX2_readBlank_10
abbrev rmX2_readPart : Room := { frames := 2, cells := 0, slots := 0, locals := 44 }
theorem kb_X2_readPart {R : Room} {s : State} {args : Array Value} {own : String} {idx : Nat} (hT : mT s) (hlink : (Cond.methodLink own idx yX2_readPart).before args s = true) (h1 : rmX2_readPart.frames + 1 ≤ R.frames) (h2 : 8 + (2 + 11) + rmX2_readPart.locals ≤ R.locals) : CallB R s args own idx yX2_readPart cX2_readPart 2 (some .boolean) [Cond.code yX2_readPart cX2_readPart 2 (some .boolean)] rmX2_readPart 0 0 1 := m_callB hT kc_X2_readPart ki_X2_readPart hlink (by decide +kernel) ⟨rfl, rfl, h1, h2⟩
set_option maxHeartbeats 4000000 in
set_option maxRecDepth 100000 in
theorem c_X2_readPart (l : Launch) (w : WD) (sz : Nat) (a1 : Int32) (M : Mem) (r : Int32) (M9 : Mem) (hf : f_X2_readPart a1 M = some (r, M9)) : mMet l yX2_readPart cX2_readPart 2 (some .boolean) rmX2_readPart w sz M [.ref (w.1 12 26), .int a1] (some (.int r)) M9 := by
  refine m_of (by decide) (Nat.le_of_ble_eq_true rfl) ?_
  intro p e s m args below meth c hx hb hr hml hown hlk hI ls hl
  have hl : lv_has ls 2 [(0, .ref (w.1 12 26)), (1, .int a1)] := hl
  unfold f_X2_readPart at hf
  refine lv_iload_n hx hb dX2_readPart_0 rfl (lv_at hl 1 rfl) ?_
  refine lv_bipush (v := 100) hx hb dX2_readPart_1 (by decide) ?_
  refine lv_icmp_ne (tgt := 12) hx hb dX2_readPart_3 (by decide) (fun c1 => ?_) (fun c1 => ?_)
  · have hf := (if_neg c1).symm.trans hf
    refine lv_iload_n hx hb dX2_readPart_12 rfl (lv_at hl 1 rfl) ?_
    refine lv_bipush (v := 110) hx hb dX2_readPart_13 (by decide) ?_
    refine lv_icmp_ne (tgt := 24) hx hb dX2_readPart_15 (by decide) (fun c2 => ?_) (fun c2 => ?_)
    · have hf := (if_neg c2).symm.trans hf
      refine lv_iload_n hx hb dX2_readPart_24 rfl (lv_at hl 1 rfl) ?_
      refine lv_bipush (v := 115) hx hb dX2_readPart_25 (by decide) ?_
      refine lv_icmp_ne (tgt := 37) hx hb dX2_readPart_27 (by decide) (fun c3 => ?_) (fun c3 => ?_)
      · have hf := (if_neg c3).symm.trans hf
        refine lv_aload_n hx hb dX2_readPart_37 rfl (lv_at hl 0 rfl) ?_
        obtain ⟨r4, M5, hc, hf⟩ := mbnd_e hf
        refine m_callV (As := []) (rest := []) hx hb hml hown hI (c_X2_readBlank l w s.heap.size M _ _ hc) (kb_X2_readBlank hI.T (q1316 hI.T) (Nat.le_of_ble_eq_true rfl) (Nat.le_of_ble_eq_true rfl)) (q1318 hI.T) (sel_X2_readBlank hI.T) (m_recv (g := 12) (i := 26) hI (mokX (by decide) (by decide)) rfl rfl) rfl hl.1 (Nat.le_of_ble_eq_true rfl) dX2_readPart_38 ⟨Nat.le_of_ble_eq_true rfl, Nat.le_of_ble_eq_true rfl⟩ (fun H locs hI => ?_)
        obtain ⟨hz, hf⟩ := mnz_e hf
        exact m_zretf hx hb hr hlk hI (mnz_n hz) hf dX2_readPart_41
      · have hf := (if_pos c3).symm.trans hf
        refine lv_aload_n hx hb dX2_readPart_30 rfl (lv_at hl 0 rfl) ?_
        obtain ⟨r6, M7, hc, hf⟩ := mbnd_e hf
        refine m_callV (As := []) (rest := []) hx hb hml hown hI (c_X2_readDirection l w s.heap.size M _ _ hc) (kb_X2_readDirection hI.T (q1312 hI.T) (Nat.le_of_ble_eq_true rfl) (Nat.le_of_ble_eq_true rfl)) (q1314 hI.T) (sel_X2_readDirection hI.T) (m_recv (g := 12) (i := 26) hI (mokX (by decide) (by decide)) rfl rfl) rfl hl.1 (Nat.le_of_ble_eq_true rfl) dX2_readPart_31 ⟨Nat.le_of_ble_eq_true rfl, Nat.le_of_ble_eq_true rfl⟩ (fun H locs hI => ?_)
        refine lv_goto (tgt := 41) hx hb dX2_readPart_34 (by decide) ?_
        obtain ⟨hz, hf⟩ := mnz_e hf
        exact m_zretf hx hb hr hlk hI (mnz_n hz) hf dX2_readPart_41
    · have hf := (if_pos c2).symm.trans hf
      refine lv_aload_n hx hb dX2_readPart_18 rfl (lv_at hl 0 rfl) ?_
      refine lv_iconst (v := 2) hx hb dX2_readPart_19 (by decide) ?_
      obtain ⟨r8, M10, hc, hf⟩ := mbnd_e hf
      refine m_callV (As := [.int (2 : Int32)]) (rest := []) hx hb hml hown hI (c_X2_readNumber l w s.heap.size (2 : Int32) M _ _ hc) (kb_X2_readNumber hI.T (q1308 hI.T) (Nat.le_of_ble_eq_true rfl) (Nat.le_of_ble_eq_true rfl)) (q1310 hI.T) (sel_X2_readNumber hI.T) (m_recv (g := 12) (i := 26) hI (mokX (by decide) (by decide)) rfl rfl) rfl hl.1 (Nat.le_of_ble_eq_true rfl) dX2_readPart_20 ⟨Nat.le_of_ble_eq_true rfl, Nat.le_of_ble_eq_true rfl⟩ (fun H locs hI => ?_)
      obtain ⟨hz, hf⟩ := mnz_e hf
      exact m_zretf hx hb hr hlk hI (mnz_n hz) hf dX2_readPart_23
  · have hf := (if_pos c1).symm.trans hf
    refine lv_aload_n hx hb dX2_readPart_6 rfl (lv_at hl 0 rfl) ?_
    refine lv_iconst (v := 1) hx hb dX2_readPart_7 (by decide) ?_
    obtain ⟨r11, M12, hc, hf⟩ := mbnd_e hf
    refine m_callV (As := [.int (1 : Int32)]) (rest := []) hx hb hml hown hI (c_X2_readNumber l w s.heap.size (1 : Int32) M _ _ hc) (kb_X2_readNumber hI.T (q1308 hI.T) (Nat.le_of_ble_eq_true rfl) (Nat.le_of_ble_eq_true rfl)) (q1310 hI.T) (sel_X2_readNumber hI.T) (m_recv (g := 12) (i := 26) hI (mokX (by decide) (by decide)) rfl rfl) rfl hl.1 (Nat.le_of_ble_eq_true rfl) dX2_readPart_8 ⟨Nat.le_of_ble_eq_true rfl, Nat.le_of_ble_eq_true rfl⟩ (fun H locs hI => ?_)
    obtain ⟨hz, hf⟩ := mnz_e hf
    exact m_zretf hx hb hr hlk hI (mnz_n hz) hf dX2_readPart_11
abbrev rmX2_readForm : Room := { frames := 5, cells := 0, slots := 0, locals := 200 }
theorem kb_X2_readForm {R : Room} {s : State} {args : Array Value} {own : String} {idx : Nat} (hT : mT s) (hlink : (Cond.methodLink own idx yX2_readForm).before args s = true) (h1 : rmX2_readForm.frames + 1 ≤ R.frames) (h2 : 8 + (4 + 11) + rmX2_readForm.locals ≤ R.locals) : CallB R s args own idx yX2_readForm cX2_readForm 4 (some .boolean) [Cond.code yX2_readForm cX2_readForm 4 (some .boolean)] rmX2_readForm 0 0 1 := m_callB hT kc_X2_readForm ki_X2_readForm hlink (by decide +kernel) ⟨rfl, rfl, h1, h2⟩
set_option maxHeartbeats 4000000 in
set_option maxRecDepth 100000 in
theorem c_X2_readForm (l : Launch) (w : WD) (sz : Nat) (t1 : Nat) (ht1 : mtx t1) (M : Mem) (r : Int32) (M9 : Mem) (hf : f_X2_readForm t1 M = some (r, M9)) : mMet l yX2_readForm cX2_readForm 4 (some .boolean) rmX2_readForm w sz M [.ref (w.1 12 26), .ref (w.2.2.2 1 t1)] (some (.int r)) M9 := by
  refine m_of (by decide) (Nat.le_of_ble_eq_true rfl) ?_
  intro p e s m args below meth c hx hb hr hml hown hlk hI ls hl
  have hl : lv_has ls 4 [(0, .ref (w.1 12 26)), (1, .ref (w.2.2.2 1 t1))] := hl
  unfold f_X2_readForm at hf
  refine lv_iconst (v := 0) hx hb dX2_readForm_0 (by decide) ?_
  refine lv_istore_n (lv' := [(2, .int (0 : Int32)), (0, .ref (w.1 12 26)), (1, .ref (w.2.2.2 1 t1))]) hx hb dX2_readForm_1 rfl hl (by decide) rfl (fun ls hl => ?_)
  have hL2 : ∀ (n : Nat) (x1 : Int32) (M2 : Mem) (kk : Mem → Option (Int32 × Mem)) (H : Heap) (locs : List Loc) (ls : Array Slot), f_X2_readForm_L2 t1 n x1 M2 kk = some (r, M9) → mI w s (mA w s.heap.size) H locs M2 → lv_has ls 4 [(0, .ref (w.1 12 26)), (1, .ref (w.2.2.2 1 t1)), (2, .int x1)] → (∀  (M2 : Mem) (H : Heap) (locs : List Loc) (ls : Array Slot), kk M2 = some (r, M9) → mI w s (mA w s.heap.size) H locs M2 → lv_has ls 4 [] → W p l e rmX2_readForm s m args below meth c H locs 0 0 (MQ below (mQ w s.heap.size (some (.int r)) M9) args s 0 0 (mA w s.heap.size)) (F0 m 54 ls [])) → W p l e rmX2_readForm s m args below meth c H locs 0 0 (MQ below (mQ w s.heap.size (some (.int r)) M9) args s 0 0 (mA w s.heap.size)) (F0 m 2 ls []) := by
    intro n
    induction n with
    | zero => intro x1 M2 kk H locs ls hf hI hl hk; rw [f_X2_readForm_L2.eq_1] at hf; cases hf
    | succ n ih2 =>
      intro x1 M2 kk H locs ls hf hI hl hk
      rw [f_X2_readForm_L2.eq_2] at hf
      refine lv_iload_n hx hb dX2_readForm_2 rfl (lv_at hl 2 rfl) ?_
      refine lv_aload_n hx hb dX2_readForm_3 rfl (lv_at hl 1 rfl) ?_
      refine m_slen hx hb hml hown hI ht1 (q1289 hI.T) hl.1 (Nat.le_of_ble_eq_true rfl) (Nat.le_of_ble_eq_true rfl) (Nat.le_of_ble_eq_true rfl) dX2_readForm_4 ⟨Nat.le_of_ble_eq_true rfl, Nat.le_of_ble_eq_true rfl⟩ (fun H locs hI => ?_)
      refine lv_icmp_ge (tgt := 54) hx hb dX2_readForm_7 (by decide) (fun c3 => ?_) (fun c3 => ?_)
      · have hf := (if_pos c3).symm.trans hf
        exact hk M2 H _ _ hf hI (lv_sub hl [] rfl)
      · have hf := (if_neg c3).symm.trans hf
        refine lv_aload_n hx hb dX2_readForm_10 rfl (lv_at hl 1 rfl) ?_
        refine lv_iload_n hx hb dX2_readForm_11 rfl (lv_at hl 2 rfl) ?_
        obtain ⟨hi, hf⟩ := mix_e hf
        refine m_sat hx hb hml hown hI ht1 hi (q1290 hI.T) hl.1 (Nat.le_of_ble_eq_true rfl) (Nat.le_of_ble_eq_true rfl) (Nat.le_of_ble_eq_true rfl) dX2_readForm_12 ⟨Nat.le_of_ble_eq_true rfl, Nat.le_of_ble_eq_true rfl⟩ (fun H locs hI => ?_)
        refine lv_topi (fun x4 ex4 => ?_)
        have hf := mlet_s ex4 hf
        refine lv_istore_n (lv' := [(3, .int x4), (0, .ref (w.1 12 26)), (1, .ref (w.2.2.2 1 t1)), (2, .int x1)]) hx hb dX2_readForm_15 rfl hl (by decide) rfl (fun ls hl => ?_)
        refine lv_iload_n hx hb dX2_readForm_16 rfl (lv_at hl 0 rfl) ?_
        refine lv_bipush (v := 63) hx hb dX2_readForm_17 (by decide) ?_
        obtain ⟨k48_14, ek48_14, hf⟩ := mlet_e hf
        have hj48_14 : ∀ (M13 : Mem) (H : Heap) (locs : List Loc) (ls : Array Slot), k48_14 M13 = some (r, M9) → mI w s (mA w s.heap.size) H locs M13 → lv_has ls 4 [(0, .ref (w.1 12 26)), (1, .ref (w.2.2.2 1 t1)), (2, .int x1)] → W p l e rmX2_readForm s m args below meth c H locs 0 0 (MQ below (mQ w s.heap.size (some (.int r)) M9) args s 0 0 (mA w s.heap.size)) (F0 m 48 ls []) := by
          intro M13 H locs ls hf hI hl
          rw [ek48_14] at hf
          try dsimp only at hf
          obtain ⟨x15, ex15, hf⟩ := mlet_e hf
          refine lv_iinc (v := x15) (lv' := [(2, .int x15), (0, .ref (w.1 12 26)), (1, .ref (w.2.2.2 1 t1))]) hx hb dX2_readForm_48 hl (k := 2) rfl (by rw [ex15]; rfl) (by decide) rfl (fun ls hl => ?_)
          refine lv_goto (tgt := 2) hx hb dX2_readForm_51 (by decide) ?_
          exact ih2 x15 M13 kk H _ _ hf hI (lv_sub hl [1, 2, 0] rfl) hk
        refine lv_icmp_ne (tgt := 38) hx hb dX2_readForm_19 (by decide) (fun c5 => ?_) (fun c5 => ?_)
        · have hf := (if_neg c5).symm.trans hf
          refine lv_aload_n hx hb dX2_readForm_38 rfl (lv_at hl 1 rfl) ?_
          refine lv_iload_n hx hb dX2_readForm_39 rfl (lv_at hl 0 rfl) ?_
          obtain ⟨r6, M7, hc, hf⟩ := mbnd_e hf
          refine m_callV (As := [.int x4]) (rest := []) hx hb hml hown hI (c_X2_readPart l w H.size x4 M2 _ _ hc) (kb_X2_readPart hI.T (q1304 hI.T) (Nat.le_of_ble_eq_true rfl) (Nat.le_of_ble_eq_true rfl)) (q1306 hI.T) (sel_X2_readPart hI.T) (m_recv (g := 12) (i := 26) hI (mokX (by decide) (by decide)) rfl rfl) rfl hl.1 (Nat.le_of_ble_eq_true rfl) dX2_readForm_40 ⟨Nat.le_of_ble_eq_true rfl, Nat.le_of_ble_eq_true rfl⟩ (fun H locs hI => ?_)
          refine lv_if_ne (tgt := 48) hx hb dX2_readForm_43 (by decide) (fun c8 => ?_) (fun c8 => ?_)
          · have hf := (if_neg c8).symm.trans hf
            exact hj48_14 M7 H _ _ hf hI (lv_sub hl [1, 2, 3] rfl)
          · have hf := (if_pos c8).symm.trans hf
            refine lv_iconst (v := 0) hx hb dX2_readForm_46 (by decide) ?_
            exact m_zretf hx hb hr hlk hI rfl hf dX2_readForm_47
        · have hf := (if_pos c5).symm.trans hf
          refine lv_aload_n hx hb dX2_readForm_22 rfl (lv_at hl 1 rfl) ?_
          obtain ⟨r9, hc, hf⟩ := mbp_e hf
          refine m_callV (As := []) (rest := []) hx hb hml hown hI (c_X2_peek l w H.size M2 _ hc) (kb_X2_peek hI.T (q1296 hI.T) (Nat.le_of_ble_eq_true rfl) (Nat.le_of_ble_eq_true rfl)) (q1298 hI.T) (sel_X2_peek hI.T) (m_recv (g := 12) (i := 26) hI (mokX (by decide) (by decide)) rfl rfl) rfl hl.1 (Nat.le_of_ble_eq_true rfl) dX2_readForm_23 ⟨Nat.le_of_ble_eq_true rfl, Nat.le_of_ble_eq_true rfl⟩ (fun H locs hI => ?_)
          refine lv_bipush (v := 32) hx hb dX2_readForm_26 (by decide) ?_
          refine lv_icmp_eq (tgt := 48) hx hb dX2_readForm_28 (by decide) (fun c10 => ?_) (fun c10 => ?_)
          · have hf := (if_pos c10).symm.trans hf
            exact hj48_14 M2 H _ _ hf hI (lv_sub hl [1, 2, 3] rfl)
          · have hf := (if_neg c10).symm.trans hf
            refine lv_aload_n hx hb dX2_readForm_31 rfl (lv_at hl 1 rfl) ?_
            refine lv_iconst (v := 1) hx hb dX2_readForm_32 (by decide) ?_
            obtain ⟨r11, M12, hc, hf⟩ := mbnd_e hf
            refine m_callV (As := [.int (1 : Int32)]) (rest := []) hx hb hml hown hI (c_X2_addNumber l w H.size (1 : Int32) M2 _ _ hc) (kb_X2_addNumber hI.T (q1300 hI.T) (Nat.le_of_ble_eq_true rfl) (Nat.le_of_ble_eq_true rfl)) (q1302 hI.T) (sel_X2_addNumber hI.T) (m_recv (g := 12) (i := 26) hI (mokX (by decide) (by decide)) rfl rfl) rfl hl.1 (Nat.le_of_ble_eq_true rfl) dX2_readForm_33 ⟨Nat.le_of_ble_eq_true rfl, Nat.le_of_ble_eq_true rfl⟩ (fun H locs hI => ?_)
            refine lv_iconst (v := 1) hx hb dX2_readForm_36 (by decide) ?_
            exact m_zretf hx hb hr hlk hI rfl hf dX2_readForm_37
  refine hL2 1000 (0 : Int32) M _ _ _ _ hf hI (lv_sub hl [1, 2, 0] rfl) ?_
  intro M16 H locs ls hf hI hl
  try dsimp only at hf
  refine lv_iconst (v := 1) hx hb dX2_readForm_54 (by decide) ?_
  exact m_zretf hx hb hr hlk hI rfl hf dX2_readForm_55
abbrev rmX2_readCommand : Room := { frames := 7, cells := 0, slots := 0, locals := 248 }
theorem kb_X2_readCommand {R : Room} {s : State} {args : Array Value} {own : String} {idx : Nat} (hT : mT s) (hlink : (Cond.methodLink own idx yX2_readCommand).before args s = true) (h1 : rmX2_readCommand.frames + 1 ≤ R.frames) (h2 : 8 + (2 + 11) + rmX2_readCommand.locals ≤ R.locals) : CallB R s args own idx yX2_readCommand cX2_readCommand 2 (some .boolean) [Cond.code yX2_readCommand cX2_readCommand 2 (some .boolean)] rmX2_readCommand 0 0 0 := m_callB hT kc_X2_readCommand ki_X2_readCommand hlink (by decide +kernel) ⟨rfl, rfl, h1, h2⟩
set_option maxHeartbeats 4000000 in
set_option maxRecDepth 100000 in
theorem c_X2_readCommand (l : Launch) (w : WD) (sz : Nat)  (M : Mem) (r : Int32) (M9 : Mem) (hf : f_X2_readCommand  M = some (r, M9)) : mMet l yX2_readCommand cX2_readCommand 2 (some .boolean) rmX2_readCommand w sz M [.ref (w.1 12 26)] (some (.int r)) M9 := by
  refine m_of (by decide) (Nat.le_of_ble_eq_true rfl) ?_
  intro p e s m args below meth c hx hb hr hml hown hlk hI ls hl
  have hl : lv_has ls 2 [(0, .ref (w.1 12 26))] := hl
  unfold f_X2_readCommand at hf
  refine lv_aload_n hx hb dX2_readCommand_0 rfl (lv_at hl 0 rfl) ?_
  obtain ⟨r1, M2, hc, hf⟩ := mbnd_e hf
  refine m_callV (As := []) (rest := []) hx hb hml hown hI (c_X2_readWord l w s.heap.size M _ _ hc) (kb_X2_readWord hI.T (q1279 hI.T) (Nat.le_of_ble_eq_true rfl) (Nat.le_of_ble_eq_true rfl)) (q1281 hI.T) (sel_X2_readWord hI.T) (m_recv (g := 12) (i := 26) hI (mokX (by decide) (by decide)) rfl rfl) rfl hl.1 (Nat.le_of_ble_eq_true rfl) dX2_readCommand_1 ⟨Nat.le_of_ble_eq_true rfl, Nat.le_of_ble_eq_true rfl⟩ (fun H locs hI => ?_)
  have hbo3 := b_X2_readWord hc
  cases r1 with
  | none =>
    refine m_astnull (lv' := [(1, .null), (0, .ref (w.1 12 26))]) hx hb dX2_readCommand_4 rfl hl (by decide) rfl (fun ls hl => ?_)
    refine m_aldnull hx hb dX2_readCommand_5 rfl (lv_at hl 0 rfl) ?_
    refine lv_ifnonnullN hx hb dX2_readCommand_6 ?_
    refine lv_iconst (v := 0) hx hb dX2_readCommand_9 (by decide) ?_
    exact m_zretf hx hb hr hlk hI rfl hf dX2_readCommand_10
  | some o3 =>
    refine lv_astore_n (lv' := [(1, .ref (w.2.2.2 0 o3)), (0, .ref (w.1 12 26))]) hx hb dX2_readCommand_4 rfl hl (by decide) rfl (fun ls hl => ?_)
    refine lv_aload_n hx hb dX2_readCommand_5 rfl (lv_at hl 0 rfl) ?_
    refine lv_ifnonnull (tgt := 11) hx hb dX2_readCommand_6 (by decide) ?_
    refine lv_aload_n hx hb dX2_readCommand_11 rfl (lv_at hl 1 rfl) ?_
    refine m_get (g := 12) (i := 26) (ci := 1) (k := 4) (v := .ref (w.1 12 28)) hx hb hI hown (mokX (by decide) (by decide)) rfl rfl (by decide) lyX2 (q262 hI.T) rfl dX2_readCommand_12 ?_
    refine lv_aload_n hx hb dX2_readCommand_15 rfl (lv_at hl 1 rfl) ?_
    refine m_get (g := 12) (i := 26) (ci := 1) (k := 3) (v := .int (M2 12 26 3)) hx hb hI hown (mokX (by decide) (by decide)) rfl rfl (by decide) lyX2 (q260 hI.T) rfl dX2_readCommand_16 ?_
    refine lv_aload_n hx hb dX2_readCommand_19 rfl (lv_at hl 0 rfl) ?_
    obtain ⟨hi, hf⟩ := mix_e hf
    obtain ⟨M4, eM4, hf⟩ := mlet_e hf
    refine m_wast (M1 := M4) hx hb hI (hbo3 _ rfl) hi eM4 dX2_readCommand_20 (fun H locs hI => ?_)
    refine lv_aload_n hx hb dX2_readCommand_21 rfl (lv_at hl 1 rfl) ?_
    refine lv_iconst (v := 0) hx hb dX2_readCommand_22 (by decide) ?_
    obtain ⟨M5, eM5, hf⟩ := mlet_e hf
    refine m_put (g := 12) (i := 26) (ci := 1) (k := 6) (ty := .int) (M1 := M5) hx hb hI hown (mokX (by decide) (by decide)) rfl rfl (by decide) lyX2 tyX2 tyX2_ok nmX2 (q266 hI.T) rfl rfl rfl rfl (Nat.le_of_ble_eq_true rfl) rfl eM5 dX2_readCommand_23 (fun H locs hI => ?_)
    refine lv_aload_n hx hb dX2_readCommand_26 rfl (lv_at hl 1 rfl) ?_
    refine lv_aload_n hx hb dX2_readCommand_27 rfl (lv_at hl 0 rfl) ?_
    refine m_enform hx hb hI hown (hbo3 _ rfl) (q1643 hI.T) dX2_readCommand_28 ?_
    obtain ⟨r6, M7, hc, hf⟩ := mbnd_e hf
    refine m_callV (As := [.ref (w.2.2.2 1 (mFm.getD o3 0))]) (rest := []) hx hb hml hown hI (c_X2_readForm l w H.size (mFm.getD o3 0) (mFm_lt (hbo3 _ rfl)) M5 _ _ hc) (kb_X2_readForm hI.T (q1292 hI.T) (Nat.le_of_ble_eq_true rfl) (Nat.le_of_ble_eq_true rfl)) (q1294 hI.T) (sel_X2_readForm hI.T) (m_recv (g := 12) (i := 26) hI (mokX (by decide) (by decide)) rfl rfl) rfl hl.1 (Nat.le_of_ble_eq_true rfl) dX2_readCommand_31 ⟨Nat.le_of_ble_eq_true rfl, Nat.le_of_ble_eq_true rfl⟩ (fun H locs hI => ?_)
    refine lv_if_ne (tgt := 39) hx hb dX2_readCommand_34 (by decide) (fun c8 => ?_) (fun c8 => ?_)
    · have hf := (if_neg c8).symm.trans hf
      refine lv_aload_n hx hb dX2_readCommand_39 rfl (lv_at hl 1 rfl) ?_
      refine lv_dup hx hb dX2_readCommand_40 rfl ?_
      refine m_get (g := 12) (i := 26) (ci := 1) (k := 3) (v := .int (M7 12 26 3)) hx hb hI hown (mokX (by decide) (by decide)) rfl rfl (by decide) lyX2 (q260 hI.T) rfl dX2_readCommand_41 ?_
      refine lv_iconst (v := 1) hx hb dX2_readCommand_44 (by decide) ?_
      refine lv_iadd hx hb dX2_readCommand_45 ?_
      obtain ⟨M10, eM10, hf⟩ := mlet_e hf
      refine m_put (g := 12) (i := 26) (ci := 1) (k := 3) (ty := .int) (M1 := M10) hx hb hI hown (mokX (by decide) (by decide)) rfl rfl (by decide) lyX2 tyX2 tyX2_ok nmX2 (q260 hI.T) rfl rfl rfl rfl (Nat.le_of_ble_eq_true rfl) rfl eM10 dX2_readCommand_46 (fun H locs hI => ?_)
      refine lv_iconst (v := 1) hx hb dX2_readCommand_49 (by decide) ?_
      exact m_zretf hx hb hr hlk hI rfl hf dX2_readCommand_50
    · have hf := (if_pos c8).symm.trans hf
      refine lv_iconst (v := 0) hx hb dX2_readCommand_37 (by decide) ?_
      exact m_zretf hx hb hr hlk hI rfl hf dX2_readCommand_38
abbrev rmX2_parse : Room := { frames := 8, cells := 0, slots := 0, locals := 269 }
theorem kb_X2_parse {R : Room} {s : State} {args : Array Value} {own : String} {idx : Nat} (hT : mT s) (hlink : (Cond.methodLink own idx yX2_parse).before args s = true) (h1 : rmX2_parse.frames + 1 ≤ R.frames) (h2 : 8 + (2 + 11) + rmX2_parse.locals ≤ R.locals) : CallB R s args own idx yX2_parse cX2_parse 2 (some .int) [Cond.code yX2_parse cX2_parse 2 (some .int)] rmX2_parse 0 0 0 := m_callB hT kc_X2_parse ki_X2_parse hlink (by decide +kernel) ⟨rfl, rfl, h1, h2⟩
set_option maxHeartbeats 4000000 in
set_option maxRecDepth 100000 in
theorem c_X2_parse (l : Launch) (w : WD) (sz : Nat)  (M : Mem) (r : Int32) (M9 : Mem) (hf : f_X2_parse  M = some (r, M9)) : mMet l yX2_parse cX2_parse 2 (some .int) rmX2_parse w sz M [.ref (w.1 12 26)] (some (.int r)) M9 := by
  refine m_of (by decide) (Nat.le_of_ble_eq_true rfl) ?_
  intro p e s m args below meth c hx hb hr hml hown hlk hI ls hl
  have hl : lv_has ls 2 [(0, .ref (w.1 12 26))] := hl
  unfold f_X2_parse at hf
  refine lv_aload_n hx hb dX2_parse_0 rfl (lv_at hl 0 rfl) ?_
  refine lv_iconst (v := 0) hx hb dX2_parse_1 (by decide) ?_
  obtain ⟨M1, eM1, hf⟩ := mlet_e hf
  refine m_put (g := 12) (i := 26) (ci := 1) (k := 2) (ty := .int) (M1 := M1) hx hb hI hown (mokX (by decide) (by decide)) rfl rfl (by decide) lyX2 tyX2 tyX2_ok nmX2 (q259 hI.T) rfl rfl rfl rfl (Nat.le_of_ble_eq_true rfl) rfl eM1 dX2_parse_2 (fun H locs hI => ?_)
  refine lv_aload_n hx hb dX2_parse_5 rfl (lv_at hl 0 rfl) ?_
  refine lv_iconst (v := 0) hx hb dX2_parse_6 (by decide) ?_
  obtain ⟨M2, eM2, hf⟩ := mlet_e hf
  refine m_put (g := 12) (i := 26) (ci := 1) (k := 3) (ty := .int) (M1 := M2) hx hb hI hown (mokX (by decide) (by decide)) rfl rfl (by decide) lyX2 tyX2 tyX2_ok nmX2 (q260 hI.T) rfl rfl rfl rfl (Nat.le_of_ble_eq_true rfl) rfl eM2 dX2_parse_7 (fun H locs hI => ?_)
  refine lv_iconst (v := 0) hx hb dX2_parse_10 (by decide) ?_
  refine lv_istore_n (lv' := [(1, .int (0 : Int32)), (0, .ref (w.1 12 26))]) hx hb dX2_parse_11 rfl hl (by decide) rfl (fun ls hl => ?_)
  have hL12 : ∀ (n : Nat) (x3 : Int32) (M4 : Mem) (kk : Mem → Option (Int32 × Mem)) (H : Heap) (locs : List Loc) (ls : Array Slot), f_X2_parse_L12 n x3 M4 kk = some (r, M9) → mI w s (mA w s.heap.size) H locs M4 → lv_has ls 2 [(0, .ref (w.1 12 26)), (1, .int x3)] → (∀  (M4 : Mem) (H : Heap) (locs : List Loc) (ls : Array Slot), kk M4 = some (r, M9) → mI w s (mA w s.heap.size) H locs M4 → lv_has ls 2 [(0, .ref (w.1 12 26))] → W p l e rmX2_parse s m args below meth c H locs 0 0 (MQ below (mQ w s.heap.size (some (.int r)) M9) args s 0 0 (mA w s.heap.size)) (F0 m 65 ls [])) → W p l e rmX2_parse s m args below meth c H locs 0 0 (MQ below (mQ w s.heap.size (some (.int r)) M9) args s 0 0 (mA w s.heap.size)) (F0 m 12 ls []) := by
    intro n
    induction n with
    | zero => intro x3 M4 kk H locs ls hf hI hl hk; rw [f_X2_parse_L12.eq_1] at hf; cases hf
    | succ n ih12 =>
      intro x3 M4 kk H locs ls hf hI hl hk
      rw [f_X2_parse_L12.eq_2] at hf
      refine lv_iload_n hx hb dX2_parse_12 rfl (lv_at hl 1 rfl) ?_
      refine lv_bipush (v := 15) hx hb dX2_parse_13 (by decide) ?_
      refine lv_icmp_ge (tgt := 65) hx hb dX2_parse_15 (by decide) (fun c5 => ?_) (fun c5 => ?_)
      · have hf := (if_pos c5).symm.trans hf
        exact hk M4 H _ _ hf hI (lv_sub hl [0] rfl)
      · have hf := (if_neg c5).symm.trans hf
        refine lv_aload_n hx hb dX2_parse_18 rfl (lv_at hl 0 rfl) ?_
        obtain ⟨r6, M7, hc, hf⟩ := mbnd_e hf
        refine m_callV (As := []) (rest := []) hx hb hml hown hI (c_X2_readCommand l w H.size M4 _ _ hc) (kb_X2_readCommand hI.T (q1275 hI.T) (Nat.le_of_ble_eq_true rfl) (Nat.le_of_ble_eq_true rfl)) (q1277 hI.T) (sel_X2_readCommand hI.T) (m_recv (g := 12) (i := 26) hI (mokX (by decide) (by decide)) rfl rfl) rfl hl.1 (Nat.le_of_ble_eq_true rfl) dX2_parse_19 ⟨Nat.le_of_ble_eq_true rfl, Nat.le_of_ble_eq_true rfl⟩ (fun H locs hI => ?_)
        refine lv_if_eq (tgt := 65) hx hb dX2_parse_22 (by decide) (fun c8 => ?_) (fun c8 => ?_)
        · have hf := (if_pos c8).symm.trans hf
          exact hk M7 H _ _ hf hI (lv_sub hl [0] rfl)
        · have hf := (if_neg c8).symm.trans hf
          refine lv_aload_n hx hb dX2_parse_25 rfl (lv_at hl 0 rfl) ?_
          obtain ⟨r9, hc, hf⟩ := mbp_e hf
          refine m_callV (As := []) (rest := []) hx hb hml hown hI (c_X2_peek l w H.size M7 _ hc) (kb_X2_peek hI.T (q1296 hI.T) (Nat.le_of_ble_eq_true rfl) (Nat.le_of_ble_eq_true rfl)) (q1298 hI.T) (sel_X2_peek hI.T) (m_recv (g := 12) (i := 26) hI (mokX (by decide) (by decide)) rfl rfl) rfl hl.1 (Nat.le_of_ble_eq_true rfl) dX2_parse_26 ⟨Nat.le_of_ble_eq_true rfl, Nat.le_of_ble_eq_true rfl⟩ (fun H locs hI => ?_)
          refine lv_iconst (v := (-1)) hx hb dX2_parse_29 (by decide) ?_
          refine lv_icmp_ne (tgt := 35) hx hb dX2_parse_30 (by decide) (fun c10 => ?_) (fun c10 => ?_)
          · have hf := (if_neg c10).symm.trans hf
            refine lv_aload_n hx hb dX2_parse_35 rfl (lv_at hl 0 rfl) ?_
            obtain ⟨r11, hc, hf⟩ := mbp_e hf
            refine m_callV (As := []) (rest := []) hx hb hml hown hI (c_X2_peek l w H.size M7 _ hc) (kb_X2_peek hI.T (q1296 hI.T) (Nat.le_of_ble_eq_true rfl) (Nat.le_of_ble_eq_true rfl)) (q1298 hI.T) (sel_X2_peek hI.T) (m_recv (g := 12) (i := 26) hI (mokX (by decide) (by decide)) rfl rfl) rfl hl.1 (Nat.le_of_ble_eq_true rfl) dX2_parse_36 ⟨Nat.le_of_ble_eq_true rfl, Nat.le_of_ble_eq_true rfl⟩ (fun H locs hI => ?_)
            refine lv_bipush (v := 59) hx hb dX2_parse_39 (by decide) ?_
            refine lv_icmp_eq (tgt := 49) hx hb dX2_parse_41 (by decide) (fun c12 => ?_) (fun c12 => ?_)
            · have hf := (if_pos c12).symm.trans hf
              refine lv_aload_n hx hb dX2_parse_49 rfl (lv_at hl 0 rfl) ?_
              refine lv_dup hx hb dX2_parse_50 rfl ?_
              refine m_get (g := 12) (i := 26) (ci := 1) (k := 2) (v := .int (M7 12 26 2)) hx hb hI hown (mokX (by decide) (by decide)) rfl rfl (by decide) lyX2 (q259 hI.T) rfl dX2_parse_51 ?_
              refine lv_iconst (v := 1) hx hb dX2_parse_54 (by decide) ?_
              refine lv_iadd hx hb dX2_parse_55 ?_
              obtain ⟨M13, eM13, hf⟩ := mlet_e hf
              refine m_put (g := 12) (i := 26) (ci := 1) (k := 2) (ty := .int) (M1 := M13) hx hb hI hown (mokX (by decide) (by decide)) rfl rfl (by decide) lyX2 tyX2 tyX2_ok nmX2 (q259 hI.T) rfl rfl rfl rfl (Nat.le_of_ble_eq_true rfl) rfl eM13 dX2_parse_56 (fun H locs hI => ?_)
              obtain ⟨x14, ex14, hf⟩ := mlet_e hf
              refine lv_iinc (v := x14) (lv' := [(1, .int x14), (0, .ref (w.1 12 26))]) hx hb dX2_parse_59 hl (k := 1) rfl (by rw [ex14]; rfl) (by decide) rfl (fun ls hl => ?_)
              refine lv_goto (tgt := 12) hx hb dX2_parse_62 (by decide) ?_
              exact ih12 x14 M13 kk H _ _ hf hI (lv_sub hl [1, 0] rfl) hk
            · have hf := (if_neg c12).symm.trans hf
              refine lv_aload_n hx hb dX2_parse_44 rfl (lv_at hl 0 rfl) ?_
              refine m_get (g := 12) (i := 26) (ci := 1) (k := 2) (v := .int (M7 12 26 2)) hx hb hI hown (mokX (by decide) (by decide)) rfl rfl (by decide) lyX2 (q259 hI.T) rfl dX2_parse_45 ?_
              exact m_iretf hx hb hr hlk hI hf dX2_parse_48
          · have hf := (if_pos c10).symm.trans hf
            refine lv_iconst (v := (-1)) hx hb dX2_parse_33 (by decide) ?_
            exact m_iretf hx hb hr hlk hI hf dX2_parse_34
  refine hL12 1000 (0 : Int32) M2 _ _ _ _ hf hI (lv_sub hl [1, 0] rfl) ?_
  intro M15 H locs ls hf hI hl
  try dsimp only at hf
  refine lv_aload_n hx hb dX2_parse_65 rfl (lv_at hl 0 rfl) ?_
  refine m_get (g := 12) (i := 26) (ci := 1) (k := 2) (v := .int (M15 12 26 2)) hx hb hI hown (mokX (by decide) (by decide)) rfl rfl (by decide) lyX2 (q259 hI.T) rfl dX2_parse_66 ?_
  exact m_iretf hx hb hr hlk hI hf dX2_parse_69
abbrev rmX2_clear : Room := { frames := 0, cells := 0, slots := 0, locals := 0 }
theorem kb_X2_clear {R : Room} {s : State} {args : Array Value} {own : String} {idx : Nat} (hT : mT s) (hlink : (Cond.methodLink own idx yX2_clear).before args s = true) (h1 : rmX2_clear.frames + 1 ≤ R.frames) (h2 : 8 + (1 + 11) + rmX2_clear.locals ≤ R.locals) : CallB R s args own idx yX2_clear cX2_clear 1 (none) [Cond.code yX2_clear cX2_clear 1 (none)] rmX2_clear 0 0 0 := m_callB hT kc_X2_clear ki_X2_clear hlink (by decide +kernel) ⟨rfl, rfl, h1, h2⟩
set_option maxHeartbeats 4000000 in
set_option maxRecDepth 100000 in
theorem c_X2_clear (l : Launch) (w : WD) (sz : Nat)  (M : Mem) (r : Unit) (M9 : Mem) (hf : f_X2_clear  M = some (r, M9)) : mMet l yX2_clear cX2_clear 1 (none) rmX2_clear w sz M [.ref (w.1 12 26)] none M9 := by
  refine m_of (by decide) (Nat.le_of_ble_eq_true rfl) ?_
  intro p e s m args below meth c hx hb hr hml hown hlk hI ls hl
  have hl : lv_has ls 1 [(0, .ref (w.1 12 26))] := hl
  unfold f_X2_clear at hf
  refine lv_aload_n hx hb dX2_clear_0 rfl (lv_at hl 0 rfl) ?_
  refine lv_iconst (v := 0) hx hb dX2_clear_1 (by decide) ?_
  obtain ⟨M1, eM1, hf⟩ := mlet_e hf
  refine m_put (g := 12) (i := 26) (ci := 1) (k := 1) (ty := .int) (M1 := M1) hx hb hI hown (mokX (by decide) (by decide)) rfl rfl (by decide) lyX2 tyX2 tyX2_ok nmX2 (q257 hI.T) rfl rfl rfl rfl (Nat.le_of_ble_eq_true rfl) rfl eM1 dX2_clear_2 (fun H locs hI => ?_)
  exact m_vretf hx hb hr hlk hI hf dX2_clear_5
abbrev rmX9_verdictOnOutcome : Room := { frames := 0, cells := 0, slots := 0, locals := 0 }
theorem kb_X9_verdictOnOutcome {R : Room} {s : State} {args : Array Value} {own : String} {idx : Nat} (hT : mT s) (hlink : (Cond.methodLink own idx yX9_verdictOnOutcome).before args s = true) (h1 : rmX9_verdictOnOutcome.frames + 1 ≤ R.frames) (h2 : 8 + (2 + 11) + rmX9_verdictOnOutcome.locals ≤ R.locals) : CallB R s args own idx yX9_verdictOnOutcome cX9_verdictOnOutcome 2 (some .int) [Cond.code yX9_verdictOnOutcome cX9_verdictOnOutcome 2 (some .int)] rmX9_verdictOnOutcome 0 0 1 := m_callB hT kc_X9_verdictOnOutcome ki_X9_verdictOnOutcome hlink (by decide +kernel) ⟨rfl, rfl, h1, h2⟩
set_option maxHeartbeats 4000000 in
set_option maxRecDepth 100000 in
theorem c_X9_verdictOnOutcome (l : Launch) (w : WD) (sz : Nat) (g : Nat) (hg : g ≤ 10) (a1 : Int32) (M : Mem) (r : Int32) (hf : f_X9_verdictOnOutcome g a1 M = some r) : mMet l yX9_verdictOnOutcome cX9_verdictOnOutcome 2 (some .int) rmX9_verdictOnOutcome w sz M [.ref (w.1 g 0), .int a1] (some (.int r)) M := by
  refine m_of (by decide) (Nat.le_of_ble_eq_true rfl) ?_
  intro p e s m args below meth c hx hb hr hml hown hlk hI ls hl
  have hl : lv_has ls 2 [(0, .ref (w.1 g 0)), (1, .int a1)] := hl
  unfold f_X9_verdictOnOutcome at hf
  refine lv_iload_n hx hb dX9_verdictOnOutcome_0 rfl (lv_at hl 1 rfl) ?_
  refine lv_if_ne (tgt := 16) hx hb dX9_verdictOnOutcome_1 (by decide) (fun c1 => ?_) (fun c1 => ?_)
  · have hf := (if_neg c1).symm.trans hf
    refine lv_iload_n hx hb dX9_verdictOnOutcome_16 rfl (lv_at hl 1 rfl) ?_
    exact m_iretp hx hb hr hlk hI hf dX9_verdictOnOutcome_17
  · have hf := (if_pos c1).symm.trans hf
    refine lv_aload_n hx hb dX9_verdictOnOutcome_4 rfl (lv_at hl 0 rfl) ?_
    refine m_get (g := g) (i := 0) (ci := 8) (k := 4) (v := .int (M g 0 4)) hx hb hI hown (mokS hg (by decide)) rfl rfl (by decide) lyX9 (q194 hI.T) rfl dX9_verdictOnOutcome_5 ?_
    refine lv_if_ne (tgt := 16) hx hb dX9_verdictOnOutcome_8 (by decide) (fun c2 => ?_) (fun c2 => ?_)
    · have hf := (if_neg c2).symm.trans hf
      refine lv_iload_n hx hb dX9_verdictOnOutcome_16 rfl (lv_at hl 1 rfl) ?_
      exact m_iretp hx hb hr hlk hI hf dX9_verdictOnOutcome_17
    · have hf := (if_pos c2).symm.trans hf
      refine lv_bipush (v := (-3)) hx hb dX9_verdictOnOutcome_11 (by decide) ?_
      refine lv_goto (tgt := 17) hx hb dX9_verdictOnOutcome_13 (by decide) ?_
      exact m_iretp hx hb hr hlk hI hf dX9_verdictOnOutcome_17
abbrev rmX9_tryCommand : Room := { frames := 5, cells := 0, slots := 0, locals := 128 }
theorem kb_X9_tryCommand {R : Room} {s : State} {args : Array Value} {own : String} {idx : Nat} (hT : mT s) (hlink : (Cond.methodLink own idx yX9_tryCommand).before args s = true) (h1 : rmX9_tryCommand.frames + 1 ≤ R.frames) (h2 : 8 + (3 + 11) + rmX9_tryCommand.locals ≤ R.locals) : CallB R s args own idx yX9_tryCommand cX9_tryCommand 3 (some .int) [Cond.code yX9_tryCommand cX9_tryCommand 3 (some .int)] rmX9_tryCommand 0 0 2 := m_callB hT kc_X9_tryCommand ki_X9_tryCommand hlink (by decide +kernel) ⟨rfl, rfl, h1, h2⟩
set_option maxHeartbeats 4000000 in
set_option maxRecDepth 100000 in
theorem c_X9_tryCommand (l : Launch) (w : WD) (sz : Nat) (g : Nat) (hg : g ≤ 10) (wd1 : Nat) (hw1 : wd1 < 11) (ga2 ia2 : Nat) (ho2 : mok ga2 ia2) (hn2 : mil ia2 = some 4) (M : Mem) (r : Int32) (M9 : Mem) (hf : f_X9_tryCommand g wd1 ga2 ia2 M = some (r, M9)) : mMet l yX9_tryCommand cX9_tryCommand 3 (some .int) rmX9_tryCommand w sz M [.ref (w.1 g 0), .ref (w.2.2.2 0 wd1), .ref (w.1 ga2 ia2)] (some (.int r)) M9 := by
  refine m_of (by decide) (Nat.le_of_ble_eq_true rfl) ?_
  intro p e s m args below meth c hx hb hr hml hown hlk hI ls hl
  have hl : lv_has ls 3 [(0, .ref (w.1 g 0)), (1, .ref (w.2.2.2 0 wd1)), (2, .ref (w.1 ga2 ia2))] := hl
  unfold f_X9_tryCommand at hf
  refine va_gets hx hb hI.Zsw hI.S hown (q1329 hI.T) (fun _ h => h) dX9_tryCommand_0 ?_
  refine lv_aload_n hx hb dX9_tryCommand_3 rfl (lv_at hl 1 rfl) ?_
  refine m_ord hx hb hml hown hI hw1 hl.1 (Nat.le_of_ble_eq_true rfl) (Nat.le_of_ble_eq_true rfl) (Nat.le_of_ble_eq_true rfl) dX9_tryCommand_4 ⟨Nat.le_of_ble_eq_true rfl, Nat.le_of_ble_eq_true rfl⟩ (fun H locs hI => ?_)
  obtain ⟨hi, hf⟩ := mix_e hf
  refine va_ti hx hb hI.Tsw hI.S hi rfl dX9_tryCommand_7 ?_
  refine lv_topi (fun x1 ex1 => ?_)
  have hf := mlet_s ex1 hf
  by_cases c2 : x1 = 1
  · have hf := (if_pos c2).symm.trans hf
    refine lv_tableIn (tgt := 64) hx hb dX9_tryCommand_8 (by rw [c2]; decide) (by rw [c2]; decide) (by rw [c2]; rfl) (by decide) ?_
    refine lv_aload_n hx hb dX9_tryCommand_64 rfl (lv_at hl 0 rfl) ?_
    obtain ⟨r3, M4, hc, hf⟩ := mbnd_e hf
    refine m_callV (As := []) (rest := []) hx hb hml hown hI (c_X9_tryHolder l w H.size g hg M _ _ hc) (kb_X9_tryHolder hI.T (q1337 hI.T) (Nat.le_of_ble_eq_true rfl) (Nat.le_of_ble_eq_true rfl)) (q748 hI.T) (q749 hI.T) (m_recv (g := g) (i := 0) hI (mokS hg (by decide)) rfl rfl) rfl hl.1 (Nat.le_of_ble_eq_true rfl) dX9_tryCommand_65 ⟨Nat.le_of_ble_eq_true rfl, Nat.le_of_ble_eq_true rfl⟩ (fun H locs hI => ?_)
    exact m_iretf hx hb hr hlk hI hf dX9_tryCommand_68
  have hf := (if_neg c2).symm.trans hf
  by_cases c5 : x1 = 2
  · have hf := (if_pos c5).symm.trans hf
    refine lv_tableIn (tgt := 69) hx hb dX9_tryCommand_8 (by rw [c5]; decide) (by rw [c5]; decide) (by rw [c5]; rfl) (by decide) ?_
    refine lv_aload_n hx hb dX9_tryCommand_69 rfl (lv_at hl 0 rfl) ?_
    refine lv_aload_n hx hb dX9_tryCommand_70 rfl (lv_at hl 2 rfl) ?_
    refine lv_iconst (v := 0) hx hb dX9_tryCommand_71 (by decide) ?_
    obtain ⟨hi, hf⟩ := mix_e hf
    refine m_iald (g := ga2) (i := ia2) hx hb hI ho2 hn2 hi dX9_tryCommand_72 ?_
    refine lv_aload_n hx hb dX9_tryCommand_73 rfl (lv_at hl 2 rfl) ?_
    refine lv_iconst (v := 1) hx hb dX9_tryCommand_74 (by decide) ?_
    obtain ⟨hi, hf⟩ := mix_e hf
    refine m_iald (g := ga2) (i := ia2) hx hb hI ho2 hn2 hi dX9_tryCommand_75 ?_
    refine lv_aload_n hx hb dX9_tryCommand_76 rfl (lv_at hl 2 rfl) ?_
    refine lv_iconst (v := 2) hx hb dX9_tryCommand_77 (by decide) ?_
    obtain ⟨hi, hf⟩ := mix_e hf
    refine m_iald (g := ga2) (i := ia2) hx hb hI ho2 hn2 hi dX9_tryCommand_78 ?_
    refine lv_aload_n hx hb dX9_tryCommand_79 rfl (lv_at hl 2 rfl) ?_
    refine lv_iconst (v := 3) hx hb dX9_tryCommand_80 (by decide) ?_
    obtain ⟨hi, hf⟩ := mix_e hf
    refine m_iald (g := ga2) (i := ia2) hx hb hI ho2 hn2 hi dX9_tryCommand_81 ?_
    obtain ⟨r6, M7, hc, hf⟩ := mbnd_e hf
    refine m_callV (As := [.int (M ga2 ia2 (0 : Int32).toNatClampNeg), .int (M ga2 ia2 (1 : Int32).toNatClampNeg), .int (M ga2 ia2 (2 : Int32).toNatClampNeg), .int (M ga2 ia2 (3 : Int32).toNatClampNeg)]) (rest := []) hx hb hml hown hI (c_X9_trySeal l w H.size g hg (M ga2 ia2 (0 : Int32).toNatClampNeg) (M ga2 ia2 (1 : Int32).toNatClampNeg) (M ga2 ia2 (2 : Int32).toNatClampNeg) (M ga2 ia2 (3 : Int32).toNatClampNeg) M _ _ hc) (kb_X9_trySeal hI.T (q1338 hI.T) (Nat.le_of_ble_eq_true rfl) (Nat.le_of_ble_eq_true rfl)) (q802 hI.T) (q803 hI.T) (m_recv (g := g) (i := 0) hI (mokS hg (by decide)) rfl rfl) rfl hl.1 (Nat.le_of_ble_eq_true rfl) dX9_tryCommand_82 ⟨Nat.le_of_ble_eq_true rfl, Nat.le_of_ble_eq_true rfl⟩ (fun H locs hI => ?_)
    exact m_iretf hx hb hr hlk hI hf dX9_tryCommand_85
  have hf := (if_neg c5).symm.trans hf
  by_cases c8 : x1 = 3
  · have hf := (if_pos c8).symm.trans hf
    refine lv_tableIn (tgt := 86) hx hb dX9_tryCommand_8 (by rw [c8]; decide) (by rw [c8]; decide) (by rw [c8]; rfl) (by decide) ?_
    refine lv_aload_n hx hb dX9_tryCommand_86 rfl (lv_at hl 0 rfl) ?_
    refine lv_aload_n hx hb dX9_tryCommand_87 rfl (lv_at hl 2 rfl) ?_
    refine lv_iconst (v := 0) hx hb dX9_tryCommand_88 (by decide) ?_
    obtain ⟨hi, hf⟩ := mix_e hf
    refine m_iald (g := ga2) (i := ia2) hx hb hI ho2 hn2 hi dX9_tryCommand_89 ?_
    refine lv_aload_n hx hb dX9_tryCommand_90 rfl (lv_at hl 2 rfl) ?_
    refine lv_iconst (v := 1) hx hb dX9_tryCommand_91 (by decide) ?_
    obtain ⟨hi, hf⟩ := mix_e hf
    refine m_iald (g := ga2) (i := ia2) hx hb hI ho2 hn2 hi dX9_tryCommand_92 ?_
    obtain ⟨r9, M10, hc, hf⟩ := mbnd_e hf
    refine m_callV (As := [.int (M ga2 ia2 (0 : Int32).toNatClampNeg), .int (M ga2 ia2 (1 : Int32).toNatClampNeg)]) (rest := []) hx hb hml hown hI (c_X9_tryShare l w H.size g hg (M ga2 ia2 (0 : Int32).toNatClampNeg) (M ga2 ia2 (1 : Int32).toNatClampNeg) M _ _ hc) (kb_X9_tryShare hI.T (q1339 hI.T) (Nat.le_of_ble_eq_true rfl) (Nat.le_of_ble_eq_true rfl)) (q824 hI.T) (q825 hI.T) (m_recv (g := g) (i := 0) hI (mokS hg (by decide)) rfl rfl) rfl hl.1 (Nat.le_of_ble_eq_true rfl) dX9_tryCommand_93 ⟨Nat.le_of_ble_eq_true rfl, Nat.le_of_ble_eq_true rfl⟩ (fun H locs hI => ?_)
    exact m_iretf hx hb hr hlk hI hf dX9_tryCommand_96
  have hf := (if_neg c8).symm.trans hf
  by_cases c11 : x1 = 4
  · have hf := (if_pos c11).symm.trans hf
    refine lv_tableIn (tgt := 97) hx hb dX9_tryCommand_8 (by rw [c11]; decide) (by rw [c11]; decide) (by rw [c11]; rfl) (by decide) ?_
    refine lv_aload_n hx hb dX9_tryCommand_97 rfl (lv_at hl 0 rfl) ?_
    refine lv_aload_n hx hb dX9_tryCommand_98 rfl (lv_at hl 2 rfl) ?_
    refine lv_iconst (v := 0) hx hb dX9_tryCommand_99 (by decide) ?_
    obtain ⟨hi, hf⟩ := mix_e hf
    refine m_iald (g := ga2) (i := ia2) hx hb hI ho2 hn2 hi dX9_tryCommand_100 ?_
    obtain ⟨r12, M13, hc, hf⟩ := mbnd_e hf
    refine m_callV (As := [.int (M ga2 ia2 (0 : Int32).toNatClampNeg)]) (rest := []) hx hb hml hown hI (c_X9_tryPresent l w H.size g hg (M ga2 ia2 (0 : Int32).toNatClampNeg) M _ _ hc) (kb_X9_tryPresent hI.T (q1340 hI.T) (Nat.le_of_ble_eq_true rfl) (Nat.le_of_ble_eq_true rfl)) (q836 hI.T) (q837 hI.T) (m_recv (g := g) (i := 0) hI (mokS hg (by decide)) rfl rfl) rfl hl.1 (Nat.le_of_ble_eq_true rfl) dX9_tryCommand_101 ⟨Nat.le_of_ble_eq_true rfl, Nat.le_of_ble_eq_true rfl⟩ (fun H locs hI => ?_)
    exact m_iretf hx hb hr hlk hI hf dX9_tryCommand_104
  have hf := (if_neg c11).symm.trans hf
  by_cases c14 : x1 = 5
  · have hf := (if_pos c14).symm.trans hf
    refine lv_tableIn (tgt := 105) hx hb dX9_tryCommand_8 (by rw [c14]; decide) (by rw [c14]; decide) (by rw [c14]; rfl) (by decide) ?_
    refine lv_aload_n hx hb dX9_tryCommand_105 rfl (lv_at hl 0 rfl) ?_
    refine lv_aload_n hx hb dX9_tryCommand_106 rfl (lv_at hl 2 rfl) ?_
    refine lv_iconst (v := 0) hx hb dX9_tryCommand_107 (by decide) ?_
    obtain ⟨hi, hf⟩ := mix_e hf
    refine m_iald (g := ga2) (i := ia2) hx hb hI ho2 hn2 hi dX9_tryCommand_108 ?_
    obtain ⟨r15, M16, hc, hf⟩ := mbnd_e hf
    refine m_callV (As := [.int (M ga2 ia2 (0 : Int32).toNatClampNeg)]) (rest := []) hx hb hml hown hI (c_X9_tryTakeBack l w H.size g hg (M ga2 ia2 (0 : Int32).toNatClampNeg) M _ _ hc) (kb_X9_tryTakeBack hI.T (q1341 hI.T) (Nat.le_of_ble_eq_true rfl) (Nat.le_of_ble_eq_true rfl)) (q851 hI.T) (q852 hI.T) (m_recv (g := g) (i := 0) hI (mokS hg (by decide)) rfl rfl) rfl hl.1 (Nat.le_of_ble_eq_true rfl) dX9_tryCommand_109 ⟨Nat.le_of_ble_eq_true rfl, Nat.le_of_ble_eq_true rfl⟩ (fun H locs hI => ?_)
    exact m_iretf hx hb hr hlk hI hf dX9_tryCommand_112
  have hf := (if_neg c14).symm.trans hf
  by_cases c17 : x1 = 6
  · have hf := (if_pos c17).symm.trans hf
    refine lv_tableIn (tgt := 113) hx hb dX9_tryCommand_8 (by rw [c17]; decide) (by rw [c17]; decide) (by rw [c17]; rfl) (by decide) ?_
    refine lv_aload_n hx hb dX9_tryCommand_113 rfl (lv_at hl 0 rfl) ?_
    refine lv_aload_n hx hb dX9_tryCommand_114 rfl (lv_at hl 0 rfl) ?_
    obtain ⟨r18, M19, hc, hf⟩ := mbnd_e hf
    refine m_callV (As := []) (rest := [.ref (w.1 g 0)]) hx hb hml hown hI (c_X9_tryOpen l w H.size g hg M _ _ hc) (kb_X9_tryOpen hI.T (q1342 hI.T) (Nat.le_of_ble_eq_true rfl) (Nat.le_of_ble_eq_true rfl)) (q866 hI.T) (q867 hI.T) (m_recv (g := g) (i := 0) hI (mokS hg (by decide)) rfl rfl) rfl hl.1 (Nat.le_of_ble_eq_true rfl) dX9_tryCommand_115 ⟨Nat.le_of_ble_eq_true rfl, Nat.le_of_ble_eq_true rfl⟩ (fun H locs hI => ?_)
    obtain ⟨r20, hc, hf⟩ := mbp_e hf
    refine m_callV (As := [.int r18]) (rest := []) hx hb hml hown hI (c_X9_verdictOnOutcome l w H.size g hg r18 M19 _ hc) (kb_X9_verdictOnOutcome hI.T (q1343 hI.T) (Nat.le_of_ble_eq_true rfl) (Nat.le_of_ble_eq_true rfl)) (q1345 hI.T) (sel_X9_verdictOnOutcome hI.T) (m_recv (g := g) (i := 0) hI (mokS hg (by decide)) rfl rfl) rfl hl.1 (Nat.le_of_ble_eq_true rfl) dX9_tryCommand_118 ⟨Nat.le_of_ble_eq_true rfl, Nat.le_of_ble_eq_true rfl⟩ (fun H locs hI => ?_)
    exact m_iretf hx hb hr hlk hI hf dX9_tryCommand_121
  have hf := (if_neg c17).symm.trans hf
  by_cases c21 : x1 = 7
  · have hf := (if_pos c21).symm.trans hf
    refine lv_tableIn (tgt := 122) hx hb dX9_tryCommand_8 (by rw [c21]; decide) (by rw [c21]; decide) (by rw [c21]; rfl) (by decide) ?_
    refine lv_aload_n hx hb dX9_tryCommand_122 rfl (lv_at hl 0 rfl) ?_
    obtain ⟨r22, M23, hc, hf⟩ := mbnd_e hf
    refine m_callV (As := []) (rest := []) hx hb hml hown hI (c_X9_tryClose l w H.size g hg M _ _ hc) (kb_X9_tryClose hI.T (q1347 hI.T) (Nat.le_of_ble_eq_true rfl) (Nat.le_of_ble_eq_true rfl)) (q904 hI.T) (q905 hI.T) (m_recv (g := g) (i := 0) hI (mokS hg (by decide)) rfl rfl) rfl hl.1 (Nat.le_of_ble_eq_true rfl) dX9_tryCommand_123 ⟨Nat.le_of_ble_eq_true rfl, Nat.le_of_ble_eq_true rfl⟩ (fun H locs hI => ?_)
    exact m_iretf hx hb hr hlk hI hf dX9_tryCommand_126
  have hf := (if_neg c21).symm.trans hf
  by_cases c24 : x1 = 8
  · have hf := (if_pos c24).symm.trans hf
    refine lv_tableIn (tgt := 127) hx hb dX9_tryCommand_8 (by rw [c24]; decide) (by rw [c24]; decide) (by rw [c24]; rfl) (by decide) ?_
    refine lv_aload_n hx hb dX9_tryCommand_127 rfl (lv_at hl 0 rfl) ?_
    refine lv_aload_n hx hb dX9_tryCommand_128 rfl (lv_at hl 2 rfl) ?_
    refine lv_iconst (v := 0) hx hb dX9_tryCommand_129 (by decide) ?_
    obtain ⟨hi, hf⟩ := mix_e hf
    refine m_iald (g := ga2) (i := ia2) hx hb hI ho2 hn2 hi dX9_tryCommand_130 ?_
    refine lv_aload_n hx hb dX9_tryCommand_131 rfl (lv_at hl 2 rfl) ?_
    refine lv_iconst (v := 1) hx hb dX9_tryCommand_132 (by decide) ?_
    obtain ⟨hi, hf⟩ := mix_e hf
    refine m_iald (g := ga2) (i := ia2) hx hb hI ho2 hn2 hi dX9_tryCommand_133 ?_
    refine lv_iconst (v := 1) hx hb dX9_tryCommand_134 (by decide) ?_
    obtain ⟨k143_27, ek143_27, hf⟩ := mlet_e hf
    have hj143_27 : ∀ (x26 : Int32) (H : Heap) (locs : List Loc) (ls : Array Slot), k143_27 x26 = some (r, M9) → mI w s (mA w s.heap.size) H locs M → lv_has ls 3 [(2, .ref (w.1 ga2 ia2))] → W p l e rmX9_tryCommand s m args below meth c H locs 0 0 (MQ below (mQ w s.heap.size (some (.int r)) M9) args s 0 0 (mA w s.heap.size)) (F0 m 143 ls [.int x26, .int (M ga2 ia2 (0 : Int32).toNatClampNeg), .ref (w.1 g 0)]) := by
      intro x26 H locs ls hf hI hl
      rw [ek143_27] at hf
      try dsimp only at hf
      refine lv_aload_n hx hb dX9_tryCommand_143 rfl (lv_at hl 0 rfl) ?_
      refine lv_iconst (v := 2) hx hb dX9_tryCommand_144 (by decide) ?_
      obtain ⟨hi, hf⟩ := mix_e hf
      refine m_iald (g := ga2) (i := ia2) hx hb hI ho2 hn2 hi dX9_tryCommand_145 ?_
      obtain ⟨r28, M29, hc, hf⟩ := mbnd_e hf
      refine m_callV (As := [.int (M ga2 ia2 (0 : Int32).toNatClampNeg), .int x26, .int (M ga2 ia2 (2 : Int32).toNatClampNeg)]) (rest := []) hx hb hml hown hI (c_X9_tryGuard l w H.size g hg (M ga2 ia2 (0 : Int32).toNatClampNeg) x26 (M ga2 ia2 (2 : Int32).toNatClampNeg) M _ _ hc) (kb_X9_tryGuard hI.T (q1348 hI.T) (Nat.le_of_ble_eq_true rfl) (Nat.le_of_ble_eq_true rfl)) (q915 hI.T) (q916 hI.T) (m_recv (g := g) (i := 0) hI (mokS hg (by decide)) rfl rfl) rfl hl.1 (Nat.le_of_ble_eq_true rfl) dX9_tryCommand_146 ⟨Nat.le_of_ble_eq_true rfl, Nat.le_of_ble_eq_true rfl⟩ (fun H locs hI => ?_)
      exact m_iretf hx hb hr hlk hI hf dX9_tryCommand_149
    refine lv_icmp_ne (tgt := 142) hx hb dX9_tryCommand_135 (by decide) (fun c25 => ?_) (fun c25 => ?_)
    · have hf := (if_neg c25).symm.trans hf
      refine lv_iconst (v := 0) hx hb dX9_tryCommand_142 (by decide) ?_
      exact hj143_27 (0 : Int32) H _ _ hf hI (lv_sub hl [2] rfl)
    · have hf := (if_pos c25).symm.trans hf
      refine lv_iconst (v := 1) hx hb dX9_tryCommand_138 (by decide) ?_
      refine lv_goto (tgt := 143) hx hb dX9_tryCommand_139 (by decide) ?_
      exact hj143_27 (1 : Int32) H _ _ hf hI (lv_sub hl [2] rfl)
  have hf := (if_neg c24).symm.trans hf
  by_cases c30 : x1 = 9
  · have hf := (if_pos c30).symm.trans hf
    refine lv_tableIn (tgt := 150) hx hb dX9_tryCommand_8 (by rw [c30]; decide) (by rw [c30]; decide) (by rw [c30]; rfl) (by decide) ?_
    refine lv_aload_n hx hb dX9_tryCommand_150 rfl (lv_at hl 0 rfl) ?_
    refine lv_aload_n hx hb dX9_tryCommand_151 rfl (lv_at hl 2 rfl) ?_
    refine lv_iconst (v := 0) hx hb dX9_tryCommand_152 (by decide) ?_
    obtain ⟨hi, hf⟩ := mix_e hf
    refine m_iald (g := ga2) (i := ia2) hx hb hI ho2 hn2 hi dX9_tryCommand_153 ?_
    obtain ⟨r31, M32, hc, hf⟩ := mbnd_e hf
    refine m_callV (As := [.int (M ga2 ia2 (0 : Int32).toNatClampNeg)]) (rest := []) hx hb hml hown hI (c_X9_tryTurn l w H.size g hg (M ga2 ia2 (0 : Int32).toNatClampNeg) M _ _ hc) (kb_X9_tryTurn hI.T (q1349 hI.T) (Nat.le_of_ble_eq_true rfl) (Nat.le_of_ble_eq_true rfl)) (q931 hI.T) (q932 hI.T) (m_recv (g := g) (i := 0) hI (mokS hg (by decide)) rfl rfl) rfl hl.1 (Nat.le_of_ble_eq_true rfl) dX9_tryCommand_154 ⟨Nat.le_of_ble_eq_true rfl, Nat.le_of_ble_eq_true rfl⟩ (fun H locs hI => ?_)
    exact m_iretf hx hb hr hlk hI hf dX9_tryCommand_157
  have hf := (if_neg c30).symm.trans hf
  by_cases c33 : x1 = 10
  · have hf := (if_pos c33).symm.trans hf
    refine lv_tableIn (tgt := 158) hx hb dX9_tryCommand_8 (by rw [c33]; decide) (by rw [c33]; decide) (by rw [c33]; rfl) (by decide) ?_
    refine lv_aload_n hx hb dX9_tryCommand_158 rfl (lv_at hl 0 rfl) ?_
    refine lv_aload_n hx hb dX9_tryCommand_159 rfl (lv_at hl 2 rfl) ?_
    refine lv_iconst (v := 0) hx hb dX9_tryCommand_160 (by decide) ?_
    obtain ⟨hi, hf⟩ := mix_e hf
    refine m_iald (g := ga2) (i := ia2) hx hb hI ho2 hn2 hi dX9_tryCommand_161 ?_
    refine lv_aload_n hx hb dX9_tryCommand_162 rfl (lv_at hl 2 rfl) ?_
    refine lv_iconst (v := 1) hx hb dX9_tryCommand_163 (by decide) ?_
    obtain ⟨hi, hf⟩ := mix_e hf
    refine m_iald (g := ga2) (i := ia2) hx hb hI ho2 hn2 hi dX9_tryCommand_164 ?_
    obtain ⟨r34, M35, hc, hf⟩ := mbnd_e hf
    refine m_callV (As := [.int (M ga2 ia2 (0 : Int32).toNatClampNeg), .int (M ga2 ia2 (1 : Int32).toNatClampNeg)]) (rest := []) hx hb hml hown hI (c_X9_tryHum l w H.size g hg (M ga2 ia2 (0 : Int32).toNatClampNeg) (M ga2 ia2 (1 : Int32).toNatClampNeg) M _ _ hc) (kb_X9_tryHum hI.T (q1350 hI.T) (Nat.le_of_ble_eq_true rfl) (Nat.le_of_ble_eq_true rfl)) (q943 hI.T) (q944 hI.T) (m_recv (g := g) (i := 0) hI (mokS hg (by decide)) rfl rfl) rfl hl.1 (Nat.le_of_ble_eq_true rfl) dX9_tryCommand_165 ⟨Nat.le_of_ble_eq_true rfl, Nat.le_of_ble_eq_true rfl⟩ (fun H locs hI => ?_)
    exact m_iretf hx hb hr hlk hI hf dX9_tryCommand_168
  have hf := (if_neg c33).symm.trans hf
  have hc2 := mne_i c2
  have hc5 := mne_i c5
  have hc8 := mne_i c8
  have hc11 := mne_i c11
  have hc14 := mne_i c14
  have hc17 := mne_i c17
  have hc21 := mne_i c21
  have hc24 := mne_i c24
  have hc30 := mne_i c30
  have hc33 := mne_i c33
  refine lv_tableOut (tgt := 169) hx hb dX9_tryCommand_8 (mout_X9_tryCommand c2 c5 c8 c11 c14 c17 c21 c24 c30 c33) (by decide) ?_
  refine lv_aload_n hx hb dX9_tryCommand_169 rfl (lv_at hl 0 rfl) ?_
  refine lv_aload_n hx hb dX9_tryCommand_170 rfl (lv_at hl 2 rfl) ?_
  refine lv_iconst (v := 0) hx hb dX9_tryCommand_171 (by decide) ?_
  obtain ⟨hi, hf⟩ := mix_e hf
  refine m_iald (g := ga2) (i := ia2) hx hb hI ho2 hn2 hi dX9_tryCommand_172 ?_
  obtain ⟨r36, M37, hc, hf⟩ := mbnd_e hf
  refine m_callV (As := [.int (M ga2 ia2 (0 : Int32).toNatClampNeg)]) (rest := []) hx hb hml hown hI (c_X9_tryHours l w H.size g hg (M ga2 ia2 (0 : Int32).toNatClampNeg) M _ _ hc) (kb_X9_tryHours hI.T (q1351 hI.T) (Nat.le_of_ble_eq_true rfl) (Nat.le_of_ble_eq_true rfl)) (q955 hI.T) (q956 hI.T) (m_recv (g := g) (i := 0) hI (mokS hg (by decide)) rfl rfl) rfl hl.1 (Nat.le_of_ble_eq_true rfl) dX9_tryCommand_173 ⟨Nat.le_of_ble_eq_true rfl, Nat.le_of_ble_eq_true rfl⟩ (fun H locs hI => ?_)
  exact m_iretf hx hb hr hlk hI hf dX9_tryCommand_176
abbrev rmX4_prepared : Room := { frames := 0, cells := 0, slots := 0, locals := 0 }
theorem kb_X4_prepared {R : Room} {s : State} {args : Array Value} {own : String} {idx : Nat} (hT : mT s) (hlink : (Cond.methodLink own idx yX4_prepared).before args s = true) (h1 : rmX4_prepared.frames + 1 ≤ R.frames) (h2 : 8 + (1 + 11) + rmX4_prepared.locals ≤ R.locals) : CallB R s args own idx yX4_prepared cX4_prepared 1 (some (.object "ShareVault$State")) [Cond.code yX4_prepared cX4_prepared 1 (some (.object "ShareVault$State"))] rmX4_prepared 0 0 0 := m_callB hT kc_X4_prepared ki_X4_prepared hlink (by decide +kernel) ⟨rfl, rfl, h1, h2⟩
set_option maxHeartbeats 4000000 in
set_option maxRecDepth 100000 in
theorem c_X4_prepared (l : Launch) (w : WD) (sz : Nat)  (M : Mem) (r : Nat) (hf : f_X4_prepared  M = some r) : mMet l yX4_prepared cX4_prepared 1 (some (.object "ShareVault$State")) rmX4_prepared w sz M [.ref (w.1 12 17)] (some (.ref (w.1 r 0))) M := by
  refine m_of (by decide) (Nat.le_of_ble_eq_true rfl) ?_
  intro p e s m args below meth c hx hb hr hml hown hlk hI ls hl
  have hl : lv_has ls 1 [(0, .ref (w.1 12 17))] := hl
  unfold f_X4_prepared at hf
  refine lv_aload_n hx hb dX4_prepared_0 rfl (lv_at hl 0 rfl) ?_
  refine m_get (g := 12) (i := 17) (ci := 3) (k := 0) (v := .ref (w.1 12 18)) hx hb hI hown (mokX (by decide) (by decide)) rfl rfl (by decide) lyX4 (q216 hI.T) rfl dX4_prepared_1 ?_
  refine lv_aload_n hx hb dX4_prepared_4 rfl (lv_at hl 0 rfl) ?_
  refine m_get (g := 12) (i := 17) (ci := 3) (k := 1) (v := .int (M 12 17 1)) hx hb hI hown (mokX (by decide) (by decide)) rfl rfl (by decide) lyX4 (q217 hI.T) rfl dX4_prepared_5 ?_
  obtain ⟨hi, hf⟩ := mix_e hf
  have hk8 := mix_lt hi
  refine m_aald (g := 12) (i := 18) (t0 := 3) (v := .ref (w.1 (1 + (M 12 17 1).toNatClampNeg) 0)) hx hb hI (mokX (by decide) (by decide)) rfl rfl rfl hi rfl dX4_prepared_8 ?_
  exact m_aretp hx hb hr hlk hI hf dX4_prepared_9
abbrev rmX11_runCommands : Room := { frames := 9, cells := 1, slots := 6, locals := 290 }
theorem kb_X11_runCommands {R : Room} {s : State} {args : Array Value} {own : String} {idx : Nat} (hT : mT s) (hlink : (Cond.methodLink own idx yX11_runCommands).before args s = true) (h1 : rmX11_runCommands.frames + 1 ≤ R.frames) (h2 : 8 + (4 + 11) + rmX11_runCommands.locals ≤ R.locals) : CallB R s args own idx yX11_runCommands cX11_runCommands 4 (some .int) [Cond.code yX11_runCommands cX11_runCommands 4 (some .int)] rmX11_runCommands 1 6 0 := m_callB hT kc_X11_runCommands ki_X11_runCommands hlink (by decide +kernel) ⟨rfl, rfl, h1, h2⟩
set_option maxHeartbeats 4000000 in
set_option maxRecDepth 100000 in
theorem c_X11_runCommands (l : Launch) (w : WD) (hsf : l.stackTraces = false) (sz : Nat)  (M : Mem) (r : (Nat ⊕ Int32)) (M9 : Mem) (hf : f_X11_runCommands  M = some (r, M9)) : mMetx l yX11_runCommands cX11_runCommands 4 (some .int) rmX11_runCommands w sz M [.ref (w.1 12 16)] (moI r) M9 1 6 := by
  refine m_ofx (by decide) (Nat.le_of_ble_eq_true rfl) ?_
  intro p e s m args below meth c hx hb hr hml hown hlk hxt hI ls hl
  have hl : lv_has ls 4 [(0, .ref (w.1 12 16))] := hl
  unfold f_X11_runCommands at hf
  refine lv_aload_n hx hb dX11_runCommands_0 rfl (lv_at hl 0 rfl) ?_
  refine m_get (g := 12) (i := 16) (ci := 9) (k := 6) (v := .ref (w.1 12 26)) hx hb hI hown (mokX (by decide) (by decide)) rfl rfl (by decide) lyX11 (q300 hI.T) rfl dX11_runCommands_1 ?_
  obtain ⟨r1, M2, hc, hf⟩ := mbnd_e hf
  refine m_callV (As := []) (rest := []) hx hb hml hown hI (c_X2_parse l w s.heap.size M _ _ hc) (kb_X2_parse hI.T (q1271 hI.T) (Nat.le_of_ble_eq_true rfl) (Nat.le_of_ble_eq_true rfl)) (q1272 hI.T) (q1273 hI.T) (m_recv (g := 12) (i := 26) hI (mokX (by decide) (by decide)) rfl rfl) rfl hl.1 (Nat.le_of_ble_eq_true rfl) dX11_runCommands_4 ⟨Nat.le_of_ble_eq_true rfl, Nat.le_of_ble_eq_true rfl⟩ (fun H locs hI => ?_)
  refine lv_istore_n (lv' := [(1, .int r1), (0, .ref (w.1 12 16))]) hx hb dX11_runCommands_7 rfl hl (by decide) rfl (fun ls hl => ?_)
  refine lv_aload_n hx hb dX11_runCommands_8 rfl (lv_at hl 1 rfl) ?_
  refine m_get (g := 12) (i := 16) (ci := 9) (k := 6) (v := .ref (w.1 12 26)) hx hb hI hown (mokX (by decide) (by decide)) rfl rfl (by decide) lyX11 (q300 hI.T) rfl dX11_runCommands_9 ?_
  obtain ⟨r3, M4, hc, hf⟩ := mbnd_e hf
  refine m_callV (As := []) (rest := []) hx hb hml hown hI (c_X2_clear l w H.size M2 _ _ hc) (kb_X2_clear hI.T (q1320 hI.T) (Nat.le_of_ble_eq_true rfl) (Nat.le_of_ble_eq_true rfl)) (q1321 hI.T) (q1322 hI.T) (m_recv (g := 12) (i := 26) hI (mokX (by decide) (by decide)) rfl rfl) rfl hl.1 (Nat.le_of_ble_eq_true rfl) dX11_runCommands_12 ⟨Nat.le_of_ble_eq_true rfl, Nat.le_of_ble_eq_true rfl⟩ (fun H locs hI => ?_)
  refine lv_iload_n hx hb dX11_runCommands_15 rfl (lv_at hl 0 rfl) ?_
  refine lv_iconst (v := (-1)) hx hb dX11_runCommands_16 (by decide) ?_
  refine lv_icmp_eq (tgt := 36) hx hb dX11_runCommands_17 (by decide) (fun c5 => ?_) (fun c5 => ?_)
  · have hf := (if_pos c5).symm.trans hf
    refine lv_aload_n hx hb dX11_runCommands_36 rfl (lv_at hl 1 rfl) ?_
    refine m_get (g := 12) (i := 16) (ci := 9) (k := 1) (v := .ref (w.1 12 17)) hx hb hI hown (mokX (by decide) (by decide)) rfl rfl (by decide) lyX11 (q295 hI.T) rfl dX11_runCommands_37 ?_
    refine lv_aload_n hx hb dX11_runCommands_40 rfl (lv_at hl 1 rfl) ?_
    refine m_get (g := 12) (i := 16) (ci := 9) (k := 0) (v := .ref (w.1 0 0)) hx hb hI hown (mokX (by decide) (by decide)) rfl rfl (by decide) lyX11 (q294 hI.T) rfl dX11_runCommands_41 ?_
    obtain ⟨r6, M7, hc, hf⟩ := mbnd_e hf
    refine m_callV (As := [.ref (w.1 0 0)]) (rest := []) hx hb hml hown hI (c_X4_prepare l w H.size 0 (by decide) M4 _ _ hc) (kb_X4_prepare hI.T (q724 hI.T) (Nat.le_of_ble_eq_true rfl) (Nat.le_of_ble_eq_true rfl)) (q725 hI.T) (q726 hI.T) (m_recv (g := 12) (i := 17) hI (mokX (by decide) (by decide)) rfl rfl) rfl hl.1 (Nat.le_of_ble_eq_true rfl) dX11_runCommands_44 ⟨Nat.le_of_ble_eq_true rfl, Nat.le_of_ble_eq_true rfl⟩ (fun H locs hI => ?_)
    refine lv_iconst (v := 0) hx hb dX11_runCommands_47 (by decide) ?_
    refine lv_istore_n (lv' := [(2, .int (0 : Int32)), (1, .int r1), (0, .ref (w.1 12 16))]) hx hb dX11_runCommands_48 rfl hl (by decide) rfl (fun ls hl => ?_)
    have hL49 : ∀ (n : Nat) (x8 : Int32) (M10 : Mem) (kk : Mem → Option ((Nat ⊕ Int32) × Mem)) (H : Heap) (locs : List Loc) (ls : Array Slot), f_X11_runCommands_L49 n x8 M10 kk = some (r, M9) → mI w s (mA w s.heap.size) H locs M10 → lv_has ls 4 [(0, .ref (w.1 12 16)), (2, .int x8)] → (∀  (M10 : Mem) (H : Heap) (locs : List Loc) (ls : Array Slot), kk M10 = some (r, M9) → mI w s (mA w s.heap.size) H locs M10 → lv_has ls 4 [(0, .ref (w.1 12 16))] → W p l e rmX11_runCommands s m args below meth c H locs 0 0 (vx_MQ below (mQx w s.heap.size (moI r) M9) (mXx w s.heap.size (moI r) M9) args s 1 6 (mA w s.heap.size)) (F0 m 138 ls [])) → W p l e rmX11_runCommands s m args below meth c H locs 0 0 (vx_MQ below (mQx w s.heap.size (moI r) M9) (mXx w s.heap.size (moI r) M9) args s 1 6 (mA w s.heap.size)) (F0 m 49 ls []) := by
      intro n
      induction n with
      | zero => intro x8 M10 kk H locs ls hf hI hl hk; rw [f_X11_runCommands_L49.eq_1] at hf; cases hf
      | succ n ih49 =>
        intro x8 M10 kk H locs ls hf hI hl hk
        rw [f_X11_runCommands_L49.eq_2] at hf
        refine lv_iload_n hx hb dX11_runCommands_49 rfl (lv_at hl 1 rfl) ?_
        refine lv_aload_n hx hb dX11_runCommands_50 rfl (lv_at hl 0 rfl) ?_
        refine m_get (g := 12) (i := 16) (ci := 9) (k := 6) (v := .ref (w.1 12 26)) hx hb hI hown (mokX (by decide) (by decide)) rfl rfl (by decide) lyX11 (q300 hI.T) rfl dX11_runCommands_51 ?_
        refine m_get (g := 12) (i := 26) (ci := 1) (k := 3) (v := .int (M10 12 26 3)) hx hb hI hown (mokX (by decide) (by decide)) rfl rfl (by decide) lyX2 (q261 hI.T) rfl dX11_runCommands_54 ?_
        refine lv_icmp_ge (tgt := 138) hx hb dX11_runCommands_57 (by decide) (fun c11 => ?_) (fun c11 => ?_)
        · have hf := (if_pos c11).symm.trans hf
          exact hk M10 H _ _ hf hI (lv_sub hl [0] rfl)
        · have hf := (if_neg c11).symm.trans hf
          refine lv_aload_n hx hb dX11_runCommands_60 rfl (lv_at hl 0 rfl) ?_
          refine m_get (g := 12) (i := 16) (ci := 9) (k := 0) (v := .ref (w.1 0 0)) hx hb hI hown (mokX (by decide) (by decide)) rfl rfl (by decide) lyX11 (q294 hI.T) rfl dX11_runCommands_61 ?_
          refine lv_aload_n hx hb dX11_runCommands_64 rfl (lv_at hl 0 rfl) ?_
          refine m_get (g := 12) (i := 16) (ci := 9) (k := 6) (v := .ref (w.1 12 26)) hx hb hI hown (mokX (by decide) (by decide)) rfl rfl (by decide) lyX11 (q300 hI.T) rfl dX11_runCommands_65 ?_
          refine m_get (g := 12) (i := 26) (ci := 1) (k := 4) (v := .ref (w.1 12 28)) hx hb hI hown (mokX (by decide) (by decide)) rfl rfl (by decide) lyX2 (q263 hI.T) rfl dX11_runCommands_68 ?_
          refine lv_iload_n hx hb dX11_runCommands_71 rfl (lv_at hl 1 rfl) ?_
          obtain ⟨hi, hf⟩ := mix_e hf
          obtain ⟨o12, eo12, hwo12, hf⟩ := mwd_e hf
          refine m_aald (g := 12) (i := 28) (t0 := 5) (v := .ref (w.2.2.2 0 o12)) hx hb hI (mokX (by decide) (by decide)) rfl rfl rfl hi eo12 dX11_runCommands_72 ?_
          refine lv_aload_n hx hb dX11_runCommands_73 rfl (lv_at hl 0 rfl) ?_
          refine m_get (g := 12) (i := 16) (ci := 9) (k := 6) (v := .ref (w.1 12 26)) hx hb hI hown (mokX (by decide) (by decide)) rfl rfl (by decide) lyX11 (q300 hI.T) rfl dX11_runCommands_74 ?_
          refine m_get (g := 12) (i := 26) (ci := 1) (k := 5) (v := .ref (w.1 12 29)) hx hb hI hown (mokX (by decide) (by decide)) rfl rfl (by decide) lyX2 (q265 hI.T) rfl dX11_runCommands_77 ?_
          refine lv_iload_n hx hb dX11_runCommands_80 rfl (lv_at hl 1 rfl) ?_
          obtain ⟨hi, hf⟩ := mix_e hf
          have hk81 := mix_lt hi
          refine m_aald (g := 12) (i := 29) (t0 := 4) (v := .ref (w.1 12 (30 + x8.toNatClampNeg))) hx hb hI (mokX (by decide) (by decide)) rfl rfl rfl hi rfl dX11_runCommands_81 ?_
          obtain ⟨r13, M14, hc, hf⟩ := mbnd_e hf
          refine m_callV (As := [.ref (w.2.2.2 0 o12), .ref (w.1 12 (30 + x8.toNatClampNeg))]) (rest := []) hx hb hml hown hI (c_X9_tryCommand l w H.size 0 (by decide) o12 hwo12 12 (30 + x8.toNatClampNeg) (mok_nu hk81) (mil_nu hk81) M10 _ _ hc) (kb_X9_tryCommand hI.T (q1325 hI.T) (Nat.le_of_ble_eq_true rfl) (Nat.le_of_ble_eq_true rfl)) (q1326 hI.T) (q1327 hI.T) (m_recv (g := 0) (i := 0) hI (mokS (by decide) (by decide)) rfl rfl) rfl hl.1 (Nat.le_of_ble_eq_true rfl) dX11_runCommands_82 ⟨Nat.le_of_ble_eq_true rfl, Nat.le_of_ble_eq_true rfl⟩ (fun H locs hI => ?_)
          refine lv_istore_n (lv' := [(3, .int r13), (0, .ref (w.1 12 16)), (2, .int x8)]) hx hb dX11_runCommands_85 rfl hl (by decide) rfl (fun ls hl => ?_)
          refine lv_iload_n hx hb dX11_runCommands_86 rfl (lv_at hl 0 rfl) ?_
          refine lv_if_eq (tgt := 132) hx hb dX11_runCommands_87 (by decide) (fun c15 => ?_) (fun c15 => ?_)
          · have hf := (if_pos c15).symm.trans hf
            obtain ⟨x16, ex16, hf⟩ := mlet_e hf
            refine lv_iinc (v := x16) (lv' := [(2, .int x16), (3, .int r13), (0, .ref (w.1 12 16))]) hx hb dX11_runCommands_132 hl (k := 2) rfl (by rw [ex16]; rfl) (by decide) rfl (fun ls hl => ?_)
            refine lv_goto (tgt := 49) hx hb dX11_runCommands_135 (by decide) ?_
            exact ih49 x16 M14 kk H _ _ hf hI (lv_sub hl [2, 0] rfl) hk
          · have hf := (if_neg c15).symm.trans hf
            refine lv_aload_n hx hb dX11_runCommands_90 rfl (lv_at hl 1 rfl) ?_
            refine m_get (g := 12) (i := 16) (ci := 9) (k := 0) (v := .ref (w.1 0 0)) hx hb hI hown (mokX (by decide) (by decide)) rfl rfl (by decide) lyX11 (q294 hI.T) rfl dX11_runCommands_91 ?_
            refine lv_aload_n hx hb dX11_runCommands_94 rfl (lv_at hl 1 rfl) ?_
            refine m_get (g := 12) (i := 16) (ci := 9) (k := 1) (v := .ref (w.1 12 17)) hx hb hI hown (mokX (by decide) (by decide)) rfl rfl (by decide) lyX11 (q295 hI.T) rfl dX11_runCommands_95 ?_
            obtain ⟨r17, hc, hf⟩ := mbp_e hf
            refine m_callV (As := []) (rest := [.ref (w.1 0 0)]) hx hb hml hown hI (c_X4_prepared l w H.size M14 _ hc) (kb_X4_prepared hI.T (q1352 hI.T) (Nat.le_of_ble_eq_true rfl) (Nat.le_of_ble_eq_true rfl)) (q1353 hI.T) (q1354 hI.T) (m_recv (g := 12) (i := 17) hI (mokX (by decide) (by decide)) rfl rfl) rfl hl.1 (Nat.le_of_ble_eq_true rfl) dX11_runCommands_98 ⟨Nat.le_of_ble_eq_true rfl, Nat.le_of_ble_eq_true rfl⟩ (fun H locs hI => ?_)
            have hg18 := b_X4_prepared hc
            obtain ⟨r19, M20, hc, hf⟩ := mbnd_e hf
            refine m_callV (As := [.ref (w.1 r17 0)]) (rest := []) hx hb hml hown hI (c_X9_copyFrom l w H.size 0 (by decide) r17 hg18 M14 _ _ hc) (kb_X9_copyFrom hI.T (q1356 hI.T) (Nat.le_of_ble_eq_true rfl) (Nat.le_of_ble_eq_true rfl)) (q729 hI.T) (q730 hI.T) (m_recv (g := 0) (i := 0) hI (mokS (by decide) (by decide)) rfl rfl) rfl hl.1 (Nat.le_of_ble_eq_true rfl) dX11_runCommands_101 ⟨Nat.le_of_ble_eq_true rfl, Nat.le_of_ble_eq_true rfl⟩ (fun H locs hI => ?_)
            refine lv_aload_n hx hb dX11_runCommands_104 rfl (lv_at hl 1 rfl) ?_
            refine lv_bipush (v := 11) hx hb dX11_runCommands_105 (by decide) ?_
            refine lv_iload_n hx hb dX11_runCommands_107 rfl (lv_at hl 2 rfl) ?_
            refine lv_iload_n hx hb dX11_runCommands_108 rfl (lv_at hl 0 rfl) ?_
            obtain ⟨k118_23, ek118_23, hf⟩ := mlet_e hf
            have hj118_23 : ∀ (x22 : Int32) (H : Heap) (locs : List Loc) (ls : Array Slot), k118_23 x22 = some (r, M9) → mI w s (mA w s.heap.size) H locs M20 → lv_has ls 4 [] → W p l e rmX11_runCommands s m args below meth c H locs 0 0 (vx_MQ below (mQx w s.heap.size (moI r) M9) (mXx w s.heap.size (moI r) M9) args s 1 6 (mA w s.heap.size)) (F0 m 118 ls [.int x22, .int x8, .int (11 : Int32), .ref (w.1 12 16)]) := by
              intro x22 H locs ls hf hI hl
              rw [ek118_23] at hf
              try dsimp only at hf
              obtain ⟨r24, M25, hc, hf⟩ := mbnd_e hf
              refine m_callV (As := [.int (11 : Int32), .int x8, .int x22]) (rest := []) hx hb hml hown hI (c_X11_keepRefusal l w H.size (11 : Int32) x8 x22 M20 _ _ hc) (kb_X11_keepRefusal hI.T (q767 hI.T) (Nat.le_of_ble_eq_true rfl) (Nat.le_of_ble_eq_true rfl)) (q769 hI.T) (sel_X11_keepRefusal hI.T) (m_recv (g := 12) (i := 16) hI (mokX (by decide) (by decide)) rfl rfl) rfl hl.1 (Nat.le_of_ble_eq_true rfl) dX11_runCommands_118 ⟨Nat.le_of_ble_eq_true rfl, Nat.le_of_ble_eq_true rfl⟩ (fun H locs hI => ?_)
              exact m_throwW (n := 3) (ix := 7) hx hb hsf hown hI rfl (q771 hI.T) (q20 hI.T) (m_thw_3_X11_353 hI) hl.1 hml dX11_runCommands_121 dX11_runCommands_124 dX11_runCommands_125 dX11_runCommands_128 dX11_runCommands_131 hxt (Nat.le_of_ble_eq_true rfl) (Nat.le_of_ble_eq_true rfl) (Nat.le_of_ble_eq_true rfl) (Nat.le_of_ble_eq_true rfl) hlk hf (Nat.le_of_ble_eq_true rfl) (Nat.le_of_ble_eq_true rfl)
            refine lv_if_le (tgt := 116) hx hb dX11_runCommands_109 (by decide) (fun c21 => ?_) (fun c21 => ?_)
            · have hf := (if_pos c21).symm.trans hf
              refine lv_bipush (v := 12) hx hb dX11_runCommands_116 (by decide) ?_
              exact hj118_23 (12 : Int32) H _ _ hf hI (lv_sub hl [] rfl)
            · have hf := (if_neg c21).symm.trans hf
              refine lv_iload_n hx hb dX11_runCommands_112 rfl (lv_at hl 0 rfl) ?_
              refine lv_goto (tgt := 118) hx hb dX11_runCommands_113 (by decide) ?_
              exact hj118_23 r13 H _ _ hf hI (lv_sub hl [] rfl)
    refine hL49 1000 (0 : Int32) M7 _ _ _ _ hf hI (lv_sub hl [2, 0] rfl) ?_
    intro M26 H locs ls hf hI hl
    try dsimp only at hf
    refine lv_aload_n hx hb dX11_runCommands_138 rfl (lv_at hl 0 rfl) ?_
    refine m_get (g := 12) (i := 16) (ci := 9) (k := 1) (v := .ref (w.1 12 17)) hx hb hI hown (mokX (by decide) (by decide)) rfl rfl (by decide) lyX11 (q295 hI.T) rfl dX11_runCommands_139 ?_
    obtain ⟨r27, M28, hc, hf⟩ := mbnd_e hf
    refine m_callV (As := []) (rest := []) hx hb hml hown hI (c_X4_keep l w H.size M26 _ _ hc) (kb_X4_keep hI.T (q787 hI.T) (Nat.le_of_ble_eq_true rfl) (Nat.le_of_ble_eq_true rfl)) (q788 hI.T) (q789 hI.T) (m_recv (g := 12) (i := 17) hI (mokX (by decide) (by decide)) rfl rfl) rfl hl.1 (Nat.le_of_ble_eq_true rfl) dX11_runCommands_142 ⟨Nat.le_of_ble_eq_true rfl, Nat.le_of_ble_eq_true rfl⟩ (fun H locs hI => ?_)
    refine lv_aload_n hx hb dX11_runCommands_145 rfl (lv_at hl 0 rfl) ?_
    refine m_get (g := 12) (i := 16) (ci := 9) (k := 6) (v := .ref (w.1 12 26)) hx hb hI hown (mokX (by decide) (by decide)) rfl rfl (by decide) lyX11 (q300 hI.T) rfl dX11_runCommands_146 ?_
    refine m_get (g := 12) (i := 26) (ci := 1) (k := 3) (v := .int (M28 12 26 3)) hx hb hI hown (mokX (by decide) (by decide)) rfl rfl (by decide) lyX2 (q261 hI.T) rfl dX11_runCommands_149 ?_
    exact m_iretx hx hb hr hlk hI hf dX11_runCommands_152 (Nat.le_of_ble_eq_true rfl) (Nat.le_of_ble_eq_true rfl)
  · have hf := (if_neg c5).symm.trans hf
    refine lv_aload_n hx hb dX11_runCommands_20 rfl (lv_at hl 1 rfl) ?_
    refine lv_iload_n hx hb dX11_runCommands_21 rfl (lv_at hl 0 rfl) ?_
    obtain ⟨M29, eM29, hf⟩ := mlet_e hf
    refine m_put (g := 12) (i := 16) (ci := 9) (k := 11) (ty := .int) (M1 := M29) hx hb hI hown (mokX (by decide) (by decide)) rfl rfl (by decide) lyX11 tyX11 tyX11_ok nmX11 (q305 hI.T) rfl rfl rfl rfl (Nat.le_of_ble_eq_true rfl) rfl eM29 dX11_runCommands_22 (fun H locs hI => ?_)
    exact m_throwW (n := 2) (ix := 6) hx hb hsf hown hI rfl (q589 hI.T) (q18 hI.T) (m_thw_2_X11_175 hI) hl.1 hml dX11_runCommands_25 dX11_runCommands_28 dX11_runCommands_29 dX11_runCommands_32 dX11_runCommands_35 hxt (Nat.le_of_ble_eq_true rfl) (Nat.le_of_ble_eq_true rfl) (Nat.le_of_ble_eq_true rfl) (Nat.le_of_ble_eq_true rfl) hlk hf (Nat.le_of_ble_eq_true rfl) (Nat.le_of_ble_eq_true rfl)
abbrev rmX11_undoCount : Room := { frames := 0, cells := 0, slots := 0, locals := 0 }
theorem kb_X11_undoCount {R : Room} {s : State} {args : Array Value} {own : String} {idx : Nat} (hT : mT s) (hlink : (Cond.methodLink own idx yX11_undoCount).before args s = true) (h1 : rmX11_undoCount.frames + 1 ≤ R.frames) (h2 : 8 + (1 + 11) + rmX11_undoCount.locals ≤ R.locals) : CallB R s args own idx yX11_undoCount cX11_undoCount 1 (some .int) [Cond.code yX11_undoCount cX11_undoCount 1 (some .int)] rmX11_undoCount 0 0 0 := m_callB hT kc_X11_undoCount ki_X11_undoCount hlink (by decide +kernel) ⟨rfl, rfl, h1, h2⟩
set_option maxHeartbeats 4000000 in
set_option maxRecDepth 100000 in
theorem c_X11_undoCount (l : Launch) (w : WD) (sz : Nat)  (M : Mem) (r : Int32) (hf : f_X11_undoCount  M = some r) : mMet l yX11_undoCount cX11_undoCount 1 (some .int) rmX11_undoCount w sz M [.ref (w.1 12 16)] (some (.int r)) M := by
  refine m_of (by decide) (Nat.le_of_ble_eq_true rfl) ?_
  intro p e s m args below meth c hx hb hr hml hown hlk hI ls hl
  have hl : lv_has ls 1 [(0, .ref (w.1 12 16))] := hl
  unfold f_X11_undoCount at hf
  refine lv_aload_n hx hb dX11_undoCount_0 rfl (lv_at hl 0 rfl) ?_
  refine m_get (g := 12) (i := 16) (ci := 9) (k := 1) (v := .ref (w.1 12 17)) hx hb hI hown (mokX (by decide) (by decide)) rfl rfl (by decide) lyX11 (q295 hI.T) rfl dX11_undoCount_1 ?_
  refine m_get (g := 12) (i := 17) (ci := 3) (k := 2) (v := .int (M 12 17 2)) hx hb hI hown (mokX (by decide) (by decide)) rfl rfl (by decide) lyX4 (q219 hI.T) rfl dX11_undoCount_4 ?_
  exact m_iretp hx hb hr hlk hI hf dX11_undoCount_7
abbrev rmX4_takeLatest : Room := { frames := 0, cells := 0, slots := 0, locals := 0 }
theorem kb_X4_takeLatest {R : Room} {s : State} {args : Array Value} {own : String} {idx : Nat} (hT : mT s) (hlink : (Cond.methodLink own idx yX4_takeLatest).before args s = true) (h1 : rmX4_takeLatest.frames + 1 ≤ R.frames) (h2 : 8 + (1 + 11) + rmX4_takeLatest.locals ≤ R.locals) : CallB R s args own idx yX4_takeLatest cX4_takeLatest 1 (some (.object "ShareVault$State")) [Cond.code yX4_takeLatest cX4_takeLatest 1 (some (.object "ShareVault$State"))] rmX4_takeLatest 0 0 0 := m_callB hT kc_X4_takeLatest ki_X4_takeLatest hlink (by decide +kernel) ⟨rfl, rfl, h1, h2⟩
set_option maxHeartbeats 4000000 in
set_option maxRecDepth 100000 in
theorem c_X4_takeLatest (l : Launch) (w : WD) (sz : Nat)  (M : Mem) (r : Nat) (M9 : Mem) (hf : f_X4_takeLatest  M = some (r, M9)) : mMet l yX4_takeLatest cX4_takeLatest 1 (some (.object "ShareVault$State")) rmX4_takeLatest w sz M [.ref (w.1 12 17)] (some (.ref (w.1 r 0))) M9 := by
  refine m_of (by decide) (Nat.le_of_ble_eq_true rfl) ?_
  intro p e s m args below meth c hx hb hr hml hown hlk hI ls hl
  have hl : lv_has ls 1 [(0, .ref (w.1 12 17))] := hl
  unfold f_X4_takeLatest at hf
  refine lv_aload_n hx hb dX4_takeLatest_0 rfl (lv_at hl 0 rfl) ?_
  refine lv_aload_n hx hb dX4_takeLatest_1 rfl (lv_at hl 0 rfl) ?_
  refine m_get (g := 12) (i := 17) (ci := 3) (k := 1) (v := .int (M 12 17 1)) hx hb hI hown (mokX (by decide) (by decide)) rfl rfl (by decide) lyX4 (q217 hI.T) rfl dX4_takeLatest_2 ?_
  refine lv_bipush (v := 9) hx hb dX4_takeLatest_5 (by decide) ?_
  refine lv_iadd hx hb dX4_takeLatest_7 ?_
  refine lv_iconst (v := 1) hx hb dX4_takeLatest_8 (by decide) ?_
  refine lv_isub hx hb dX4_takeLatest_9 ?_
  refine lv_bipush (v := 9) hx hb dX4_takeLatest_10 (by decide) ?_
  refine lv_irem hx hb dX4_takeLatest_12 (by decide) ?_
  obtain ⟨M1, eM1, hf⟩ := mlet_e hf
  refine m_put (g := 12) (i := 17) (ci := 3) (k := 1) (ty := .int) (M1 := M1) hx hb hI hown (mokX (by decide) (by decide)) rfl rfl (by decide) lyX4 tyX4 tyX4_ok nmX4 (q217 hI.T) rfl rfl rfl rfl (Nat.le_of_ble_eq_true rfl) rfl eM1 dX4_takeLatest_13 (fun H locs hI => ?_)
  refine lv_aload_n hx hb dX4_takeLatest_16 rfl (lv_at hl 0 rfl) ?_
  refine lv_dup hx hb dX4_takeLatest_17 rfl ?_
  refine m_get (g := 12) (i := 17) (ci := 3) (k := 2) (v := .int (M1 12 17 2)) hx hb hI hown (mokX (by decide) (by decide)) rfl rfl (by decide) lyX4 (q218 hI.T) rfl dX4_takeLatest_18 ?_
  refine lv_iconst (v := 1) hx hb dX4_takeLatest_21 (by decide) ?_
  refine lv_isub hx hb dX4_takeLatest_22 ?_
  obtain ⟨M2, eM2, hf⟩ := mlet_e hf
  refine m_put (g := 12) (i := 17) (ci := 3) (k := 2) (ty := .int) (M1 := M2) hx hb hI hown (mokX (by decide) (by decide)) rfl rfl (by decide) lyX4 tyX4 tyX4_ok nmX4 (q218 hI.T) rfl rfl rfl rfl (Nat.le_of_ble_eq_true rfl) rfl eM2 dX4_takeLatest_23 (fun H locs hI => ?_)
  refine lv_aload_n hx hb dX4_takeLatest_26 rfl (lv_at hl 0 rfl) ?_
  refine m_get (g := 12) (i := 17) (ci := 3) (k := 0) (v := .ref (w.1 12 18)) hx hb hI hown (mokX (by decide) (by decide)) rfl rfl (by decide) lyX4 (q216 hI.T) rfl dX4_takeLatest_27 ?_
  refine lv_aload_n hx hb dX4_takeLatest_30 rfl (lv_at hl 0 rfl) ?_
  refine m_get (g := 12) (i := 17) (ci := 3) (k := 1) (v := .int (M2 12 17 1)) hx hb hI hown (mokX (by decide) (by decide)) rfl rfl (by decide) lyX4 (q217 hI.T) rfl dX4_takeLatest_31 ?_
  obtain ⟨hi, hf⟩ := mix_e hf
  have hk34 := mix_lt hi
  refine m_aald (g := 12) (i := 18) (t0 := 3) (v := .ref (w.1 (1 + (M2 12 17 1).toNatClampNeg) 0)) hx hb hI (mokX (by decide) (by decide)) rfl rfl rfl hi rfl dX4_takeLatest_34 ?_
  exact m_aretf hx hb hr hlk hI hf dX4_takeLatest_35
abbrev rmX11_undo : Room := { frames := 8, cells := 1, slots := 6, locals := 140 }
theorem kb_X11_undo {R : Room} {s : State} {args : Array Value} {own : String} {idx : Nat} (hT : mT s) (hlink : (Cond.methodLink own idx yX11_undo).before args s = true) (h1 : rmX11_undo.frames + 1 ≤ R.frames) (h2 : 8 + (1 + 11) + rmX11_undo.locals ≤ R.locals) : CallB R s args own idx yX11_undo cX11_undo 1 (some .int) [Cond.code yX11_undo cX11_undo 1 (some .int)] rmX11_undo 1 6 0 := m_callB hT kc_X11_undo ki_X11_undo hlink (by decide +kernel) ⟨rfl, rfl, h1, h2⟩
set_option maxHeartbeats 4000000 in
set_option maxRecDepth 100000 in
theorem c_X11_undo (l : Launch) (w : WD) (hsf : l.stackTraces = false) (sz : Nat)  (M : Mem) (r : (Nat ⊕ Int32)) (M9 : Mem) (hf : f_X11_undo  M = some (r, M9)) : mMetx l yX11_undo cX11_undo 1 (some .int) rmX11_undo w sz M [.ref (w.1 12 16)] (moI r) M9 1 6 := by
  refine m_ofx (by decide) (Nat.le_of_ble_eq_true rfl) ?_
  intro p e s m args below meth c hx hb hr hml hown hlk hxt hI ls hl
  have hl : lv_has ls 1 [(0, .ref (w.1 12 16))] := hl
  unfold f_X11_undo at hf
  refine lv_aload_n hx hb dX11_undo_0 rfl (lv_at hl 0 rfl) ?_
  refine m_get (g := 12) (i := 16) (ci := 9) (k := 1) (v := .ref (w.1 12 17)) hx hb hI hown (mokX (by decide) (by decide)) rfl rfl (by decide) lyX11 (q295 hI.T) rfl dX11_undo_1 ?_
  refine m_get (g := 12) (i := 17) (ci := 3) (k := 2) (v := .int (M 12 17 2)) hx hb hI hown (mokX (by decide) (by decide)) rfl rfl (by decide) lyX4 (q219 hI.T) rfl dX11_undo_4 ?_
  refine lv_if_ne (tgt := 21) hx hb dX11_undo_7 (by decide) (fun c1 => ?_) (fun c1 => ?_)
  · have hf := (if_neg c1).symm.trans hf
    refine lv_aload_n hx hb dX11_undo_21 rfl (lv_at hl 0 rfl) ?_
    refine m_get (g := 12) (i := 16) (ci := 9) (k := 0) (v := .ref (w.1 0 0)) hx hb hI hown (mokX (by decide) (by decide)) rfl rfl (by decide) lyX11 (q294 hI.T) rfl dX11_undo_22 ?_
    refine lv_aload_n hx hb dX11_undo_25 rfl (lv_at hl 0 rfl) ?_
    refine m_get (g := 12) (i := 16) (ci := 9) (k := 1) (v := .ref (w.1 12 17)) hx hb hI hown (mokX (by decide) (by decide)) rfl rfl (by decide) lyX11 (q295 hI.T) rfl dX11_undo_26 ?_
    obtain ⟨r2, M3, hc, hf⟩ := mbnd_e hf
    refine m_callV (As := []) (rest := [.ref (w.1 0 0)]) hx hb hml hown hI (c_X4_takeLatest l w s.heap.size M _ _ hc) (kb_X4_takeLatest hI.T (q1593 hI.T) (Nat.le_of_ble_eq_true rfl) (Nat.le_of_ble_eq_true rfl)) (q1594 hI.T) (q1595 hI.T) (m_recv (g := 12) (i := 17) hI (mokX (by decide) (by decide)) rfl rfl) rfl hl.1 (Nat.le_of_ble_eq_true rfl) dX11_undo_29 ⟨Nat.le_of_ble_eq_true rfl, Nat.le_of_ble_eq_true rfl⟩ (fun H locs hI => ?_)
    have hg4 := b_X4_takeLatest hc
    obtain ⟨r5, M6, hc, hf⟩ := mbnd_e hf
    refine m_callV (As := [.ref (w.1 r2 0)]) (rest := []) hx hb hml hown hI (c_X9_copyFrom l w H.size 0 (by decide) r2 hg4 M3 _ _ hc) (kb_X9_copyFrom hI.T (q1356 hI.T) (Nat.le_of_ble_eq_true rfl) (Nat.le_of_ble_eq_true rfl)) (q729 hI.T) (q730 hI.T) (m_recv (g := 0) (i := 0) hI (mokS (by decide) (by decide)) rfl rfl) rfl hl.1 (Nat.le_of_ble_eq_true rfl) dX11_undo_32 ⟨Nat.le_of_ble_eq_true rfl, Nat.le_of_ble_eq_true rfl⟩ (fun H locs hI => ?_)
    refine lv_aload_n hx hb dX11_undo_35 rfl (lv_at hl 0 rfl) ?_
    refine m_get (g := 12) (i := 16) (ci := 9) (k := 1) (v := .ref (w.1 12 17)) hx hb hI hown (mokX (by decide) (by decide)) rfl rfl (by decide) lyX11 (q295 hI.T) rfl dX11_undo_36 ?_
    refine m_get (g := 12) (i := 17) (ci := 3) (k := 2) (v := .int (M6 12 17 2)) hx hb hI hown (mokX (by decide) (by decide)) rfl rfl (by decide) lyX4 (q219 hI.T) rfl dX11_undo_39 ?_
    exact m_iretx hx hb hr hlk hI hf dX11_undo_42 (Nat.le_of_ble_eq_true rfl) (Nat.le_of_ble_eq_true rfl)
  · have hf := (if_pos c1).symm.trans hf
    exact m_throwW (n := 5) (ix := 8) hx hb hsf hown hI rfl (q1244 hI.T) (q31 hI.T) (m_thw_5_X11_313 hI) hl.1 hml dX11_undo_10 dX11_undo_13 dX11_undo_14 dX11_undo_17 dX11_undo_20 hxt (Nat.le_of_ble_eq_true rfl) (Nat.le_of_ble_eq_true rfl) (Nat.le_of_ble_eq_true rfl) (Nat.le_of_ble_eq_true rfl) hlk hf (Nat.le_of_ble_eq_true rfl) (Nat.le_of_ble_eq_true rfl)
abbrev rmX11_save : Room := { frames := 3, cells := 0, slots := 0, locals := 83 }
theorem kb_X11_save {R : Room} {s : State} {args : Array Value} {own : String} {idx : Nat} (hT : mT s) (hlink : (Cond.methodLink own idx yX11_save).before args s = true) (h1 : rmX11_save.frames + 1 ≤ R.frames) (h2 : 8 + (1 + 11) + rmX11_save.locals ≤ R.locals) : CallB R s args own idx yX11_save cX11_save 1 (some .int) [Cond.code yX11_save cX11_save 1 (some .int)] rmX11_save 0 0 0 := m_callB hT kc_X11_save ki_X11_save hlink (by decide +kernel) ⟨rfl, rfl, h1, h2⟩
set_option maxHeartbeats 4000000 in
set_option maxRecDepth 100000 in
theorem c_X11_save (l : Launch) (w : WD) (sz : Nat)  (M : Mem) (r : Int32) (M9 : Mem) (hf : f_X11_save  M = some (r, M9)) : mMet l yX11_save cX11_save 1 (some .int) rmX11_save w sz M [.ref (w.1 12 16)] (some (.int r)) M9 := by
  refine m_of (by decide) (Nat.le_of_ble_eq_true rfl) ?_
  intro p e s m args below meth c hx hb hr hml hown hlk hI ls hl
  have hl : lv_has ls 1 [(0, .ref (w.1 12 16))] := hl
  unfold f_X11_save at hf
  refine lv_aload_n hx hb dX11_save_0 rfl (lv_at hl 0 rfl) ?_
  refine m_get (g := 12) (i := 16) (ci := 9) (k := 2) (v := .ref (w.1 10 0)) hx hb hI hown (mokX (by decide) (by decide)) rfl rfl (by decide) lyX11 (q296 hI.T) rfl dX11_save_1 ?_
  refine lv_aload_n hx hb dX11_save_4 rfl (lv_at hl 0 rfl) ?_
  refine m_get (g := 12) (i := 16) (ci := 9) (k := 0) (v := .ref (w.1 0 0)) hx hb hI hown (mokX (by decide) (by decide)) rfl rfl (by decide) lyX11 (q294 hI.T) rfl dX11_save_5 ?_
  obtain ⟨r1, M2, hc, hf⟩ := mbnd_e hf
  refine m_callV (As := [.ref (w.1 0 0)]) (rest := []) hx hb hml hown hI (c_X9_copyFrom l w s.heap.size 10 (by decide) 0 (by decide) M _ _ hc) (kb_X9_copyFrom hI.T (q1356 hI.T) (Nat.le_of_ble_eq_true rfl) (Nat.le_of_ble_eq_true rfl)) (q729 hI.T) (q730 hI.T) (m_recv (g := 10) (i := 0) hI (mokS (by decide) (by decide)) rfl rfl) rfl hl.1 (Nat.le_of_ble_eq_true rfl) dX11_save_8 ⟨Nat.le_of_ble_eq_true rfl, Nat.le_of_ble_eq_true rfl⟩ (fun H locs hI => ?_)
  refine lv_aload_n hx hb dX11_save_11 rfl (lv_at hl 0 rfl) ?_
  refine lv_iconst (v := 1) hx hb dX11_save_12 (by decide) ?_
  obtain ⟨M3, eM3, hf⟩ := mlet_e hf
  refine m_put (g := 12) (i := 16) (ci := 9) (k := 3) (ty := .boolean) (M1 := M3) hx hb hI hown (mokX (by decide) (by decide)) rfl rfl (by decide) lyX11 tyX11 tyX11_ok nmX11 (q297 hI.T) rfl rfl rfl rfl (Nat.le_of_ble_eq_true rfl) rfl eM3 dX11_save_13 (fun H locs hI => ?_)
  refine lv_aload_n hx hb dX11_save_16 rfl (lv_at hl 0 rfl) ?_
  refine m_get (g := 12) (i := 16) (ci := 9) (k := 0) (v := .ref (w.1 0 0)) hx hb hI hown (mokX (by decide) (by decide)) rfl rfl (by decide) lyX11 (q294 hI.T) rfl dX11_save_17 ?_
  refine m_get (g := 0) (i := 0) (ci := 8) (k := 0) (v := .ref (w.1 0 1)) hx hb hI hown (mokS (by decide) (by decide)) rfl rfl (by decide) lyX9 (q187 hI.T) rfl dX11_save_20 ?_
  refine m_get (g := 0) (i := 1) (ci := 5) (k := 0) (v := .int (M3 0 1 0)) hx hb hI hown (mokS (by decide) (by decide)) rfl rfl (by decide) lyX6 (q56 hI.T) rfl dX11_save_23 ?_
  exact m_iretf hx hb hr hlk hI hf dX11_save_26
abbrev rmX4_clear : Room := { frames := 0, cells := 0, slots := 0, locals := 0 }
theorem kb_X4_clear {R : Room} {s : State} {args : Array Value} {own : String} {idx : Nat} (hT : mT s) (hlink : (Cond.methodLink own idx yX4_clear).before args s = true) (h1 : rmX4_clear.frames + 1 ≤ R.frames) (h2 : 8 + (1 + 11) + rmX4_clear.locals ≤ R.locals) : CallB R s args own idx yX4_clear cX4_clear 1 (none) [Cond.code yX4_clear cX4_clear 1 (none)] rmX4_clear 0 0 0 := m_callB hT kc_X4_clear ki_X4_clear hlink (by decide +kernel) ⟨rfl, rfl, h1, h2⟩
set_option maxHeartbeats 4000000 in
set_option maxRecDepth 100000 in
theorem c_X4_clear (l : Launch) (w : WD) (sz : Nat)  (M : Mem) (r : Unit) (M9 : Mem) (hf : f_X4_clear  M = some (r, M9)) : mMet l yX4_clear cX4_clear 1 (none) rmX4_clear w sz M [.ref (w.1 12 17)] none M9 := by
  refine m_of (by decide) (Nat.le_of_ble_eq_true rfl) ?_
  intro p e s m args below meth c hx hb hr hml hown hlk hI ls hl
  have hl : lv_has ls 1 [(0, .ref (w.1 12 17))] := hl
  unfold f_X4_clear at hf
  refine lv_aload_n hx hb dX4_clear_0 rfl (lv_at hl 0 rfl) ?_
  refine lv_iconst (v := 0) hx hb dX4_clear_1 (by decide) ?_
  obtain ⟨M1, eM1, hf⟩ := mlet_e hf
  refine m_put (g := 12) (i := 17) (ci := 3) (k := 2) (ty := .int) (M1 := M1) hx hb hI hown (mokX (by decide) (by decide)) rfl rfl (by decide) lyX4 tyX4 tyX4_ok nmX4 (q218 hI.T) rfl rfl rfl rfl (Nat.le_of_ble_eq_true rfl) rfl eM1 dX4_clear_2 (fun H locs hI => ?_)
  exact m_vretf hx hb hr hlk hI hf dX4_clear_5
abbrev rmX11_restore : Room := { frames := 8, cells := 1, slots := 6, locals := 140 }
theorem kb_X11_restore {R : Room} {s : State} {args : Array Value} {own : String} {idx : Nat} (hT : mT s) (hlink : (Cond.methodLink own idx yX11_restore).before args s = true) (h1 : rmX11_restore.frames + 1 ≤ R.frames) (h2 : 8 + (1 + 11) + rmX11_restore.locals ≤ R.locals) : CallB R s args own idx yX11_restore cX11_restore 1 (some .int) [Cond.code yX11_restore cX11_restore 1 (some .int)] rmX11_restore 1 6 0 := m_callB hT kc_X11_restore ki_X11_restore hlink (by decide +kernel) ⟨rfl, rfl, h1, h2⟩
set_option maxHeartbeats 4000000 in
set_option maxRecDepth 100000 in
theorem c_X11_restore (l : Launch) (w : WD) (hsf : l.stackTraces = false) (sz : Nat)  (M : Mem) (r : (Nat ⊕ Int32)) (M9 : Mem) (hf : f_X11_restore  M = some (r, M9)) : mMetx l yX11_restore cX11_restore 1 (some .int) rmX11_restore w sz M [.ref (w.1 12 16)] (moI r) M9 1 6 := by
  refine m_ofx (by decide) (Nat.le_of_ble_eq_true rfl) ?_
  intro p e s m args below meth c hx hb hr hml hown hlk hxt hI ls hl
  have hl : lv_has ls 1 [(0, .ref (w.1 12 16))] := hl
  unfold f_X11_restore at hf
  refine lv_aload_n hx hb dX11_restore_0 rfl (lv_at hl 0 rfl) ?_
  refine m_get (g := 12) (i := 16) (ci := 9) (k := 3) (v := .int (M 12 16 3)) hx hb hI hown (mokX (by decide) (by decide)) rfl rfl (by decide) lyX11 (q297 hI.T) rfl dX11_restore_1 ?_
  refine lv_if_ne (tgt := 18) hx hb dX11_restore_4 (by decide) (fun c1 => ?_) (fun c1 => ?_)
  · have hf := (if_neg c1).symm.trans hf
    refine lv_aload_n hx hb dX11_restore_18 rfl (lv_at hl 0 rfl) ?_
    refine m_get (g := 12) (i := 16) (ci := 9) (k := 0) (v := .ref (w.1 0 0)) hx hb hI hown (mokX (by decide) (by decide)) rfl rfl (by decide) lyX11 (q294 hI.T) rfl dX11_restore_19 ?_
    refine lv_aload_n hx hb dX11_restore_22 rfl (lv_at hl 0 rfl) ?_
    refine m_get (g := 12) (i := 16) (ci := 9) (k := 2) (v := .ref (w.1 10 0)) hx hb hI hown (mokX (by decide) (by decide)) rfl rfl (by decide) lyX11 (q296 hI.T) rfl dX11_restore_23 ?_
    obtain ⟨r2, M3, hc, hf⟩ := mbnd_e hf
    refine m_callV (As := [.ref (w.1 10 0)]) (rest := []) hx hb hml hown hI (c_X9_copyFrom l w s.heap.size 0 (by decide) 10 (by decide) M _ _ hc) (kb_X9_copyFrom hI.T (q1356 hI.T) (Nat.le_of_ble_eq_true rfl) (Nat.le_of_ble_eq_true rfl)) (q729 hI.T) (q730 hI.T) (m_recv (g := 0) (i := 0) hI (mokS (by decide) (by decide)) rfl rfl) rfl hl.1 (Nat.le_of_ble_eq_true rfl) dX11_restore_26 ⟨Nat.le_of_ble_eq_true rfl, Nat.le_of_ble_eq_true rfl⟩ (fun H locs hI => ?_)
    refine lv_aload_n hx hb dX11_restore_29 rfl (lv_at hl 0 rfl) ?_
    refine m_get (g := 12) (i := 16) (ci := 9) (k := 1) (v := .ref (w.1 12 17)) hx hb hI hown (mokX (by decide) (by decide)) rfl rfl (by decide) lyX11 (q295 hI.T) rfl dX11_restore_30 ?_
    obtain ⟨r4, M5, hc, hf⟩ := mbnd_e hf
    refine m_callV (As := []) (rest := []) hx hb hml hown hI (c_X4_clear l w H.size M3 _ _ hc) (kb_X4_clear hI.T (q1605 hI.T) (Nat.le_of_ble_eq_true rfl) (Nat.le_of_ble_eq_true rfl)) (q1606 hI.T) (q1607 hI.T) (m_recv (g := 12) (i := 17) hI (mokX (by decide) (by decide)) rfl rfl) rfl hl.1 (Nat.le_of_ble_eq_true rfl) dX11_restore_33 ⟨Nat.le_of_ble_eq_true rfl, Nat.le_of_ble_eq_true rfl⟩ (fun H locs hI => ?_)
    refine lv_aload_n hx hb dX11_restore_36 rfl (lv_at hl 0 rfl) ?_
    refine m_get (g := 12) (i := 16) (ci := 9) (k := 0) (v := .ref (w.1 0 0)) hx hb hI hown (mokX (by decide) (by decide)) rfl rfl (by decide) lyX11 (q294 hI.T) rfl dX11_restore_37 ?_
    refine m_get (g := 0) (i := 0) (ci := 8) (k := 0) (v := .ref (w.1 0 1)) hx hb hI hown (mokS (by decide) (by decide)) rfl rfl (by decide) lyX9 (q187 hI.T) rfl dX11_restore_40 ?_
    refine m_get (g := 0) (i := 1) (ci := 5) (k := 0) (v := .int (M5 0 1 0)) hx hb hI hown (mokS (by decide) (by decide)) rfl rfl (by decide) lyX6 (q56 hI.T) rfl dX11_restore_43 ?_
    exact m_iretx hx hb hr hlk hI hf dX11_restore_46 (Nat.le_of_ble_eq_true rfl) (Nat.le_of_ble_eq_true rfl)
  · have hf := (if_pos c1).symm.trans hf
    exact m_throwW (n := 5) (ix := 9) hx hb hsf hown hI rfl (q1244 hI.T) (q31 hI.T) (m_thw_5_X11_313 hI) hl.1 hml dX11_restore_7 dX11_restore_10 dX11_restore_11 dX11_restore_14 dX11_restore_17 hxt (Nat.le_of_ble_eq_true rfl) (Nat.le_of_ble_eq_true rfl) (Nat.le_of_ble_eq_true rfl) (Nat.le_of_ble_eq_true rfl) hlk hf (Nat.le_of_ble_eq_true rfl) (Nat.le_of_ble_eq_true rfl)
