abbrev rmX11_save : Room := { frames := 3, cells := 0, slots := 0, locals := 83 }
theorem kb_X11_save {R : Room} {s : State} {args : Array Value} {own : String} {idx : Nat} (hT : mT s) (hlink : (Cond.methodLink own idx yX11_save).before args s = true) (h1 : rmX11_save.frames + 1 ≤ R.frames) (h2 : 8 + (1 + 11) + rmX11_save.locals ≤ R.locals) : CallB R s args own idx yX11_save cX11_save 1 (some .int) [Cond.code yX11_save cX11_save 1 (some .int)] rmX11_save 0 0 0 := m_callB hT kc_X11_save ki_X11_save hlink (by decide +kernel) ⟨rfl, rfl, h1, h2⟩
set_option maxHeartbeats 4000000 in
set_option maxRecDepth 100000 in
theorem c_X11_save (l : Launch) (w : WD) (sz : Nat)  (M : Mem) (r : Int32) (M9 : Mem) (hf : f_X11_save  M = some (r, M9)) : mMet l yX11_save cX11_save 1 (some .int) rmX11_save w sz M [.ref (w.1 12 16)] (some (.int r)) M9 := by
  refine m_of (by decide) (Nat.le_of_ble_eq_true rfl) ?_
  intro p e s m args below meth c hx hb hr hml hown hlk hI ls hl
  have hl : lv_has ls 1 [(0, .ref (w.1 12 16))] := hl
  unfold f_X11_save at hf
  refine lv_aload_n hx hb dX11_save_0 rfl (lv_at hl 0 rfl) ?_
  refine m_get (g := 12) (i := 16) (ci := 9) (k := 2) (v := .ref (w.1 10 0)) hx hb hI hown (mokX (by decide) (by decide)) rfl rfl (by decide) lyX11 (q295 hI.T) rfl dX11_save_1 ?_
  refine lv_aload_n hx hb dX11_save_4 rfl (lv_at hl 0 rfl) ?_
  refine m_get (g := 12) (i := 16) (ci := 9) (k := 0) (v := .ref (w.1 0 0)) hx hb hI hown (mokX (by decide) (by decide)) rfl rfl (by decide) lyX11 (q293 hI.T) rfl dX11_save_5 ?_
  obtain ⟨r1, M2, hc, hf⟩ := mbnd_e hf
  refine m_callV (As := [.ref (w.1 0 0)]) (rest := []) hx hb hml hown hI (c_X9_copyFrom l w s.heap.size 10 (by decide) 0 (by decide) M _ _ hc) (kb_X9_copyFrom hI.T (q540 hI.T) (Nat.le_of_ble_eq_true rfl) (Nat.le_of_ble_eq_true rfl)) (q541 hI.T) (q542 hI.T) (m_recv (g := 10) (i := 0) hI (mokS (by decide) (by decide)) rfl rfl) rfl hl.1 (Nat.le_of_ble_eq_true rfl) dX11_save_8 ⟨Nat.le_of_ble_eq_true rfl, Nat.le_of_ble_eq_true rfl⟩ (fun H locs hI => ?_)
  refine lv_aload_n hx hb dX11_save_11 rfl (lv_at hl 0 rfl) ?_
  refine lv_iconst (v := 1) hx hb dX11_save_12 (by decide) ?_
  obtain ⟨M3, eM3, hf⟩ := mlet_e hf
  refine m_put (g := 12) (i := 16) (ci := 9) (k := 3) (ty := .boolean) (M1 := M3) hx hb hI hown (mokX (by decide) (by decide)) rfl rfl (by decide) lyX11 tyX11 tyX11_ok nmX11 (q296 hI.T) rfl rfl rfl rfl (Nat.le_of_ble_eq_true rfl) rfl eM3 dX11_save_13 (fun H locs hI => ?_)
  refine lv_aload_n hx hb dX11_save_16 rfl (lv_at hl 0 rfl) ?_
  refine m_get (g := 12) (i := 16) (ci := 9) (k := 0) (v := .ref (w.1 0 0)) hx hb hI hown (mokX (by decide) (by decide)) rfl rfl (by decide) lyX11 (q293 hI.T) rfl dX11_save_17 ?_
  refine m_get (g := 0) (i := 0) (ci := 8) (k := 0) (v := .ref (w.1 0 1)) hx hb hI hown (mokS (by decide) (by decide)) rfl rfl (by decide) lyX9 (q183 hI.T) rfl dX11_save_20 ?_
  refine m_get (g := 0) (i := 1) (ci := 5) (k := 0) (v := .int (M3 0 1 0)) hx hb hI hown (mokS (by decide) (by decide)) rfl rfl (by decide) lyX6 (q52 hI.T) rfl dX11_save_23 ?_
  exact m_iretf hx hb hr hlk hI hf dX11_save_26
abbrev rmX4_clear : Room := { frames := 0, cells := 0, slots := 0, locals := 0 }
theorem kb_X4_clear {R : Room} {s : State} {args : Array Value} {own : String} {idx : Nat} (hT : mT s) (hlink : (Cond.methodLink own idx yX4_clear).before args s = true) (h1 : rmX4_clear.frames + 1 ≤ R.frames) (h2 : 8 + (1 + 11) + rmX4_clear.locals ≤ R.locals) : CallB R s args own idx yX4_clear cX4_clear 1 (none) [Cond.code yX4_clear cX4_clear 1 (none)] rmX4_clear 0 0 0 := m_callB hT kc_X4_clear ki_X4_clear hlink (by decide +kernel) ⟨rfl, rfl, h1, h2⟩
set_option maxHeartbeats 4000000 in
set_option maxRecDepth 100000 in
theorem c_X4_clear (l : Launch) (w : WD) (sz : Nat)  (M : Mem) (r : Unit) (M9 : Mem) (hf : f_X4_clear  M = some (r, M9)) : mMet l yX4_clear cX4_clear 1 (none) rmX4_clear w sz M [.ref (w.1 12 17)] none M9 := by
  refine m_of (by decide) (Nat.le_of_ble_eq_true rfl) ?_
  intro p e s m args below meth c hx hb hr hml hown hlk hI ls hl
  have hl : lv_has ls 1 [(0, .ref (w.1 12 17))] := hl
  unfold f_X4_clear at hf
  refine lv_aload_n hx hb dX4_clear_0 rfl (lv_at hl 0 rfl) ?_
  refine lv_iconst (v := 0) hx hb dX4_clear_1 (by decide) ?_
  obtain ⟨M1, eM1, hf⟩ := mlet_e hf
  refine m_put (g := 12) (i := 17) (ci := 3) (k := 2) (ty := .int) (M1 := M1) hx hb hI hown (mokX (by decide) (by decide)) rfl rfl (by decide) lyX4 tyX4 tyX4_ok nmX4 (q214 hI.T) rfl rfl rfl rfl (Nat.le_of_ble_eq_true rfl) rfl eM1 dX4_clear_2 (fun H locs hI => ?_)
  exact m_vretf hx hb hr hlk hI hf dX4_clear_5
abbrev rmX11_restore : Room := { frames := 8, cells := 1, slots := 6, locals := 140 }
theorem kb_X11_restore {R : Room} {s : State} {args : Array Value} {own : String} {idx : Nat} (hT : mT s) (hlink : (Cond.methodLink own idx yX11_restore).before args s = true) (h1 : rmX11_restore.frames + 1 ≤ R.frames) (h2 : 8 + (1 + 11) + rmX11_restore.locals ≤ R.locals) : CallB R s args own idx yX11_restore cX11_restore 1 (some .int) [Cond.code yX11_restore cX11_restore 1 (some .int)] rmX11_restore 1 6 0 := m_callB hT kc_X11_restore ki_X11_restore hlink (by decide +kernel) ⟨rfl, rfl, h1, h2⟩
set_option maxHeartbeats 4000000 in
set_option maxRecDepth 100000 in
theorem c_X11_restore (l : Launch) (w : WD) (hsf : l.stackTraces = false) (sz : Nat)  (M : Mem) (r : (Nat ⊕ Int32)) (M9 : Mem) (hf : f_X11_restore  M = some (r, M9)) : mMetx l yX11_restore cX11_restore 1 (some .int) rmX11_restore w sz M [.ref (w.1 12 16)] (moI r) M9 1 6 := by
  refine m_ofx (by decide) (Nat.le_of_ble_eq_true rfl) ?_
  intro p e s m args below meth c hx hb hr hml hown hlk hxt hI ls hl
  have hl : lv_has ls 1 [(0, .ref (w.1 12 16))] := hl
  unfold f_X11_restore at hf
  refine lv_aload_n hx hb dX11_restore_0 rfl (lv_at hl 0 rfl) ?_
  refine m_get (g := 12) (i := 16) (ci := 9) (k := 3) (v := .int (M 12 16 3)) hx hb hI hown (mokX (by decide) (by decide)) rfl rfl (by decide) lyX11 (q296 hI.T) rfl dX11_restore_1 ?_
  refine lv_if_ne (tgt := 18) hx hb dX11_restore_4 (by decide) (fun c1 => ?_) (fun c1 => ?_)
  · have hf := (if_neg c1).symm.trans hf
    refine lv_aload_n hx hb dX11_restore_18 rfl (lv_at hl 0 rfl) ?_
    refine m_get (g := 12) (i := 16) (ci := 9) (k := 0) (v := .ref (w.1 0 0)) hx hb hI hown (mokX (by decide) (by decide)) rfl rfl (by decide) lyX11 (q293 hI.T) rfl dX11_restore_19 ?_
    refine lv_aload_n hx hb dX11_restore_22 rfl (lv_at hl 0 rfl) ?_
    refine m_get (g := 12) (i := 16) (ci := 9) (k := 2) (v := .ref (w.1 10 0)) hx hb hI hown (mokX (by decide) (by decide)) rfl rfl (by decide) lyX11 (q295 hI.T) rfl dX11_restore_23 ?_
    obtain ⟨r2, M3, hc, hf⟩ := mbnd_e hf
    refine m_callV (As := [.ref (w.1 10 0)]) (rest := []) hx hb hml hown hI (c_X9_copyFrom l w s.heap.size 0 (by decide) 10 (by decide) M _ _ hc) (kb_X9_copyFrom hI.T (q540 hI.T) (Nat.le_of_ble_eq_true rfl) (Nat.le_of_ble_eq_true rfl)) (q541 hI.T) (q542 hI.T) (m_recv (g := 0) (i := 0) hI (mokS (by decide) (by decide)) rfl rfl) rfl hl.1 (Nat.le_of_ble_eq_true rfl) dX11_restore_26 ⟨Nat.le_of_ble_eq_true rfl, Nat.le_of_ble_eq_true rfl⟩ (fun H locs hI => ?_)
    refine lv_aload_n hx hb dX11_restore_29 rfl (lv_at hl 0 rfl) ?_
    refine m_get (g := 12) (i := 16) (ci := 9) (k := 1) (v := .ref (w.1 12 17)) hx hb hI hown (mokX (by decide) (by decide)) rfl rfl (by decide) lyX11 (q294 hI.T) rfl dX11_restore_30 ?_
    obtain ⟨r4, M5, hc, hf⟩ := mbnd_e hf
    refine m_callV (As := []) (rest := []) hx hb hml hown hI (c_X4_clear l w H.size M3 _ _ hc) (kb_X4_clear hI.T (q1416 hI.T) (Nat.le_of_ble_eq_true rfl) (Nat.le_of_ble_eq_true rfl)) (q1417 hI.T) (q1418 hI.T) (m_recv (g := 12) (i := 17) hI (mokX (by decide) (by decide)) rfl rfl) rfl hl.1 (Nat.le_of_ble_eq_true rfl) dX11_restore_33 ⟨Nat.le_of_ble_eq_true rfl, Nat.le_of_ble_eq_true rfl⟩ (fun H locs hI => ?_)
    refine lv_aload_n hx hb dX11_restore_36 rfl (lv_at hl 0 rfl) ?_
    refine m_get (g := 12) (i := 16) (ci := 9) (k := 0) (v := .ref (w.1 0 0)) hx hb hI hown (mokX (by decide) (by decide)) rfl rfl (by decide) lyX11 (q293 hI.T) rfl dX11_restore_37 ?_
    refine m_get (g := 0) (i := 0) (ci := 8) (k := 0) (v := .ref (w.1 0 1)) hx hb hI hown (mokS (by decide) (by decide)) rfl rfl (by decide) lyX9 (q183 hI.T) rfl dX11_restore_40 ?_
    refine m_get (g := 0) (i := 1) (ci := 5) (k := 0) (v := .int (M5 0 1 0)) hx hb hI hown (mokS (by decide) (by decide)) rfl rfl (by decide) lyX6 (q52 hI.T) rfl dX11_restore_43 ?_
    exact m_iretx hx hb hr hlk hI hf dX11_restore_46 (Nat.le_of_ble_eq_true rfl) (Nat.le_of_ble_eq_true rfl)
  · have hf := (if_pos c1).symm.trans hf
    exact m_throwW (n := 5) (ix := 12) hx hb hsf hown hI rfl (q1221 hI.T) (q25 hI.T) (m_thw_5_X11_313 hI) hl.1 hml dX11_restore_7 dX11_restore_10 dX11_restore_11 dX11_restore_14 dX11_restore_17 hxt (Nat.le_of_ble_eq_true rfl) (Nat.le_of_ble_eq_true rfl) (Nat.le_of_ble_eq_true rfl) (Nat.le_of_ble_eq_true rfl) hlk hf (Nat.le_of_ble_eq_true rfl) (Nat.le_of_ble_eq_true rfl)
abbrev rmX12_thrown : Room := { frames := 0, cells := 0, slots := 0, locals := 0 }
theorem kb_X12_thrown {R : Room} {s : State} {args : Array Value} {own : String} {idx : Nat} (hT : mT s) (hlink : (Cond.methodLink own idx yX12_thrown).before args s = true) (h1 : rmX12_thrown.frames + 1 ≤ R.frames) (h2 : 8 + (1 + 11) + rmX12_thrown.locals ≤ R.locals) : CallB R s args own idx yX12_thrown cX12_thrown 1 (some .int) [Cond.code yX12_thrown cX12_thrown 1 (some .int)] rmX12_thrown 0 0 0 := m_callB hT kc_X12_thrown ki_X12_thrown hlink (by decide +kernel) ⟨rfl, rfl, h1, h2⟩
set_option maxHeartbeats 4000000 in
set_option maxRecDepth 100000 in
theorem c_X12_thrown (l : Launch) (w : WD) (sz : Nat)  (M : Mem) (r : Int32) (hf : f_X12_thrown  M = some r) : mMet l yX12_thrown cX12_thrown 1 (some .int) rmX12_thrown w sz M [.ref (w.1 12 47)] (some (.int r)) M := by
  refine m_of (by decide) (Nat.le_of_ble_eq_true rfl) ?_
  intro p e s m args below meth c hx hb hr hml hown hlk hI ls hl
  have hl : lv_has ls 1 [(0, .ref (w.1 12 47))] := hl
  unfold f_X12_thrown at hf
  refine lv_aload_n hx hb dX12_thrown_0 rfl (lv_at hl 0 rfl) ?_
  refine m_get (g := 12) (i := 47) (ci := 10) (k := 0) (v := .int (M 12 47 0)) hx hb hI hown (mokX (by decide) (by decide)) rfl rfl (by decide) lyX12 (q1426 hI.T) rfl dX12_thrown_1 ?_
  exact m_iretp hx hb hr hlk hI hf dX12_thrown_4
abbrev rmX12_fails : Room := { frames := 0, cells := 0, slots := 0, locals := 0 }
theorem kb_X12_fails {R : Room} {s : State} {args : Array Value} {own : String} {idx : Nat} (hT : mT s) (hlink : (Cond.methodLink own idx yX12_fails).before args s = true) (h1 : rmX12_fails.frames + 1 ≤ R.frames) (h2 : 8 + (2 + 11) + rmX12_fails.locals ≤ R.locals) : CallB R s args own idx yX12_fails cX12_fails 2 (some .int) [Cond.code yX12_fails cX12_fails 2 (some .int)] rmX12_fails 0 0 1 := m_callB hT kc_X12_fails ki_X12_fails hlink (by decide +kernel) ⟨rfl, rfl, h1, h2⟩
set_option maxHeartbeats 4000000 in
set_option maxRecDepth 100000 in
theorem c_X12_fails (l : Launch) (w : WD) (sz : Nat) (a1 : Int32) (M : Mem) (r : Int32) (M9 : Mem) (hf : f_X12_fails a1 M = some (r, M9)) : mMet l yX12_fails cX12_fails 2 (some .int) rmX12_fails w sz M [.ref (w.1 12 47), .int a1] (some (.int r)) M9 := by
  refine m_of (by decide) (Nat.le_of_ble_eq_true rfl) ?_
  intro p e s m args below meth c hx hb hr hml hown hlk hI ls hl
  have hl : lv_has ls 2 [(0, .ref (w.1 12 47)), (1, .int a1)] := hl
  unfold f_X12_fails at hf
  refine lv_aload_n hx hb dX12_fails_0 rfl (lv_at hl 0 rfl) ?_
  refine lv_iload_n hx hb dX12_fails_1 rfl (lv_at hl 1 rfl) ?_
  obtain ⟨M1, eM1, hf⟩ := mlet_e hf
  refine m_put (g := 12) (i := 47) (ci := 10) (k := 0) (ty := .int) (M1 := M1) hx hb hI hown (mokX (by decide) (by decide)) rfl rfl (by decide) lyX12 tyX12 tyX12_ok nmX12 (q1426 hI.T) rfl rfl rfl rfl (Nat.le_of_ble_eq_true rfl) rfl eM1 dX12_fails_2 (fun H locs hI => ?_)
  refine lv_iconst (v := 0) hx hb dX12_fails_5 (by decide) ?_
  exact m_iretf hx hb hr hlk hI hf dX12_fails_6
abbrev rmX12_in : Room := { frames := 0, cells := 0, slots := 0, locals := 0 }
theorem kb_X12_in {R : Room} {s : State} {args : Array Value} {own : String} {idx : Nat} (hT : mT s) (hlink : (Cond.methodLink own idx yX12_in).before args s = true) (h1 : rmX12_in.frames + 1 ≤ R.frames) (h2 : 8 + (3 + 11) + rmX12_in.locals ≤ R.locals) : CallB R s args own idx yX12_in cX12_in 3 (some .boolean) [Cond.code yX12_in cX12_in 3 (some .boolean)] rmX12_in 0 0 3 := m_callB hT kc_X12_in ki_X12_in hlink (by decide +kernel) ⟨rfl, rfl, h1, h2⟩
set_option maxHeartbeats 4000000 in
set_option maxRecDepth 100000 in
theorem c_X12_in (l : Launch) (w : WD) (sz : Nat) (a1 : Int32) (a2 : Int32) (a3 : Int32) (M : Mem) (r : Int32) (hf : f_X12_in a1 a2 a3 M = some r) : mMet l yX12_in cX12_in 3 (some .boolean) rmX12_in w sz M [.int a1, .int a2, .int a3] (some (.int r)) M := by
  refine m_of (by decide) (Nat.le_of_ble_eq_true rfl) ?_
  intro p e s m args below meth c hx hb hr hml hown hlk hI ls hl
  have hl : lv_has ls 3 [(0, .int a1), (1, .int a2), (2, .int a3)] := hl
  unfold f_X12_in at hf
  refine lv_iload_n hx hb dX12_in_0 rfl (lv_at hl 0 rfl) ?_
  refine lv_iload_n hx hb dX12_in_1 rfl (lv_at hl 1 rfl) ?_
  refine lv_icmp_lt (tgt := 14) hx hb dX12_in_2 (by decide) (fun c1 => ?_) (fun c1 => ?_)
  · have hf := (if_pos c1).symm.trans hf
    refine lv_iconst (v := 0) hx hb dX12_in_14 (by decide) ?_
    exact m_zretp hx hb hr hlk hI rfl hf dX12_in_15
  · have hf := (if_neg c1).symm.trans hf
    refine lv_iload_n hx hb dX12_in_5 rfl (lv_at hl 0 rfl) ?_
    refine lv_iload_n hx hb dX12_in_6 rfl (lv_at hl 2 rfl) ?_
    refine lv_icmp_gt (tgt := 14) hx hb dX12_in_7 (by decide) (fun c2 => ?_) (fun c2 => ?_)
    · have hf := (if_pos c2).symm.trans hf
      refine lv_iconst (v := 0) hx hb dX12_in_14 (by decide) ?_
      exact m_zretp hx hb hr hlk hI rfl hf dX12_in_15
    · have hf := (if_neg c2).symm.trans hf
      refine lv_iconst (v := 1) hx hb dX12_in_10 (by decide) ?_
      refine lv_goto (tgt := 15) hx hb dX12_in_11 (by decide) ?_
      exact m_zretp hx hb hr hlk hI rfl hf dX12_in_15
abbrev rmX12_remembers : Room := { frames := 0, cells := 0, slots := 0, locals := 0 }
theorem kb_X12_remembers {R : Room} {s : State} {args : Array Value} {own : String} {idx : Nat} (hT : mT s) (hlink : (Cond.methodLink own idx yX12_remembers).before args s = true) (h1 : rmX12_remembers.frames + 1 ≤ R.frames) (h2 : 8 + (2 + 11) + rmX12_remembers.locals ≤ R.locals) : CallB R s args own idx yX12_remembers cX12_remembers 2 (none) [Cond.code yX12_remembers cX12_remembers 2 (none)] rmX12_remembers 0 0 0 := m_callB hT kc_X12_remembers ki_X12_remembers hlink (by decide +kernel) ⟨rfl, rfl, h1, h2⟩
set_option maxHeartbeats 4000000 in
set_option maxRecDepth 100000 in
theorem c_X12_remembers (l : Launch) (w : WD) (sz : Nat)  (M : Mem) (r : Unit) (M9 : Mem) (hf : f_X12_remembers  M = some (r, M9)) : mMet l yX12_remembers cX12_remembers 2 (none) rmX12_remembers w sz M [.ref (w.1 12 47)] none M9 := by
  refine m_of (by decide) (Nat.le_of_ble_eq_true rfl) ?_
  intro p e s m args below meth c hx hb hr hml hown hlk hI ls hl
  have hl : lv_has ls 2 [(0, .ref (w.1 12 47))] := hl
  unfold f_X12_remembers at hf
  refine lv_aload_n hx hb dX12_remembers_0 rfl (lv_at hl 0 rfl) ?_
  refine lv_iconst (v := 0) hx hb dX12_remembers_1 (by decide) ?_
  obtain ⟨M1, eM1, hf⟩ := mlet_e hf
  refine m_put (g := 12) (i := 47) (ci := 10) (k := 0) (ty := .int) (M1 := M1) hx hb hI hown (mokX (by decide) (by decide)) rfl rfl (by decide) lyX12 tyX12 tyX12_ok nmX12 (q1426 hI.T) rfl rfl rfl rfl (Nat.le_of_ble_eq_true rfl) rfl eM1 dX12_remembers_2 (fun H locs hI => ?_)
  refine lv_iconst (v := 0) hx hb dX12_remembers_5 (by decide) ?_
  refine lv_istore_n (lv' := [(1, .int (0 : Int32)), (0, .ref (w.1 12 47))]) hx hb dX12_remembers_6 rfl hl (by decide) rfl (fun ls hl => ?_)
  have hL7 : ∀ (n : Nat) (x2 : Int32) (M3 : Mem) (kk : Mem → Option (Unit × Mem)) (H : Heap) (locs : List Loc) (ls : Array Slot), f_X12_remembers_L7 n x2 M3 kk = some (r, M9) → mI w s (mA w s.heap.size) H locs M3 → lv_has ls 2 [(0, .ref (w.1 12 47)), (1, .int x2)] → (∀  (M3 : Mem) (H : Heap) (locs : List Loc) (ls : Array Slot), kk M3 = some (r, M9) → mI w s (mA w s.heap.size) H locs M3 → lv_has ls 2 [] → W p l e rmX12_remembers s m args below meth c H locs 0 0 (MQ below (mQ w s.heap.size none M9) args s 0 0 (mA w s.heap.size)) (F0 m 31 ls [])) → W p l e rmX12_remembers s m args below meth c H locs 0 0 (MQ below (mQ w s.heap.size none M9) args s 0 0 (mA w s.heap.size)) (F0 m 7 ls []) := by
    intro n
    induction n with
    | zero => intro x2 M3 kk H locs ls hf hI hl hk; rw [f_X12_remembers_L7.eq_1] at hf; cases hf
    | succ n ih7 =>
      intro x2 M3 kk H locs ls hf hI hl hk
      rw [f_X12_remembers_L7.eq_2] at hf
      refine lv_iload_n hx hb dX12_remembers_7 rfl (lv_at hl 1 rfl) ?_
      refine lv_bipush (v := 92) hx hb dX12_remembers_8 (by decide) ?_
      refine lv_icmp_ge (tgt := 31) hx hb dX12_remembers_10 (by decide) (fun c4 => ?_) (fun c4 => ?_)
      · have hf := (if_pos c4).symm.trans hf
        exact hk M3 H _ _ hf hI (lv_sub hl [] rfl)
      · have hf := (if_neg c4).symm.trans hf
        refine lv_aload_n hx hb dX12_remembers_13 rfl (lv_at hl 0 rfl) ?_
        refine m_get (g := 12) (i := 47) (ci := 10) (k := 2) (v := .ref (w.1 12 49)) hx hb hI hown (mokX (by decide) (by decide)) rfl rfl (by decide) lyX12 (q1428 hI.T) rfl dX12_remembers_14 ?_
        refine lv_iload_n hx hb dX12_remembers_17 rfl (lv_at hl 1 rfl) ?_
        refine lv_aload_n hx hb dX12_remembers_18 rfl (lv_at hl 0 rfl) ?_
        refine m_get (g := 12) (i := 47) (ci := 10) (k := 1) (v := .ref (w.1 12 48)) hx hb hI hown (mokX (by decide) (by decide)) rfl rfl (by decide) lyX12 (q1427 hI.T) rfl dX12_remembers_19 ?_
        refine lv_iload_n hx hb dX12_remembers_22 rfl (lv_at hl 1 rfl) ?_
        obtain ⟨hi, hf⟩ := mix_e hf
        refine m_iald (g := 12) (i := 48) hx hb hI (mokX (by decide) (by decide)) rfl hi dX12_remembers_23 ?_
        obtain ⟨hi, hf⟩ := mix_e hf
        obtain ⟨M5, eM5, hf⟩ := mlet_e hf
        refine m_iast (g := 12) (i := 49) (M1 := M5) hx hb hI (mokX (by decide) (by decide)) rfl hi eM5 dX12_remembers_24 (fun H locs hI => ?_)
        obtain ⟨x6, ex6, hf⟩ := mlet_e hf
        refine lv_iinc (v := x6) (lv' := [(1, .int x6), (0, .ref (w.1 12 47))]) hx hb dX12_remembers_25 hl (k := 1) rfl (by rw [ex6]; rfl) (by decide) rfl (fun ls hl => ?_)
        refine lv_goto (tgt := 7) hx hb dX12_remembers_28 (by decide) ?_
        exact ih7 x6 M5 kk H _ _ hf hI (lv_sub hl [1, 0] rfl) hk
  refine hL7 1000 (0 : Int32) M1 _ _ _ _ hf hI (lv_sub hl [1, 0] rfl) ?_
  intro M7 H locs ls hf hI hl
  try dsimp only at hf
  exact m_vretf hx hb hr hlk hI hf dX12_remembers_31
abbrev rmX12_changed : Room := { frames := 0, cells := 0, slots := 0, locals := 0 }
theorem kb_X12_changed {R : Room} {s : State} {args : Array Value} {own : String} {idx : Nat} (hT : mT s) (hlink : (Cond.methodLink own idx yX12_changed).before args s = true) (h1 : rmX12_changed.frames + 1 ≤ R.frames) (h2 : 8 + (3 + 11) + rmX12_changed.locals ≤ R.locals) : CallB R s args own idx yX12_changed cX12_changed 3 (some .int) [Cond.code yX12_changed cX12_changed 3 (some .int)] rmX12_changed 0 0 1 := m_callB hT kc_X12_changed ki_X12_changed hlink (by decide +kernel) ⟨rfl, rfl, h1, h2⟩
set_option maxHeartbeats 4000000 in
set_option maxRecDepth 100000 in
theorem c_X12_changed (l : Launch) (w : WD) (sz : Nat) (a1 : Int32) (M : Mem) (r : Int32) (M9 : Mem) (hf : f_X12_changed a1 M = some (r, M9)) : mMet l yX12_changed cX12_changed 3 (some .int) rmX12_changed w sz M [.ref (w.1 12 47), .int a1] (some (.int r)) M9 := by
  refine m_of (by decide) (Nat.le_of_ble_eq_true rfl) ?_
  intro p e s m args below meth c hx hb hr hml hown hlk hI ls hl
  have hl : lv_has ls 3 [(0, .ref (w.1 12 47)), (1, .int a1)] := hl
  unfold f_X12_changed at hf
  refine lv_aload_n hx hb dX12_changed_0 rfl (lv_at hl 0 rfl) ?_
  refine m_get (g := 12) (i := 47) (ci := 10) (k := 6) (v := .int (M 12 47 6)) hx hb hI hown (mokX (by decide) (by decide)) rfl rfl (by decide) lyX12 (q1432 hI.T) rfl dX12_changed_1 ?_
  refine lv_bipush (v := 8) hx hb dX12_changed_4 (by decide) ?_
  obtain ⟨k52_11, ek52_11, hf⟩ := mlet_e hf
  have hj52_11 : ∀ (M10 : Mem) (H : Heap) (locs : List Loc) (ls : Array Slot), k52_11 M10 = some (r, M9) → mI w s (mA w s.heap.size) H locs M10 → lv_has ls 3 [(0, .ref (w.1 12 47)), (1, .int a1)] → W p l e rmX12_changed s m args below meth c H locs 0 0 (MQ below (mQ w s.heap.size (some (.int r)) M9) args s 0 0 (mA w s.heap.size)) (F0 m 52 ls []) := by
    intro M10 H locs ls hf hI hl
    rw [ek52_11] at hf
    try dsimp only at hf
    refine lv_iconst (v := 0) hx hb dX12_changed_52 (by decide) ?_
    refine lv_istore_n (lv' := [(2, .int (0 : Int32)), (0, .ref (w.1 12 47)), (1, .int a1)]) hx hb dX12_changed_53 rfl hl (by decide) rfl (fun ls hl => ?_)
    have hL54 : ∀ (n : Nat) (x12 : Int32) (M13 : Mem) (kk : Mem → Option (Int32 × Mem)) (H : Heap) (locs : List Loc) (ls : Array Slot), f_X12_changed_L54 n x12 M13 kk = some (r, M9) → mI w s (mA w s.heap.size) H locs M13 → lv_has ls 3 [(0, .ref (w.1 12 47)), (1, .int a1), (2, .int x12)] → (∀  (M13 : Mem) (H : Heap) (locs : List Loc) (ls : Array Slot), kk M13 = some (r, M9) → mI w s (mA w s.heap.size) H locs M13 → lv_has ls 3 [(1, .int a1)] → W p l e rmX12_changed s m args below meth c H locs 0 0 (MQ below (mQ w s.heap.size (some (.int r)) M9) args s 0 0 (mA w s.heap.size)) (F0 m 88 ls [])) → W p l e rmX12_changed s m args below meth c H locs 0 0 (MQ below (mQ w s.heap.size (some (.int r)) M9) args s 0 0 (mA w s.heap.size)) (F0 m 54 ls []) := by
      intro n
      induction n with
      | zero => intro x12 M13 kk H locs ls hf hI hl hk; rw [f_X12_changed_L54.eq_1] at hf; cases hf
      | succ n ih54 =>
        intro x12 M13 kk H locs ls hf hI hl hk
        rw [f_X12_changed_L54.eq_2] at hf
        refine lv_iload_n hx hb dX12_changed_54 rfl (lv_at hl 2 rfl) ?_
        refine lv_bipush (v := 92) hx hb dX12_changed_55 (by decide) ?_
        refine lv_icmp_ge (tgt := 88) hx hb dX12_changed_57 (by decide) (fun c14 => ?_) (fun c14 => ?_)
        · have hf := (if_pos c14).symm.trans hf
          exact hk M13 H _ _ hf hI (lv_sub hl [1] rfl)
        · have hf := (if_neg c14).symm.trans hf
          refine lv_aload_n hx hb dX12_changed_60 rfl (lv_at hl 0 rfl) ?_
          refine m_get (g := 12) (i := 47) (ci := 10) (k := 4) (v := .ref (w.1 12 51)) hx hb hI hown (mokX (by decide) (by decide)) rfl rfl (by decide) lyX12 (q1430 hI.T) rfl dX12_changed_61 ?_
          refine lv_bipush (v := 92) hx hb dX12_changed_64 (by decide) ?_
          refine lv_aload_n hx hb dX12_changed_66 rfl (lv_at hl 0 rfl) ?_
          refine m_get (g := 12) (i := 47) (ci := 10) (k := 6) (v := .int (M13 12 47 6)) hx hb hI hown (mokX (by decide) (by decide)) rfl rfl (by decide) lyX12 (q1432 hI.T) rfl dX12_changed_67 ?_
          refine lv_iconst (v := 1) hx hb dX12_changed_70 (by decide) ?_
          refine lv_isub hx hb dX12_changed_71 ?_
          refine lv_imul hx hb dX12_changed_72 ?_
          refine lv_iload_n hx hb dX12_changed_73 rfl (lv_at hl 2 rfl) ?_
          refine lv_iadd hx hb dX12_changed_74 ?_
          refine lv_aload_n hx hb dX12_changed_75 rfl (lv_at hl 0 rfl) ?_
          refine m_get (g := 12) (i := 47) (ci := 10) (k := 2) (v := .ref (w.1 12 49)) hx hb hI hown (mokX (by decide) (by decide)) rfl rfl (by decide) lyX12 (q1428 hI.T) rfl dX12_changed_76 ?_
          refine lv_iload_n hx hb dX12_changed_79 rfl (lv_at hl 2 rfl) ?_
          obtain ⟨hi, hf⟩ := mix_e hf
          refine m_iald (g := 12) (i := 49) hx hb hI (mokX (by decide) (by decide)) rfl hi dX12_changed_80 ?_
          obtain ⟨hi, hf⟩ := mix_e hf
          obtain ⟨M15, eM15, hf⟩ := mlet_e hf
          refine m_iast (g := 12) (i := 51) (M1 := M15) hx hb hI (mokX (by decide) (by decide)) rfl hi eM15 dX12_changed_81 (fun H locs hI => ?_)
          obtain ⟨x16, ex16, hf⟩ := mlet_e hf
          refine lv_iinc (v := x16) (lv' := [(2, .int x16), (0, .ref (w.1 12 47)), (1, .int a1)]) hx hb dX12_changed_82 hl (k := 2) rfl (by rw [ex16]; rfl) (by decide) rfl (fun ls hl => ?_)
          refine lv_goto (tgt := 54) hx hb dX12_changed_85 (by decide) ?_
          exact ih54 x16 M15 kk H _ _ hf hI (lv_sub hl [1, 2, 0] rfl) hk
    refine hL54 1000 (0 : Int32) M10 _ _ _ _ hf hI (lv_sub hl [1, 2, 0] rfl) ?_
    intro M17 H locs ls hf hI hl
    try dsimp only at hf
    refine lv_iload_n hx hb dX12_changed_88 rfl (lv_at hl 0 rfl) ?_
    exact m_iretf hx hb hr hlk hI hf dX12_changed_89
  refine lv_icmp_ne (tgt := 42) hx hb dX12_changed_6 (by decide) (fun c1 => ?_) (fun c1 => ?_)
  · have hf := (if_neg c1).symm.trans hf
    refine lv_aload_n hx hb dX12_changed_42 rfl (lv_at hl 0 rfl) ?_
    refine lv_dup hx hb dX12_changed_43 rfl ?_
    refine m_get (g := 12) (i := 47) (ci := 10) (k := 6) (v := .int (M 12 47 6)) hx hb hI hown (mokX (by decide) (by decide)) rfl rfl (by decide) lyX12 (q1432 hI.T) rfl dX12_changed_44 ?_
    refine lv_iconst (v := 1) hx hb dX12_changed_47 (by decide) ?_
    refine lv_iadd hx hb dX12_changed_48 ?_
    obtain ⟨M2, eM2, hf⟩ := mlet_e hf
    refine m_put (g := 12) (i := 47) (ci := 10) (k := 6) (ty := .int) (M1 := M2) hx hb hI hown (mokX (by decide) (by decide)) rfl rfl (by decide) lyX12 tyX12 tyX12_ok nmX12 (q1432 hI.T) rfl rfl rfl rfl (Nat.le_of_ble_eq_true rfl) rfl eM2 dX12_changed_49 (fun H locs hI => ?_)
    exact hj52_11 M2 H _ _ hf hI (lv_sub hl [0, 1] rfl)
  · have hf := (if_pos c1).symm.trans hf
    refine lv_iconst (v := 0) hx hb dX12_changed_9 (by decide) ?_
    refine lv_istore_n (lv' := [(2, .int (0 : Int32)), (0, .ref (w.1 12 47)), (1, .int a1)]) hx hb dX12_changed_10 rfl hl (by decide) rfl (fun ls hl => ?_)
    have hL11 : ∀ (n : Nat) (x3 : Int32) (M4 : Mem) (kk : Mem → Option (Int32 × Mem)) (H : Heap) (locs : List Loc) (ls : Array Slot), f_X12_changed_L11 n x3 M4 kk = some (r, M9) → mI w s (mA w s.heap.size) H locs M4 → lv_has ls 3 [(0, .ref (w.1 12 47)), (1, .int a1), (2, .int x3)] → (∀  (M4 : Mem) (H : Heap) (locs : List Loc) (ls : Array Slot), kk M4 = some (r, M9) → mI w s (mA w s.heap.size) H locs M4 → lv_has ls 3 [(0, .ref (w.1 12 47)), (1, .int a1)] → W p l e rmX12_changed s m args below meth c H locs 0 0 (MQ below (mQ w s.heap.size (some (.int r)) M9) args s 0 0 (mA w s.heap.size)) (F0 m 39 ls [])) → W p l e rmX12_changed s m args below meth c H locs 0 0 (MQ below (mQ w s.heap.size (some (.int r)) M9) args s 0 0 (mA w s.heap.size)) (F0 m 11 ls []) := by
      intro n
      induction n with
      | zero => intro x3 M4 kk H locs ls hf hI hl hk; rw [f_X12_changed_L11.eq_1] at hf; cases hf
      | succ n ih11 =>
        intro x3 M4 kk H locs ls hf hI hl hk
        rw [f_X12_changed_L11.eq_2] at hf
        refine lv_iload_n hx hb dX12_changed_11 rfl (lv_at hl 2 rfl) ?_
        refine lv_sipush (v := 644) hx hb dX12_changed_12 (by decide) ?_
        refine lv_icmp_ge (tgt := 39) hx hb dX12_changed_15 (by decide) (fun c5 => ?_) (fun c5 => ?_)
        · have hf := (if_pos c5).symm.trans hf
          exact hk M4 H _ _ hf hI (lv_sub hl [0, 1] rfl)
        · have hf := (if_neg c5).symm.trans hf
          refine lv_aload_n hx hb dX12_changed_18 rfl (lv_at hl 0 rfl) ?_
          refine m_get (g := 12) (i := 47) (ci := 10) (k := 4) (v := .ref (w.1 12 51)) hx hb hI hown (mokX (by decide) (by decide)) rfl rfl (by decide) lyX12 (q1430 hI.T) rfl dX12_changed_19 ?_
          refine lv_iload_n hx hb dX12_changed_22 rfl (lv_at hl 2 rfl) ?_
          refine lv_aload_n hx hb dX12_changed_23 rfl (lv_at hl 0 rfl) ?_
          refine m_get (g := 12) (i := 47) (ci := 10) (k := 4) (v := .ref (w.1 12 51)) hx hb hI hown (mokX (by decide) (by decide)) rfl rfl (by decide) lyX12 (q1430 hI.T) rfl dX12_changed_24 ?_
          refine lv_iload_n hx hb dX12_changed_27 rfl (lv_at hl 2 rfl) ?_
          refine lv_bipush (v := 92) hx hb dX12_changed_28 (by decide) ?_
          refine lv_iadd hx hb dX12_changed_30 ?_
          obtain ⟨hi, hf⟩ := mix_e hf
          refine m_iald (g := 12) (i := 51) hx hb hI (mokX (by decide) (by decide)) rfl hi dX12_changed_31 ?_
          obtain ⟨hi, hf⟩ := mix_e hf
          obtain ⟨M6, eM6, hf⟩ := mlet_e hf
          refine m_iast (g := 12) (i := 51) (M1 := M6) hx hb hI (mokX (by decide) (by decide)) rfl hi eM6 dX12_changed_32 (fun H locs hI => ?_)
          obtain ⟨x7, ex7, hf⟩ := mlet_e hf
          refine lv_iinc (v := x7) (lv' := [(2, .int x7), (0, .ref (w.1 12 47)), (1, .int a1)]) hx hb dX12_changed_33 hl (k := 2) rfl (by rw [ex7]; rfl) (by decide) rfl (fun ls hl => ?_)
          refine lv_goto (tgt := 11) hx hb dX12_changed_36 (by decide) ?_
          exact ih11 x7 M6 kk H _ _ hf hI (lv_sub hl [1, 2, 0] rfl) hk
    refine hL11 1000 (0 : Int32) M _ _ _ _ hf hI (lv_sub hl [1, 2, 0] rfl) ?_
    intro M8 H locs ls hf hI hl
    try dsimp only at hf
    refine lv_goto (tgt := 52) hx hb dX12_changed_39 (by decide) ?_
    exact hj52_11 M8 H _ _ hf hI (lv_sub hl [0, 1] rfl)
abbrev rmX12_done : Room := { frames := 0, cells := 0, slots := 0, locals := 0 }
theorem kb_X12_done {R : Room} {s : State} {args : Array Value} {own : String} {idx : Nat} (hT : mT s) (hlink : (Cond.methodLink own idx yX12_done).before args s = true) (h1 : rmX12_done.frames + 1 ≤ R.frames) (h2 : 8 + (2 + 11) + rmX12_done.locals ≤ R.locals) : CallB R s args own idx yX12_done cX12_done 2 (some .int) [Cond.code yX12_done cX12_done 2 (some .int)] rmX12_done 0 0 1 := m_callB hT kc_X12_done ki_X12_done hlink (by decide +kernel) ⟨rfl, rfl, h1, h2⟩
set_option maxHeartbeats 4000000 in
set_option maxRecDepth 100000 in
theorem c_X12_done (l : Launch) (w : WD) (sz : Nat) (a1 : Int32) (M : Mem) (r : Int32) (M9 : Mem) (hf : f_X12_done a1 M = some (r, M9)) : mMet l yX12_done cX12_done 2 (some .int) rmX12_done w sz M [.ref (w.1 12 47), .int a1] (some (.int r)) M9 := by
  refine m_of (by decide) (Nat.le_of_ble_eq_true rfl) ?_
  intro p e s m args below meth c hx hb hr hml hown hlk hI ls hl
  have hl : lv_has ls 2 [(0, .ref (w.1 12 47)), (1, .int a1)] := hl
  unfold f_X12_done at hf
  refine lv_aload_n hx hb dX12_done_0 rfl (lv_at hl 0 rfl) ?_
  refine lv_iload_n hx hb dX12_done_1 rfl (lv_at hl 1 rfl) ?_
  obtain ⟨M1, eM1, hf⟩ := mlet_e hf
  refine m_put (g := 12) (i := 47) (ci := 10) (k := 15) (ty := .int) (M1 := M1) hx hb hI hown (mokX (by decide) (by decide)) rfl rfl (by decide) lyX12 tyX12 tyX12_ok nmX12 (q1441 hI.T) rfl rfl rfl rfl (Nat.le_of_ble_eq_true rfl) rfl eM1 dX12_done_2 (fun H locs hI => ?_)
  refine lv_iconst (v := 0) hx hb dX12_done_5 (by decide) ?_
  exact m_iretf hx hb hr hlk hI hf dX12_done_6
abbrev rmX12_refused : Room := { frames := 0, cells := 0, slots := 0, locals := 0 }
theorem kb_X12_refused {R : Room} {s : State} {args : Array Value} {own : String} {idx : Nat} (hT : mT s) (hlink : (Cond.methodLink own idx yX12_refused).before args s = true) (h1 : rmX12_refused.frames + 1 ≤ R.frames) (h2 : 8 + (3 + 11) + rmX12_refused.locals ≤ R.locals) : CallB R s args own idx yX12_refused cX12_refused 3 (some .int) [Cond.code yX12_refused cX12_refused 3 (some .int)] rmX12_refused 0 0 2 := m_callB hT kc_X12_refused ki_X12_refused hlink (by decide +kernel) ⟨rfl, rfl, h1, h2⟩
set_option maxHeartbeats 4000000 in
set_option maxRecDepth 100000 in
theorem c_X12_refused (l : Launch) (w : WD) (sz : Nat) (a1 : Int32) (a2 : Int32) (M : Mem) (r : Int32) (M9 : Mem) (hf : f_X12_refused a1 a2 M = some (r, M9)) : mMet l yX12_refused cX12_refused 3 (some .int) rmX12_refused w sz M [.ref (w.1 12 47), .int a1, .int a2] (some (.int r)) M9 := by
  refine m_of (by decide) (Nat.le_of_ble_eq_true rfl) ?_
  intro p e s m args below meth c hx hb hr hml hown hlk hI ls hl
  have hl : lv_has ls 3 [(0, .ref (w.1 12 47)), (1, .int a1), (2, .int a2)] := hl
  unfold f_X12_refused at hf
  refine lv_aload_n hx hb dX12_refused_0 rfl (lv_at hl 0 rfl) ?_
  refine lv_iload_n hx hb dX12_refused_1 rfl (lv_at hl 1 rfl) ?_
  obtain ⟨M1, eM1, hf⟩ := mlet_e hf
  refine m_put (g := 12) (i := 47) (ci := 10) (k := 16) (ty := .int) (M1 := M1) hx hb hI hown (mokX (by decide) (by decide)) rfl rfl (by decide) lyX12 tyX12 tyX12_ok nmX12 (q1442 hI.T) rfl rfl rfl rfl (Nat.le_of_ble_eq_true rfl) rfl eM1 dX12_refused_2 (fun H locs hI => ?_)
  refine lv_aload_n hx hb dX12_refused_5 rfl (lv_at hl 0 rfl) ?_
  refine lv_iload_n hx hb dX12_refused_6 rfl (lv_at hl 2 rfl) ?_
  obtain ⟨M2, eM2, hf⟩ := mlet_e hf
  refine m_put (g := 12) (i := 47) (ci := 10) (k := 17) (ty := .int) (M1 := M2) hx hb hI hown (mokX (by decide) (by decide)) rfl rfl (by decide) lyX12 tyX12 tyX12_ok nmX12 (q1443 hI.T) rfl rfl rfl rfl (Nat.le_of_ble_eq_true rfl) rfl eM2 dX12_refused_7 (fun H locs hI => ?_)
  refine lv_aload_n hx hb dX12_refused_10 rfl (lv_at hl 0 rfl) ?_
  refine lv_iconst (v := 0) hx hb dX12_refused_11 (by decide) ?_
  obtain ⟨M3, eM3, hf⟩ := mlet_e hf
  refine m_put (g := 12) (i := 47) (ci := 10) (k := 18) (ty := .int) (M1 := M3) hx hb hI hown (mokX (by decide) (by decide)) rfl rfl (by decide) lyX12 tyX12 tyX12_ok nmX12 (q1444 hI.T) rfl rfl rfl rfl (Nat.le_of_ble_eq_true rfl) rfl eM3 dX12_refused_12 (fun H locs hI => ?_)
  refine lv_iload_n hx hb dX12_refused_15 rfl (lv_at hl 1 rfl) ?_
  refine lv_ineg hx hb dX12_refused_16 ?_
  exact m_iretf hx hb hr hlk hI hf dX12_refused_17
abbrev rmX12_ends : Room := { frames := 1, cells := 0, slots := 0, locals := 22 }
theorem kb_X12_ends {R : Room} {s : State} {args : Array Value} {own : String} {idx : Nat} (hT : mT s) (hlink : (Cond.methodLink own idx yX12_ends).before args s = true) (h1 : rmX12_ends.frames + 1 ≤ R.frames) (h2 : 8 + (3 + 11) + rmX12_ends.locals ≤ R.locals) : CallB R s args own idx yX12_ends cX12_ends 3 (some .int) [Cond.code yX12_ends cX12_ends 3 (some .int)] rmX12_ends 0 0 2 := m_callB hT kc_X12_ends ki_X12_ends hlink (by decide +kernel) ⟨rfl, rfl, h1, h2⟩
set_option maxHeartbeats 4000000 in
set_option maxRecDepth 100000 in
theorem c_X12_ends (l : Launch) (w : WD) (sz : Nat) (a1 : Int32) (a2 : Int32) (M : Mem) (r : Int32) (M9 : Mem) (hf : f_X12_ends a1 a2 M = some (r, M9)) : mMet l yX12_ends cX12_ends 3 (some .int) rmX12_ends w sz M [.ref (w.1 12 47), .int a1, .int a2] (some (.int r)) M9 := by
  refine m_of (by decide) (Nat.le_of_ble_eq_true rfl) ?_
  intro p e s m args below meth c hx hb hr hml hown hlk hI ls hl
  have hl : lv_has ls 3 [(0, .ref (w.1 12 47)), (1, .int a1), (2, .int a2)] := hl
  unfold f_X12_ends at hf
  refine lv_iload_n hx hb dX12_ends_0 rfl (lv_at hl 1 rfl) ?_
  refine lv_if_ne (tgt := 15) hx hb dX12_ends_1 (by decide) (fun c1 => ?_) (fun c1 => ?_)
  · have hf := (if_neg c1).symm.trans hf
    refine lv_aload_n hx hb dX12_ends_15 rfl (lv_at hl 0 rfl) ?_
    refine lv_iload_n hx hb dX12_ends_16 rfl (lv_at hl 1 rfl) ?_
    obtain ⟨k25_4, ek25_4, hf⟩ := mlet_e hf
    have hj25_4 : ∀ (x3 : Int32) (H : Heap) (locs : List Loc) (ls : Array Slot), k25_4 x3 = some (r, M9) → mI w s (mA w s.heap.size) H locs M → lv_has ls 3 [] → W p l e rmX12_ends s m args below meth c H locs 0 0 (MQ below (mQ w s.heap.size (some (.int r)) M9) args s 0 0 (mA w s.heap.size)) (F0 m 25 ls [.int x3, .ref (w.1 12 47)]) := by
      intro x3 H locs ls hf hI hl
      rw [ek25_4] at hf
      try dsimp only at hf
      obtain ⟨r5, M6, hc, hf⟩ := mbnd_e hf
      refine m_callV (As := [.int x3]) (rest := []) hx hb hml hown hI (c_X12_fails l w H.size x3 M _ _ hc) (kb_X12_fails hI.T (q1532 hI.T) (Nat.le_of_ble_eq_true rfl) (Nat.le_of_ble_eq_true rfl)) (q1534 hI.T) (sel_X12_fails hI.T) (m_recv (g := 12) (i := 47) hI (mokX (by decide) (by decide)) rfl rfl) rfl hl.1 (Nat.le_of_ble_eq_true rfl) dX12_ends_25 ⟨Nat.le_of_ble_eq_true rfl, Nat.le_of_ble_eq_true rfl⟩ (fun H locs hI => ?_)
      exact m_iretf hx hb hr hlk hI hf dX12_ends_28
    refine lv_if_ge (tgt := 24) hx hb dX12_ends_17 (by decide) (fun c2 => ?_) (fun c2 => ?_)
    · have hf := (if_pos c2).symm.trans hf
      refine lv_iload_n hx hb dX12_ends_24 rfl (lv_at hl 1 rfl) ?_
      exact hj25_4 a1 s.heap _ _ hf hI (lv_sub hl [] rfl)
    · have hf := (if_neg c2).symm.trans hf
      refine lv_iload_n hx hb dX12_ends_20 rfl (lv_at hl 2 rfl) ?_
      refine lv_goto (tgt := 25) hx hb dX12_ends_21 (by decide) ?_
      exact hj25_4 a2 s.heap _ _ hf hI (lv_sub hl [] rfl)
  · have hf := (if_pos c1).symm.trans hf
    refine lv_aload_n hx hb dX12_ends_4 rfl (lv_at hl 0 rfl) ?_
    refine lv_aload_n hx hb dX12_ends_5 rfl (lv_at hl 0 rfl) ?_
    refine m_get (g := 12) (i := 47) (ci := 10) (k := 15) (v := .int (M 12 47 15)) hx hb hI hown (mokX (by decide) (by decide)) rfl rfl (by decide) lyX12 (q1441 hI.T) rfl dX12_ends_6 ?_
    obtain ⟨r7, M8, hc, hf⟩ := mbnd_e hf
    refine m_callV (As := [.int (M 12 47 15)]) (rest := []) hx hb hml hown hI (c_X12_changed l w s.heap.size (M 12 47 15) M _ _ hc) (kb_X12_changed hI.T (q1528 hI.T) (Nat.le_of_ble_eq_true rfl) (Nat.le_of_ble_eq_true rfl)) (q1530 hI.T) (sel_X12_changed hI.T) (m_recv (g := 12) (i := 47) hI (mokX (by decide) (by decide)) rfl rfl) rfl hl.1 (Nat.le_of_ble_eq_true rfl) dX12_ends_9 ⟨Nat.le_of_ble_eq_true rfl, Nat.le_of_ble_eq_true rfl⟩ (fun H locs hI => ?_)
    refine lv_goto (tgt := 28) hx hb dX12_ends_12 (by decide) ?_
    exact m_iretf hx hb hr hlk hI hf dX12_ends_28
abbrev rmX12_isHolder : Room := { frames := 1, cells := 0, slots := 0, locals := 22 }
theorem kb_X12_isHolder {R : Room} {s : State} {args : Array Value} {own : String} {idx : Nat} (hT : mT s) (hlink : (Cond.methodLink own idx yX12_isHolder).before args s = true) (h1 : rmX12_isHolder.frames + 1 ≤ R.frames) (h2 : 8 + (2 + 11) + rmX12_isHolder.locals ≤ R.locals) : CallB R s args own idx yX12_isHolder cX12_isHolder 2 (some .boolean) [Cond.code yX12_isHolder cX12_isHolder 2 (some .boolean)] rmX12_isHolder 0 0 1 := m_callB hT kc_X12_isHolder ki_X12_isHolder hlink (by decide +kernel) ⟨rfl, rfl, h1, h2⟩
set_option maxHeartbeats 4000000 in
set_option maxRecDepth 100000 in
theorem c_X12_isHolder (l : Launch) (w : WD) (sz : Nat) (a1 : Int32) (M : Mem) (r : Int32) (hf : f_X12_isHolder a1 M = some r) : mMet l yX12_isHolder cX12_isHolder 2 (some .boolean) rmX12_isHolder w sz M [.ref (w.1 12 47), .int a1] (some (.int r)) M := by
  refine m_of (by decide) (Nat.le_of_ble_eq_true rfl) ?_
  intro p e s m args below meth c hx hb hr hml hown hlk hI ls hl
  have hl : lv_has ls 2 [(0, .ref (w.1 12 47)), (1, .int a1)] := hl
  unfold f_X12_isHolder at hf
  refine lv_iload_n hx hb dX12_isHolder_0 rfl (lv_at hl 1 rfl) ?_
  refine lv_iconst (v := 0) hx hb dX12_isHolder_1 (by decide) ?_
  refine lv_aload_n hx hb dX12_isHolder_2 rfl (lv_at hl 0 rfl) ?_
  refine m_get (g := 12) (i := 47) (ci := 10) (k := 1) (v := .ref (w.1 12 48)) hx hb hI hown (mokX (by decide) (by decide)) rfl rfl (by decide) lyX12 (q1427 hI.T) rfl dX12_isHolder_3 ?_
  refine lv_iconst (v := 0) hx hb dX12_isHolder_6 (by decide) ?_
  obtain ⟨hi, hf⟩ := mix_e hf
  refine m_iald (g := 12) (i := 48) hx hb hI (mokX (by decide) (by decide)) rfl hi dX12_isHolder_7 ?_
  refine lv_iconst (v := 1) hx hb dX12_isHolder_8 (by decide) ?_
  refine lv_isub hx hb dX12_isHolder_9 ?_
  obtain ⟨r1, hc, hf⟩ := mbp_e hf
  refine m_callS (As := [.int a1, .int (0 : Int32), .int ((M 12 48 (0 : Int32).toNatClampNeg) - (1 : Int32))]) (rest := []) hx hb hml hown hI (c_X12_in l w s.heap.size a1 (0 : Int32) ((M 12 48 (0 : Int32).toNatClampNeg) - (1 : Int32)) M _ hc) (kb_X12_in hI.T (q1544 hI.T) (Nat.le_of_ble_eq_true rfl) (Nat.le_of_ble_eq_true rfl)) (q1545 hI.T) rfl hl.1 (Nat.le_of_ble_eq_true rfl) dX12_isHolder_10 ⟨Nat.le_of_ble_eq_true rfl, Nat.le_of_ble_eq_true rfl⟩ (fun H locs hI => ?_)
  obtain ⟨hz, hf⟩ := mnz_e hf
  exact m_zretp hx hb hr hlk hI (mnz_n hz) hf dX12_isHolder_13
abbrev rmX12_isGuard : Room := { frames := 1, cells := 0, slots := 0, locals := 22 }
theorem kb_X12_isGuard {R : Room} {s : State} {args : Array Value} {own : String} {idx : Nat} (hT : mT s) (hlink : (Cond.methodLink own idx yX12_isGuard).before args s = true) (h1 : rmX12_isGuard.frames + 1 ≤ R.frames) (h2 : 8 + (2 + 11) + rmX12_isGuard.locals ≤ R.locals) : CallB R s args own idx yX12_isGuard cX12_isGuard 2 (some .boolean) [Cond.code yX12_isGuard cX12_isGuard 2 (some .boolean)] rmX12_isGuard 0 0 1 := m_callB hT kc_X12_isGuard ki_X12_isGuard hlink (by decide +kernel) ⟨rfl, rfl, h1, h2⟩
set_option maxHeartbeats 4000000 in
set_option maxRecDepth 100000 in
theorem c_X12_isGuard (l : Launch) (w : WD) (sz : Nat) (a1 : Int32) (M : Mem) (r : Int32) (hf : f_X12_isGuard a1 M = some r) : mMet l yX12_isGuard cX12_isGuard 2 (some .boolean) rmX12_isGuard w sz M [.ref (w.1 12 47), .int a1] (some (.int r)) M := by
  refine m_of (by decide) (Nat.le_of_ble_eq_true rfl) ?_
  intro p e s m args below meth c hx hb hr hml hown hlk hI ls hl
  have hl : lv_has ls 2 [(0, .ref (w.1 12 47)), (1, .int a1)] := hl
  unfold f_X12_isGuard at hf
  refine lv_iload_n hx hb dX12_isGuard_0 rfl (lv_at hl 1 rfl) ?_
  refine lv_iconst (v := 0) hx hb dX12_isGuard_1 (by decide) ?_
  refine lv_aload_n hx hb dX12_isGuard_2 rfl (lv_at hl 0 rfl) ?_
  refine m_get (g := 12) (i := 47) (ci := 10) (k := 1) (v := .ref (w.1 12 48)) hx hb hI hown (mokX (by decide) (by decide)) rfl rfl (by decide) lyX12 (q1427 hI.T) rfl dX12_isGuard_3 ?_
  refine lv_bipush (v := 10) hx hb dX12_isGuard_6 (by decide) ?_
  obtain ⟨hi, hf⟩ := mix_e hf
  refine m_iald (g := 12) (i := 48) hx hb hI (mokX (by decide) (by decide)) rfl hi dX12_isGuard_8 ?_
  refine lv_iconst (v := 1) hx hb dX12_isGuard_9 (by decide) ?_
  refine lv_isub hx hb dX12_isGuard_10 ?_
  obtain ⟨r1, hc, hf⟩ := mbp_e hf
  refine m_callS (As := [.int a1, .int (0 : Int32), .int ((M 12 48 (10 : Int32).toNatClampNeg) - (1 : Int32))]) (rest := []) hx hb hml hown hI (c_X12_in l w s.heap.size a1 (0 : Int32) ((M 12 48 (10 : Int32).toNatClampNeg) - (1 : Int32)) M _ hc) (kb_X12_in hI.T (q1544 hI.T) (Nat.le_of_ble_eq_true rfl) (Nat.le_of_ble_eq_true rfl)) (q1545 hI.T) rfl hl.1 (Nat.le_of_ble_eq_true rfl) dX12_isGuard_11 ⟨Nat.le_of_ble_eq_true rfl, Nat.le_of_ble_eq_true rfl⟩ (fun H locs hI => ?_)
  obtain ⟨hz, hf⟩ := mnz_e hf
  exact m_zretp hx hb hr hlk hI (mnz_n hz) hf dX12_isGuard_14
abbrev rmX12_isZone : Room := { frames := 1, cells := 0, slots := 0, locals := 22 }
theorem kb_X12_isZone {R : Room} {s : State} {args : Array Value} {own : String} {idx : Nat} (hT : mT s) (hlink : (Cond.methodLink own idx yX12_isZone).before args s = true) (h1 : rmX12_isZone.frames + 1 ≤ R.frames) (h2 : 8 + (1 + 11) + rmX12_isZone.locals ≤ R.locals) : CallB R s args own idx yX12_isZone cX12_isZone 1 (some .boolean) [Cond.code yX12_isZone cX12_isZone 1 (some .boolean)] rmX12_isZone 0 0 1 := m_callB hT kc_X12_isZone ki_X12_isZone hlink (by decide +kernel) ⟨rfl, rfl, h1, h2⟩
set_option maxHeartbeats 4000000 in
set_option maxRecDepth 100000 in
theorem c_X12_isZone (l : Launch) (w : WD) (sz : Nat) (a1 : Int32) (M : Mem) (r : Int32) (hf : f_X12_isZone a1 M = some r) : mMet l yX12_isZone cX12_isZone 1 (some .boolean) rmX12_isZone w sz M [.int a1] (some (.int r)) M := by
  refine m_of (by decide) (Nat.le_of_ble_eq_true rfl) ?_
  intro p e s m args below meth c hx hb hr hml hown hlk hI ls hl
  have hl : lv_has ls 1 [(0, .int a1)] := hl
  unfold f_X12_isZone at hf
  refine lv_iload_n hx hb dX12_isZone_0 rfl (lv_at hl 0 rfl) ?_
  refine lv_iconst (v := 0) hx hb dX12_isZone_1 (by decide) ?_
  refine lv_bipush (v := 7) hx hb dX12_isZone_2 (by decide) ?_
  obtain ⟨r1, hc, hf⟩ := mbp_e hf
  refine m_callS (As := [.int a1, .int (0 : Int32), .int (7 : Int32)]) (rest := []) hx hb hml hown hI (c_X12_in l w s.heap.size a1 (0 : Int32) (7 : Int32) M _ hc) (kb_X12_in hI.T (q1544 hI.T) (Nat.le_of_ble_eq_true rfl) (Nat.le_of_ble_eq_true rfl)) (q1545 hI.T) rfl hl.1 (Nat.le_of_ble_eq_true rfl) dX12_isZone_4 ⟨Nat.le_of_ble_eq_true rfl, Nat.le_of_ble_eq_true rfl⟩ (fun H locs hI => ?_)
  obtain ⟨hz, hf⟩ := mnz_e hf
  exact m_zretp hx hb hr hlk hI (mnz_n hz) hf dX12_isZone_7
abbrev rmX12_guard : Room := { frames := 0, cells := 0, slots := 0, locals := 0 }
theorem kb_X12_guard {R : Room} {s : State} {args : Array Value} {own : String} {idx : Nat} (hT : mT s) (hlink : (Cond.methodLink own idx yX12_guard).before args s = true) (h1 : rmX12_guard.frames + 1 ≤ R.frames) (h2 : 8 + (3 + 11) + rmX12_guard.locals ≤ R.locals) : CallB R s args own idx yX12_guard cX12_guard 3 (some .int) [Cond.code yX12_guard cX12_guard 3 (some .int)] rmX12_guard 0 0 2 := m_callB hT kc_X12_guard ki_X12_guard hlink (by decide +kernel) ⟨rfl, rfl, h1, h2⟩
set_option maxHeartbeats 4000000 in
set_option maxRecDepth 100000 in
theorem c_X12_guard (l : Launch) (w : WD) (sz : Nat) (a1 : Int32) (a2 : Int32) (M : Mem) (r : Int32) (hf : f_X12_guard a1 a2 M = some r) : mMet l yX12_guard cX12_guard 3 (some .int) rmX12_guard w sz M [.ref (w.1 12 47), .int a1, .int a2] (some (.int r)) M := by
  refine m_of (by decide) (Nat.le_of_ble_eq_true rfl) ?_
  intro p e s m args below meth c hx hb hr hml hown hlk hI ls hl
  have hl : lv_has ls 3 [(0, .ref (w.1 12 47)), (1, .int a1), (2, .int a2)] := hl
  unfold f_X12_guard at hf
  refine lv_aload_n hx hb dX12_guard_0 rfl (lv_at hl 0 rfl) ?_
  refine m_get (g := 12) (i := 47) (ci := 10) (k := 1) (v := .ref (w.1 12 48)) hx hb hI hown (mokX (by decide) (by decide)) rfl rfl (by decide) lyX12 (q1427 hI.T) rfl dX12_guard_1 ?_
  refine lv_bipush (v := 47) hx hb dX12_guard_4 (by decide) ?_
  refine lv_iconst (v := 3) hx hb dX12_guard_6 (by decide) ?_
  refine lv_iload_n hx hb dX12_guard_7 rfl (lv_at hl 1 rfl) ?_
  refine lv_imul hx hb dX12_guard_8 ?_
  refine lv_iadd hx hb dX12_guard_9 ?_
  refine lv_iload_n hx hb dX12_guard_10 rfl (lv_at hl 2 rfl) ?_
  refine lv_iadd hx hb dX12_guard_11 ?_
  obtain ⟨hi, hf⟩ := mix_e hf
  refine m_iald (g := 12) (i := 48) hx hb hI (mokX (by decide) (by decide)) rfl hi dX12_guard_12 ?_
  exact m_iretp hx hb hr hlk hI hf dX12_guard_13
abbrev rmX12_curve : Room := { frames := 0, cells := 0, slots := 0, locals := 0 }
theorem kb_X12_curve {R : Room} {s : State} {args : Array Value} {own : String} {idx : Nat} (hT : mT s) (hlink : (Cond.methodLink own idx yX12_curve).before args s = true) (h1 : rmX12_curve.frames + 1 ≤ R.frames) (h2 : 8 + (3 + 11) + rmX12_curve.locals ≤ R.locals) : CallB R s args own idx yX12_curve cX12_curve 3 (some .int) [Cond.code yX12_curve cX12_curve 3 (some .int)] rmX12_curve 0 0 1 := m_callB hT kc_X12_curve ki_X12_curve hlink (by decide +kernel) ⟨rfl, rfl, h1, h2⟩
set_option maxHeartbeats 4000000 in
set_option maxRecDepth 100000 in
theorem c_X12_curve (l : Launch) (w : WD) (sz : Nat) (a1 : Int32) (M : Mem) (r : Int32) (hf : f_X12_curve a1 M = some r) : mMet l yX12_curve cX12_curve 3 (some .int) rmX12_curve w sz M [.ref (w.1 12 47), .int a1] (some (.int r)) M := by
  refine m_of (by decide) (Nat.le_of_ble_eq_true rfl) ?_
  intro p e s m args below meth c hx hb hr hml hown hlk hI ls hl
  have hl : lv_has ls 3 [(0, .ref (w.1 12 47)), (1, .int a1)] := hl
  unfold f_X12_curve at hf
  refine lv_iload_n hx hb dX12_curve_0 rfl (lv_at hl 1 rfl) ?_
  refine lv_iconst (v := 1) hx hb dX12_curve_1 (by decide) ?_
  refine lv_iadd hx hb dX12_curve_2 ?_
  refine lv_topi (fun x1 ex1 => ?_)
  have hf := mlet_s ex1 hf
  refine lv_istore_n (lv' := [(2, .int x1), (0, .ref (w.1 12 47)), (1, .int a1)]) hx hb dX12_curve_3 rfl hl (by decide) rfl (fun ls hl => ?_)
  refine lv_aload_n hx hb dX12_curve_4 rfl (lv_at hl 1 rfl) ?_
  refine m_get (g := 12) (i := 47) (ci := 10) (k := 1) (v := .ref (w.1 12 48)) hx hb hI hown (mokX (by decide) (by decide)) rfl rfl (by decide) lyX12 (q1427 hI.T) rfl dX12_curve_5 ?_
  refine lv_iconst (v := 2) hx hb dX12_curve_8 (by decide) ?_
  obtain ⟨hi, hf⟩ := mix_e hf
  refine m_iald (g := 12) (i := 48) hx hb hI (mokX (by decide) (by decide)) rfl hi dX12_curve_9 ?_
  refine lv_aload_n hx hb dX12_curve_10 rfl (lv_at hl 1 rfl) ?_
  refine m_get (g := 12) (i := 47) (ci := 10) (k := 1) (v := .ref (w.1 12 48)) hx hb hI hown (mokX (by decide) (by decide)) rfl rfl (by decide) lyX12 (q1427 hI.T) rfl dX12_curve_11 ?_
  refine lv_iconst (v := 3) hx hb dX12_curve_14 (by decide) ?_
  obtain ⟨hi, hf⟩ := mix_e hf
  refine m_iald (g := 12) (i := 48) hx hb hI (mokX (by decide) (by decide)) rfl hi dX12_curve_15 ?_
  refine lv_iload_n hx hb dX12_curve_16 rfl (lv_at hl 0 rfl) ?_
  refine lv_imul hx hb dX12_curve_17 ?_
  refine lv_iadd hx hb dX12_curve_18 ?_
  refine lv_aload_n hx hb dX12_curve_19 rfl (lv_at hl 1 rfl) ?_
  refine m_get (g := 12) (i := 47) (ci := 10) (k := 1) (v := .ref (w.1 12 48)) hx hb hI hown (mokX (by decide) (by decide)) rfl rfl (by decide) lyX12 (q1427 hI.T) rfl dX12_curve_20 ?_
  refine lv_iconst (v := 4) hx hb dX12_curve_23 (by decide) ?_
  obtain ⟨hi, hf⟩ := mix_e hf
  refine m_iald (g := 12) (i := 48) hx hb hI (mokX (by decide) (by decide)) rfl hi dX12_curve_24 ?_
  refine lv_iload_n hx hb dX12_curve_25 rfl (lv_at hl 0 rfl) ?_
  refine lv_imul hx hb dX12_curve_26 ?_
  refine lv_iload_n hx hb dX12_curve_27 rfl (lv_at hl 0 rfl) ?_
  refine lv_imul hx hb dX12_curve_28 ?_
  refine lv_iadd hx hb dX12_curve_29 ?_
  refine lv_bipush (v := 97) hx hb dX12_curve_30 (by decide) ?_
  refine lv_irem hx hb dX12_curve_32 (by decide) ?_
  exact m_iretp hx hb hr hlk hI hf dX12_curve_33
abbrev rmX12_placeOf : Room := { frames := 0, cells := 0, slots := 0, locals := 0 }
theorem kb_X12_placeOf {R : Room} {s : State} {args : Array Value} {own : String} {idx : Nat} (hT : mT s) (hlink : (Cond.methodLink own idx yX12_placeOf).before args s = true) (h1 : rmX12_placeOf.frames + 1 ≤ R.frames) (h2 : 8 + (3 + 11) + rmX12_placeOf.locals ≤ R.locals) : CallB R s args own idx yX12_placeOf cX12_placeOf 3 (some .int) [Cond.code yX12_placeOf cX12_placeOf 3 (some .int)] rmX12_placeOf 0 0 1 := m_callB hT kc_X12_placeOf ki_X12_placeOf hlink (by decide +kernel) ⟨rfl, rfl, h1, h2⟩
set_option maxHeartbeats 4000000 in
set_option maxRecDepth 100000 in
theorem c_X12_placeOf (l : Launch) (w : WD) (sz : Nat) (a1 : Int32) (M : Mem) (r : Int32) (hf : f_X12_placeOf a1 M = some r) : mMet l yX12_placeOf cX12_placeOf 3 (some .int) rmX12_placeOf w sz M [.ref (w.1 12 47), .int a1] (some (.int r)) M := by
  refine m_of (by decide) (Nat.le_of_ble_eq_true rfl) ?_
  intro p e s m args below meth c hx hb hr hml hown hlk hI ls hl
  have hl : lv_has ls 3 [(0, .ref (w.1 12 47)), (1, .int a1)] := hl
  unfold f_X12_placeOf at hf
  refine lv_iconst (v := 0) hx hb dX12_placeOf_0 (by decide) ?_
  refine lv_istore_n (lv' := [(2, .int (0 : Int32)), (0, .ref (w.1 12 47)), (1, .int a1)]) hx hb dX12_placeOf_1 rfl hl (by decide) rfl (fun ls hl => ?_)
  have hL2 : ∀ (n : Nat) (x1 : Int32) (kk : Unit → Option Int32) (H : Heap) (locs : List Loc) (ls : Array Slot), f_X12_placeOf_L2 a1 M n x1 kk = some r → mI w s (mA w s.heap.size) H locs M → lv_has ls 3 [(0, .ref (w.1 12 47)), (1, .int a1), (2, .int x1)] → (∀ (_u : Unit) (H : Heap) (locs : List Loc) (ls : Array Slot), kk () = some r → mI w s (mA w s.heap.size) H locs M → lv_has ls 3 [] → W p l e rmX12_placeOf s m args below meth c H locs 0 0 (MQ below (mQ w s.heap.size (some (.int r)) M) args s 0 0 (mA w s.heap.size)) (F0 m 34 ls [])) → W p l e rmX12_placeOf s m args below meth c H locs 0 0 (MQ below (mQ w s.heap.size (some (.int r)) M) args s 0 0 (mA w s.heap.size)) (F0 m 2 ls []) := by
    intro n
    induction n with
    | zero => intro x1 kk H locs ls hf hI hl hk; rw [f_X12_placeOf_L2.eq_1] at hf; cases hf
    | succ n ih2 =>
      intro x1 kk H locs ls hf hI hl hk
      rw [f_X12_placeOf_L2.eq_2] at hf
      refine lv_iload_n hx hb dX12_placeOf_2 rfl (lv_at hl 2 rfl) ?_
      refine lv_aload_n hx hb dX12_placeOf_3 rfl (lv_at hl 0 rfl) ?_
      refine m_get (g := 12) (i := 47) (ci := 10) (k := 1) (v := .ref (w.1 12 48)) hx hb hI hown (mokX (by decide) (by decide)) rfl rfl (by decide) lyX12 (q1427 hI.T) rfl dX12_placeOf_4 ?_
      refine lv_bipush (v := 9) hx hb dX12_placeOf_7 (by decide) ?_
      obtain ⟨hi, hf⟩ := mix_e hf
      refine m_iald (g := 12) (i := 48) hx hb hI (mokX (by decide) (by decide)) rfl hi dX12_placeOf_9 ?_
      refine lv_icmp_ge (tgt := 34) hx hb dX12_placeOf_10 (by decide) (fun c2 => ?_) (fun c2 => ?_)
      · have hf := (if_pos c2).symm.trans hf
        exact hk () H _ _ hf hI (lv_sub hl [] rfl)
      · have hf := (if_neg c2).symm.trans hf
        refine lv_aload_n hx hb dX12_placeOf_13 rfl (lv_at hl 0 rfl) ?_
        refine m_get (g := 12) (i := 47) (ci := 10) (k := 1) (v := .ref (w.1 12 48)) hx hb hI hown (mokX (by decide) (by decide)) rfl rfl (by decide) lyX12 (q1427 hI.T) rfl dX12_placeOf_14 ?_
        refine lv_bipush (v := 23) hx hb dX12_placeOf_17 (by decide) ?_
        refine lv_iload_n hx hb dX12_placeOf_19 rfl (lv_at hl 2 rfl) ?_
        refine lv_iadd hx hb dX12_placeOf_20 ?_
        obtain ⟨hi, hf⟩ := mix_e hf
        refine m_iald (g := 12) (i := 48) hx hb hI (mokX (by decide) (by decide)) rfl hi dX12_placeOf_21 ?_
        refine lv_iload_n hx hb dX12_placeOf_22 rfl (lv_at hl 1 rfl) ?_
        refine lv_icmp_ne (tgt := 28) hx hb dX12_placeOf_23 (by decide) (fun c3 => ?_) (fun c3 => ?_)
        · have hf := (if_neg c3).symm.trans hf
          obtain ⟨x4, ex4, hf⟩ := mlet_e hf
          refine lv_iinc (v := x4) (lv' := [(2, .int x4), (0, .ref (w.1 12 47)), (1, .int a1)]) hx hb dX12_placeOf_28 hl (k := 2) rfl (by rw [ex4]; rfl) (by decide) rfl (fun ls hl => ?_)
          refine lv_goto (tgt := 2) hx hb dX12_placeOf_31 (by decide) ?_
          exact ih2 x4 kk H _ _ hf hI (lv_sub hl [1, 2, 0] rfl) hk
        · have hf := (if_pos c3).symm.trans hf
          refine lv_iload_n hx hb dX12_placeOf_26 rfl (lv_at hl 2 rfl) ?_
          exact m_iretp hx hb hr hlk hI hf dX12_placeOf_27
  refine hL2 1000 (0 : Int32) _ _ _ _ hf hI (lv_sub hl [1, 2, 0] rfl) ?_
  intro _u H locs ls hf hI hl
  try dsimp only at hf
  refine lv_iconst (v := (-1)) hx hb dX12_placeOf_34 (by decide) ?_
  exact m_iretp hx hb hr hlk hI hf dX12_placeOf_35
abbrev rmX12_inverse : Room := { frames := 0, cells := 0, slots := 0, locals := 0 }
theorem kb_X12_inverse {R : Room} {s : State} {args : Array Value} {own : String} {idx : Nat} (hT : mT s) (hlink : (Cond.methodLink own idx yX12_inverse).before args s = true) (h1 : rmX12_inverse.frames + 1 ≤ R.frames) (h2 : 8 + (2 + 11) + rmX12_inverse.locals ≤ R.locals) : CallB R s args own idx yX12_inverse cX12_inverse 2 (some .int) [Cond.code yX12_inverse cX12_inverse 2 (some .int)] rmX12_inverse 0 0 1 := m_callB hT kc_X12_inverse ki_X12_inverse hlink (by decide +kernel) ⟨rfl, rfl, h1, h2⟩
set_option maxHeartbeats 4000000 in
set_option maxRecDepth 100000 in
theorem c_X12_inverse (l : Launch) (w : WD) (sz : Nat) (a1 : Int32) (M : Mem) (r : Int32) (hf : f_X12_inverse a1 M = some r) : mMet l yX12_inverse cX12_inverse 2 (some .int) rmX12_inverse w sz M [.int a1] (some (.int r)) M := by
  refine m_of (by decide) (Nat.le_of_ble_eq_true rfl) ?_
  intro p e s m args below meth c hx hb hr hml hown hlk hI ls hl
  have hl : lv_has ls 2 [(0, .int a1)] := hl
  unfold f_X12_inverse at hf
  refine lv_iconst (v := 1) hx hb dX12_inverse_0 (by decide) ?_
  refine lv_istore_n (lv' := [(1, .int (1 : Int32)), (0, .int a1)]) hx hb dX12_inverse_1 rfl hl (by decide) rfl (fun ls hl => ?_)
  have hL2 : ∀ (n : Nat) (x1 : Int32) (kk : Int32 → Option Int32) (H : Heap) (locs : List Loc) (ls : Array Slot), f_X12_inverse_L2 a1 n x1 kk = some r → mI w s (mA w s.heap.size) H locs M → lv_has ls 2 [(0, .int a1), (1, .int x1)] → (∀ (x1 : Int32) (H : Heap) (locs : List Loc) (ls : Array Slot), kk x1 = some r → mI w s (mA w s.heap.size) H locs M → lv_has ls 2 [(1, .int x1)] → W p l e rmX12_inverse s m args below meth c H locs 0 0 (MQ below (mQ w s.heap.size (some (.int r)) M) args s 0 0 (mA w s.heap.size)) (F0 m 18 ls [])) → W p l e rmX12_inverse s m args below meth c H locs 0 0 (MQ below (mQ w s.heap.size (some (.int r)) M) args s 0 0 (mA w s.heap.size)) (F0 m 2 ls []) := by
    intro n
    induction n with
    | zero => intro x1 kk H locs ls hf hI hl hk; rw [f_X12_inverse_L2.eq_1] at hf; cases hf
    | succ n ih2 =>
      intro x1 kk H locs ls hf hI hl hk
      rw [f_X12_inverse_L2.eq_2] at hf
      refine lv_iload_n hx hb dX12_inverse_2 rfl (lv_at hl 0 rfl) ?_
      refine lv_iload_n hx hb dX12_inverse_3 rfl (lv_at hl 1 rfl) ?_
      refine lv_imul hx hb dX12_inverse_4 ?_
      refine lv_bipush (v := 97) hx hb dX12_inverse_5 (by decide) ?_
      refine lv_irem hx hb dX12_inverse_7 (by decide) ?_
      refine lv_iconst (v := 1) hx hb dX12_inverse_8 (by decide) ?_
      refine lv_icmp_eq (tgt := 18) hx hb dX12_inverse_9 (by decide) (fun c2 => ?_) (fun c2 => ?_)
      · have hf := (if_pos c2).symm.trans hf
        exact hk x1 H _ _ hf hI (lv_sub hl [1] rfl)
      · have hf := (if_neg c2).symm.trans hf
        obtain ⟨x3, ex3, hf⟩ := mlet_e hf
        refine lv_iinc (v := x3) (lv' := [(1, .int x3), (0, .int a1)]) hx hb dX12_inverse_12 hl (k := 1) rfl (by rw [ex3]; rfl) (by decide) rfl (fun ls hl => ?_)
        refine lv_goto (tgt := 2) hx hb dX12_inverse_15 (by decide) ?_
        exact ih2 x3 kk H _ _ hf hI (lv_sub hl [1, 0] rfl) hk
  refine hL2 1000 (1 : Int32) _ _ _ _ hf hI (lv_sub hl [1, 0] rfl) ?_
  intro x4 H locs ls hf hI hl
  try dsimp only at hf
  refine lv_iload_n hx hb dX12_inverse_18 rfl (lv_at hl 0 rfl) ?_
  exact m_iretp hx hb hr hlk hI hf dX12_inverse_19
abbrev rmX12_through : Room := { frames := 1, cells := 0, slots := 0, locals := 21 }
theorem kb_X12_through {R : Room} {s : State} {args : Array Value} {own : String} {idx : Nat} (hT : mT s) (hlink : (Cond.methodLink own idx yX12_through).before args s = true) (h1 : rmX12_through.frames + 1 ≤ R.frames) (h2 : 8 + (8 + 11) + rmX12_through.locals ≤ R.locals) : CallB R s args own idx yX12_through cX12_through 8 (some .int) [Cond.code yX12_through cX12_through 8 (some .int)] rmX12_through 0 0 1 := m_callB hT kc_X12_through ki_X12_through hlink (by decide +kernel) ⟨rfl, rfl, h1, h2⟩
set_option maxHeartbeats 4000000 in
set_option maxRecDepth 100000 in
theorem c_X12_through (l : Launch) (w : WD) (sz : Nat) (a1 : Int32) (M : Mem) (r : Int32) (hf : f_X12_through a1 M = some r) : mMet l yX12_through cX12_through 8 (some .int) rmX12_through w sz M [.ref (w.1 12 47), .int a1] (some (.int r)) M := by
  refine m_of (by decide) (Nat.le_of_ble_eq_true rfl) ?_
  intro p e s m args below meth c hx hb hr hml hown hlk hI ls hl
  have hl : lv_has ls 8 [(0, .ref (w.1 12 47)), (1, .int a1)] := hl
  unfold f_X12_through at hf
  refine lv_iconst (v := 0) hx hb dX12_through_0 (by decide) ?_
  refine lv_istore_n (lv' := [(2, .int (0 : Int32)), (0, .ref (w.1 12 47)), (1, .int a1)]) hx hb dX12_through_1 rfl hl (by decide) rfl (fun ls hl => ?_)
  refine lv_iconst (v := 0) hx hb dX12_through_2 (by decide) ?_
  refine lv_istore_n (lv' := [(3, .int (0 : Int32)), (2, .int (0 : Int32)), (0, .ref (w.1 12 47)), (1, .int a1)]) hx hb dX12_through_3 rfl hl (by decide) rfl (fun ls hl => ?_)
  have hL4 : ∀ (n : Nat) (x1 : Int32) (x2 : Int32) (kk : Int32 → Option Int32) (H : Heap) (locs : List Loc) (ls : Array Slot), f_X12_through_L4 a1 M n x1 x2 kk = some r → mI w s (mA w s.heap.size) H locs M → lv_has ls 8 [(0, .ref (w.1 12 47)), (1, .int a1), (2, .int x1), (3, .int x2)] → (∀ (x1 : Int32) (H : Heap) (locs : List Loc) (ls : Array Slot), kk x1 = some r → mI w s (mA w s.heap.size) H locs M → lv_has ls 8 [(2, .int x1)] → W p l e rmX12_through s m args below meth c H locs 0 0 (MQ below (mQ w s.heap.size (some (.int r)) M) args s 0 0 (mA w s.heap.size)) (F0 m 134 ls [])) → W p l e rmX12_through s m args below meth c H locs 0 0 (MQ below (mQ w s.heap.size (some (.int r)) M) args s 0 0 (mA w s.heap.size)) (F0 m 4 ls []) := by
    intro n
    induction n with
    | zero => intro x1 x2 kk H locs ls hf hI hl hk; rw [f_X12_through_L4.eq_1] at hf; cases hf
    | succ n ih4 =>
      intro x1 x2 kk H locs ls hf hI hl hk
      rw [f_X12_through_L4.eq_2] at hf
      refine lv_iload_n hx hb dX12_through_4 rfl (lv_at hl 3 rfl) ?_
      refine lv_aload_n hx hb dX12_through_5 rfl (lv_at hl 0 rfl) ?_
      refine m_get (g := 12) (i := 47) (ci := 10) (k := 1) (v := .ref (w.1 12 48)) hx hb hI hown (mokX (by decide) (by decide)) rfl rfl (by decide) lyX12 (q1427 hI.T) rfl dX12_through_6 ?_
      refine lv_iconst (v := 5) hx hb dX12_through_9 (by decide) ?_
      obtain ⟨hi, hf⟩ := mix_e hf
      refine m_iald (g := 12) (i := 48) hx hb hI (mokX (by decide) (by decide)) rfl hi dX12_through_10 ?_
      refine lv_icmp_ge (tgt := 134) hx hb dX12_through_11 (by decide) (fun c3 => ?_) (fun c3 => ?_)
      · have hf := (if_pos c3).symm.trans hf
        exact hk x1 H _ _ hf hI (lv_sub hl [2] rfl)
      · have hf := (if_neg c3).symm.trans hf
        refine lv_aload_n hx hb dX12_through_14 rfl (lv_at hl 0 rfl) ?_
        refine m_get (g := 12) (i := 47) (ci := 10) (k := 1) (v := .ref (w.1 12 48)) hx hb hI hown (mokX (by decide) (by decide)) rfl rfl (by decide) lyX12 (q1427 hI.T) rfl dX12_through_15 ?_
        refine lv_bipush (v := 15) hx hb dX12_through_18 (by decide) ?_
        refine lv_aload_n hx hb dX12_through_20 rfl (lv_at hl 0 rfl) ?_
        refine m_get (g := 12) (i := 47) (ci := 10) (k := 11) (v := .ref (w.1 12 56)) hx hb hI hown (mokX (by decide) (by decide)) rfl rfl (by decide) lyX12 (q1437 hI.T) rfl dX12_through_21 ?_
        refine lv_iload_n hx hb dX12_through_24 rfl (lv_at hl 3 rfl) ?_
        obtain ⟨hi, hf⟩ := mix_e hf
        refine m_iald (g := 12) (i := 56) hx hb hI (mokX (by decide) (by decide)) rfl hi dX12_through_25 ?_
        refine lv_iadd hx hb dX12_through_26 ?_
        obtain ⟨hi, hf⟩ := mix_e hf
        refine m_iald (g := 12) (i := 48) hx hb hI (mokX (by decide) (by decide)) rfl hi dX12_through_27 ?_
        refine lv_topi (fun x4 ex4 => ?_)
        have hf := mlet_s ex4 hf
        refine lv_istore (lv' := [(4, .int x4), (0, .ref (w.1 12 47)), (1, .int a1), (2, .int x1), (3, .int x2)]) hx hb dX12_through_28 hl (by decide) rfl (fun ls hl => ?_)
        refine lv_iconst (v := 0) hx hb dX12_through_30 (by decide) ?_
        refine lv_istore (lv' := [(5, .int (0 : Int32)), (4, .int x4), (0, .ref (w.1 12 47)), (1, .int a1), (2, .int x1), (3, .int x2)]) hx hb dX12_through_31 hl (by decide) rfl (fun ls hl => ?_)
        have hL33 : ∀ (n : Nat) (x5 : Int32) (x6 : Int32) (kk : Int32 → Option Int32) (H : Heap) (locs : List Loc) (ls : Array Slot), f_X12_through_L33 a1 M x2 n x5 x6 kk = some r → mI w s (mA w s.heap.size) H locs M → lv_has ls 8 [(0, .ref (w.1 12 47)), (1, .int a1), (2, .int x1), (3, .int x2), (4, .int x5), (5, .int x6)] → (∀ (x5 : Int32) (H : Heap) (locs : List Loc) (ls : Array Slot), kk x5 = some r → mI w s (mA w s.heap.size) H locs M → lv_has ls 8 [(0, .ref (w.1 12 47)), (1, .int a1), (2, .int x1), (3, .int x2), (4, .int x5)] → W p l e rmX12_through s m args below meth c H locs 0 0 (MQ below (mQ w s.heap.size (some (.int r)) M) args s 0 0 (mA w s.heap.size)) (F0 m 120 ls [])) → W p l e rmX12_through s m args below meth c H locs 0 0 (MQ below (mQ w s.heap.size (some (.int r)) M) args s 0 0 (mA w s.heap.size)) (F0 m 33 ls []) := by
          intro n
          induction n with
          | zero => intro x5 x6 kk H locs ls hf hI hl hk; rw [f_X12_through_L33.eq_1] at hf; cases hf
          | succ n ih33 =>
            intro x5 x6 kk H locs ls hf hI hl hk
            rw [f_X12_through_L33.eq_2] at hf
            refine lv_iload hx hb dX12_through_33 (lv_at hl 5 rfl) ?_
            refine lv_aload_n hx hb dX12_through_35 rfl (lv_at hl 0 rfl) ?_
            refine m_get (g := 12) (i := 47) (ci := 10) (k := 1) (v := .ref (w.1 12 48)) hx hb hI hown (mokX (by decide) (by decide)) rfl rfl (by decide) lyX12 (q1427 hI.T) rfl dX12_through_36 ?_
            refine lv_iconst (v := 5) hx hb dX12_through_39 (by decide) ?_
            obtain ⟨hi, hf⟩ := mix_e hf
            refine m_iald (g := 12) (i := 48) hx hb hI (mokX (by decide) (by decide)) rfl hi dX12_through_40 ?_
            refine lv_icmp_ge (tgt := 120) hx hb dX12_through_41 (by decide) (fun c7 => ?_) (fun c7 => ?_)
            · have hf := (if_pos c7).symm.trans hf
              exact hk x5 H _ _ hf hI (lv_sub hl [0, 1, 2, 3, 4] rfl)
            · have hf := (if_neg c7).symm.trans hf
              refine lv_iload hx hb dX12_through_44 (lv_at hl 5 rfl) ?_
              refine lv_iload_n hx hb dX12_through_46 rfl (lv_at hl 3 rfl) ?_
              obtain ⟨k114_14, ek114_14, hf⟩ := mlet_e hf
              have hj114_14 : ∀ (x13 : Int32) (H : Heap) (locs : List Loc) (ls : Array Slot), k114_14 x13 = some r → mI w s (mA w s.heap.size) H locs M → lv_has ls 8 [(0, .ref (w.1 12 47)), (1, .int a1), (2, .int x1), (3, .int x2), (4, .int x13), (5, .int x6)] → W p l e rmX12_through s m args below meth c H locs 0 0 (MQ below (mQ w s.heap.size (some (.int r)) M) args s 0 0 (mA w s.heap.size)) (F0 m 114 ls []) := by
                intro x13 H locs ls hf hI hl
                rw [ek114_14] at hf
                try dsimp only at hf
                obtain ⟨x15, ex15, hf⟩ := mlet_e hf
                refine lv_iinc (v := x15) (lv' := [(5, .int x15), (0, .ref (w.1 12 47)), (1, .int a1), (2, .int x1), (3, .int x2), (4, .int x13)]) hx hb dX12_through_114 hl (k := 5) rfl (by rw [ex15]; rfl) (by decide) rfl (fun ls hl => ?_)
                refine lv_goto (tgt := 33) hx hb dX12_through_117 (by decide) ?_
                exact ih33 x13 x15 kk H _ _ hf hI (lv_sub hl [1, 2, 3, 4, 5, 0] rfl) hk
              refine lv_icmp_ne (tgt := 53) hx hb dX12_through_47 (by decide) (fun c8 => ?_) (fun c8 => ?_)
              · have hf := (if_neg c8).symm.trans hf
                refine lv_iload_n hx hb dX12_through_53 rfl (lv_at hl 1 rfl) ?_
                refine lv_aload_n hx hb dX12_through_54 rfl (lv_at hl 0 rfl) ?_
                refine m_get (g := 12) (i := 47) (ci := 10) (k := 11) (v := .ref (w.1 12 56)) hx hb hI hown (mokX (by decide) (by decide)) rfl rfl (by decide) lyX12 (q1437 hI.T) rfl dX12_through_55 ?_
                refine lv_iload hx hb dX12_through_58 (lv_at hl 5 rfl) ?_
                obtain ⟨hi, hf⟩ := mix_e hf
                refine m_iald (g := 12) (i := 56) hx hb hI (mokX (by decide) (by decide)) rfl hi dX12_through_60 ?_
                refine lv_isub hx hb dX12_through_61 ?_
                refine lv_iconst (v := 1) hx hb dX12_through_62 (by decide) ?_
                refine lv_isub hx hb dX12_through_63 ?_
                refine lv_sipush (v := 194) hx hb dX12_through_64 (by decide) ?_
                refine lv_iadd hx hb dX12_through_67 ?_
                refine lv_bipush (v := 97) hx hb dX12_through_68 (by decide) ?_
                refine lv_irem hx hb dX12_through_70 (by decide) ?_
                refine lv_topi (fun x9 ex9 => ?_)
                have hf := mlet_s ex9 hf
                refine lv_istore (lv' := [(6, .int x9), (0, .ref (w.1 12 47)), (1, .int a1), (2, .int x1), (3, .int x2), (4, .int x5), (5, .int x6)]) hx hb dX12_through_71 hl (by decide) rfl (fun ls hl => ?_)
                refine lv_aload_n hx hb dX12_through_73 rfl (lv_at hl 1 rfl) ?_
                refine m_get (g := 12) (i := 47) (ci := 10) (k := 11) (v := .ref (w.1 12 56)) hx hb hI hown (mokX (by decide) (by decide)) rfl rfl (by decide) lyX12 (q1437 hI.T) rfl dX12_through_74 ?_
                refine lv_iload_n hx hb dX12_through_77 rfl (lv_at hl 4 rfl) ?_
                obtain ⟨hi, hf⟩ := mix_e hf
                refine m_iald (g := 12) (i := 56) hx hb hI (mokX (by decide) (by decide)) rfl hi dX12_through_78 ?_
                refine lv_aload_n hx hb dX12_through_79 rfl (lv_at hl 1 rfl) ?_
                refine m_get (g := 12) (i := 47) (ci := 10) (k := 11) (v := .ref (w.1 12 56)) hx hb hI hown (mokX (by decide) (by decide)) rfl rfl (by decide) lyX12 (q1437 hI.T) rfl dX12_through_80 ?_
                refine lv_iload hx hb dX12_through_83 (lv_at hl 6 rfl) ?_
                obtain ⟨hi, hf⟩ := mix_e hf
                refine m_iald (g := 12) (i := 56) hx hb hI (mokX (by decide) (by decide)) rfl hi dX12_through_85 ?_
                refine lv_isub hx hb dX12_through_86 ?_
                refine lv_bipush (v := 97) hx hb dX12_through_87 (by decide) ?_
                refine lv_iadd hx hb dX12_through_89 ?_
                refine lv_bipush (v := 97) hx hb dX12_through_90 (by decide) ?_
                refine lv_irem hx hb dX12_through_92 (by decide) ?_
                refine lv_topi (fun x10 ex10 => ?_)
                have hf := mlet_s ex10 hf
                refine lv_istore (lv' := [(7, .int x10), (6, .int x9), (0, .ref (w.1 12 47)), (1, .int a1), (2, .int x1), (3, .int x2), (4, .int x5), (5, .int x6)]) hx hb dX12_through_93 hl (by decide) rfl (fun ls hl => ?_)
                refine lv_iload hx hb dX12_through_95 (lv_at hl 6 rfl) ?_
                refine lv_iload hx hb dX12_through_97 (lv_at hl 1 rfl) ?_
                refine lv_imul hx hb dX12_through_99 ?_
                refine lv_bipush (v := 97) hx hb dX12_through_100 (by decide) ?_
                refine lv_irem hx hb dX12_through_102 (by decide) ?_
                refine lv_iload hx hb dX12_through_103 (lv_at hl 0 rfl) ?_
                obtain ⟨r11, hc, hf⟩ := mbp_e hf
                refine m_callS (As := [.int x10]) (rest := [.int (mrem (x5 * x9) (97 : Int32))]) hx hb hml hown hI (c_X12_inverse l w H.size x10 M _ hc) (kb_X12_inverse hI.T (q1611 hI.T) (Nat.le_of_ble_eq_true rfl) (Nat.le_of_ble_eq_true rfl)) (q1612 hI.T) rfl hl.1 (Nat.le_of_ble_eq_true rfl) dX12_through_105 ⟨Nat.le_of_ble_eq_true rfl, Nat.le_of_ble_eq_true rfl⟩ (fun H locs hI => ?_)
                refine lv_imul hx hb dX12_through_108 ?_
                refine lv_bipush (v := 97) hx hb dX12_through_109 (by decide) ?_
                refine lv_irem hx hb dX12_through_111 (by decide) ?_
                refine lv_topi (fun x12 ex12 => ?_)
                have hf := mlet_s ex12 hf
                refine lv_istore (lv' := [(4, .int x12), (7, .int x10), (6, .int x9), (0, .ref (w.1 12 47)), (1, .int a1), (2, .int x1), (3, .int x2), (5, .int x6)]) hx hb dX12_through_112 hl (by decide) rfl (fun ls hl => ?_)
                exact hj114_14 x12 H _ _ hf hI (lv_sub hl [3, 4, 5, 6, 0, 7] rfl)
              · have hf := (if_pos c8).symm.trans hf
                refine lv_goto (tgt := 114) hx hb dX12_through_50 (by decide) ?_
                exact hj114_14 x5 H _ _ hf hI (lv_sub hl [0, 1, 2, 3, 4, 5] rfl)
        refine hL33 1000 x4 (0 : Int32) _ _ _ _ hf hI (lv_sub hl [2, 3, 4, 5, 1, 0] rfl) ?_
        intro x16 H locs ls hf hI hl
        try dsimp only at hf
        refine lv_iload_n hx hb dX12_through_120 rfl (lv_at hl 2 rfl) ?_
        refine lv_iload hx hb dX12_through_121 (lv_at hl 4 rfl) ?_
        refine lv_iadd hx hb dX12_through_123 ?_
        refine lv_bipush (v := 97) hx hb dX12_through_124 (by decide) ?_
        refine lv_irem hx hb dX12_through_126 (by decide) ?_
        refine lv_topi (fun x17 ex17 => ?_)
        have hf := mlet_s ex17 hf
        refine lv_istore_n (lv' := [(2, .int x17), (0, .ref (w.1 12 47)), (1, .int a1), (3, .int x2), (4, .int x16)]) hx hb dX12_through_127 rfl hl (by decide) rfl (fun ls hl => ?_)
        obtain ⟨x18, ex18, hf⟩ := mlet_e hf
        refine lv_iinc (v := x18) (lv' := [(3, .int x18), (2, .int x17), (0, .ref (w.1 12 47)), (1, .int a1), (4, .int x16)]) hx hb dX12_through_128 hl (k := 3) rfl (by rw [ex18]; rfl) (by decide) rfl (fun ls hl => ?_)
        refine lv_goto (tgt := 4) hx hb dX12_through_131 (by decide) ?_
        exact ih4 x17 x18 kk H _ _ hf hI (lv_sub hl [2, 3, 1, 0] rfl) hk
  refine hL4 1000 (0 : Int32) (0 : Int32) _ _ _ _ hf hI (lv_sub hl [2, 3, 1, 0] rfl) ?_
  intro x19 H locs ls hf hI hl
  try dsimp only at hf
  refine lv_iload_n hx hb dX12_through_134 rfl (lv_at hl 0 rfl) ?_
  exact m_iretp hx hb hr hlk hI hf dX12_through_135
abbrev rmX12_takesFirst : Room := { frames := 0, cells := 0, slots := 0, locals := 0 }
theorem kb_X12_takesFirst {R : Room} {s : State} {args : Array Value} {own : String} {idx : Nat} (hT : mT s) (hlink : (Cond.methodLink own idx yX12_takesFirst).before args s = true) (h1 : rmX12_takesFirst.frames + 1 ≤ R.frames) (h2 : 8 + (2 + 11) + rmX12_takesFirst.locals ≤ R.locals) : CallB R s args own idx yX12_takesFirst cX12_takesFirst 2 (none) [Cond.code yX12_takesFirst cX12_takesFirst 2 (none)] rmX12_takesFirst 0 0 0 := m_callB hT kc_X12_takesFirst ki_X12_takesFirst hlink (by decide +kernel) ⟨rfl, rfl, h1, h2⟩
set_option maxHeartbeats 4000000 in
set_option maxRecDepth 100000 in
theorem c_X12_takesFirst (l : Launch) (w : WD) (sz : Nat)  (M : Mem) (r : Unit) (M9 : Mem) (hf : f_X12_takesFirst  M = some (r, M9)) : mMet l yX12_takesFirst cX12_takesFirst 2 (none) rmX12_takesFirst w sz M [.ref (w.1 12 47)] none M9 := by
  refine m_of (by decide) (Nat.le_of_ble_eq_true rfl) ?_
  intro p e s m args below meth c hx hb hr hml hown hlk hI ls hl
  have hl : lv_has ls 2 [(0, .ref (w.1 12 47))] := hl
  unfold f_X12_takesFirst at hf
  refine lv_iconst (v := 0) hx hb dX12_takesFirst_0 (by decide) ?_
  refine lv_istore_n (lv' := [(1, .int (0 : Int32)), (0, .ref (w.1 12 47))]) hx hb dX12_takesFirst_1 rfl hl (by decide) rfl (fun ls hl => ?_)
  have hL2 : ∀ (n : Nat) (x1 : Int32) (M2 : Mem) (kk : Mem → Option (Unit × Mem)) (H : Heap) (locs : List Loc) (ls : Array Slot), f_X12_takesFirst_L2 n x1 M2 kk = some (r, M9) → mI w s (mA w s.heap.size) H locs M2 → lv_has ls 2 [(0, .ref (w.1 12 47)), (1, .int x1)] → (∀  (M2 : Mem) (H : Heap) (locs : List Loc) (ls : Array Slot), kk M2 = some (r, M9) → mI w s (mA w s.heap.size) H locs M2 → lv_has ls 2 [] → W p l e rmX12_takesFirst s m args below meth c H locs 0 0 (MQ below (mQ w s.heap.size none M9) args s 0 0 (mA w s.heap.size)) (F0 m 33 ls [])) → W p l e rmX12_takesFirst s m args below meth c H locs 0 0 (MQ below (mQ w s.heap.size none M9) args s 0 0 (mA w s.heap.size)) (F0 m 2 ls []) := by
    intro n
    induction n with
    | zero => intro x1 M2 kk H locs ls hf hI hl hk; rw [f_X12_takesFirst_L2.eq_1] at hf; cases hf
    | succ n ih2 =>
      intro x1 M2 kk H locs ls hf hI hl hk
      rw [f_X12_takesFirst_L2.eq_2] at hf
      refine lv_iload_n hx hb dX12_takesFirst_2 rfl (lv_at hl 1 rfl) ?_
      refine lv_aload_n hx hb dX12_takesFirst_3 rfl (lv_at hl 0 rfl) ?_
      refine m_get (g := 12) (i := 47) (ci := 10) (k := 1) (v := .ref (w.1 12 48)) hx hb hI hown (mokX (by decide) (by decide)) rfl rfl (by decide) lyX12 (q1427 hI.T) rfl dX12_takesFirst_4 ?_
      refine lv_iconst (v := 5) hx hb dX12_takesFirst_7 (by decide) ?_
      obtain ⟨hi, hf⟩ := mix_e hf
      refine m_iald (g := 12) (i := 48) hx hb hI (mokX (by decide) (by decide)) rfl hi dX12_takesFirst_8 ?_
      refine lv_icmp_ge (tgt := 33) hx hb dX12_takesFirst_9 (by decide) (fun c3 => ?_) (fun c3 => ?_)
      · have hf := (if_pos c3).symm.trans hf
        exact hk M2 H _ _ hf hI (lv_sub hl [] rfl)
      · have hf := (if_neg c3).symm.trans hf
        refine lv_aload_n hx hb dX12_takesFirst_12 rfl (lv_at hl 0 rfl) ?_
        refine m_get (g := 12) (i := 47) (ci := 10) (k := 11) (v := .ref (w.1 12 56)) hx hb hI hown (mokX (by decide) (by decide)) rfl rfl (by decide) lyX12 (q1437 hI.T) rfl dX12_takesFirst_13 ?_
        refine lv_iload_n hx hb dX12_takesFirst_16 rfl (lv_at hl 1 rfl) ?_
        refine lv_aload_n hx hb dX12_takesFirst_17 rfl (lv_at hl 0 rfl) ?_
        refine m_get (g := 12) (i := 47) (ci := 10) (k := 1) (v := .ref (w.1 12 48)) hx hb hI hown (mokX (by decide) (by decide)) rfl rfl (by decide) lyX12 (q1427 hI.T) rfl dX12_takesFirst_18 ?_
        refine lv_bipush (v := 23) hx hb dX12_takesFirst_21 (by decide) ?_
        refine lv_iload_n hx hb dX12_takesFirst_23 rfl (lv_at hl 1 rfl) ?_
        refine lv_iadd hx hb dX12_takesFirst_24 ?_
        obtain ⟨hi, hf⟩ := mix_e hf
        refine m_iald (g := 12) (i := 48) hx hb hI (mokX (by decide) (by decide)) rfl hi dX12_takesFirst_25 ?_
        obtain ⟨hi, hf⟩ := mix_e hf
        obtain ⟨M4, eM4, hf⟩ := mlet_e hf
        refine m_iast (g := 12) (i := 56) (M1 := M4) hx hb hI (mokX (by decide) (by decide)) rfl hi eM4 dX12_takesFirst_26 (fun H locs hI => ?_)
        obtain ⟨x5, ex5, hf⟩ := mlet_e hf
        refine lv_iinc (v := x5) (lv' := [(1, .int x5), (0, .ref (w.1 12 47))]) hx hb dX12_takesFirst_27 hl (k := 1) rfl (by rw [ex5]; rfl) (by decide) rfl (fun ls hl => ?_)
        refine lv_goto (tgt := 2) hx hb dX12_takesFirst_30 (by decide) ?_
        exact ih2 x5 M4 kk H _ _ hf hI (lv_sub hl [1, 0] rfl) hk
  refine hL2 1000 (0 : Int32) M _ _ _ _ hf hI (lv_sub hl [1, 0] rfl) ?_
  intro M6 H locs ls hf hI hl
  try dsimp only at hf
  exact m_vretf hx hb hr hlk hI hf dX12_takesFirst_33
abbrev rmX12_onIt : Room := { frames := 2, cells := 0, slots := 0, locals := 48 }
theorem kb_X12_onIt {R : Room} {s : State} {args : Array Value} {own : String} {idx : Nat} (hT : mT s) (hlink : (Cond.methodLink own idx yX12_onIt).before args s = true) (h1 : rmX12_onIt.frames + 1 ≤ R.frames) (h2 : 8 + (3 + 11) + rmX12_onIt.locals ≤ R.locals) : CallB R s args own idx yX12_onIt cX12_onIt 3 (some .int) [Cond.code yX12_onIt cX12_onIt 3 (some .int)] rmX12_onIt 0 0 0 := m_callB hT kc_X12_onIt ki_X12_onIt hlink (by decide +kernel) ⟨rfl, rfl, h1, h2⟩
set_option maxHeartbeats 4000000 in
set_option maxRecDepth 100000 in
theorem c_X12_onIt (l : Launch) (w : WD) (sz : Nat)  (M : Mem) (r : Int32) (hf : f_X12_onIt  M = some r) : mMet l yX12_onIt cX12_onIt 3 (some .int) rmX12_onIt w sz M [.ref (w.1 12 47)] (some (.int r)) M := by
  refine m_of (by decide) (Nat.le_of_ble_eq_true rfl) ?_
  intro p e s m args below meth c hx hb hr hml hown hlk hI ls hl
  have hl : lv_has ls 3 [(0, .ref (w.1 12 47))] := hl
  unfold f_X12_onIt at hf
  refine lv_iconst (v := 0) hx hb dX12_onIt_0 (by decide) ?_
  refine lv_istore_n (lv' := [(1, .int (0 : Int32)), (0, .ref (w.1 12 47))]) hx hb dX12_onIt_1 rfl hl (by decide) rfl (fun ls hl => ?_)
  refine lv_iconst (v := 0) hx hb dX12_onIt_2 (by decide) ?_
  refine lv_istore_n (lv' := [(2, .int (0 : Int32)), (1, .int (0 : Int32)), (0, .ref (w.1 12 47))]) hx hb dX12_onIt_3 rfl hl (by decide) rfl (fun ls hl => ?_)
  have hL4 : ∀ (n : Nat) (x1 : Int32) (x2 : Int32) (kk : Int32 → Option Int32) (H : Heap) (locs : List Loc) (ls : Array Slot), f_X12_onIt_L4 M n x1 x2 kk = some r → mI w s (mA w s.heap.size) H locs M → lv_has ls 3 [(0, .ref (w.1 12 47)), (1, .int x1), (2, .int x2)] → (∀ (x1 : Int32) (H : Heap) (locs : List Loc) (ls : Array Slot), kk x1 = some r → mI w s (mA w s.heap.size) H locs M → lv_has ls 3 [(1, .int x1)] → W p l e rmX12_onIt s m args below meth c H locs 0 0 (MQ below (mQ w s.heap.size (some (.int r)) M) args s 0 0 (mA w s.heap.size)) (F0 m 64 ls [])) → W p l e rmX12_onIt s m args below meth c H locs 0 0 (MQ below (mQ w s.heap.size (some (.int r)) M) args s 0 0 (mA w s.heap.size)) (F0 m 4 ls []) := by
    intro n
    induction n with
    | zero => intro x1 x2 kk H locs ls hf hI hl hk; rw [f_X12_onIt_L4.eq_1] at hf; cases hf
    | succ n ih4 =>
      intro x1 x2 kk H locs ls hf hI hl hk
      rw [f_X12_onIt_L4.eq_2] at hf
      refine lv_iload_n hx hb dX12_onIt_4 rfl (lv_at hl 2 rfl) ?_
      refine lv_aload_n hx hb dX12_onIt_5 rfl (lv_at hl 0 rfl) ?_
      refine m_get (g := 12) (i := 47) (ci := 10) (k := 1) (v := .ref (w.1 12 48)) hx hb hI hown (mokX (by decide) (by decide)) rfl rfl (by decide) lyX12 (q1427 hI.T) rfl dX12_onIt_6 ?_
      refine lv_bipush (v := 9) hx hb dX12_onIt_9 (by decide) ?_
      obtain ⟨hi, hf⟩ := mix_e hf
      refine m_iald (g := 12) (i := 48) hx hb hI (mokX (by decide) (by decide)) rfl hi dX12_onIt_11 ?_
      refine lv_icmp_ge (tgt := 64) hx hb dX12_onIt_12 (by decide) (fun c3 => ?_) (fun c3 => ?_)
      · have hf := (if_pos c3).symm.trans hf
        exact hk x1 H _ _ hf hI (lv_sub hl [1] rfl)
      · have hf := (if_neg c3).symm.trans hf
        refine lv_iload_n hx hb dX12_onIt_15 rfl (lv_at hl 1 rfl) ?_
        refine lv_aload_n hx hb dX12_onIt_16 rfl (lv_at hl 0 rfl) ?_
        refine lv_aload_n hx hb dX12_onIt_17 rfl (lv_at hl 0 rfl) ?_
        refine m_get (g := 12) (i := 47) (ci := 10) (k := 1) (v := .ref (w.1 12 48)) hx hb hI hown (mokX (by decide) (by decide)) rfl rfl (by decide) lyX12 (q1427 hI.T) rfl dX12_onIt_18 ?_
        refine lv_bipush (v := 23) hx hb dX12_onIt_21 (by decide) ?_
        refine lv_iload_n hx hb dX12_onIt_23 rfl (lv_at hl 2 rfl) ?_
        refine lv_iadd hx hb dX12_onIt_24 ?_
        obtain ⟨hi, hf⟩ := mix_e hf
        refine m_iald (g := 12) (i := 48) hx hb hI (mokX (by decide) (by decide)) rfl hi dX12_onIt_25 ?_
        refine lv_iconst (v := 1) hx hb dX12_onIt_26 (by decide) ?_
        refine lv_iadd hx hb dX12_onIt_27 ?_
        obtain ⟨r4, hc, hf⟩ := mbp_e hf
        refine m_callV (As := [.int ((M 12 48 ((23 : Int32) + x2).toNatClampNeg) + (1 : Int32))]) (rest := [.int x1]) hx hb hml hown hI (c_X12_through l w H.size ((M 12 48 ((23 : Int32) + x2).toNatClampNeg) + (1 : Int32)) M _ hc) (kb_X12_through hI.T (q1607 hI.T) (Nat.le_of_ble_eq_true rfl) (Nat.le_of_ble_eq_true rfl)) (q1609 hI.T) (sel_X12_through hI.T) (m_recv (g := 12) (i := 47) hI (mokX (by decide) (by decide)) rfl rfl) rfl hl.1 (Nat.le_of_ble_eq_true rfl) dX12_onIt_28 ⟨Nat.le_of_ble_eq_true rfl, Nat.le_of_ble_eq_true rfl⟩ (fun H locs hI => ?_)
        refine lv_aload_n hx hb dX12_onIt_31 rfl (lv_at hl 0 rfl) ?_
        refine m_get (g := 12) (i := 47) (ci := 10) (k := 1) (v := .ref (w.1 12 48)) hx hb hI hown (mokX (by decide) (by decide)) rfl rfl (by decide) lyX12 (q1427 hI.T) rfl dX12_onIt_32 ?_
        refine lv_bipush (v := 15) hx hb dX12_onIt_35 (by decide) ?_
        refine lv_aload_n hx hb dX12_onIt_37 rfl (lv_at hl 0 rfl) ?_
        refine m_get (g := 12) (i := 47) (ci := 10) (k := 1) (v := .ref (w.1 12 48)) hx hb hI hown (mokX (by decide) (by decide)) rfl rfl (by decide) lyX12 (q1427 hI.T) rfl dX12_onIt_38 ?_
        refine lv_bipush (v := 23) hx hb dX12_onIt_41 (by decide) ?_
        refine lv_iload_n hx hb dX12_onIt_43 rfl (lv_at hl 2 rfl) ?_
        refine lv_iadd hx hb dX12_onIt_44 ?_
        obtain ⟨hi, hf⟩ := mix_e hf
        refine m_iald (g := 12) (i := 48) hx hb hI (mokX (by decide) (by decide)) rfl hi dX12_onIt_45 ?_
        refine lv_iadd hx hb dX12_onIt_46 ?_
        obtain ⟨hi, hf⟩ := mix_e hf
        refine m_iald (g := 12) (i := 48) hx hb hI (mokX (by decide) (by decide)) rfl hi dX12_onIt_47 ?_
        obtain ⟨k56_7, ek56_7, hf⟩ := mlet_e hf
        have hj56_7 : ∀ (x6 : Int32) (H : Heap) (locs : List Loc) (ls : Array Slot), k56_7 x6 = some r → mI w s (mA w s.heap.size) H locs M → lv_has ls 3 [(0, .ref (w.1 12 47)), (2, .int x2)] → W p l e rmX12_onIt s m args below meth c H locs 0 0 (MQ below (mQ w s.heap.size (some (.int r)) M) args s 0 0 (mA w s.heap.size)) (F0 m 56 ls [.int x6, .int x1]) := by
          intro x6 H locs ls hf hI hl
          rw [ek56_7] at hf
          try dsimp only at hf
          refine lv_iadd hx hb dX12_onIt_56 ?_
          refine lv_topi (fun x8 ex8 => ?_)
          have hf := mlet_s ex8 hf
          refine lv_istore_n (lv' := [(1, .int x8), (0, .ref (w.1 12 47)), (2, .int x2)]) hx hb dX12_onIt_57 rfl hl (by decide) rfl (fun ls hl => ?_)
          obtain ⟨x9, ex9, hf⟩ := mlet_e hf
          refine lv_iinc (v := x9) (lv' := [(2, .int x9), (1, .int x8), (0, .ref (w.1 12 47))]) hx hb dX12_onIt_58 hl (k := 2) rfl (by rw [ex9]; rfl) (by decide) rfl (fun ls hl => ?_)
          refine lv_goto (tgt := 4) hx hb dX12_onIt_61 (by decide) ?_
          exact ih4 x8 x9 kk H _ _ hf hI (lv_sub hl [2, 1, 0] rfl) hk
        refine lv_icmp_ne (tgt := 55) hx hb dX12_onIt_48 (by decide) (fun c5 => ?_) (fun c5 => ?_)
        · have hf := (if_neg c5).symm.trans hf
          refine lv_iconst (v := 0) hx hb dX12_onIt_55 (by decide) ?_
          exact hj56_7 (0 : Int32) H _ _ hf hI (lv_sub hl [0, 2] rfl)
        · have hf := (if_pos c5).symm.trans hf
          refine lv_iconst (v := 1) hx hb dX12_onIt_51 (by decide) ?_
          refine lv_goto (tgt := 56) hx hb dX12_onIt_52 (by decide) ?_
          exact hj56_7 (1 : Int32) H _ _ hf hI (lv_sub hl [0, 2] rfl)
  refine hL4 1000 (0 : Int32) (0 : Int32) _ _ _ _ hf hI (lv_sub hl [2, 1, 0] rfl) ?_
  intro x10 H locs ls hf hI hl
  try dsimp only at hf
  refine lv_iload_n hx hb dX12_onIt_64 rfl (lv_at hl 0 rfl) ?_
  exact m_iretp hx hb hr hlk hI hf dX12_onIt_65
abbrev rmX12_most_0 : Room := { frames := 3, cells := 0, slots := 0, locals := 70 }
theorem kb_X12_most_0 {R : Room} {s : State} {args : Array Value} {own : String} {idx : Nat} (hT : mT s) (hlink : (Cond.methodLink own idx yX12_most).before args s = true) (h1 : rmX12_most_0.frames + 1 ≤ R.frames) (h2 : 8 + (6 + 11) + rmX12_most_0.locals ≤ R.locals) : CallB R s args own idx yX12_most cX12_most 6 (some .int) [Cond.code yX12_most cX12_most 6 (some .int)] rmX12_most_0 0 0 2 := m_callB hT kc_X12_most ki_X12_most hlink (by decide +kernel) ⟨rfl, rfl, h1, h2⟩
set_option maxHeartbeats 4000000 in
set_option maxRecDepth 100000 in
theorem c_X12_most_0 (l : Launch) (w : WD) (sz : Nat) (a1 : Int32) (a2 : Int32) (M : Mem) (r : Int32) (M9 : Mem) (hf : f_X12_most_0 a1 a2 M = some (r, M9)) : mMet l yX12_most cX12_most 6 (some .int) rmX12_most_0 w sz M [.ref (w.1 12 47), .int a1, .int a2] (some (.int r)) M9 := by
  refine m_of (by decide) (Nat.le_of_ble_eq_true rfl) ?_
  intro p e s m args below meth c hx hb hr hml hown hlk hI ls hl
  have hl : lv_has ls 6 [(0, .ref (w.1 12 47)), (1, .int a1), (2, .int a2)] := hl
  unfold f_X12_most_0 at hf
  refine lv_iload_n hx hb dX12_most_0 rfl (lv_at hl 1 rfl) ?_
  refine lv_aload_n hx hb dX12_most_1 rfl (lv_at hl 0 rfl) ?_
  refine m_get (g := 12) (i := 47) (ci := 10) (k := 1) (v := .ref (w.1 12 48)) hx hb hI hown (mokX (by decide) (by decide)) rfl rfl (by decide) lyX12 (q1427 hI.T) rfl dX12_most_2 ?_
  refine lv_iconst (v := 5) hx hb dX12_most_5 (by decide) ?_
  obtain ⟨hi, hf⟩ := mix_e hf
  refine m_iald (g := 12) (i := 48) hx hb hI (mokX (by decide) (by decide)) rfl hi dX12_most_6 ?_
  refine lv_icmp_ne (tgt := 15) hx hb dX12_most_7 (by decide) (fun c1 => ?_) (fun c1 => ?_)
  · have hf := (if_neg c1).symm.trans hf
    refine lv_iconst (v := 0) hx hb dX12_most_15 (by decide) ?_
    refine lv_istore_n (lv' := [(3, .int (0 : Int32)), (0, .ref (w.1 12 47)), (1, .int a1), (2, .int a2)]) hx hb dX12_most_16 rfl hl (by decide) rfl (fun ls hl => ?_)
    refine lv_iload_n hx hb dX12_most_17 rfl (lv_at hl 3 rfl) ?_
    refine lv_istore (lv' := [(4, .int a2), (3, .int (0 : Int32)), (0, .ref (w.1 12 47)), (1, .int a1), (2, .int a2)]) hx hb dX12_most_18 hl (by decide) rfl (fun ls hl => ?_)
    have hL20 : ∀ (n : Nat) (x2 : Int32) (x3 : Int32) (M4 : Mem) (kk : Int32 → Mem → Option (Int32 × Mem)) (H : Heap) (locs : List Loc) (ls : Array Slot), f_X12_most_0_L20 a1 n x2 x3 M4 kk = some (r, M9) → mI w s (mA w s.heap.size) H locs M4 → lv_has ls 6 [(0, .ref (w.1 12 47)), (1, .int a1), (3, .int x2), (4, .int x3)] → (∀ (x2 : Int32) (M4 : Mem) (H : Heap) (locs : List Loc) (ls : Array Slot), kk x2 M4 = some (r, M9) → mI w s (mA w s.heap.size) H locs M4 → lv_has ls 6 [(3, .int x2)] → W p l e rmX12_most_0 s m args below meth c H locs 0 0 (MQ below (mQ w s.heap.size (some (.int r)) M9) args s 0 0 (mA w s.heap.size)) (F0 m 80 ls [])) → W p l e rmX12_most_0 s m args below meth c H locs 0 0 (MQ below (mQ w s.heap.size (some (.int r)) M9) args s 0 0 (mA w s.heap.size)) (F0 m 20 ls []) := by
      intro n
      induction n with
      | zero => intro x2 x3 M4 kk H locs ls hf hI hl hk; rw [f_X12_most_0_L20.eq_1] at hf; cases hf
      | succ n ih20 =>
        intro x2 x3 M4 kk H locs ls hf hI hl hk
        rw [f_X12_most_0_L20.eq_2] at hf
        refine lv_iload hx hb dX12_most_20 (lv_at hl 3 rfl) ?_
        refine lv_aload_n hx hb dX12_most_22 rfl (lv_at hl 0 rfl) ?_
        refine m_get (g := 12) (i := 47) (ci := 10) (k := 1) (v := .ref (w.1 12 48)) hx hb hI hown (mokX (by decide) (by decide)) rfl rfl (by decide) lyX12 (q1427 hI.T) rfl dX12_most_23 ?_
        refine lv_bipush (v := 9) hx hb dX12_most_26 (by decide) ?_
        obtain ⟨hi, hf⟩ := mix_e hf
        refine m_iald (g := 12) (i := 48) hx hb hI (mokX (by decide) (by decide)) rfl hi dX12_most_28 ?_
        refine lv_icmp_ge (tgt := 80) hx hb dX12_most_29 (by decide) (fun c5 => ?_) (fun c5 => ?_)
        · have hf := (if_pos c5).symm.trans hf
          exact hk x2 M4 H _ _ hf hI (lv_sub hl [2] rfl)
        · have hf := (if_neg c5).symm.trans hf
          refine lv_aload_n hx hb dX12_most_32 rfl (lv_at hl 0 rfl) ?_
          refine m_get (g := 12) (i := 47) (ci := 10) (k := 11) (v := .ref (w.1 12 56)) hx hb hI hown (mokX (by decide) (by decide)) rfl rfl (by decide) lyX12 (q1437 hI.T) rfl dX12_most_33 ?_
          refine lv_iload_n hx hb dX12_most_36 rfl (lv_at hl 1 rfl) ?_
          refine lv_aload_n hx hb dX12_most_37 rfl (lv_at hl 0 rfl) ?_
          refine m_get (g := 12) (i := 47) (ci := 10) (k := 1) (v := .ref (w.1 12 48)) hx hb hI hown (mokX (by decide) (by decide)) rfl rfl (by decide) lyX12 (q1427 hI.T) rfl dX12_most_38 ?_
          refine lv_bipush (v := 23) hx hb dX12_most_41 (by decide) ?_
          refine lv_iload hx hb dX12_most_43 (lv_at hl 3 rfl) ?_
          refine lv_iadd hx hb dX12_most_45 ?_
          obtain ⟨hi, hf⟩ := mix_e hf
          refine m_iald (g := 12) (i := 48) hx hb hI (mokX (by decide) (by decide)) rfl hi dX12_most_46 ?_
          obtain ⟨hi, hf⟩ := mix_e hf
          obtain ⟨M6, eM6, hf⟩ := mlet_e hf
          refine m_iast (g := 12) (i := 56) (M1 := M6) hx hb hI (mokX (by decide) (by decide)) rfl hi eM6 dX12_most_47 (fun H locs hI => ?_)
          refine lv_aload_n hx hb dX12_most_48 rfl (lv_at hl 0 rfl) ?_
          refine lv_iload_n hx hb dX12_most_49 rfl (lv_at hl 1 rfl) ?_
          refine lv_iconst (v := 1) hx hb dX12_most_50 (by decide) ?_
          refine lv_iadd hx hb dX12_most_51 ?_
          refine lv_iload hx hb dX12_most_52 (lv_at hl 3 rfl) ?_
          refine lv_iconst (v := 1) hx hb dX12_most_54 (by decide) ?_
          refine lv_iadd hx hb dX12_most_55 ?_
          exact nomatch hf
    refine hL20 1000 (0 : Int32) a2 M _ _ _ _ hf hI (lv_sub hl [2, 3, 1, 0] rfl) ?_
    intro x7 M8 H locs ls hf hI hl
    try dsimp only at hf
    refine lv_iload_n hx hb dX12_most_80 rfl (lv_at hl 0 rfl) ?_
    exact m_iretf hx hb hr hlk hI hf dX12_most_81
  · have hf := (if_pos c1).symm.trans hf
    refine lv_aload_n hx hb dX12_most_10 rfl (lv_at hl 0 rfl) ?_
    obtain ⟨r9, hc, hf⟩ := mbp_e hf
    refine m_callV (As := []) (rest := []) hx hb hml hown hI (c_X12_onIt l w s.heap.size M _ hc) (kb_X12_onIt hI.T (q1603 hI.T) (Nat.le_of_ble_eq_true rfl) (Nat.le_of_ble_eq_true rfl)) (q1605 hI.T) (sel_X12_onIt hI.T) (m_recv (g := 12) (i := 47) hI (mokX (by decide) (by decide)) rfl rfl) rfl hl.1 (Nat.le_of_ble_eq_true rfl) dX12_most_11 ⟨Nat.le_of_ble_eq_true rfl, Nat.le_of_ble_eq_true rfl⟩ (fun H locs hI => ?_)
    exact m_iretf hx hb hr hlk hI hf dX12_most_14
abbrev rmX12_most_1 : Room := { frames := 4, cells := 0, slots := 0, locals := 95 }
theorem kb_X12_most_1 {R : Room} {s : State} {args : Array Value} {own : String} {idx : Nat} (hT : mT s) (hlink : (Cond.methodLink own idx yX12_most).before args s = true) (h1 : rmX12_most_1.frames + 1 ≤ R.frames) (h2 : 8 + (6 + 11) + rmX12_most_1.locals ≤ R.locals) : CallB R s args own idx yX12_most cX12_most 6 (some .int) [Cond.code yX12_most cX12_most 6 (some .int)] rmX12_most_1 0 0 2 := m_callB hT kc_X12_most ki_X12_most hlink (by decide +kernel) ⟨rfl, rfl, h1, h2⟩
set_option maxHeartbeats 4000000 in
set_option maxRecDepth 100000 in
theorem c_X12_most_1 (l : Launch) (w : WD) (sz : Nat) (a1 : Int32) (a2 : Int32) (M : Mem) (r : Int32) (M9 : Mem) (hf : f_X12_most_1 a1 a2 M = some (r, M9)) : mMet l yX12_most cX12_most 6 (some .int) rmX12_most_1 w sz M [.ref (w.1 12 47), .int a1, .int a2] (some (.int r)) M9 := by
  refine m_of (by decide) (Nat.le_of_ble_eq_true rfl) ?_
  intro p e s m args below meth c hx hb hr hml hown hlk hI ls hl
  have hl : lv_has ls 6 [(0, .ref (w.1 12 47)), (1, .int a1), (2, .int a2)] := hl
  unfold f_X12_most_1 at hf
  refine lv_iload_n hx hb dX12_most_0 rfl (lv_at hl 1 rfl) ?_
  refine lv_aload_n hx hb dX12_most_1 rfl (lv_at hl 0 rfl) ?_
  refine m_get (g := 12) (i := 47) (ci := 10) (k := 1) (v := .ref (w.1 12 48)) hx hb hI hown (mokX (by decide) (by decide)) rfl rfl (by decide) lyX12 (q1427 hI.T) rfl dX12_most_2 ?_
  refine lv_iconst (v := 5) hx hb dX12_most_5 (by decide) ?_
  obtain ⟨hi, hf⟩ := mix_e hf
  refine m_iald (g := 12) (i := 48) hx hb hI (mokX (by decide) (by decide)) rfl hi dX12_most_6 ?_
  refine lv_icmp_ne (tgt := 15) hx hb dX12_most_7 (by decide) (fun c1 => ?_) (fun c1 => ?_)
  · have hf := (if_neg c1).symm.trans hf
    refine lv_iconst (v := 0) hx hb dX12_most_15 (by decide) ?_
    refine lv_istore_n (lv' := [(3, .int (0 : Int32)), (0, .ref (w.1 12 47)), (1, .int a1), (2, .int a2)]) hx hb dX12_most_16 rfl hl (by decide) rfl (fun ls hl => ?_)
    refine lv_iload_n hx hb dX12_most_17 rfl (lv_at hl 3 rfl) ?_
    refine lv_istore (lv' := [(4, .int a2), (3, .int (0 : Int32)), (0, .ref (w.1 12 47)), (1, .int a1), (2, .int a2)]) hx hb dX12_most_18 hl (by decide) rfl (fun ls hl => ?_)
    have hL20 : ∀ (n : Nat) (x2 : Int32) (x3 : Int32) (M4 : Mem) (kk : Int32 → Mem → Option (Int32 × Mem)) (H : Heap) (locs : List Loc) (ls : Array Slot), f_X12_most_1_L20 a1 n x2 x3 M4 kk = some (r, M9) → mI w s (mA w s.heap.size) H locs M4 → lv_has ls 6 [(0, .ref (w.1 12 47)), (1, .int a1), (3, .int x2), (4, .int x3)] → (∀ (x2 : Int32) (M4 : Mem) (H : Heap) (locs : List Loc) (ls : Array Slot), kk x2 M4 = some (r, M9) → mI w s (mA w s.heap.size) H locs M4 → lv_has ls 6 [(3, .int x2)] → W p l e rmX12_most_1 s m args below meth c H locs 0 0 (MQ below (mQ w s.heap.size (some (.int r)) M9) args s 0 0 (mA w s.heap.size)) (F0 m 80 ls [])) → W p l e rmX12_most_1 s m args below meth c H locs 0 0 (MQ below (mQ w s.heap.size (some (.int r)) M9) args s 0 0 (mA w s.heap.size)) (F0 m 20 ls []) := by
      intro n
      induction n with
      | zero => intro x2 x3 M4 kk H locs ls hf hI hl hk; rw [f_X12_most_1_L20.eq_1] at hf; cases hf
      | succ n ih20 =>
        intro x2 x3 M4 kk H locs ls hf hI hl hk
        rw [f_X12_most_1_L20.eq_2] at hf
        refine lv_iload hx hb dX12_most_20 (lv_at hl 3 rfl) ?_
        refine lv_aload_n hx hb dX12_most_22 rfl (lv_at hl 0 rfl) ?_
        refine m_get (g := 12) (i := 47) (ci := 10) (k := 1) (v := .ref (w.1 12 48)) hx hb hI hown (mokX (by decide) (by decide)) rfl rfl (by decide) lyX12 (q1427 hI.T) rfl dX12_most_23 ?_
        refine lv_bipush (v := 9) hx hb dX12_most_26 (by decide) ?_
        obtain ⟨hi, hf⟩ := mix_e hf
        refine m_iald (g := 12) (i := 48) hx hb hI (mokX (by decide) (by decide)) rfl hi dX12_most_28 ?_
        refine lv_icmp_ge (tgt := 80) hx hb dX12_most_29 (by decide) (fun c5 => ?_) (fun c5 => ?_)
        · have hf := (if_pos c5).symm.trans hf
          exact hk x2 M4 H _ _ hf hI (lv_sub hl [2] rfl)
        · have hf := (if_neg c5).symm.trans hf
          refine lv_aload_n hx hb dX12_most_32 rfl (lv_at hl 0 rfl) ?_
          refine m_get (g := 12) (i := 47) (ci := 10) (k := 11) (v := .ref (w.1 12 56)) hx hb hI hown (mokX (by decide) (by decide)) rfl rfl (by decide) lyX12 (q1437 hI.T) rfl dX12_most_33 ?_
          refine lv_iload_n hx hb dX12_most_36 rfl (lv_at hl 1 rfl) ?_
          refine lv_aload_n hx hb dX12_most_37 rfl (lv_at hl 0 rfl) ?_
          refine m_get (g := 12) (i := 47) (ci := 10) (k := 1) (v := .ref (w.1 12 48)) hx hb hI hown (mokX (by decide) (by decide)) rfl rfl (by decide) lyX12 (q1427 hI.T) rfl dX12_most_38 ?_
          refine lv_bipush (v := 23) hx hb dX12_most_41 (by decide) ?_
          refine lv_iload hx hb dX12_most_43 (lv_at hl 3 rfl) ?_
          refine lv_iadd hx hb dX12_most_45 ?_
          obtain ⟨hi, hf⟩ := mix_e hf
          refine m_iald (g := 12) (i := 48) hx hb hI (mokX (by decide) (by decide)) rfl hi dX12_most_46 ?_
          obtain ⟨hi, hf⟩ := mix_e hf
          obtain ⟨M6, eM6, hf⟩ := mlet_e hf
          refine m_iast (g := 12) (i := 56) (M1 := M6) hx hb hI (mokX (by decide) (by decide)) rfl hi eM6 dX12_most_47 (fun H locs hI => ?_)
          refine lv_aload_n hx hb dX12_most_48 rfl (lv_at hl 0 rfl) ?_
          refine lv_iload_n hx hb dX12_most_49 rfl (lv_at hl 1 rfl) ?_
          refine lv_iconst (v := 1) hx hb dX12_most_50 (by decide) ?_
          refine lv_iadd hx hb dX12_most_51 ?_
          refine lv_iload hx hb dX12_most_52 (lv_at hl 3 rfl) ?_
          refine lv_iconst (v := 1) hx hb dX12_most_54 (by decide) ?_
          refine lv_iadd hx hb dX12_most_55 ?_
          obtain ⟨r7, M8, hc, hf⟩ := mbnd_e hf
          refine m_callV (As := [.int (a1 + (1 : Int32)), .int (x3 + (1 : Int32))]) (rest := []) hx hb hml hown hI (c_X12_most_0 l w H.size (a1 + (1 : Int32)) (x3 + (1 : Int32)) M6 _ _ hc) (kb_X12_most_0 hI.T (q1738 hI.T) (Nat.le_of_ble_eq_true rfl) (Nat.le_of_ble_eq_true rfl)) (q1740 hI.T) (sel_X12_most hI.T) (m_recv (g := 12) (i := 47) hI (mokX (by decide) (by decide)) rfl rfl) rfl hl.1 (Nat.le_of_ble_eq_true rfl) dX12_most_56 ⟨Nat.le_of_ble_eq_true rfl, Nat.le_of_ble_eq_true rfl⟩ (fun H locs hI => ?_)
          refine lv_istore (lv' := [(5, .int r7), (0, .ref (w.1 12 47)), (1, .int a1), (3, .int x2), (4, .int x3)]) hx hb dX12_most_59 hl (by decide) rfl (fun ls hl => ?_)
          refine lv_iload hx hb dX12_most_61 (lv_at hl 0 rfl) ?_
          refine lv_iload_n hx hb dX12_most_63 rfl (lv_at hl 3 rfl) ?_
          obtain ⟨k73_11, ek73_11, hf⟩ := mlet_e hf
          have hj73_11 : ∀ (x10 : Int32) (H : Heap) (locs : List Loc) (ls : Array Slot), k73_11 x10 = some (r, M9) → mI w s (mA w s.heap.size) H locs M8 → lv_has ls 6 [(0, .ref (w.1 12 47)), (1, .int a1), (4, .int x3)] → W p l e rmX12_most_1 s m args below meth c H locs 0 0 (MQ below (mQ w s.heap.size (some (.int r)) M9) args s 0 0 (mA w s.heap.size)) (F0 m 73 ls [.int x10]) := by
            intro x10 H locs ls hf hI hl
            rw [ek73_11] at hf
            try dsimp only at hf
            refine lv_istore_n (lv' := [(3, .int x10), (0, .ref (w.1 12 47)), (1, .int a1), (4, .int x3)]) hx hb dX12_most_73 rfl hl (by decide) rfl (fun ls hl => ?_)
            obtain ⟨x12, ex12, hf⟩ := mlet_e hf
            refine lv_iinc (v := x12) (lv' := [(4, .int x12), (3, .int x10), (0, .ref (w.1 12 47)), (1, .int a1)]) hx hb dX12_most_74 hl (k := 3) rfl (by rw [ex12]; rfl) (by decide) rfl (fun ls hl => ?_)
            refine lv_goto (tgt := 20) hx hb dX12_most_77 (by decide) ?_
            exact ih20 x10 x12 M8 kk H _ _ hf hI (lv_sub hl [2, 3, 1, 0] rfl) hk
          refine lv_icmp_le (tgt := 72) hx hb dX12_most_64 (by decide) (fun c9 => ?_) (fun c9 => ?_)
          · have hf := (if_pos c9).symm.trans hf
            refine lv_iload_n hx hb dX12_most_72 rfl (lv_at hl 3 rfl) ?_
            exact hj73_11 x2 H _ _ hf hI (lv_sub hl [1, 2, 4] rfl)
          · have hf := (if_neg c9).symm.trans hf
            refine lv_iload hx hb dX12_most_67 (lv_at hl 0 rfl) ?_
            refine lv_goto (tgt := 73) hx hb dX12_most_69 (by decide) ?_
            exact hj73_11 r7 H _ _ hf hI (lv_sub hl [1, 2, 4] rfl)
    refine hL20 1000 (0 : Int32) a2 M _ _ _ _ hf hI (lv_sub hl [2, 3, 1, 0] rfl) ?_
    intro x13 M14 H locs ls hf hI hl
    try dsimp only at hf
    refine lv_iload_n hx hb dX12_most_80 rfl (lv_at hl 0 rfl) ?_
    exact m_iretf hx hb hr hlk hI hf dX12_most_81
  · have hf := (if_pos c1).symm.trans hf
    refine lv_aload_n hx hb dX12_most_10 rfl (lv_at hl 0 rfl) ?_
    obtain ⟨r15, hc, hf⟩ := mbp_e hf
    refine m_callV (As := []) (rest := []) hx hb hml hown hI (c_X12_onIt l w s.heap.size M _ hc) (kb_X12_onIt hI.T (q1603 hI.T) (Nat.le_of_ble_eq_true rfl) (Nat.le_of_ble_eq_true rfl)) (q1605 hI.T) (sel_X12_onIt hI.T) (m_recv (g := 12) (i := 47) hI (mokX (by decide) (by decide)) rfl rfl) rfl hl.1 (Nat.le_of_ble_eq_true rfl) dX12_most_11 ⟨Nat.le_of_ble_eq_true rfl, Nat.le_of_ble_eq_true rfl⟩ (fun H locs hI => ?_)
    exact m_iretf hx hb hr hlk hI hf dX12_most_14
abbrev rmX12_most_2 : Room := { frames := 5, cells := 0, slots := 0, locals := 120 }
theorem kb_X12_most_2 {R : Room} {s : State} {args : Array Value} {own : String} {idx : Nat} (hT : mT s) (hlink : (Cond.methodLink own idx yX12_most).before args s = true) (h1 : rmX12_most_2.frames + 1 ≤ R.frames) (h2 : 8 + (6 + 11) + rmX12_most_2.locals ≤ R.locals) : CallB R s args own idx yX12_most cX12_most 6 (some .int) [Cond.code yX12_most cX12_most 6 (some .int)] rmX12_most_2 0 0 2 := m_callB hT kc_X12_most ki_X12_most hlink (by decide +kernel) ⟨rfl, rfl, h1, h2⟩
set_option maxHeartbeats 4000000 in
set_option maxRecDepth 100000 in
theorem c_X12_most_2 (l : Launch) (w : WD) (sz : Nat) (a1 : Int32) (a2 : Int32) (M : Mem) (r : Int32) (M9 : Mem) (hf : f_X12_most_2 a1 a2 M = some (r, M9)) : mMet l yX12_most cX12_most 6 (some .int) rmX12_most_2 w sz M [.ref (w.1 12 47), .int a1, .int a2] (some (.int r)) M9 := by
  refine m_of (by decide) (Nat.le_of_ble_eq_true rfl) ?_
  intro p e s m args below meth c hx hb hr hml hown hlk hI ls hl
  have hl : lv_has ls 6 [(0, .ref (w.1 12 47)), (1, .int a1), (2, .int a2)] := hl
  unfold f_X12_most_2 at hf
  refine lv_iload_n hx hb dX12_most_0 rfl (lv_at hl 1 rfl) ?_
  refine lv_aload_n hx hb dX12_most_1 rfl (lv_at hl 0 rfl) ?_
  refine m_get (g := 12) (i := 47) (ci := 10) (k := 1) (v := .ref (w.1 12 48)) hx hb hI hown (mokX (by decide) (by decide)) rfl rfl (by decide) lyX12 (q1427 hI.T) rfl dX12_most_2 ?_
  refine lv_iconst (v := 5) hx hb dX12_most_5 (by decide) ?_
  obtain ⟨hi, hf⟩ := mix_e hf
  refine m_iald (g := 12) (i := 48) hx hb hI (mokX (by decide) (by decide)) rfl hi dX12_most_6 ?_
  refine lv_icmp_ne (tgt := 15) hx hb dX12_most_7 (by decide) (fun c1 => ?_) (fun c1 => ?_)
  · have hf := (if_neg c1).symm.trans hf
    refine lv_iconst (v := 0) hx hb dX12_most_15 (by decide) ?_
    refine lv_istore_n (lv' := [(3, .int (0 : Int32)), (0, .ref (w.1 12 47)), (1, .int a1), (2, .int a2)]) hx hb dX12_most_16 rfl hl (by decide) rfl (fun ls hl => ?_)
    refine lv_iload_n hx hb dX12_most_17 rfl (lv_at hl 3 rfl) ?_
    refine lv_istore (lv' := [(4, .int a2), (3, .int (0 : Int32)), (0, .ref (w.1 12 47)), (1, .int a1), (2, .int a2)]) hx hb dX12_most_18 hl (by decide) rfl (fun ls hl => ?_)
    have hL20 : ∀ (n : Nat) (x2 : Int32) (x3 : Int32) (M4 : Mem) (kk : Int32 → Mem → Option (Int32 × Mem)) (H : Heap) (locs : List Loc) (ls : Array Slot), f_X12_most_2_L20 a1 n x2 x3 M4 kk = some (r, M9) → mI w s (mA w s.heap.size) H locs M4 → lv_has ls 6 [(0, .ref (w.1 12 47)), (1, .int a1), (3, .int x2), (4, .int x3)] → (∀ (x2 : Int32) (M4 : Mem) (H : Heap) (locs : List Loc) (ls : Array Slot), kk x2 M4 = some (r, M9) → mI w s (mA w s.heap.size) H locs M4 → lv_has ls 6 [(3, .int x2)] → W p l e rmX12_most_2 s m args below meth c H locs 0 0 (MQ below (mQ w s.heap.size (some (.int r)) M9) args s 0 0 (mA w s.heap.size)) (F0 m 80 ls [])) → W p l e rmX12_most_2 s m args below meth c H locs 0 0 (MQ below (mQ w s.heap.size (some (.int r)) M9) args s 0 0 (mA w s.heap.size)) (F0 m 20 ls []) := by
      intro n
      induction n with
      | zero => intro x2 x3 M4 kk H locs ls hf hI hl hk; rw [f_X12_most_2_L20.eq_1] at hf; cases hf
      | succ n ih20 =>
        intro x2 x3 M4 kk H locs ls hf hI hl hk
        rw [f_X12_most_2_L20.eq_2] at hf
        refine lv_iload hx hb dX12_most_20 (lv_at hl 3 rfl) ?_
        refine lv_aload_n hx hb dX12_most_22 rfl (lv_at hl 0 rfl) ?_
        refine m_get (g := 12) (i := 47) (ci := 10) (k := 1) (v := .ref (w.1 12 48)) hx hb hI hown (mokX (by decide) (by decide)) rfl rfl (by decide) lyX12 (q1427 hI.T) rfl dX12_most_23 ?_
        refine lv_bipush (v := 9) hx hb dX12_most_26 (by decide) ?_
        obtain ⟨hi, hf⟩ := mix_e hf
        refine m_iald (g := 12) (i := 48) hx hb hI (mokX (by decide) (by decide)) rfl hi dX12_most_28 ?_
        refine lv_icmp_ge (tgt := 80) hx hb dX12_most_29 (by decide) (fun c5 => ?_) (fun c5 => ?_)
        · have hf := (if_pos c5).symm.trans hf
          exact hk x2 M4 H _ _ hf hI (lv_sub hl [2] rfl)
        · have hf := (if_neg c5).symm.trans hf
          refine lv_aload_n hx hb dX12_most_32 rfl (lv_at hl 0 rfl) ?_
          refine m_get (g := 12) (i := 47) (ci := 10) (k := 11) (v := .ref (w.1 12 56)) hx hb hI hown (mokX (by decide) (by decide)) rfl rfl (by decide) lyX12 (q1437 hI.T) rfl dX12_most_33 ?_
          refine lv_iload_n hx hb dX12_most_36 rfl (lv_at hl 1 rfl) ?_
          refine lv_aload_n hx hb dX12_most_37 rfl (lv_at hl 0 rfl) ?_
          refine m_get (g := 12) (i := 47) (ci := 10) (k := 1) (v := .ref (w.1 12 48)) hx hb hI hown (mokX (by decide) (by decide)) rfl rfl (by decide) lyX12 (q1427 hI.T) rfl dX12_most_38 ?_
          refine lv_bipush (v := 23) hx hb dX12_most_41 (by decide) ?_
          refine lv_iload hx hb dX12_most_43 (lv_at hl 3 rfl) ?_
          refine lv_iadd hx hb dX12_most_45 ?_
          obtain ⟨hi, hf⟩ := mix_e hf
          refine m_iald (g := 12) (i := 48) hx hb hI (mokX (by decide) (by decide)) rfl hi dX12_most_46 ?_
          obtain ⟨hi, hf⟩ := mix_e hf
          obtain ⟨M6, eM6, hf⟩ := mlet_e hf
          refine m_iast (g := 12) (i := 56) (M1 := M6) hx hb hI (mokX (by decide) (by decide)) rfl hi eM6 dX12_most_47 (fun H locs hI => ?_)
          refine lv_aload_n hx hb dX12_most_48 rfl (lv_at hl 0 rfl) ?_
          refine lv_iload_n hx hb dX12_most_49 rfl (lv_at hl 1 rfl) ?_
          refine lv_iconst (v := 1) hx hb dX12_most_50 (by decide) ?_
          refine lv_iadd hx hb dX12_most_51 ?_
          refine lv_iload hx hb dX12_most_52 (lv_at hl 3 rfl) ?_
          refine lv_iconst (v := 1) hx hb dX12_most_54 (by decide) ?_
          refine lv_iadd hx hb dX12_most_55 ?_
          obtain ⟨r7, M8, hc, hf⟩ := mbnd_e hf
          refine m_callV (As := [.int (a1 + (1 : Int32)), .int (x3 + (1 : Int32))]) (rest := []) hx hb hml hown hI (c_X12_most_1 l w H.size (a1 + (1 : Int32)) (x3 + (1 : Int32)) M6 _ _ hc) (kb_X12_most_1 hI.T (q1738 hI.T) (Nat.le_of_ble_eq_true rfl) (Nat.le_of_ble_eq_true rfl)) (q1740 hI.T) (sel_X12_most hI.T) (m_recv (g := 12) (i := 47) hI (mokX (by decide) (by decide)) rfl rfl) rfl hl.1 (Nat.le_of_ble_eq_true rfl) dX12_most_56 ⟨Nat.le_of_ble_eq_true rfl, Nat.le_of_ble_eq_true rfl⟩ (fun H locs hI => ?_)
          refine lv_istore (lv' := [(5, .int r7), (0, .ref (w.1 12 47)), (1, .int a1), (3, .int x2), (4, .int x3)]) hx hb dX12_most_59 hl (by decide) rfl (fun ls hl => ?_)
          refine lv_iload hx hb dX12_most_61 (lv_at hl 0 rfl) ?_
          refine lv_iload_n hx hb dX12_most_63 rfl (lv_at hl 3 rfl) ?_
          obtain ⟨k73_11, ek73_11, hf⟩ := mlet_e hf
          have hj73_11 : ∀ (x10 : Int32) (H : Heap) (locs : List Loc) (ls : Array Slot), k73_11 x10 = some (r, M9) → mI w s (mA w s.heap.size) H locs M8 → lv_has ls 6 [(0, .ref (w.1 12 47)), (1, .int a1), (4, .int x3)] → W p l e rmX12_most_2 s m args below meth c H locs 0 0 (MQ below (mQ w s.heap.size (some (.int r)) M9) args s 0 0 (mA w s.heap.size)) (F0 m 73 ls [.int x10]) := by
            intro x10 H locs ls hf hI hl
            rw [ek73_11] at hf
            try dsimp only at hf
            refine lv_istore_n (lv' := [(3, .int x10), (0, .ref (w.1 12 47)), (1, .int a1), (4, .int x3)]) hx hb dX12_most_73 rfl hl (by decide) rfl (fun ls hl => ?_)
            obtain ⟨x12, ex12, hf⟩ := mlet_e hf
            refine lv_iinc (v := x12) (lv' := [(4, .int x12), (3, .int x10), (0, .ref (w.1 12 47)), (1, .int a1)]) hx hb dX12_most_74 hl (k := 3) rfl (by rw [ex12]; rfl) (by decide) rfl (fun ls hl => ?_)
            refine lv_goto (tgt := 20) hx hb dX12_most_77 (by decide) ?_
            exact ih20 x10 x12 M8 kk H _ _ hf hI (lv_sub hl [2, 3, 1, 0] rfl) hk
          refine lv_icmp_le (tgt := 72) hx hb dX12_most_64 (by decide) (fun c9 => ?_) (fun c9 => ?_)
          · have hf := (if_pos c9).symm.trans hf
            refine lv_iload_n hx hb dX12_most_72 rfl (lv_at hl 3 rfl) ?_
            exact hj73_11 x2 H _ _ hf hI (lv_sub hl [1, 2, 4] rfl)
          · have hf := (if_neg c9).symm.trans hf
            refine lv_iload hx hb dX12_most_67 (lv_at hl 0 rfl) ?_
            refine lv_goto (tgt := 73) hx hb dX12_most_69 (by decide) ?_
            exact hj73_11 r7 H _ _ hf hI (lv_sub hl [1, 2, 4] rfl)
    refine hL20 1000 (0 : Int32) a2 M _ _ _ _ hf hI (lv_sub hl [2, 3, 1, 0] rfl) ?_
    intro x13 M14 H locs ls hf hI hl
    try dsimp only at hf
    refine lv_iload_n hx hb dX12_most_80 rfl (lv_at hl 0 rfl) ?_
    exact m_iretf hx hb hr hlk hI hf dX12_most_81
  · have hf := (if_pos c1).symm.trans hf
    refine lv_aload_n hx hb dX12_most_10 rfl (lv_at hl 0 rfl) ?_
    obtain ⟨r15, hc, hf⟩ := mbp_e hf
    refine m_callV (As := []) (rest := []) hx hb hml hown hI (c_X12_onIt l w s.heap.size M _ hc) (kb_X12_onIt hI.T (q1603 hI.T) (Nat.le_of_ble_eq_true rfl) (Nat.le_of_ble_eq_true rfl)) (q1605 hI.T) (sel_X12_onIt hI.T) (m_recv (g := 12) (i := 47) hI (mokX (by decide) (by decide)) rfl rfl) rfl hl.1 (Nat.le_of_ble_eq_true rfl) dX12_most_11 ⟨Nat.le_of_ble_eq_true rfl, Nat.le_of_ble_eq_true rfl⟩ (fun H locs hI => ?_)
    exact m_iretf hx hb hr hlk hI hf dX12_most_14
abbrev rmX12_most_3 : Room := { frames := 6, cells := 0, slots := 0, locals := 145 }
theorem kb_X12_most_3 {R : Room} {s : State} {args : Array Value} {own : String} {idx : Nat} (hT : mT s) (hlink : (Cond.methodLink own idx yX12_most).before args s = true) (h1 : rmX12_most_3.frames + 1 ≤ R.frames) (h2 : 8 + (6 + 11) + rmX12_most_3.locals ≤ R.locals) : CallB R s args own idx yX12_most cX12_most 6 (some .int) [Cond.code yX12_most cX12_most 6 (some .int)] rmX12_most_3 0 0 2 := m_callB hT kc_X12_most ki_X12_most hlink (by decide +kernel) ⟨rfl, rfl, h1, h2⟩
set_option maxHeartbeats 4000000 in
set_option maxRecDepth 100000 in
theorem c_X12_most_3 (l : Launch) (w : WD) (sz : Nat) (a1 : Int32) (a2 : Int32) (M : Mem) (r : Int32) (M9 : Mem) (hf : f_X12_most_3 a1 a2 M = some (r, M9)) : mMet l yX12_most cX12_most 6 (some .int) rmX12_most_3 w sz M [.ref (w.1 12 47), .int a1, .int a2] (some (.int r)) M9 := by
  refine m_of (by decide) (Nat.le_of_ble_eq_true rfl) ?_
  intro p e s m args below meth c hx hb hr hml hown hlk hI ls hl
  have hl : lv_has ls 6 [(0, .ref (w.1 12 47)), (1, .int a1), (2, .int a2)] := hl
  unfold f_X12_most_3 at hf
  refine lv_iload_n hx hb dX12_most_0 rfl (lv_at hl 1 rfl) ?_
  refine lv_aload_n hx hb dX12_most_1 rfl (lv_at hl 0 rfl) ?_
  refine m_get (g := 12) (i := 47) (ci := 10) (k := 1) (v := .ref (w.1 12 48)) hx hb hI hown (mokX (by decide) (by decide)) rfl rfl (by decide) lyX12 (q1427 hI.T) rfl dX12_most_2 ?_
  refine lv_iconst (v := 5) hx hb dX12_most_5 (by decide) ?_
  obtain ⟨hi, hf⟩ := mix_e hf
  refine m_iald (g := 12) (i := 48) hx hb hI (mokX (by decide) (by decide)) rfl hi dX12_most_6 ?_
  refine lv_icmp_ne (tgt := 15) hx hb dX12_most_7 (by decide) (fun c1 => ?_) (fun c1 => ?_)
  · have hf := (if_neg c1).symm.trans hf
    refine lv_iconst (v := 0) hx hb dX12_most_15 (by decide) ?_
    refine lv_istore_n (lv' := [(3, .int (0 : Int32)), (0, .ref (w.1 12 47)), (1, .int a1), (2, .int a2)]) hx hb dX12_most_16 rfl hl (by decide) rfl (fun ls hl => ?_)
    refine lv_iload_n hx hb dX12_most_17 rfl (lv_at hl 3 rfl) ?_
    refine lv_istore (lv' := [(4, .int a2), (3, .int (0 : Int32)), (0, .ref (w.1 12 47)), (1, .int a1), (2, .int a2)]) hx hb dX12_most_18 hl (by decide) rfl (fun ls hl => ?_)
    have hL20 : ∀ (n : Nat) (x2 : Int32) (x3 : Int32) (M4 : Mem) (kk : Int32 → Mem → Option (Int32 × Mem)) (H : Heap) (locs : List Loc) (ls : Array Slot), f_X12_most_3_L20 a1 n x2 x3 M4 kk = some (r, M9) → mI w s (mA w s.heap.size) H locs M4 → lv_has ls 6 [(0, .ref (w.1 12 47)), (1, .int a1), (3, .int x2), (4, .int x3)] → (∀ (x2 : Int32) (M4 : Mem) (H : Heap) (locs : List Loc) (ls : Array Slot), kk x2 M4 = some (r, M9) → mI w s (mA w s.heap.size) H locs M4 → lv_has ls 6 [(3, .int x2)] → W p l e rmX12_most_3 s m args below meth c H locs 0 0 (MQ below (mQ w s.heap.size (some (.int r)) M9) args s 0 0 (mA w s.heap.size)) (F0 m 80 ls [])) → W p l e rmX12_most_3 s m args below meth c H locs 0 0 (MQ below (mQ w s.heap.size (some (.int r)) M9) args s 0 0 (mA w s.heap.size)) (F0 m 20 ls []) := by
      intro n
      induction n with
      | zero => intro x2 x3 M4 kk H locs ls hf hI hl hk; rw [f_X12_most_3_L20.eq_1] at hf; cases hf
      | succ n ih20 =>
        intro x2 x3 M4 kk H locs ls hf hI hl hk
        rw [f_X12_most_3_L20.eq_2] at hf
        refine lv_iload hx hb dX12_most_20 (lv_at hl 3 rfl) ?_
        refine lv_aload_n hx hb dX12_most_22 rfl (lv_at hl 0 rfl) ?_
        refine m_get (g := 12) (i := 47) (ci := 10) (k := 1) (v := .ref (w.1 12 48)) hx hb hI hown (mokX (by decide) (by decide)) rfl rfl (by decide) lyX12 (q1427 hI.T) rfl dX12_most_23 ?_
        refine lv_bipush (v := 9) hx hb dX12_most_26 (by decide) ?_
        obtain ⟨hi, hf⟩ := mix_e hf
        refine m_iald (g := 12) (i := 48) hx hb hI (mokX (by decide) (by decide)) rfl hi dX12_most_28 ?_
        refine lv_icmp_ge (tgt := 80) hx hb dX12_most_29 (by decide) (fun c5 => ?_) (fun c5 => ?_)
        · have hf := (if_pos c5).symm.trans hf
          exact hk x2 M4 H _ _ hf hI (lv_sub hl [2] rfl)
        · have hf := (if_neg c5).symm.trans hf
          refine lv_aload_n hx hb dX12_most_32 rfl (lv_at hl 0 rfl) ?_
          refine m_get (g := 12) (i := 47) (ci := 10) (k := 11) (v := .ref (w.1 12 56)) hx hb hI hown (mokX (by decide) (by decide)) rfl rfl (by decide) lyX12 (q1437 hI.T) rfl dX12_most_33 ?_
          refine lv_iload_n hx hb dX12_most_36 rfl (lv_at hl 1 rfl) ?_
          refine lv_aload_n hx hb dX12_most_37 rfl (lv_at hl 0 rfl) ?_
          refine m_get (g := 12) (i := 47) (ci := 10) (k := 1) (v := .ref (w.1 12 48)) hx hb hI hown (mokX (by decide) (by decide)) rfl rfl (by decide) lyX12 (q1427 hI.T) rfl dX12_most_38 ?_
          refine lv_bipush (v := 23) hx hb dX12_most_41 (by decide) ?_
          refine lv_iload hx hb dX12_most_43 (lv_at hl 3 rfl) ?_
          refine lv_iadd hx hb dX12_most_45 ?_
          obtain ⟨hi, hf⟩ := mix_e hf
          refine m_iald (g := 12) (i := 48) hx hb hI (mokX (by decide) (by decide)) rfl hi dX12_most_46 ?_
          obtain ⟨hi, hf⟩ := mix_e hf
          obtain ⟨M6, eM6, hf⟩ := mlet_e hf
          refine m_iast (g := 12) (i := 56) (M1 := M6) hx hb hI (mokX (by decide) (by decide)) rfl hi eM6 dX12_most_47 (fun H locs hI => ?_)
          refine lv_aload_n hx hb dX12_most_48 rfl (lv_at hl 0 rfl) ?_
          refine lv_iload_n hx hb dX12_most_49 rfl (lv_at hl 1 rfl) ?_
          refine lv_iconst (v := 1) hx hb dX12_most_50 (by decide) ?_
          refine lv_iadd hx hb dX12_most_51 ?_
          refine lv_iload hx hb dX12_most_52 (lv_at hl 3 rfl) ?_
          refine lv_iconst (v := 1) hx hb dX12_most_54 (by decide) ?_
          refine lv_iadd hx hb dX12_most_55 ?_
          obtain ⟨r7, M8, hc, hf⟩ := mbnd_e hf
          refine m_callV (As := [.int (a1 + (1 : Int32)), .int (x3 + (1 : Int32))]) (rest := []) hx hb hml hown hI (c_X12_most_2 l w H.size (a1 + (1 : Int32)) (x3 + (1 : Int32)) M6 _ _ hc) (kb_X12_most_2 hI.T (q1738 hI.T) (Nat.le_of_ble_eq_true rfl) (Nat.le_of_ble_eq_true rfl)) (q1740 hI.T) (sel_X12_most hI.T) (m_recv (g := 12) (i := 47) hI (mokX (by decide) (by decide)) rfl rfl) rfl hl.1 (Nat.le_of_ble_eq_true rfl) dX12_most_56 ⟨Nat.le_of_ble_eq_true rfl, Nat.le_of_ble_eq_true rfl⟩ (fun H locs hI => ?_)
          refine lv_istore (lv' := [(5, .int r7), (0, .ref (w.1 12 47)), (1, .int a1), (3, .int x2), (4, .int x3)]) hx hb dX12_most_59 hl (by decide) rfl (fun ls hl => ?_)
          refine lv_iload hx hb dX12_most_61 (lv_at hl 0 rfl) ?_
          refine lv_iload_n hx hb dX12_most_63 rfl (lv_at hl 3 rfl) ?_
          obtain ⟨k73_11, ek73_11, hf⟩ := mlet_e hf
          have hj73_11 : ∀ (x10 : Int32) (H : Heap) (locs : List Loc) (ls : Array Slot), k73_11 x10 = some (r, M9) → mI w s (mA w s.heap.size) H locs M8 → lv_has ls 6 [(0, .ref (w.1 12 47)), (1, .int a1), (4, .int x3)] → W p l e rmX12_most_3 s m args below meth c H locs 0 0 (MQ below (mQ w s.heap.size (some (.int r)) M9) args s 0 0 (mA w s.heap.size)) (F0 m 73 ls [.int x10]) := by
            intro x10 H locs ls hf hI hl
            rw [ek73_11] at hf
            try dsimp only at hf
            refine lv_istore_n (lv' := [(3, .int x10), (0, .ref (w.1 12 47)), (1, .int a1), (4, .int x3)]) hx hb dX12_most_73 rfl hl (by decide) rfl (fun ls hl => ?_)
            obtain ⟨x12, ex12, hf⟩ := mlet_e hf
            refine lv_iinc (v := x12) (lv' := [(4, .int x12), (3, .int x10), (0, .ref (w.1 12 47)), (1, .int a1)]) hx hb dX12_most_74 hl (k := 3) rfl (by rw [ex12]; rfl) (by decide) rfl (fun ls hl => ?_)
            refine lv_goto (tgt := 20) hx hb dX12_most_77 (by decide) ?_
            exact ih20 x10 x12 M8 kk H _ _ hf hI (lv_sub hl [2, 3, 1, 0] rfl) hk
          refine lv_icmp_le (tgt := 72) hx hb dX12_most_64 (by decide) (fun c9 => ?_) (fun c9 => ?_)
          · have hf := (if_pos c9).symm.trans hf
            refine lv_iload_n hx hb dX12_most_72 rfl (lv_at hl 3 rfl) ?_
            exact hj73_11 x2 H _ _ hf hI (lv_sub hl [1, 2, 4] rfl)
          · have hf := (if_neg c9).symm.trans hf
            refine lv_iload hx hb dX12_most_67 (lv_at hl 0 rfl) ?_
            refine lv_goto (tgt := 73) hx hb dX12_most_69 (by decide) ?_
            exact hj73_11 r7 H _ _ hf hI (lv_sub hl [1, 2, 4] rfl)
    refine hL20 1000 (0 : Int32) a2 M _ _ _ _ hf hI (lv_sub hl [2, 3, 1, 0] rfl) ?_
    intro x13 M14 H locs ls hf hI hl
    try dsimp only at hf
    refine lv_iload_n hx hb dX12_most_80 rfl (lv_at hl 0 rfl) ?_
    exact m_iretf hx hb hr hlk hI hf dX12_most_81
  · have hf := (if_pos c1).symm.trans hf
    refine lv_aload_n hx hb dX12_most_10 rfl (lv_at hl 0 rfl) ?_
    obtain ⟨r15, hc, hf⟩ := mbp_e hf
    refine m_callV (As := []) (rest := []) hx hb hml hown hI (c_X12_onIt l w s.heap.size M _ hc) (kb_X12_onIt hI.T (q1603 hI.T) (Nat.le_of_ble_eq_true rfl) (Nat.le_of_ble_eq_true rfl)) (q1605 hI.T) (sel_X12_onIt hI.T) (m_recv (g := 12) (i := 47) hI (mokX (by decide) (by decide)) rfl rfl) rfl hl.1 (Nat.le_of_ble_eq_true rfl) dX12_most_11 ⟨Nat.le_of_ble_eq_true rfl, Nat.le_of_ble_eq_true rfl⟩ (fun H locs hI => ?_)
    exact m_iretf hx hb hr hlk hI hf dX12_most_14
abbrev rmX12_isIn : Room := { frames := 1, cells := 0, slots := 0, locals := 22 }
theorem kb_X12_isIn {R : Room} {s : State} {args : Array Value} {own : String} {idx : Nat} (hT : mT s) (hlink : (Cond.methodLink own idx yX12_isIn).before args s = true) (h1 : rmX12_isIn.frames + 1 ≤ R.frames) (h2 : 8 + (3 + 11) + rmX12_isIn.locals ≤ R.locals) : CallB R s args own idx yX12_isIn cX12_isIn 3 (some .boolean) [Cond.code yX12_isIn cX12_isIn 3 (some .boolean)] rmX12_isIn 0 0 1 := m_callB hT kc_X12_isIn ki_X12_isIn hlink (by decide +kernel) ⟨rfl, rfl, h1, h2⟩
set_option maxHeartbeats 4000000 in
set_option maxRecDepth 100000 in
theorem c_X12_isIn (l : Launch) (w : WD) (sz : Nat) (a1 : Int32) (M : Mem) (r : Int32) (hf : f_X12_isIn a1 M = some r) : mMet l yX12_isIn cX12_isIn 3 (some .boolean) rmX12_isIn w sz M [.ref (w.1 12 47), .int a1] (some (.int r)) M := by
  refine m_of (by decide) (Nat.le_of_ble_eq_true rfl) ?_
  intro p e s m args below meth c hx hb hr hml hown hlk hI ls hl
  have hl : lv_has ls 3 [(0, .ref (w.1 12 47)), (1, .int a1)] := hl
  unfold f_X12_isIn at hf
  refine lv_iconst (v := 0) hx hb dX12_isIn_0 (by decide) ?_
  refine lv_istore_n (lv' := [(2, .int (0 : Int32)), (0, .ref (w.1 12 47)), (1, .int a1)]) hx hb dX12_isIn_1 rfl hl (by decide) rfl (fun ls hl => ?_)
  have hL2 : ∀ (n : Nat) (x1 : Int32) (kk : Unit → Option Int32) (H : Heap) (locs : List Loc) (ls : Array Slot), f_X12_isIn_L2 a1 M n x1 kk = some r → mI w s (mA w s.heap.size) H locs M → lv_has ls 3 [(0, .ref (w.1 12 47)), (1, .int a1), (2, .int x1)] → (∀ (_u : Unit) (H : Heap) (locs : List Loc) (ls : Array Slot), kk () = some r → mI w s (mA w s.heap.size) H locs M → lv_has ls 3 [] → W p l e rmX12_isIn s m args below meth c H locs 0 0 (MQ below (mQ w s.heap.size (some (.int r)) M) args s 0 0 (mA w s.heap.size)) (F0 m 37 ls [])) → W p l e rmX12_isIn s m args below meth c H locs 0 0 (MQ below (mQ w s.heap.size (some (.int r)) M) args s 0 0 (mA w s.heap.size)) (F0 m 2 ls []) := by
    intro n
    induction n with
    | zero => intro x1 kk H locs ls hf hI hl hk; rw [f_X12_isIn_L2.eq_1] at hf; cases hf
    | succ n ih2 =>
      intro x1 kk H locs ls hf hI hl hk
      rw [f_X12_isIn_L2.eq_2] at hf
      refine lv_iload_n hx hb dX12_isIn_2 rfl (lv_at hl 2 rfl) ?_
      refine lv_aload_n hx hb dX12_isIn_3 rfl (lv_at hl 0 rfl) ?_
      refine m_get (g := 12) (i := 47) (ci := 10) (k := 1) (v := .ref (w.1 12 48)) hx hb hI hown (mokX (by decide) (by decide)) rfl rfl (by decide) lyX12 (q1427 hI.T) rfl dX12_isIn_4 ?_
      refine lv_bipush (v := 10) hx hb dX12_isIn_7 (by decide) ?_
      obtain ⟨hi, hf⟩ := mix_e hf
      refine m_iald (g := 12) (i := 48) hx hb hI (mokX (by decide) (by decide)) rfl hi dX12_isIn_9 ?_
      refine lv_icmp_ge (tgt := 37) hx hb dX12_isIn_10 (by decide) (fun c2 => ?_) (fun c2 => ?_)
      · have hf := (if_pos c2).symm.trans hf
        exact hk () H _ _ hf hI (lv_sub hl [] rfl)
      · have hf := (if_neg c2).symm.trans hf
        refine lv_aload_n hx hb dX12_isIn_13 rfl (lv_at hl 0 rfl) ?_
        refine lv_iload_n hx hb dX12_isIn_14 rfl (lv_at hl 2 rfl) ?_
        refine lv_iconst (v := 0) hx hb dX12_isIn_15 (by decide) ?_
        obtain ⟨r3, hc, hf⟩ := mbp_e hf
        refine m_callV (As := [.int x1, .int (0 : Int32)]) (rest := []) hx hb hml hown hI (c_X12_guard l w H.size x1 (0 : Int32) M _ hc) (kb_X12_guard hI.T (q1595 hI.T) (Nat.le_of_ble_eq_true rfl) (Nat.le_of_ble_eq_true rfl)) (q1597 hI.T) (sel_X12_guard hI.T) (m_recv (g := 12) (i := 47) hI (mokX (by decide) (by decide)) rfl rfl) rfl hl.1 (Nat.le_of_ble_eq_true rfl) dX12_isIn_16 ⟨Nat.le_of_ble_eq_true rfl, Nat.le_of_ble_eq_true rfl⟩ (fun H locs hI => ?_)
        refine lv_iload_n hx hb dX12_isIn_19 rfl (lv_at hl 1 rfl) ?_
        refine lv_bipush (v := 8) hx hb dX12_isIn_20 (by decide) ?_
        refine lv_iadd hx hb dX12_isIn_22 ?_
        refine lv_bipush (v := 8) hx hb dX12_isIn_23 (by decide) ?_
        refine lv_irem hx hb dX12_isIn_25 (by decide) ?_
        refine lv_icmp_ne (tgt := 31) hx hb dX12_isIn_26 (by decide) (fun c4 => ?_) (fun c4 => ?_)
        · have hf := (if_neg c4).symm.trans hf
          obtain ⟨x5, ex5, hf⟩ := mlet_e hf
          refine lv_iinc (v := x5) (lv' := [(2, .int x5), (0, .ref (w.1 12 47)), (1, .int a1)]) hx hb dX12_isIn_31 hl (k := 2) rfl (by rw [ex5]; rfl) (by decide) rfl (fun ls hl => ?_)
          refine lv_goto (tgt := 2) hx hb dX12_isIn_34 (by decide) ?_
          exact ih2 x5 kk H _ _ hf hI (lv_sub hl [1, 2, 0] rfl) hk
        · have hf := (if_pos c4).symm.trans hf
          refine lv_iconst (v := 1) hx hb dX12_isIn_29 (by decide) ?_
          exact m_zretp hx hb hr hlk hI rfl hf dX12_isIn_30
  refine hL2 1000 (0 : Int32) _ _ _ _ hf hI (lv_sub hl [1, 2, 0] rfl) ?_
  intro _u H locs ls hf hI hl
  try dsimp only at hf
  refine lv_iconst (v := 0) hx hb dX12_isIn_37 (by decide) ?_
  exact m_zretp hx hb hr hlk hI rfl hf dX12_isIn_38
abbrev rmX12_isNear : Room := { frames := 2, cells := 0, slots := 0, locals := 44 }
theorem kb_X12_isNear {R : Room} {s : State} {args : Array Value} {own : String} {idx : Nat} (hT : mT s) (hlink : (Cond.methodLink own idx yX12_isNear).before args s = true) (h1 : rmX12_isNear.frames + 1 ≤ R.frames) (h2 : 8 + (2 + 11) + rmX12_isNear.locals ≤ R.locals) : CallB R s args own idx yX12_isNear cX12_isNear 2 (some .boolean) [Cond.code yX12_isNear cX12_isNear 2 (some .boolean)] rmX12_isNear 0 0 1 := m_callB hT kc_X12_isNear ki_X12_isNear hlink (by decide +kernel) ⟨rfl, rfl, h1, h2⟩
set_option maxHeartbeats 4000000 in
set_option maxRecDepth 100000 in
theorem c_X12_isNear (l : Launch) (w : WD) (sz : Nat) (a1 : Int32) (M : Mem) (r : Int32) (hf : f_X12_isNear a1 M = some r) : mMet l yX12_isNear cX12_isNear 2 (some .boolean) rmX12_isNear w sz M [.ref (w.1 12 47), .int a1] (some (.int r)) M := by
  refine m_of (by decide) (Nat.le_of_ble_eq_true rfl) ?_
  intro p e s m args below meth c hx hb hr hml hown hlk hI ls hl
  have hl : lv_has ls 2 [(0, .ref (w.1 12 47)), (1, .int a1)] := hl
  unfold f_X12_isNear at hf
  refine lv_aload_n hx hb dX12_isNear_0 rfl (lv_at hl 0 rfl) ?_
  refine lv_iload_n hx hb dX12_isNear_1 rfl (lv_at hl 1 rfl) ?_
  refine lv_iconst (v := 1) hx hb dX12_isNear_2 (by decide) ?_
  refine lv_isub hx hb dX12_isNear_3 ?_
  obtain ⟨r1, hc, hf⟩ := mbp_e hf
  refine m_callV (As := [.int (a1 - (1 : Int32))]) (rest := []) hx hb hml hown hI (c_X12_isIn l w s.heap.size (a1 - (1 : Int32)) M _ hc) (kb_X12_isIn hI.T (q1591 hI.T) (Nat.le_of_ble_eq_true rfl) (Nat.le_of_ble_eq_true rfl)) (q1593 hI.T) (sel_X12_isIn hI.T) (m_recv (g := 12) (i := 47) hI (mokX (by decide) (by decide)) rfl rfl) rfl hl.1 (Nat.le_of_ble_eq_true rfl) dX12_isNear_4 ⟨Nat.le_of_ble_eq_true rfl, Nat.le_of_ble_eq_true rfl⟩ (fun H locs hI => ?_)
  obtain ⟨k20_5, ek20_5, hf⟩ := mlet_e hf
  have hj20_5 : ∀ (_u : Unit) (H : Heap) (locs : List Loc) (ls : Array Slot), k20_5 _u = some r → mI w s (mA w s.heap.size) H locs M → lv_has ls 2 [] → W p l e rmX12_isNear s m args below meth c H locs 0 0 (MQ below (mQ w s.heap.size (some (.int r)) M) args s 0 0 (mA w s.heap.size)) (F0 m 20 ls []) := by
    intro _u H locs ls hf hI hl
    rw [ek20_5] at hf
    try dsimp only at hf
    refine lv_iconst (v := 1) hx hb dX12_isNear_20 (by decide) ?_
    refine lv_goto (tgt := 25) hx hb dX12_isNear_21 (by decide) ?_
    exact m_zretp hx hb hr hlk hI rfl hf dX12_isNear_25
  refine lv_if_ne (tgt := 20) hx hb dX12_isNear_7 (by decide) (fun c2 => ?_) (fun c2 => ?_)
  · have hf := (if_neg c2).symm.trans hf
    exact hj20_5 () H _ _ hf hI (lv_sub hl [] rfl)
  · have hf := (if_pos c2).symm.trans hf
    refine lv_aload_n hx hb dX12_isNear_10 rfl (lv_at hl 0 rfl) ?_
    refine lv_iload_n hx hb dX12_isNear_11 rfl (lv_at hl 1 rfl) ?_
    refine lv_iconst (v := 1) hx hb dX12_isNear_12 (by decide) ?_
    refine lv_iadd hx hb dX12_isNear_13 ?_
    obtain ⟨r3, hc, hf⟩ := mbp_e hf
    refine m_callV (As := [.int (a1 + (1 : Int32))]) (rest := []) hx hb hml hown hI (c_X12_isIn l w H.size (a1 + (1 : Int32)) M _ hc) (kb_X12_isIn hI.T (q1591 hI.T) (Nat.le_of_ble_eq_true rfl) (Nat.le_of_ble_eq_true rfl)) (q1593 hI.T) (sel_X12_isIn hI.T) (m_recv (g := 12) (i := 47) hI (mokX (by decide) (by decide)) rfl rfl) rfl hl.1 (Nat.le_of_ble_eq_true rfl) dX12_isNear_14 ⟨Nat.le_of_ble_eq_true rfl, Nat.le_of_ble_eq_true rfl⟩ (fun H locs hI => ?_)
    refine lv_if_eq (tgt := 24) hx hb dX12_isNear_17 (by decide) (fun c4 => ?_) (fun c4 => ?_)
    · have hf := (if_pos c4).symm.trans hf
      refine lv_iconst (v := 0) hx hb dX12_isNear_24 (by decide) ?_
      exact m_zretp hx hb hr hlk hI rfl hf dX12_isNear_25
    · have hf := (if_neg c4).symm.trans hf
      exact hj20_5 () H _ _ hf hI (lv_sub hl [] rfl)
abbrev rmX12_logs : Room := { frames := 0, cells := 0, slots := 0, locals := 0 }
theorem kb_X12_logs {R : Room} {s : State} {args : Array Value} {own : String} {idx : Nat} (hT : mT s) (hlink : (Cond.methodLink own idx yX12_logs).before args s = true) (h1 : rmX12_logs.frames + 1 ≤ R.frames) (h2 : 8 + (4 + 11) + rmX12_logs.locals ≤ R.locals) : CallB R s args own idx yX12_logs cX12_logs 4 (none) [Cond.code yX12_logs cX12_logs 4 (none)] rmX12_logs 0 0 2 := m_callB hT kc_X12_logs ki_X12_logs hlink (by decide +kernel) ⟨rfl, rfl, h1, h2⟩
set_option maxHeartbeats 4000000 in
set_option maxRecDepth 100000 in
theorem c_X12_logs (l : Launch) (w : WD) (sz : Nat) (a1 : Int32) (a2 : Int32) (M : Mem) (r : Unit) (M9 : Mem) (hf : f_X12_logs a1 a2 M = some (r, M9)) : mMet l yX12_logs cX12_logs 4 (none) rmX12_logs w sz M [.ref (w.1 12 47), .int a1, .int a2] none M9 := by
  refine m_of (by decide) (Nat.le_of_ble_eq_true rfl) ?_
  intro p e s m args below meth c hx hb hr hml hown hlk hI ls hl
  have hl : lv_has ls 4 [(0, .ref (w.1 12 47)), (1, .int a1), (2, .int a2)] := hl
  unfold f_X12_logs at hf
  refine lv_aload_n hx hb dX12_logs_0 rfl (lv_at hl 0 rfl) ?_
  refine m_get (g := 12) (i := 47) (ci := 10) (k := 1) (v := .ref (w.1 12 48)) hx hb hI hown (mokX (by decide) (by decide)) rfl rfl (by decide) lyX12 (q1427 hI.T) rfl dX12_logs_1 ?_
  refine lv_bipush (v := 14) hx hb dX12_logs_4 (by decide) ?_
  obtain ⟨hi, hf⟩ := mix_e hf
  refine m_iald (g := 12) (i := 48) hx hb hI (mokX (by decide) (by decide)) rfl hi dX12_logs_6 ?_
  refine lv_bipush (v := 12) hx hb dX12_logs_7 (by decide) ?_
  obtain ⟨k52_11, ek52_11, hf⟩ := mlet_e hf
  have hj52_11 : ∀ (M10 : Mem) (H : Heap) (locs : List Loc) (ls : Array Slot), k52_11 M10 = some (r, M9) → mI w s (mA w s.heap.size) H locs M10 → lv_has ls 4 [(0, .ref (w.1 12 47)), (1, .int a1), (2, .int a2)] → W p l e rmX12_logs s m args below meth c H locs 0 0 (MQ below (mQ w s.heap.size none M9) args s 0 0 (mA w s.heap.size)) (F0 m 52 ls []) := by
    intro M10 H locs ls hf hI hl
    rw [ek52_11] at hf
    try dsimp only at hf
    refine lv_bipush (v := 56) hx hb dX12_logs_52 (by decide) ?_
    refine lv_iconst (v := 3) hx hb dX12_logs_54 (by decide) ?_
    refine lv_aload_n hx hb dX12_logs_55 rfl (lv_at hl 0 rfl) ?_
    refine m_get (g := 12) (i := 47) (ci := 10) (k := 1) (v := .ref (w.1 12 48)) hx hb hI hown (mokX (by decide) (by decide)) rfl rfl (by decide) lyX12 (q1427 hI.T) rfl dX12_logs_56 ?_
    refine lv_bipush (v := 14) hx hb dX12_logs_59 (by decide) ?_
    obtain ⟨hi, hf⟩ := mix_e hf
    refine m_iald (g := 12) (i := 48) hx hb hI (mokX (by decide) (by decide)) rfl hi dX12_logs_61 ?_
    refine lv_imul hx hb dX12_logs_62 ?_
    refine lv_iadd hx hb dX12_logs_63 ?_
    refine lv_topi (fun x12 ex12 => ?_)
    have hf := mlet_s ex12 hf
    refine lv_istore_n (lv' := [(3, .int x12), (0, .ref (w.1 12 47)), (1, .int a1), (2, .int a2)]) hx hb dX12_logs_64 rfl hl (by decide) rfl (fun ls hl => ?_)
    refine lv_aload_n hx hb dX12_logs_65 rfl (lv_at hl 1 rfl) ?_
    refine m_get (g := 12) (i := 47) (ci := 10) (k := 1) (v := .ref (w.1 12 48)) hx hb hI hown (mokX (by decide) (by decide)) rfl rfl (by decide) lyX12 (q1427 hI.T) rfl dX12_logs_66 ?_
    refine lv_iload_n hx hb dX12_logs_69 rfl (lv_at hl 0 rfl) ?_
    refine lv_aload_n hx hb dX12_logs_70 rfl (lv_at hl 1 rfl) ?_
    refine m_get (g := 12) (i := 47) (ci := 10) (k := 1) (v := .ref (w.1 12 48)) hx hb hI hown (mokX (by decide) (by decide)) rfl rfl (by decide) lyX12 (q1427 hI.T) rfl dX12_logs_71 ?_
    refine lv_bipush (v := 11) hx hb dX12_logs_74 (by decide) ?_
    obtain ⟨hi, hf⟩ := mix_e hf
    refine m_iald (g := 12) (i := 48) hx hb hI (mokX (by decide) (by decide)) rfl hi dX12_logs_76 ?_
    obtain ⟨hi, hf⟩ := mix_e hf
    obtain ⟨M13, eM13, hf⟩ := mlet_e hf
    refine m_iast (g := 12) (i := 48) (M1 := M13) hx hb hI (mokX (by decide) (by decide)) rfl hi eM13 dX12_logs_77 (fun H locs hI => ?_)
    refine lv_aload_n hx hb dX12_logs_78 rfl (lv_at hl 1 rfl) ?_
    refine m_get (g := 12) (i := 47) (ci := 10) (k := 1) (v := .ref (w.1 12 48)) hx hb hI hown (mokX (by decide) (by decide)) rfl rfl (by decide) lyX12 (q1427 hI.T) rfl dX12_logs_79 ?_
    refine lv_iload_n hx hb dX12_logs_82 rfl (lv_at hl 0 rfl) ?_
    refine lv_iconst (v := 1) hx hb dX12_logs_83 (by decide) ?_
    refine lv_iadd hx hb dX12_logs_84 ?_
    refine lv_iload_n hx hb dX12_logs_85 rfl (lv_at hl 2 rfl) ?_
    obtain ⟨hi, hf⟩ := mix_e hf
    obtain ⟨M14, eM14, hf⟩ := mlet_e hf
    refine m_iast (g := 12) (i := 48) (M1 := M14) hx hb hI (mokX (by decide) (by decide)) rfl hi eM14 dX12_logs_86 (fun H locs hI => ?_)
    refine lv_aload_n hx hb dX12_logs_87 rfl (lv_at hl 1 rfl) ?_
    refine m_get (g := 12) (i := 47) (ci := 10) (k := 1) (v := .ref (w.1 12 48)) hx hb hI hown (mokX (by decide) (by decide)) rfl rfl (by decide) lyX12 (q1427 hI.T) rfl dX12_logs_88 ?_
    refine lv_iload_n hx hb dX12_logs_91 rfl (lv_at hl 0 rfl) ?_
    refine lv_iconst (v := 2) hx hb dX12_logs_92 (by decide) ?_
    refine lv_iadd hx hb dX12_logs_93 ?_
    refine lv_iload_n hx hb dX12_logs_94 rfl (lv_at hl 3 rfl) ?_
    obtain ⟨hi, hf⟩ := mix_e hf
    obtain ⟨M15, eM15, hf⟩ := mlet_e hf
    refine m_iast (g := 12) (i := 48) (M1 := M15) hx hb hI (mokX (by decide) (by decide)) rfl hi eM15 dX12_logs_95 (fun H locs hI => ?_)
    refine lv_aload_n hx hb dX12_logs_96 rfl (lv_at hl 1 rfl) ?_
    refine m_get (g := 12) (i := 47) (ci := 10) (k := 1) (v := .ref (w.1 12 48)) hx hb hI hown (mokX (by decide) (by decide)) rfl rfl (by decide) lyX12 (q1427 hI.T) rfl dX12_logs_97 ?_
    refine lv_bipush (v := 14) hx hb dX12_logs_100 (by decide) ?_
    refine lv_dup2_11 hx hb dX12_logs_102 rfl rfl ?_
    obtain ⟨hi, hf⟩ := mix_e hf
    refine m_iald (g := 12) (i := 48) hx hb hI (mokX (by decide) (by decide)) rfl hi dX12_logs_103 ?_
    refine lv_iconst (v := 1) hx hb dX12_logs_104 (by decide) ?_
    refine lv_iadd hx hb dX12_logs_105 ?_
    obtain ⟨hi, hf⟩ := mix_e hf
    obtain ⟨M16, eM16, hf⟩ := mlet_e hf
    refine m_iast (g := 12) (i := 48) (M1 := M16) hx hb hI (mokX (by decide) (by decide)) rfl hi eM16 dX12_logs_106 (fun H locs hI => ?_)
    exact m_vretf hx hb hr hlk hI hf dX12_logs_107
  refine lv_icmp_ne (tgt := 52) hx hb dX12_logs_9 (by decide) (fun c1 => ?_) (fun c1 => ?_)
  · have hf := (if_neg c1).symm.trans hf
    exact hj52_11 M s.heap _ _ hf hI (lv_sub hl [0, 1, 2] rfl)
  · have hf := (if_pos c1).symm.trans hf
    refine lv_bipush (v := 56) hx hb dX12_logs_12 (by decide) ?_
    refine lv_istore_n (lv' := [(3, .int (56 : Int32)), (0, .ref (w.1 12 47)), (1, .int a1), (2, .int a2)]) hx hb dX12_logs_14 rfl hl (by decide) rfl (fun ls hl => ?_)
    have hL15 : ∀ (n : Nat) (x2 : Int32) (M3 : Mem) (kk : Mem → Option (Unit × Mem)) (H : Heap) (locs : List Loc) (ls : Array Slot), f_X12_logs_L15 n x2 M3 kk = some (r, M9) → mI w s (mA w s.heap.size) H locs M3 → lv_has ls 4 [(0, .ref (w.1 12 47)), (1, .int a1), (2, .int a2), (3, .int x2)] → (∀  (M3 : Mem) (H : Heap) (locs : List Loc) (ls : Array Slot), kk M3 = some (r, M9) → mI w s (mA w s.heap.size) H locs M3 → lv_has ls 4 [(0, .ref (w.1 12 47)), (1, .int a1), (2, .int a2)] → W p l e rmX12_logs s m args below meth c H locs 0 0 (MQ below (mQ w s.heap.size none M9) args s 0 0 (mA w s.heap.size)) (F0 m 41 ls [])) → W p l e rmX12_logs s m args below meth c H locs 0 0 (MQ below (mQ w s.heap.size none M9) args s 0 0 (mA w s.heap.size)) (F0 m 15 ls []) := by
      intro n
      induction n with
      | zero => intro x2 M3 kk H locs ls hf hI hl hk; rw [f_X12_logs_L15.eq_1] at hf; cases hf
      | succ n ih15 =>
        intro x2 M3 kk H locs ls hf hI hl hk
        rw [f_X12_logs_L15.eq_2] at hf
        refine lv_iload_n hx hb dX12_logs_15 rfl (lv_at hl 3 rfl) ?_
        refine lv_bipush (v := 89) hx hb dX12_logs_16 (by decide) ?_
        refine lv_icmp_ge (tgt := 41) hx hb dX12_logs_18 (by decide) (fun c4 => ?_) (fun c4 => ?_)
        · have hf := (if_pos c4).symm.trans hf
          exact hk M3 H _ _ hf hI (lv_sub hl [0, 1, 2] rfl)
        · have hf := (if_neg c4).symm.trans hf
          refine lv_aload_n hx hb dX12_logs_21 rfl (lv_at hl 0 rfl) ?_
          refine m_get (g := 12) (i := 47) (ci := 10) (k := 1) (v := .ref (w.1 12 48)) hx hb hI hown (mokX (by decide) (by decide)) rfl rfl (by decide) lyX12 (q1427 hI.T) rfl dX12_logs_22 ?_
          refine lv_iload_n hx hb dX12_logs_25 rfl (lv_at hl 3 rfl) ?_
          refine lv_aload_n hx hb dX12_logs_26 rfl (lv_at hl 0 rfl) ?_
          refine m_get (g := 12) (i := 47) (ci := 10) (k := 1) (v := .ref (w.1 12 48)) hx hb hI hown (mokX (by decide) (by decide)) rfl rfl (by decide) lyX12 (q1427 hI.T) rfl dX12_logs_27 ?_
          refine lv_iload_n hx hb dX12_logs_30 rfl (lv_at hl 3 rfl) ?_
          refine lv_iconst (v := 3) hx hb dX12_logs_31 (by decide) ?_
          refine lv_iadd hx hb dX12_logs_32 ?_
          obtain ⟨hi, hf⟩ := mix_e hf
          refine m_iald (g := 12) (i := 48) hx hb hI (mokX (by decide) (by decide)) rfl hi dX12_logs_33 ?_
          obtain ⟨hi, hf⟩ := mix_e hf
          obtain ⟨M5, eM5, hf⟩ := mlet_e hf
          refine m_iast (g := 12) (i := 48) (M1 := M5) hx hb hI (mokX (by decide) (by decide)) rfl hi eM5 dX12_logs_34 (fun H locs hI => ?_)
          obtain ⟨x6, ex6, hf⟩ := mlet_e hf
          refine lv_iinc (v := x6) (lv' := [(3, .int x6), (0, .ref (w.1 12 47)), (1, .int a1), (2, .int a2)]) hx hb dX12_logs_35 hl (k := 3) rfl (by rw [ex6]; rfl) (by decide) rfl (fun ls hl => ?_)
          refine lv_goto (tgt := 15) hx hb dX12_logs_38 (by decide) ?_
          exact ih15 x6 M5 kk H _ _ hf hI (lv_sub hl [1, 2, 3, 0] rfl) hk
    refine hL15 1000 (56 : Int32) M _ _ _ _ hf hI (lv_sub hl [1, 2, 3, 0] rfl) ?_
    intro M7 H locs ls hf hI hl
    try dsimp only at hf
    refine lv_aload_n hx hb dX12_logs_41 rfl (lv_at hl 0 rfl) ?_
    refine m_get (g := 12) (i := 47) (ci := 10) (k := 1) (v := .ref (w.1 12 48)) hx hb hI hown (mokX (by decide) (by decide)) rfl rfl (by decide) lyX12 (q1427 hI.T) rfl dX12_logs_42 ?_
    refine lv_bipush (v := 14) hx hb dX12_logs_45 (by decide) ?_
    refine lv_dup2_11 hx hb dX12_logs_47 rfl rfl ?_
    obtain ⟨hi, hf⟩ := mix_e hf
    refine m_iald (g := 12) (i := 48) hx hb hI (mokX (by decide) (by decide)) rfl hi dX12_logs_48 ?_
    refine lv_iconst (v := 1) hx hb dX12_logs_49 (by decide) ?_
    refine lv_isub hx hb dX12_logs_50 ?_
    obtain ⟨hi, hf⟩ := mix_e hf
    obtain ⟨M8, eM8, hf⟩ := mlet_e hf
    refine m_iast (g := 12) (i := 48) (M1 := M8) hx hb hI (mokX (by decide) (by decide)) rfl hi eM8 dX12_logs_51 (fun H locs hI => ?_)
    exact hj52_11 M8 H _ _ hf hI (lv_sub hl [0, 1, 2] rfl)
abbrev rmX12_oneHour : Room := { frames := 3, cells := 0, slots := 0, locals := 65 }
theorem kb_X12_oneHour {R : Room} {s : State} {args : Array Value} {own : String} {idx : Nat} (hT : mT s) (hlink : (Cond.methodLink own idx yX12_oneHour).before args s = true) (h1 : rmX12_oneHour.frames + 1 ≤ R.frames) (h2 : 8 + (5 + 11) + rmX12_oneHour.locals ≤ R.locals) : CallB R s args own idx yX12_oneHour cX12_oneHour 5 (some .int) [Cond.code yX12_oneHour cX12_oneHour 5 (some .int)] rmX12_oneHour 0 0 0 := m_callB hT kc_X12_oneHour ki_X12_oneHour hlink (by decide +kernel) ⟨rfl, rfl, h1, h2⟩
set_option maxHeartbeats 4000000 in
set_option maxRecDepth 100000 in
theorem c_X12_oneHour (l : Launch) (w : WD) (sz : Nat)  (M : Mem) (r : Int32) (M9 : Mem) (hf : f_X12_oneHour  M = some (r, M9)) : mMet l yX12_oneHour cX12_oneHour 5 (some .int) rmX12_oneHour w sz M [.ref (w.1 12 47)] (some (.int r)) M9 := by
  refine m_of (by decide) (Nat.le_of_ble_eq_true rfl) ?_
  intro p e s m args below meth c hx hb hr hml hown hlk hI ls hl
  have hl : lv_has ls 5 [(0, .ref (w.1 12 47))] := hl
  unfold f_X12_oneHour at hf
  refine lv_aload_n hx hb dX12_oneHour_0 rfl (lv_at hl 0 rfl) ?_
  refine m_get (g := 12) (i := 47) (ci := 10) (k := 1) (v := .ref (w.1 12 48)) hx hb hI hown (mokX (by decide) (by decide)) rfl rfl (by decide) lyX12 (q1427 hI.T) rfl dX12_oneHour_1 ?_
  refine lv_bipush (v := 11) hx hb dX12_oneHour_4 (by decide) ?_
  refine lv_dup2_11 hx hb dX12_oneHour_6 rfl rfl ?_
  obtain ⟨hi, hf⟩ := mix_e hf
  refine m_iald (g := 12) (i := 48) hx hb hI (mokX (by decide) (by decide)) rfl hi dX12_oneHour_7 ?_
  refine lv_iconst (v := 1) hx hb dX12_oneHour_8 (by decide) ?_
  refine lv_iadd hx hb dX12_oneHour_9 ?_
  obtain ⟨hi, hf⟩ := mix_e hf
  obtain ⟨M1, eM1, hf⟩ := mlet_e hf
  refine m_iast (g := 12) (i := 48) (M1 := M1) hx hb hI (mokX (by decide) (by decide)) rfl hi eM1 dX12_oneHour_10 (fun H locs hI => ?_)
  refine lv_iconst (v := 0) hx hb dX12_oneHour_11 (by decide) ?_
  refine lv_istore_n (lv' := [(1, .int (0 : Int32)), (0, .ref (w.1 12 47))]) hx hb dX12_oneHour_12 rfl hl (by decide) rfl (fun ls hl => ?_)
  have hL13 : ∀ (n : Nat) (x2 : Int32) (M3 : Mem) (kk : Mem → Option (Int32 × Mem)) (H : Heap) (locs : List Loc) (ls : Array Slot), f_X12_oneHour_L13 n x2 M3 kk = some (r, M9) → mI w s (mA w s.heap.size) H locs M3 → lv_has ls 5 [(0, .ref (w.1 12 47)), (1, .int x2)] → (∀  (M3 : Mem) (H : Heap) (locs : List Loc) (ls : Array Slot), kk M3 = some (r, M9) → mI w s (mA w s.heap.size) H locs M3 → lv_has ls 5 [(0, .ref (w.1 12 47))] → W p l e rmX12_oneHour s m args below meth c H locs 0 0 (MQ below (mQ w s.heap.size (some (.int r)) M9) args s 0 0 (mA w s.heap.size)) (F0 m 77 ls [])) → W p l e rmX12_oneHour s m args below meth c H locs 0 0 (MQ below (mQ w s.heap.size (some (.int r)) M9) args s 0 0 (mA w s.heap.size)) (F0 m 13 ls []) := by
    intro n
    induction n with
    | zero => intro x2 M3 kk H locs ls hf hI hl hk; rw [f_X12_oneHour_L13.eq_1] at hf; cases hf
    | succ n ih13 =>
      intro x2 M3 kk H locs ls hf hI hl hk
      rw [f_X12_oneHour_L13.eq_2] at hf
      refine lv_iload_n hx hb dX12_oneHour_13 rfl (lv_at hl 1 rfl) ?_
      refine lv_aload_n hx hb dX12_oneHour_14 rfl (lv_at hl 0 rfl) ?_
      refine m_get (g := 12) (i := 47) (ci := 10) (k := 1) (v := .ref (w.1 12 48)) hx hb hI hown (mokX (by decide) (by decide)) rfl rfl (by decide) lyX12 (q1427 hI.T) rfl dX12_oneHour_15 ?_
      refine lv_bipush (v := 10) hx hb dX12_oneHour_18 (by decide) ?_
      obtain ⟨hi, hf⟩ := mix_e hf
      refine m_iald (g := 12) (i := 48) hx hb hI (mokX (by decide) (by decide)) rfl hi dX12_oneHour_20 ?_
      refine lv_icmp_ge (tgt := 77) hx hb dX12_oneHour_21 (by decide) (fun c4 => ?_) (fun c4 => ?_)
      · have hf := (if_pos c4).symm.trans hf
        exact hk M3 H _ _ hf hI (lv_sub hl [0] rfl)
      · have hf := (if_neg c4).symm.trans hf
        refine lv_aload_n hx hb dX12_oneHour_24 rfl (lv_at hl 0 rfl) ?_
        refine m_get (g := 12) (i := 47) (ci := 10) (k := 1) (v := .ref (w.1 12 48)) hx hb hI hown (mokX (by decide) (by decide)) rfl rfl (by decide) lyX12 (q1427 hI.T) rfl dX12_oneHour_25 ?_
        refine lv_bipush (v := 11) hx hb dX12_oneHour_28 (by decide) ?_
        obtain ⟨hi, hf⟩ := mix_e hf
        refine m_iald (g := 12) (i := 48) hx hb hI (mokX (by decide) (by decide)) rfl hi dX12_oneHour_30 ?_
        refine lv_aload_n hx hb dX12_oneHour_31 rfl (lv_at hl 0 rfl) ?_
        refine lv_iload_n hx hb dX12_oneHour_32 rfl (lv_at hl 1 rfl) ?_
        refine lv_iconst (v := 2) hx hb dX12_oneHour_33 (by decide) ?_
        obtain ⟨r5, hc, hf⟩ := mbp_e hf
        refine m_callV (As := [.int x2, .int (2 : Int32)]) (rest := [.int (M3 12 48 (11 : Int32).toNatClampNeg)]) hx hb hml hown hI (c_X12_guard l w H.size x2 (2 : Int32) M3 _ hc) (kb_X12_guard hI.T (q1595 hI.T) (Nat.le_of_ble_eq_true rfl) (Nat.le_of_ble_eq_true rfl)) (q1597 hI.T) (sel_X12_guard hI.T) (m_recv (g := 12) (i := 47) hI (mokX (by decide) (by decide)) rfl rfl) rfl hl.1 (Nat.le_of_ble_eq_true rfl) dX12_oneHour_34 ⟨Nat.le_of_ble_eq_true rfl, Nat.le_of_ble_eq_true rfl⟩ (fun H locs hI => ?_)
        obtain ⟨hd, hf⟩ := mdiv_e hf
        refine lv_irem hx hb dX12_oneHour_37 hd ?_
        obtain ⟨k71_12, ek71_12, hf⟩ := mlet_e hf
        have hj71_12 : ∀ (M11 : Mem) (H : Heap) (locs : List Loc) (ls : Array Slot), k71_12 M11 = some (r, M9) → mI w s (mA w s.heap.size) H locs M11 → lv_has ls 5 [(0, .ref (w.1 12 47)), (1, .int x2)] → W p l e rmX12_oneHour s m args below meth c H locs 0 0 (MQ below (mQ w s.heap.size (some (.int r)) M9) args s 0 0 (mA w s.heap.size)) (F0 m 71 ls []) := by
          intro M11 H locs ls hf hI hl
          rw [ek71_12] at hf
          try dsimp only at hf
          obtain ⟨x13, ex13, hf⟩ := mlet_e hf
          refine lv_iinc (v := x13) (lv' := [(1, .int x13), (0, .ref (w.1 12 47))]) hx hb dX12_oneHour_71 hl (k := 1) rfl (by rw [ex13]; rfl) (by decide) rfl (fun ls hl => ?_)
          refine lv_goto (tgt := 13) hx hb dX12_oneHour_74 (by decide) ?_
          exact ih13 x13 M11 kk H _ _ hf hI (lv_sub hl [1, 0] rfl) hk
        refine lv_if_ne (tgt := 71) hx hb dX12_oneHour_38 (by decide) (fun c6 => ?_) (fun c6 => ?_)
        · have hf := (if_neg c6).symm.trans hf
          exact hj71_12 M3 H _ _ hf hI (lv_sub hl [0, 1] rfl)
        · have hf := (if_pos c6).symm.trans hf
          refine lv_aload_n hx hb dX12_oneHour_41 rfl (lv_at hl 0 rfl) ?_
          refine m_get (g := 12) (i := 47) (ci := 10) (k := 1) (v := .ref (w.1 12 48)) hx hb hI hown (mokX (by decide) (by decide)) rfl rfl (by decide) lyX12 (q1427 hI.T) rfl dX12_oneHour_42 ?_
          refine lv_bipush (v := 47) hx hb dX12_oneHour_45 (by decide) ?_
          refine lv_iconst (v := 3) hx hb dX12_oneHour_47 (by decide) ?_
          refine lv_iload_n hx hb dX12_oneHour_48 rfl (lv_at hl 1 rfl) ?_
          refine lv_imul hx hb dX12_oneHour_49 ?_
          refine lv_iadd hx hb dX12_oneHour_50 ?_
          refine lv_aload_n hx hb dX12_oneHour_51 rfl (lv_at hl 0 rfl) ?_
          refine lv_iload_n hx hb dX12_oneHour_52 rfl (lv_at hl 1 rfl) ?_
          refine lv_iconst (v := 0) hx hb dX12_oneHour_53 (by decide) ?_
          obtain ⟨r7, hc, hf⟩ := mbp_e hf
          refine m_callV (As := [.int x2, .int (0 : Int32)]) (rest := [.int ((47 : Int32) + ((3 : Int32) * x2)), .ref (w.1 12 48)]) hx hb hml hown hI (c_X12_guard l w H.size x2 (0 : Int32) M3 _ hc) (kb_X12_guard hI.T (q1595 hI.T) (Nat.le_of_ble_eq_true rfl) (Nat.le_of_ble_eq_true rfl)) (q1597 hI.T) (sel_X12_guard hI.T) (m_recv (g := 12) (i := 47) hI (mokX (by decide) (by decide)) rfl rfl) rfl hl.1 (Nat.le_of_ble_eq_true rfl) dX12_oneHour_54 ⟨Nat.le_of_ble_eq_true rfl, Nat.le_of_ble_eq_true rfl⟩ (fun H locs hI => ?_)
          refine lv_aload_n hx hb dX12_oneHour_57 rfl (lv_at hl 0 rfl) ?_
          refine lv_iload_n hx hb dX12_oneHour_58 rfl (lv_at hl 1 rfl) ?_
          refine lv_iconst (v := 1) hx hb dX12_oneHour_59 (by decide) ?_
          obtain ⟨r8, hc, hf⟩ := mbp_e hf
          refine m_callV (As := [.int x2, .int (1 : Int32)]) (rest := [.int r7, .int ((47 : Int32) + ((3 : Int32) * x2)), .ref (w.1 12 48)]) hx hb hml hown hI (c_X12_guard l w H.size x2 (1 : Int32) M3 _ hc) (kb_X12_guard hI.T (q1595 hI.T) (Nat.le_of_ble_eq_true rfl) (Nat.le_of_ble_eq_true rfl)) (q1597 hI.T) (sel_X12_guard hI.T) (m_recv (g := 12) (i := 47) hI (mokX (by decide) (by decide)) rfl rfl) rfl hl.1 (Nat.le_of_ble_eq_true rfl) dX12_oneHour_60 ⟨Nat.le_of_ble_eq_true rfl, Nat.le_of_ble_eq_true rfl⟩ (fun H locs hI => ?_)
          refine lv_iadd hx hb dX12_oneHour_63 ?_
          refine lv_bipush (v := 8) hx hb dX12_oneHour_64 (by decide) ?_
          refine lv_iadd hx hb dX12_oneHour_66 ?_
          refine lv_bipush (v := 8) hx hb dX12_oneHour_67 (by decide) ?_
          refine lv_irem hx hb dX12_oneHour_69 (by decide) ?_
          obtain ⟨hi, hf⟩ := mix_e hf
          obtain ⟨M10, eM10, hf⟩ := mlet_e hf
          refine m_iast (g := 12) (i := 48) (M1 := M10) hx hb hI (mokX (by decide) (by decide)) rfl hi eM10 dX12_oneHour_70 (fun H locs hI => ?_)
          exact hj71_12 M10 H _ _ hf hI (lv_sub hl [0, 1] rfl)
  refine hL13 1000 (0 : Int32) M1 _ _ _ _ hf hI (lv_sub hl [1, 0] rfl) ?_
  intro M14 H locs ls hf hI hl
  try dsimp only at hf
  refine lv_iconst (v := 0) hx hb dX12_oneHour_77 (by decide) ?_
  refine lv_istore_n (lv' := [(1, .int (0 : Int32)), (0, .ref (w.1 12 47))]) hx hb dX12_oneHour_78 rfl hl (by decide) rfl (fun ls hl => ?_)
  refine lv_iconst (v := 0) hx hb dX12_oneHour_79 (by decide) ?_
  refine lv_istore_n (lv' := [(2, .int (0 : Int32)), (1, .int (0 : Int32)), (0, .ref (w.1 12 47))]) hx hb dX12_oneHour_80 rfl hl (by decide) rfl (fun ls hl => ?_)
  have hL81 : ∀ (n : Nat) (x15 : Int32) (x16 : Int32) (M17 : Mem) (kk : Int32 → Mem → Option (Int32 × Mem)) (H : Heap) (locs : List Loc) (ls : Array Slot), f_X12_oneHour_L81 n x15 x16 M17 kk = some (r, M9) → mI w s (mA w s.heap.size) H locs M17 → lv_has ls 5 [(0, .ref (w.1 12 47)), (1, .int x15), (2, .int x16)] → (∀ (x15 : Int32) (M17 : Mem) (H : Heap) (locs : List Loc) (ls : Array Slot), kk x15 M17 = some (r, M9) → mI w s (mA w s.heap.size) H locs M17 → lv_has ls 5 [(0, .ref (w.1 12 47)), (1, .int x15)] → W p l e rmX12_oneHour s m args below meth c H locs 0 0 (MQ below (mQ w s.heap.size (some (.int r)) M9) args s 0 0 (mA w s.heap.size)) (F0 m 206 ls [])) → W p l e rmX12_oneHour s m args below meth c H locs 0 0 (MQ below (mQ w s.heap.size (some (.int r)) M9) args s 0 0 (mA w s.heap.size)) (F0 m 81 ls []) := by
    intro n
    induction n with
    | zero => intro x15 x16 M17 kk H locs ls hf hI hl hk; rw [f_X12_oneHour_L81.eq_1] at hf; cases hf
    | succ n ih81 =>
      intro x15 x16 M17 kk H locs ls hf hI hl hk
      rw [f_X12_oneHour_L81.eq_2] at hf
      refine lv_iload_n hx hb dX12_oneHour_81 rfl (lv_at hl 2 rfl) ?_
      refine lv_bipush (v := 8) hx hb dX12_oneHour_82 (by decide) ?_
      refine lv_icmp_ge (tgt := 206) hx hb dX12_oneHour_84 (by decide) (fun c18 => ?_) (fun c18 => ?_)
      · have hf := (if_pos c18).symm.trans hf
        exact hk x15 M17 H _ _ hf hI (lv_sub hl [0, 1] rfl)
      · have hf := (if_neg c18).symm.trans hf
        refine lv_aload_n hx hb dX12_oneHour_87 rfl (lv_at hl 0 rfl) ?_
        refine m_get (g := 12) (i := 47) (ci := 10) (k := 1) (v := .ref (w.1 12 48)) hx hb hI hown (mokX (by decide) (by decide)) rfl rfl (by decide) lyX12 (q1427 hI.T) rfl dX12_oneHour_88 ?_
        refine lv_bipush (v := 31) hx hb dX12_oneHour_91 (by decide) ?_
        refine lv_iload_n hx hb dX12_oneHour_93 rfl (lv_at hl 2 rfl) ?_
        refine lv_iadd hx hb dX12_oneHour_94 ?_
        obtain ⟨hi, hf⟩ := mix_e hf
        refine m_iald (g := 12) (i := 48) hx hb hI (mokX (by decide) (by decide)) rfl hi dX12_oneHour_95 ?_
        refine lv_topi (fun x19 ex19 => ?_)
        have hf := mlet_s ex19 hf
        refine lv_istore_n (lv' := [(3, .int x19), (0, .ref (w.1 12 47)), (1, .int x15), (2, .int x16)]) hx hb dX12_oneHour_96 rfl hl (by decide) rfl (fun ls hl => ?_)
        refine lv_aload_n hx hb dX12_oneHour_97 rfl (lv_at hl 1 rfl) ?_
        refine lv_iload_n hx hb dX12_oneHour_98 rfl (lv_at hl 3 rfl) ?_
        obtain ⟨r20, hc, hf⟩ := mbp_e hf
        refine m_callV (As := [.int x16]) (rest := []) hx hb hml hown hI (c_X12_isIn l w H.size x16 M17 _ hc) (kb_X12_isIn hI.T (q1591 hI.T) (Nat.le_of_ble_eq_true rfl) (Nat.le_of_ble_eq_true rfl)) (q1593 hI.T) (sel_X12_isIn hI.T) (m_recv (g := 12) (i := 47) hI (mokX (by decide) (by decide)) rfl rfl) rfl hl.1 (Nat.le_of_ble_eq_true rfl) dX12_oneHour_99 ⟨Nat.le_of_ble_eq_true rfl, Nat.le_of_ble_eq_true rfl⟩ (fun H locs hI => ?_)
        obtain ⟨k123_27, ek123_27, hf⟩ := mlet_e hf
        have hj123_27 : ∀ (x26 : Int32) (H : Heap) (locs : List Loc) (ls : Array Slot), k123_27 x26 = some (r, M9) → mI w s (mA w s.heap.size) H locs M17 → lv_has ls 5 [(0, .ref (w.1 12 47)), (1, .int x15), (2, .int x16), (3, .int x19)] → W p l e rmX12_oneHour s m args below meth c H locs 0 0 (MQ below (mQ w s.heap.size (some (.int r)) M9) args s 0 0 (mA w s.heap.size)) (F0 m 123 ls [.int x26]) := by
          intro x26 H locs ls hf hI hl
          rw [ek123_27] at hf
          try dsimp only at hf
          refine lv_istore (lv' := [(4, .int x26), (0, .ref (w.1 12 47)), (1, .int x15), (2, .int x16), (3, .int x19)]) hx hb dX12_oneHour_123 hl (by decide) rfl (fun ls hl => ?_)
          refine lv_aload_n hx hb dX12_oneHour_125 rfl (lv_at hl 1 rfl) ?_
          refine m_get (g := 12) (i := 47) (ci := 10) (k := 1) (v := .ref (w.1 12 48)) hx hb hI hown (mokX (by decide) (by decide)) rfl rfl (by decide) lyX12 (q1427 hI.T) rfl dX12_oneHour_126 ?_
          refine lv_bipush (v := 31) hx hb dX12_oneHour_129 (by decide) ?_
          refine lv_iload_n hx hb dX12_oneHour_131 rfl (lv_at hl 3 rfl) ?_
          refine lv_iadd hx hb dX12_oneHour_132 ?_
          refine lv_aload_n hx hb dX12_oneHour_133 rfl (lv_at hl 1 rfl) ?_
          refine lv_iload_n hx hb dX12_oneHour_134 rfl (lv_at hl 3 rfl) ?_
          obtain ⟨r28, hc, hf⟩ := mbp_e hf
          refine m_callV (As := [.int x16]) (rest := [.int ((31 : Int32) + x16), .ref (w.1 12 48)]) hx hb hml hown hI (c_X12_isIn l w H.size x16 M17 _ hc) (kb_X12_isIn hI.T (q1591 hI.T) (Nat.le_of_ble_eq_true rfl) (Nat.le_of_ble_eq_true rfl)) (q1593 hI.T) (sel_X12_isIn hI.T) (m_recv (g := 12) (i := 47) hI (mokX (by decide) (by decide)) rfl rfl) rfl hl.1 (Nat.le_of_ble_eq_true rfl) dX12_oneHour_135 ⟨Nat.le_of_ble_eq_true rfl, Nat.le_of_ble_eq_true rfl⟩ (fun H locs hI => ?_)
          obtain ⟨k157_34, ek157_34, hf⟩ := mlet_e hf
          have hj157_34 : ∀ (x33 : Int32) (H : Heap) (locs : List Loc) (ls : Array Slot), k157_34 x33 = some (r, M9) → mI w s (mA w s.heap.size) H locs M17 → lv_has ls 5 [(0, .ref (w.1 12 47)), (1, .int x15), (2, .int x16), (4, .int x26)] → W p l e rmX12_oneHour s m args below meth c H locs 0 0 (MQ below (mQ w s.heap.size (some (.int r)) M9) args s 0 0 (mA w s.heap.size)) (F0 m 157 ls [.int x33, .int ((31 : Int32) + x16), .ref (w.1 12 48)]) := by
            intro x33 H locs ls hf hI hl
            rw [ek157_34] at hf
            try dsimp only at hf
            obtain ⟨hi, hf⟩ := mix_e hf
            obtain ⟨M35, eM35, hf⟩ := mlet_e hf
            refine m_iast (g := 12) (i := 48) (M1 := M35) hx hb hI (mokX (by decide) (by decide)) rfl hi eM35 dX12_oneHour_157 (fun H locs hI => ?_)
            refine lv_iload hx hb dX12_oneHour_158 (lv_at hl 3 rfl) ?_
            obtain ⟨k200_44, ek200_44, hf⟩ := mlet_e hf
            have hj200_44 : ∀ (x42 : Int32) (M43 : Mem) (H : Heap) (locs : List Loc) (ls : Array Slot), k200_44 x42 M43 = some (r, M9) → mI w s (mA w s.heap.size) H locs M43 → lv_has ls 5 [(0, .ref (w.1 12 47)), (1, .int x42), (2, .int x16)] → W p l e rmX12_oneHour s m args below meth c H locs 0 0 (MQ below (mQ w s.heap.size (some (.int r)) M9) args s 0 0 (mA w s.heap.size)) (F0 m 200 ls []) := by
              intro x42 M43 H locs ls hf hI hl
              rw [ek200_44] at hf
              try dsimp only at hf
              obtain ⟨x45, ex45, hf⟩ := mlet_e hf
              refine lv_iinc (v := x45) (lv' := [(2, .int x45), (0, .ref (w.1 12 47)), (1, .int x42)]) hx hb dX12_oneHour_200 hl (k := 2) rfl (by rw [ex45]; rfl) (by decide) rfl (fun ls hl => ?_)
              refine lv_goto (tgt := 81) hx hb dX12_oneHour_203 (by decide) ?_
              exact ih81 x42 x45 M43 kk H _ _ hf hI (lv_sub hl [1, 2, 0] rfl) hk
            refine lv_if_ne (tgt := 166) hx hb dX12_oneHour_160 (by decide) (fun c36 => ?_) (fun c36 => ?_)
            · have hf := (if_neg c36).symm.trans hf
              refine lv_aload_n hx hb dX12_oneHour_166 rfl (lv_at hl 0 rfl) ?_
              refine m_get (g := 12) (i := 47) (ci := 10) (k := 1) (v := .ref (w.1 12 48)) hx hb hI hown (mokX (by decide) (by decide)) rfl rfl (by decide) lyX12 (q1427 hI.T) rfl dX12_oneHour_167 ?_
              refine lv_bipush (v := 39) hx hb dX12_oneHour_170 (by decide) ?_
              refine lv_iload_n hx hb dX12_oneHour_172 rfl (lv_at hl 2 rfl) ?_
              refine lv_iadd hx hb dX12_oneHour_173 ?_
              refine lv_dup2_11 hx hb dX12_oneHour_174 rfl rfl ?_
              obtain ⟨hi, hf⟩ := mix_e hf
              refine m_iald (g := 12) (i := 48) hx hb hI (mokX (by decide) (by decide)) rfl hi dX12_oneHour_175 ?_
              refine lv_iconst (v := 1) hx hb dX12_oneHour_176 (by decide) ?_
              refine lv_iadd hx hb dX12_oneHour_177 ?_
              obtain ⟨hi, hf⟩ := mix_e hf
              obtain ⟨M37, eM37, hf⟩ := mlet_e hf
              refine m_iast (g := 12) (i := 48) (M1 := M37) hx hb hI (mokX (by decide) (by decide)) rfl hi eM37 dX12_oneHour_178 (fun H locs hI => ?_)
              refine lv_aload_n hx hb dX12_oneHour_179 rfl (lv_at hl 0 rfl) ?_
              refine m_get (g := 12) (i := 47) (ci := 10) (k := 1) (v := .ref (w.1 12 48)) hx hb hI hown (mokX (by decide) (by decide)) rfl rfl (by decide) lyX12 (q1427 hI.T) rfl dX12_oneHour_180 ?_
              refine lv_bipush (v := 13) hx hb dX12_oneHour_183 (by decide) ?_
              refine lv_dup2_11 hx hb dX12_oneHour_185 rfl rfl ?_
              obtain ⟨hi, hf⟩ := mix_e hf
              refine m_iald (g := 12) (i := 48) hx hb hI (mokX (by decide) (by decide)) rfl hi dX12_oneHour_186 ?_
              refine lv_iconst (v := 1) hx hb dX12_oneHour_187 (by decide) ?_
              refine lv_iadd hx hb dX12_oneHour_188 ?_
              obtain ⟨hi, hf⟩ := mix_e hf
              obtain ⟨M38, eM38, hf⟩ := mlet_e hf
              refine m_iast (g := 12) (i := 48) (M1 := M38) hx hb hI (mokX (by decide) (by decide)) rfl hi eM38 dX12_oneHour_189 (fun H locs hI => ?_)
              refine lv_aload_n hx hb dX12_oneHour_190 rfl (lv_at hl 0 rfl) ?_
              refine lv_bipush (v := 97) hx hb dX12_oneHour_191 (by decide) ?_
              refine lv_iload_n hx hb dX12_oneHour_193 rfl (lv_at hl 2 rfl) ?_
              obtain ⟨r39, M40, hc, hf⟩ := mbnd_e hf
              refine m_callV (As := [.int (97 : Int32), .int x16]) (rest := []) hx hb hml hown hI (c_X12_logs l w H.size (97 : Int32) x16 M38 _ _ hc) (kb_X12_logs hI.T (q1614 hI.T) (Nat.le_of_ble_eq_true rfl) (Nat.le_of_ble_eq_true rfl)) (q1616 hI.T) (sel_X12_logs hI.T) (m_recv (g := 12) (i := 47) hI (mokX (by decide) (by decide)) rfl rfl) rfl hl.1 (Nat.le_of_ble_eq_true rfl) dX12_oneHour_194 ⟨Nat.le_of_ble_eq_true rfl, Nat.le_of_ble_eq_true rfl⟩ (fun H locs hI => ?_)
              obtain ⟨x41, ex41, hf⟩ := mlet_e hf
              refine lv_iinc (v := x41) (lv' := [(1, .int x41), (0, .ref (w.1 12 47)), (2, .int x16), (4, .int x26)]) hx hb dX12_oneHour_197 hl (k := 1) rfl (by rw [ex41]; rfl) (by decide) rfl (fun ls hl => ?_)
              exact hj200_44 x41 M40 H _ _ hf hI (lv_sub hl [1, 0, 2] rfl)
            · have hf := (if_pos c36).symm.trans hf
              refine lv_goto (tgt := 200) hx hb dX12_oneHour_163 (by decide) ?_
              exact hj200_44 x15 M35 H _ _ hf hI (lv_sub hl [0, 1, 2] rfl)
          obtain ⟨k150_32, ek150_32, hf⟩ := mlet_e hf
          have hj150_32 : ∀ (_u : Unit) (H : Heap) (locs : List Loc) (ls : Array Slot), k150_32 _u = some (r, M9) → mI w s (mA w s.heap.size) H locs M17 → lv_has ls 5 [(0, .ref (w.1 12 47)), (1, .int x15), (2, .int x16), (4, .int x26)] → W p l e rmX12_oneHour s m args below meth c H locs 0 0 (MQ below (mQ w s.heap.size (some (.int r)) M9) args s 0 0 (mA w s.heap.size)) (F0 m 150 ls [.int ((31 : Int32) + x16), .ref (w.1 12 48)]) := by
            intro _u H locs ls hf hI hl
            rw [ek150_32] at hf
            try dsimp only at hf
            refine lv_iconst (v := 0) hx hb dX12_oneHour_150 (by decide) ?_
            refine lv_goto (tgt := 157) hx hb dX12_oneHour_151 (by decide) ?_
            exact hj157_34 (0 : Int32) H _ _ hf hI (lv_sub hl [0, 1, 2, 3] rfl)
          refine lv_if_ne (tgt := 150) hx hb dX12_oneHour_138 (by decide) (fun c29 => ?_) (fun c29 => ?_)
          · have hf := (if_neg c29).symm.trans hf
            exact hj150_32 () H _ _ hf hI (lv_sub hl [1, 2, 3, 0] rfl)
          · have hf := (if_pos c29).symm.trans hf
            refine lv_iload hx hb dX12_oneHour_141 (lv_at hl 0 rfl) ?_
            refine lv_if_ne (tgt := 150) hx hb dX12_oneHour_143 (by decide) (fun c30 => ?_) (fun c30 => ?_)
            · have hf := (if_neg c30).symm.trans hf
              exact hj150_32 () H _ _ hf hI (lv_sub hl [1, 2, 3, 0] rfl)
            · have hf := (if_pos c30).symm.trans hf
              refine lv_iload_n hx hb dX12_oneHour_146 rfl (lv_at hl 4 rfl) ?_
              refine lv_if_ne (tgt := 154) hx hb dX12_oneHour_147 (by decide) (fun c31 => ?_) (fun c31 => ?_)
              · have hf := (if_neg c31).symm.trans hf
                refine lv_iload_n hx hb dX12_oneHour_154 rfl (lv_at hl 4 rfl) ?_
                refine lv_iconst (v := 1) hx hb dX12_oneHour_155 (by decide) ?_
                refine lv_isub hx hb dX12_oneHour_156 ?_
                exact hj157_34 (x19 - (1 : Int32)) H _ _ hf hI (lv_sub hl [1, 2, 3, 0] rfl)
              · have hf := (if_pos c31).symm.trans hf
                exact hj150_32 () H _ _ hf hI (lv_sub hl [1, 2, 3, 0] rfl)
        obtain ⟨k122_25, ek122_25, hf⟩ := mlet_e hf
        have hj122_25 : ∀ (_u : Unit) (H : Heap) (locs : List Loc) (ls : Array Slot), k122_25 _u = some (r, M9) → mI w s (mA w s.heap.size) H locs M17 → lv_has ls 5 [(0, .ref (w.1 12 47)), (1, .int x15), (2, .int x16), (3, .int x19)] → W p l e rmX12_oneHour s m args below meth c H locs 0 0 (MQ below (mQ w s.heap.size (some (.int r)) M9) args s 0 0 (mA w s.heap.size)) (F0 m 122 ls []) := by
          intro _u H locs ls hf hI hl
          rw [ek122_25] at hf
          try dsimp only at hf
          refine lv_iconst (v := 0) hx hb dX12_oneHour_122 (by decide) ?_
          exact hj123_27 (0 : Int32) H _ _ hf hI (lv_sub hl [0, 1, 2, 3] rfl)
        refine lv_if_ne (tgt := 122) hx hb dX12_oneHour_102 (by decide) (fun c21 => ?_) (fun c21 => ?_)
        · have hf := (if_neg c21).symm.trans hf
          exact hj122_25 () H _ _ hf hI (lv_sub hl [1, 2, 3, 0] rfl)
        · have hf := (if_pos c21).symm.trans hf
          refine lv_iload_n hx hb dX12_oneHour_105 rfl (lv_at hl 0 rfl) ?_
          refine lv_iconst (v := 5) hx hb dX12_oneHour_106 (by decide) ?_
          refine lv_icmp_lt (tgt := 122) hx hb dX12_oneHour_107 (by decide) (fun c22 => ?_) (fun c22 => ?_)
          · have hf := (if_pos c22).symm.trans hf
            exact hj122_25 () H _ _ hf hI (lv_sub hl [1, 2, 3, 0] rfl)
          · have hf := (if_neg c22).symm.trans hf
            refine lv_aload_n hx hb dX12_oneHour_110 rfl (lv_at hl 1 rfl) ?_
            refine lv_iload_n hx hb dX12_oneHour_111 rfl (lv_at hl 3 rfl) ?_
            obtain ⟨r23, hc, hf⟩ := mbp_e hf
            refine m_callV (As := [.int x16]) (rest := []) hx hb hml hown hI (c_X12_isNear l w H.size x16 M17 _ hc) (kb_X12_isNear hI.T (q1669 hI.T) (Nat.le_of_ble_eq_true rfl) (Nat.le_of_ble_eq_true rfl)) (q1671 hI.T) (sel_X12_isNear hI.T) (m_recv (g := 12) (i := 47) hI (mokX (by decide) (by decide)) rfl rfl) rfl hl.1 (Nat.le_of_ble_eq_true rfl) dX12_oneHour_112 ⟨Nat.le_of_ble_eq_true rfl, Nat.le_of_ble_eq_true rfl⟩ (fun H locs hI => ?_)
            refine lv_if_ne (tgt := 122) hx hb dX12_oneHour_115 (by decide) (fun c24 => ?_) (fun c24 => ?_)
            · have hf := (if_neg c24).symm.trans hf
              exact hj122_25 () H _ _ hf hI (lv_sub hl [1, 2, 3, 0] rfl)
            · have hf := (if_pos c24).symm.trans hf
              refine lv_iconst (v := 1) hx hb dX12_oneHour_118 (by decide) ?_
              refine lv_goto (tgt := 123) hx hb dX12_oneHour_119 (by decide) ?_
              exact hj123_27 (1 : Int32) H _ _ hf hI (lv_sub hl [1, 2, 3, 0] rfl)
  refine hL81 1000 (0 : Int32) (0 : Int32) M14 _ _ _ _ hf hI (lv_sub hl [2, 1, 0] rfl) ?_
  intro x46 M47 H locs ls hf hI hl
  try dsimp only at hf
  refine lv_aload_n hx hb dX12_oneHour_206 rfl (lv_at hl 0 rfl) ?_
  refine m_get (g := 12) (i := 47) (ci := 10) (k := 1) (v := .ref (w.1 12 48)) hx hb hI hown (mokX (by decide) (by decide)) rfl rfl (by decide) lyX12 (q1427 hI.T) rfl dX12_oneHour_207 ?_
  refine lv_bipush (v := 7) hx hb dX12_oneHour_210 (by decide) ?_
  refine lv_dup2_11 hx hb dX12_oneHour_212 rfl rfl ?_
  obtain ⟨hi, hf⟩ := mix_e hf
  refine m_iald (g := 12) (i := 48) hx hb hI (mokX (by decide) (by decide)) rfl hi dX12_oneHour_213 ?_
  refine lv_aload_n hx hb dX12_oneHour_214 rfl (lv_at hl 0 rfl) ?_
  refine m_get (g := 12) (i := 47) (ci := 10) (k := 1) (v := .ref (w.1 12 48)) hx hb hI hown (mokX (by decide) (by decide)) rfl rfl (by decide) lyX12 (q1427 hI.T) rfl dX12_oneHour_215 ?_
  refine lv_bipush (v := 7) hx hb dX12_oneHour_218 (by decide) ?_
  obtain ⟨hi, hf⟩ := mix_e hf
  refine m_iald (g := 12) (i := 48) hx hb hI (mokX (by decide) (by decide)) rfl hi dX12_oneHour_220 ?_
  obtain ⟨k229_50, ek229_50, hf⟩ := mlet_e hf
  have hj229_50 : ∀ (x49 : Int32) (H : Heap) (locs : List Loc) (ls : Array Slot), k229_50 x49 = some (r, M9) → mI w s (mA w s.heap.size) H locs M47 → lv_has ls 5 [(1, .int x46)] → W p l e rmX12_oneHour s m args below meth c H locs 0 0 (MQ below (mQ w s.heap.size (some (.int r)) M9) args s 0 0 (mA w s.heap.size)) (F0 m 229 ls [.int x49, .int (M47 12 48 (7 : Int32).toNatClampNeg), .int (7 : Int32), .ref (w.1 12 48)]) := by
    intro x49 H locs ls hf hI hl
    rw [ek229_50] at hf
    try dsimp only at hf
    refine lv_isub hx hb dX12_oneHour_229 ?_
    obtain ⟨hi, hf⟩ := mix_e hf
    obtain ⟨M51, eM51, hf⟩ := mlet_e hf
    refine m_iast (g := 12) (i := 48) (M1 := M51) hx hb hI (mokX (by decide) (by decide)) rfl hi eM51 dX12_oneHour_230 (fun H locs hI => ?_)
    refine lv_iload_n hx hb dX12_oneHour_231 rfl (lv_at hl 0 rfl) ?_
    exact m_iretf hx hb hr hlk hI hf dX12_oneHour_232
  refine lv_if_le (tgt := 228) hx hb dX12_oneHour_221 (by decide) (fun c48 => ?_) (fun c48 => ?_)
  · have hf := (if_pos c48).symm.trans hf
    refine lv_iconst (v := 0) hx hb dX12_oneHour_228 (by decide) ?_
    exact hj229_50 (0 : Int32) H _ _ hf hI (lv_sub hl [1] rfl)
  · have hf := (if_neg c48).symm.trans hf
    refine lv_iconst (v := 1) hx hb dX12_oneHour_224 (by decide) ?_
    refine lv_goto (tgt := 229) hx hb dX12_oneHour_225 (by decide) ?_
    exact hj229_50 (1 : Int32) H _ _ hf hI (lv_sub hl [1] rfl)
abbrev rmX12_thinks : Room := { frames := 0, cells := 0, slots := 0, locals := 0 }
theorem kb_X12_thinks {R : Room} {s : State} {args : Array Value} {own : String} {idx : Nat} (hT : mT s) (hlink : (Cond.methodLink own idx yX12_thinks).before args s = true) (h1 : rmX12_thinks.frames + 1 ≤ R.frames) (h2 : 8 + (2 + 11) + rmX12_thinks.locals ≤ R.locals) : CallB R s args own idx yX12_thinks cX12_thinks 2 (none) [Cond.code yX12_thinks cX12_thinks 2 (none)] rmX12_thinks 0 0 0 := m_callB hT kc_X12_thinks ki_X12_thinks hlink (by decide +kernel) ⟨rfl, rfl, h1, h2⟩
set_option maxHeartbeats 4000000 in
set_option maxRecDepth 100000 in
theorem c_X12_thinks (l : Launch) (w : WD) (sz : Nat)  (M : Mem) (r : Unit) (M9 : Mem) (hf : f_X12_thinks  M = some (r, M9)) : mMet l yX12_thinks cX12_thinks 2 (none) rmX12_thinks w sz M [.ref (w.1 12 47)] none M9 := by
  refine m_of (by decide) (Nat.le_of_ble_eq_true rfl) ?_
  intro p e s m args below meth c hx hb hr hml hown hlk hI ls hl
  have hl : lv_has ls 2 [(0, .ref (w.1 12 47))] := hl
  unfold f_X12_thinks at hf
  refine lv_iconst (v := 0) hx hb dX12_thinks_0 (by decide) ?_
  refine lv_istore_n (lv' := [(1, .int (0 : Int32)), (0, .ref (w.1 12 47))]) hx hb dX12_thinks_1 rfl hl (by decide) rfl (fun ls hl => ?_)
  have hL2 : ∀ (n : Nat) (x1 : Int32) (M2 : Mem) (kk : Mem → Option (Unit × Mem)) (H : Heap) (locs : List Loc) (ls : Array Slot), f_X12_thinks_L2 n x1 M2 kk = some (r, M9) → mI w s (mA w s.heap.size) H locs M2 → lv_has ls 2 [(0, .ref (w.1 12 47)), (1, .int x1)] → (∀  (M2 : Mem) (H : Heap) (locs : List Loc) (ls : Array Slot), kk M2 = some (r, M9) → mI w s (mA w s.heap.size) H locs M2 → lv_has ls 2 [] → W p l e rmX12_thinks s m args below meth c H locs 0 0 (MQ below (mQ w s.heap.size none M9) args s 0 0 (mA w s.heap.size)) (F0 m 26 ls [])) → W p l e rmX12_thinks s m args below meth c H locs 0 0 (MQ below (mQ w s.heap.size none M9) args s 0 0 (mA w s.heap.size)) (F0 m 2 ls []) := by
    intro n
    induction n with
    | zero => intro x1 M2 kk H locs ls hf hI hl hk; rw [f_X12_thinks_L2.eq_1] at hf; cases hf
    | succ n ih2 =>
      intro x1 M2 kk H locs ls hf hI hl hk
      rw [f_X12_thinks_L2.eq_2] at hf
      refine lv_iload_n hx hb dX12_thinks_2 rfl (lv_at hl 1 rfl) ?_
      refine lv_bipush (v := 92) hx hb dX12_thinks_3 (by decide) ?_
      refine lv_icmp_ge (tgt := 26) hx hb dX12_thinks_5 (by decide) (fun c3 => ?_) (fun c3 => ?_)
      · have hf := (if_pos c3).symm.trans hf
        exact hk M2 H _ _ hf hI (lv_sub hl [] rfl)
      · have hf := (if_neg c3).symm.trans hf
        refine lv_aload_n hx hb dX12_thinks_8 rfl (lv_at hl 0 rfl) ?_
        refine m_get (g := 12) (i := 47) (ci := 10) (k := 5) (v := .ref (w.1 12 52)) hx hb hI hown (mokX (by decide) (by decide)) rfl rfl (by decide) lyX12 (q1431 hI.T) rfl dX12_thinks_9 ?_
        refine lv_iload_n hx hb dX12_thinks_12 rfl (lv_at hl 1 rfl) ?_
        refine lv_aload_n hx hb dX12_thinks_13 rfl (lv_at hl 0 rfl) ?_
        refine m_get (g := 12) (i := 47) (ci := 10) (k := 1) (v := .ref (w.1 12 48)) hx hb hI hown (mokX (by decide) (by decide)) rfl rfl (by decide) lyX12 (q1427 hI.T) rfl dX12_thinks_14 ?_
        refine lv_iload_n hx hb dX12_thinks_17 rfl (lv_at hl 1 rfl) ?_
        obtain ⟨hi, hf⟩ := mix_e hf
        refine m_iald (g := 12) (i := 48) hx hb hI (mokX (by decide) (by decide)) rfl hi dX12_thinks_18 ?_
        obtain ⟨hi, hf⟩ := mix_e hf
        obtain ⟨M4, eM4, hf⟩ := mlet_e hf
        refine m_iast (g := 12) (i := 52) (M1 := M4) hx hb hI (mokX (by decide) (by decide)) rfl hi eM4 dX12_thinks_19 (fun H locs hI => ?_)
        obtain ⟨x5, ex5, hf⟩ := mlet_e hf
        refine lv_iinc (v := x5) (lv' := [(1, .int x5), (0, .ref (w.1 12 47))]) hx hb dX12_thinks_20 hl (k := 1) rfl (by rw [ex5]; rfl) (by decide) rfl (fun ls hl => ?_)
        refine lv_goto (tgt := 2) hx hb dX12_thinks_23 (by decide) ?_
        exact ih2 x5 M4 kk H _ _ hf hI (lv_sub hl [1, 0] rfl) hk
  refine hL2 1000 (0 : Int32) M _ _ _ _ hf hI (lv_sub hl [1, 0] rfl) ?_
  intro M6 H locs ls hf hI hl
  try dsimp only at hf
  exact m_vretf hx hb hr hlk hI hf dX12_thinks_26
abbrev rmX12_back : Room := { frames := 0, cells := 0, slots := 0, locals := 0 }
theorem kb_X12_back {R : Room} {s : State} {args : Array Value} {own : String} {idx : Nat} (hT : mT s) (hlink : (Cond.methodLink own idx yX12_back).before args s = true) (h1 : rmX12_back.frames + 1 ≤ R.frames) (h2 : 8 + (2 + 11) + rmX12_back.locals ≤ R.locals) : CallB R s args own idx yX12_back cX12_back 2 (none) [Cond.code yX12_back cX12_back 2 (none)] rmX12_back 0 0 0 := m_callB hT kc_X12_back ki_X12_back hlink (by decide +kernel) ⟨rfl, rfl, h1, h2⟩
set_option maxHeartbeats 4000000 in
set_option maxRecDepth 100000 in
theorem c_X12_back (l : Launch) (w : WD) (sz : Nat)  (M : Mem) (r : Unit) (M9 : Mem) (hf : f_X12_back  M = some (r, M9)) : mMet l yX12_back cX12_back 2 (none) rmX12_back w sz M [.ref (w.1 12 47)] none M9 := by
  refine m_of (by decide) (Nat.le_of_ble_eq_true rfl) ?_
  intro p e s m args below meth c hx hb hr hml hown hlk hI ls hl
  have hl : lv_has ls 2 [(0, .ref (w.1 12 47))] := hl
  unfold f_X12_back at hf
  refine lv_iconst (v := 0) hx hb dX12_back_0 (by decide) ?_
  refine lv_istore_n (lv' := [(1, .int (0 : Int32)), (0, .ref (w.1 12 47))]) hx hb dX12_back_1 rfl hl (by decide) rfl (fun ls hl => ?_)
  have hL2 : ∀ (n : Nat) (x1 : Int32) (M2 : Mem) (kk : Mem → Option (Unit × Mem)) (H : Heap) (locs : List Loc) (ls : Array Slot), f_X12_back_L2 n x1 M2 kk = some (r, M9) → mI w s (mA w s.heap.size) H locs M2 → lv_has ls 2 [(0, .ref (w.1 12 47)), (1, .int x1)] → (∀  (M2 : Mem) (H : Heap) (locs : List Loc) (ls : Array Slot), kk M2 = some (r, M9) → mI w s (mA w s.heap.size) H locs M2 → lv_has ls 2 [] → W p l e rmX12_back s m args below meth c H locs 0 0 (MQ below (mQ w s.heap.size none M9) args s 0 0 (mA w s.heap.size)) (F0 m 26 ls [])) → W p l e rmX12_back s m args below meth c H locs 0 0 (MQ below (mQ w s.heap.size none M9) args s 0 0 (mA w s.heap.size)) (F0 m 2 ls []) := by
    intro n
    induction n with
    | zero => intro x1 M2 kk H locs ls hf hI hl hk; rw [f_X12_back_L2.eq_1] at hf; cases hf
    | succ n ih2 =>
      intro x1 M2 kk H locs ls hf hI hl hk
      rw [f_X12_back_L2.eq_2] at hf
      refine lv_iload_n hx hb dX12_back_2 rfl (lv_at hl 1 rfl) ?_
      refine lv_bipush (v := 92) hx hb dX12_back_3 (by decide) ?_
      refine lv_icmp_ge (tgt := 26) hx hb dX12_back_5 (by decide) (fun c3 => ?_) (fun c3 => ?_)
      · have hf := (if_pos c3).symm.trans hf
        exact hk M2 H _ _ hf hI (lv_sub hl [] rfl)
      · have hf := (if_neg c3).symm.trans hf
        refine lv_aload_n hx hb dX12_back_8 rfl (lv_at hl 0 rfl) ?_
        refine m_get (g := 12) (i := 47) (ci := 10) (k := 1) (v := .ref (w.1 12 48)) hx hb hI hown (mokX (by decide) (by decide)) rfl rfl (by decide) lyX12 (q1427 hI.T) rfl dX12_back_9 ?_
        refine lv_iload_n hx hb dX12_back_12 rfl (lv_at hl 1 rfl) ?_
        refine lv_aload_n hx hb dX12_back_13 rfl (lv_at hl 0 rfl) ?_
        refine m_get (g := 12) (i := 47) (ci := 10) (k := 5) (v := .ref (w.1 12 52)) hx hb hI hown (mokX (by decide) (by decide)) rfl rfl (by decide) lyX12 (q1431 hI.T) rfl dX12_back_14 ?_
        refine lv_iload_n hx hb dX12_back_17 rfl (lv_at hl 1 rfl) ?_
        obtain ⟨hi, hf⟩ := mix_e hf
        refine m_iald (g := 12) (i := 52) hx hb hI (mokX (by decide) (by decide)) rfl hi dX12_back_18 ?_
        obtain ⟨hi, hf⟩ := mix_e hf
        obtain ⟨M4, eM4, hf⟩ := mlet_e hf
        refine m_iast (g := 12) (i := 48) (M1 := M4) hx hb hI (mokX (by decide) (by decide)) rfl hi eM4 dX12_back_19 (fun H locs hI => ?_)
        obtain ⟨x5, ex5, hf⟩ := mlet_e hf
        refine lv_iinc (v := x5) (lv' := [(1, .int x5), (0, .ref (w.1 12 47))]) hx hb dX12_back_20 hl (k := 1) rfl (by rw [ex5]; rfl) (by decide) rfl (fun ls hl => ?_)
        refine lv_goto (tgt := 2) hx hb dX12_back_23 (by decide) ?_
        exact ih2 x5 M4 kk H _ _ hf hI (lv_sub hl [1, 0] rfl) hk
  refine hL2 1000 (0 : Int32) M _ _ _ _ hf hI (lv_sub hl [1, 0] rfl) ?_
  intro M6 H locs ls hf hI hl
  try dsimp only at hf
  exact m_vretf hx hb hr hlk hI hf dX12_back_26
abbrev rmX12_adds : Room := { frames := 1, cells := 0, slots := 0, locals := 22 }
theorem kb_X12_adds {R : Room} {s : State} {args : Array Value} {own : String} {idx : Nat} (hT : mT s) (hlink : (Cond.methodLink own idx yX12_adds).before args s = true) (h1 : rmX12_adds.frames + 1 ≤ R.frames) (h2 : 8 + (2 + 11) + rmX12_adds.locals ≤ R.locals) : CallB R s args own idx yX12_adds cX12_adds 2 (some .int) [Cond.code yX12_adds cX12_adds 2 (some .int)] rmX12_adds 0 0 0 := m_callB hT kc_X12_adds ki_X12_adds hlink (by decide +kernel) ⟨rfl, rfl, h1, h2⟩
set_option maxHeartbeats 4000000 in
set_option maxRecDepth 100000 in
theorem c_X12_adds (l : Launch) (w : WD) (sz : Nat)  (M : Mem) (r : Int32) (M9 : Mem) (hf : f_X12_adds  M = some (r, M9)) : mMet l yX12_adds cX12_adds 2 (some .int) rmX12_adds w sz M [.ref (w.1 12 47)] (some (.int r)) M9 := by
  refine m_of (by decide) (Nat.le_of_ble_eq_true rfl) ?_
  intro p e s m args below meth c hx hb hr hml hown hlk hI ls hl
  have hl : lv_has ls 2 [(0, .ref (w.1 12 47))] := hl
  unfold f_X12_adds at hf
  refine lv_aload_n hx hb dX12_adds_0 rfl (lv_at hl 0 rfl) ?_
  refine m_get (g := 12) (i := 47) (ci := 10) (k := 1) (v := .ref (w.1 12 48)) hx hb hI hown (mokX (by decide) (by decide)) rfl rfl (by decide) lyX12 (q1427 hI.T) rfl dX12_adds_1 ?_
  refine lv_iconst (v := 0) hx hb dX12_adds_4 (by decide) ?_
  obtain ⟨hi, hf⟩ := mix_e hf
  refine m_iald (g := 12) (i := 48) hx hb hI (mokX (by decide) (by decide)) rfl hi dX12_adds_5 ?_
  refine lv_topi (fun x1 ex1 => ?_)
  have hf := mlet_s ex1 hf
  refine lv_istore_n (lv' := [(1, .int x1), (0, .ref (w.1 12 47))]) hx hb dX12_adds_6 rfl hl (by decide) rfl (fun ls hl => ?_)
  refine lv_iload_n hx hb dX12_adds_7 rfl (lv_at hl 0 rfl) ?_
  refine lv_bipush (v := 8) hx hb dX12_adds_8 (by decide) ?_
  refine lv_icmp_ne (tgt := 21) hx hb dX12_adds_10 (by decide) (fun c2 => ?_) (fun c2 => ?_)
  · have hf := (if_neg c2).symm.trans hf
    refine lv_aload_n hx hb dX12_adds_21 rfl (lv_at hl 1 rfl) ?_
    refine m_get (g := 12) (i := 47) (ci := 10) (k := 1) (v := .ref (w.1 12 48)) hx hb hI hown (mokX (by decide) (by decide)) rfl rfl (by decide) lyX12 (q1427 hI.T) rfl dX12_adds_22 ?_
    refine lv_bipush (v := 15) hx hb dX12_adds_25 (by decide) ?_
    refine lv_iload_n hx hb dX12_adds_27 rfl (lv_at hl 0 rfl) ?_
    refine lv_iadd hx hb dX12_adds_28 ?_
    refine lv_aload_n hx hb dX12_adds_29 rfl (lv_at hl 1 rfl) ?_
    refine lv_iload_n hx hb dX12_adds_30 rfl (lv_at hl 0 rfl) ?_
    obtain ⟨r3, hc, hf⟩ := mbp_e hf
    refine m_callV (As := [.int x1]) (rest := [.int ((15 : Int32) + x1), .ref (w.1 12 48)]) hx hb hml hown hI (c_X12_curve l w s.heap.size x1 M _ hc) (kb_X12_curve hI.T (q1516 hI.T) (Nat.le_of_ble_eq_true rfl) (Nat.le_of_ble_eq_true rfl)) (q1518 hI.T) (sel_X12_curve hI.T) (m_recv (g := 12) (i := 47) hI (mokX (by decide) (by decide)) rfl rfl) rfl hl.1 (Nat.le_of_ble_eq_true rfl) dX12_adds_31 ⟨Nat.le_of_ble_eq_true rfl, Nat.le_of_ble_eq_true rfl⟩ (fun H locs hI => ?_)
    obtain ⟨hi, hf⟩ := mix_e hf
    obtain ⟨M4, eM4, hf⟩ := mlet_e hf
    refine m_iast (g := 12) (i := 48) (M1 := M4) hx hb hI (mokX (by decide) (by decide)) rfl hi eM4 dX12_adds_34 (fun H locs hI => ?_)
    refine lv_aload_n hx hb dX12_adds_35 rfl (lv_at hl 1 rfl) ?_
    refine m_get (g := 12) (i := 47) (ci := 10) (k := 1) (v := .ref (w.1 12 48)) hx hb hI hown (mokX (by decide) (by decide)) rfl rfl (by decide) lyX12 (q1427 hI.T) rfl dX12_adds_36 ?_
    refine lv_iconst (v := 0) hx hb dX12_adds_39 (by decide) ?_
    refine lv_iload_n hx hb dX12_adds_40 rfl (lv_at hl 0 rfl) ?_
    refine lv_iconst (v := 1) hx hb dX12_adds_41 (by decide) ?_
    refine lv_iadd hx hb dX12_adds_42 ?_
    obtain ⟨hi, hf⟩ := mix_e hf
    obtain ⟨M5, eM5, hf⟩ := mlet_e hf
    refine m_iast (g := 12) (i := 48) (M1 := M5) hx hb hI (mokX (by decide) (by decide)) rfl hi eM5 dX12_adds_43 (fun H locs hI => ?_)
    refine lv_aload_n hx hb dX12_adds_44 rfl (lv_at hl 1 rfl) ?_
    refine lv_iload_n hx hb dX12_adds_45 rfl (lv_at hl 0 rfl) ?_
    obtain ⟨r6, M7, hc, hf⟩ := mbnd_e hf
    refine m_callV (As := [.int x1]) (rest := []) hx hb hml hown hI (c_X12_done l w H.size x1 M5 _ _ hc) (kb_X12_done hI.T (q1520 hI.T) (Nat.le_of_ble_eq_true rfl) (Nat.le_of_ble_eq_true rfl)) (q1522 hI.T) (sel_X12_done hI.T) (m_recv (g := 12) (i := 47) hI (mokX (by decide) (by decide)) rfl rfl) rfl hl.1 (Nat.le_of_ble_eq_true rfl) dX12_adds_46 ⟨Nat.le_of_ble_eq_true rfl, Nat.le_of_ble_eq_true rfl⟩ (fun H locs hI => ?_)
    exact m_iretf hx hb hr hlk hI hf dX12_adds_49
  · have hf := (if_pos c2).symm.trans hf
    refine lv_aload_n hx hb dX12_adds_13 rfl (lv_at hl 1 rfl) ?_
    refine lv_iconst (v := 1) hx hb dX12_adds_14 (by decide) ?_
    refine lv_bipush (v := 8) hx hb dX12_adds_15 (by decide) ?_
    obtain ⟨r8, M10, hc, hf⟩ := mbnd_e hf
    refine m_callV (As := [.int (1 : Int32), .int (8 : Int32)]) (rest := []) hx hb hml hown hI (c_X12_refused l w s.heap.size (1 : Int32) (8 : Int32) M _ _ hc) (kb_X12_refused hI.T (q1512 hI.T) (Nat.le_of_ble_eq_true rfl) (Nat.le_of_ble_eq_true rfl)) (q1514 hI.T) (sel_X12_refused hI.T) (m_recv (g := 12) (i := 47) hI (mokX (by decide) (by decide)) rfl rfl) rfl hl.1 (Nat.le_of_ble_eq_true rfl) dX12_adds_17 ⟨Nat.le_of_ble_eq_true rfl, Nat.le_of_ble_eq_true rfl⟩ (fun H locs hI => ?_)
    exact m_iretf hx hb hr hlk hI hf dX12_adds_20
abbrev rmX12_clears : Room := { frames := 0, cells := 0, slots := 0, locals := 0 }
theorem kb_X12_clears {R : Room} {s : State} {args : Array Value} {own : String} {idx : Nat} (hT : mT s) (hlink : (Cond.methodLink own idx yX12_clears).before args s = true) (h1 : rmX12_clears.frames + 1 ≤ R.frames) (h2 : 8 + (2 + 11) + rmX12_clears.locals ≤ R.locals) : CallB R s args own idx yX12_clears cX12_clears 2 (none) [Cond.code yX12_clears cX12_clears 2 (none)] rmX12_clears 0 0 0 := m_callB hT kc_X12_clears ki_X12_clears hlink (by decide +kernel) ⟨rfl, rfl, h1, h2⟩
set_option maxHeartbeats 4000000 in
set_option maxRecDepth 100000 in
theorem c_X12_clears (l : Launch) (w : WD) (sz : Nat)  (M : Mem) (r : Unit) (M9 : Mem) (hf : f_X12_clears  M = some (r, M9)) : mMet l yX12_clears cX12_clears 2 (none) rmX12_clears w sz M [.ref (w.1 12 47)] none M9 := by
  refine m_of (by decide) (Nat.le_of_ble_eq_true rfl) ?_
  intro p e s m args below meth c hx hb hr hml hown hlk hI ls hl
  have hl : lv_has ls 2 [(0, .ref (w.1 12 47))] := hl
  unfold f_X12_clears at hf
  refine lv_iconst (v := 0) hx hb dX12_clears_0 (by decide) ?_
  refine lv_istore_n (lv' := [(1, .int (0 : Int32)), (0, .ref (w.1 12 47))]) hx hb dX12_clears_1 rfl hl (by decide) rfl (fun ls hl => ?_)
  have hL2 : ∀ (n : Nat) (x1 : Int32) (M2 : Mem) (kk : Mem → Option (Unit × Mem)) (H : Heap) (locs : List Loc) (ls : Array Slot), f_X12_clears_L2 n x1 M2 kk = some (r, M9) → mI w s (mA w s.heap.size) H locs M2 → lv_has ls 2 [(0, .ref (w.1 12 47)), (1, .int x1)] → (∀  (M2 : Mem) (H : Heap) (locs : List Loc) (ls : Array Slot), kk M2 = some (r, M9) → mI w s (mA w s.heap.size) H locs M2 → lv_has ls 2 [(0, .ref (w.1 12 47))] → W p l e rmX12_clears s m args below meth c H locs 0 0 (MQ below (mQ w s.heap.size none M9) args s 0 0 (mA w s.heap.size)) (F0 m 24 ls [])) → W p l e rmX12_clears s m args below meth c H locs 0 0 (MQ below (mQ w s.heap.size none M9) args s 0 0 (mA w s.heap.size)) (F0 m 2 ls []) := by
    intro n
    induction n with
    | zero => intro x1 M2 kk H locs ls hf hI hl hk; rw [f_X12_clears_L2.eq_1] at hf; cases hf
    | succ n ih2 =>
      intro x1 M2 kk H locs ls hf hI hl hk
      rw [f_X12_clears_L2.eq_2] at hf
      refine lv_iload_n hx hb dX12_clears_2 rfl (lv_at hl 1 rfl) ?_
      refine lv_bipush (v := 8) hx hb dX12_clears_3 (by decide) ?_
      refine lv_icmp_ge (tgt := 24) hx hb dX12_clears_5 (by decide) (fun c3 => ?_) (fun c3 => ?_)
      · have hf := (if_pos c3).symm.trans hf
        exact hk M2 H _ _ hf hI (lv_sub hl [0] rfl)
      · have hf := (if_neg c3).symm.trans hf
        refine lv_aload_n hx hb dX12_clears_8 rfl (lv_at hl 0 rfl) ?_
        refine m_get (g := 12) (i := 47) (ci := 10) (k := 1) (v := .ref (w.1 12 48)) hx hb hI hown (mokX (by decide) (by decide)) rfl rfl (by decide) lyX12 (q1427 hI.T) rfl dX12_clears_9 ?_
        refine lv_bipush (v := 23) hx hb dX12_clears_12 (by decide) ?_
        refine lv_iload_n hx hb dX12_clears_14 rfl (lv_at hl 1 rfl) ?_
        refine lv_iadd hx hb dX12_clears_15 ?_
        refine lv_iconst (v := 0) hx hb dX12_clears_16 (by decide) ?_
        obtain ⟨hi, hf⟩ := mix_e hf
        obtain ⟨M4, eM4, hf⟩ := mlet_e hf
        refine m_iast (g := 12) (i := 48) (M1 := M4) hx hb hI (mokX (by decide) (by decide)) rfl hi eM4 dX12_clears_17 (fun H locs hI => ?_)
        obtain ⟨x5, ex5, hf⟩ := mlet_e hf
        refine lv_iinc (v := x5) (lv' := [(1, .int x5), (0, .ref (w.1 12 47))]) hx hb dX12_clears_18 hl (k := 1) rfl (by rw [ex5]; rfl) (by decide) rfl (fun ls hl => ?_)
        refine lv_goto (tgt := 2) hx hb dX12_clears_21 (by decide) ?_
        exact ih2 x5 M4 kk H _ _ hf hI (lv_sub hl [1, 0] rfl) hk
  refine hL2 1000 (0 : Int32) M _ _ _ _ hf hI (lv_sub hl [1, 0] rfl) ?_
  intro M6 H locs ls hf hI hl
  try dsimp only at hf
  refine lv_aload_n hx hb dX12_clears_24 rfl (lv_at hl 0 rfl) ?_
  refine m_get (g := 12) (i := 47) (ci := 10) (k := 1) (v := .ref (w.1 12 48)) hx hb hI hown (mokX (by decide) (by decide)) rfl rfl (by decide) lyX12 (q1427 hI.T) rfl dX12_clears_25 ?_
  refine lv_bipush (v := 9) hx hb dX12_clears_28 (by decide) ?_
  refine lv_iconst (v := 0) hx hb dX12_clears_30 (by decide) ?_
  obtain ⟨hi, hf⟩ := mix_e hf
  obtain ⟨M7, eM7, hf⟩ := mlet_e hf
  refine m_iast (g := 12) (i := 48) (M1 := M7) hx hb hI (mokX (by decide) (by decide)) rfl hi eM7 dX12_clears_31 (fun H locs hI => ?_)
  exact m_vretf hx hb hr hlk hI hf dX12_clears_32
abbrev rmX12_seals : Room := { frames := 1, cells := 0, slots := 0, locals := 22 }
theorem kb_X12_seals {R : Room} {s : State} {args : Array Value} {own : String} {idx : Nat} (hT : mT s) (hlink : (Cond.methodLink own idx yX12_seals).before args s = true) (h1 : rmX12_seals.frames + 1 ≤ R.frames) (h2 : 8 + (6 + 11) + rmX12_seals.locals ≤ R.locals) : CallB R s args own idx yX12_seals cX12_seals 6 (some .int) [Cond.code yX12_seals cX12_seals 6 (some .int)] rmX12_seals 0 0 4 := m_callB hT kc_X12_seals ki_X12_seals hlink (by decide +kernel) ⟨rfl, rfl, h1, h2⟩
set_option maxHeartbeats 4000000 in
set_option maxRecDepth 100000 in
theorem c_X12_seals (l : Launch) (w : WD) (sz : Nat) (a1 : Int32) (a2 : Int32) (a3 : Int32) (a4 : Int32) (M : Mem) (r : Int32) (M9 : Mem) (hf : f_X12_seals a1 a2 a3 a4 M = some (r, M9)) : mMet l yX12_seals cX12_seals 6 (some .int) rmX12_seals w sz M [.ref (w.1 12 47), .int a1, .int a2, .int a3, .int a4] (some (.int r)) M9 := by
  refine m_of (by decide) (Nat.le_of_ble_eq_true rfl) ?_
  intro p e s m args below meth c hx hb hr hml hown hlk hI ls hl
  have hl : lv_has ls 6 [(0, .ref (w.1 12 47)), (1, .int a1), (2, .int a2), (3, .int a3), (4, .int a4)] := hl
  unfold f_X12_seals at hf
  refine lv_iload_n hx hb dX12_seals_0 rfl (lv_at hl 1 rfl) ?_
  refine lv_iconst (v := 0) hx hb dX12_seals_1 (by decide) ?_
  refine lv_bipush (v := 96) hx hb dX12_seals_2 (by decide) ?_
  obtain ⟨r1, hc, hf⟩ := mbp_e hf
  refine m_callS (As := [.int a1, .int (0 : Int32), .int (96 : Int32)]) (rest := []) hx hb hml hown hI (c_X12_in l w s.heap.size a1 (0 : Int32) (96 : Int32) M _ hc) (kb_X12_in hI.T (q1544 hI.T) (Nat.le_of_ble_eq_true rfl) (Nat.le_of_ble_eq_true rfl)) (q1545 hI.T) rfl hl.1 (Nat.le_of_ble_eq_true rfl) dX12_seals_4 ⟨Nat.le_of_ble_eq_true rfl, Nat.le_of_ble_eq_true rfl⟩ (fun H locs hI => ?_)
  refine lv_if_eq (tgt := 40) hx hb dX12_seals_7 (by decide) (fun c2 => ?_) (fun c2 => ?_)
  · have hf := (if_pos c2).symm.trans hf
    refine lv_iconst (v := 1) hx hb dX12_seals_40 (by decide) ?_
    exact m_iretf hx hb hr hlk hI hf dX12_seals_41
  · have hf := (if_neg c2).symm.trans hf
    refine lv_iload_n hx hb dX12_seals_10 rfl (lv_at hl 2 rfl) ?_
    refine lv_iconst (v := 0) hx hb dX12_seals_11 (by decide) ?_
    refine lv_bipush (v := 96) hx hb dX12_seals_12 (by decide) ?_
    obtain ⟨r3, hc, hf⟩ := mbp_e hf
    refine m_callS (As := [.int a2, .int (0 : Int32), .int (96 : Int32)]) (rest := []) hx hb hml hown hI (c_X12_in l w H.size a2 (0 : Int32) (96 : Int32) M _ hc) (kb_X12_in hI.T (q1544 hI.T) (Nat.le_of_ble_eq_true rfl) (Nat.le_of_ble_eq_true rfl)) (q1545 hI.T) rfl hl.1 (Nat.le_of_ble_eq_true rfl) dX12_seals_14 ⟨Nat.le_of_ble_eq_true rfl, Nat.le_of_ble_eq_true rfl⟩ (fun H locs hI => ?_)
    refine lv_if_eq (tgt := 40) hx hb dX12_seals_17 (by decide) (fun c4 => ?_) (fun c4 => ?_)
    · have hf := (if_pos c4).symm.trans hf
      refine lv_iconst (v := 1) hx hb dX12_seals_40 (by decide) ?_
      exact m_iretf hx hb hr hlk hI hf dX12_seals_41
    · have hf := (if_neg c4).symm.trans hf
      refine lv_iload_n hx hb dX12_seals_20 rfl (lv_at hl 3 rfl) ?_
      refine lv_iconst (v := 0) hx hb dX12_seals_21 (by decide) ?_
      refine lv_bipush (v := 96) hx hb dX12_seals_22 (by decide) ?_
      obtain ⟨r5, hc, hf⟩ := mbp_e hf
      refine m_callS (As := [.int a3, .int (0 : Int32), .int (96 : Int32)]) (rest := []) hx hb hml hown hI (c_X12_in l w H.size a3 (0 : Int32) (96 : Int32) M _ hc) (kb_X12_in hI.T (q1544 hI.T) (Nat.le_of_ble_eq_true rfl) (Nat.le_of_ble_eq_true rfl)) (q1545 hI.T) rfl hl.1 (Nat.le_of_ble_eq_true rfl) dX12_seals_24 ⟨Nat.le_of_ble_eq_true rfl, Nat.le_of_ble_eq_true rfl⟩ (fun H locs hI => ?_)
      refine lv_if_eq (tgt := 40) hx hb dX12_seals_27 (by decide) (fun c6 => ?_) (fun c6 => ?_)
      · have hf := (if_pos c6).symm.trans hf
        refine lv_iconst (v := 1) hx hb dX12_seals_40 (by decide) ?_
        exact m_iretf hx hb hr hlk hI hf dX12_seals_41
      · have hf := (if_neg c6).symm.trans hf
        refine lv_iload hx hb dX12_seals_30 (lv_at hl 4 rfl) ?_
        refine lv_iconst (v := 1) hx hb dX12_seals_32 (by decide) ?_
        refine lv_iconst (v := 3) hx hb dX12_seals_33 (by decide) ?_
        obtain ⟨r7, hc, hf⟩ := mbp_e hf
        refine m_callS (As := [.int a4, .int (1 : Int32), .int (3 : Int32)]) (rest := []) hx hb hml hown hI (c_X12_in l w H.size a4 (1 : Int32) (3 : Int32) M _ hc) (kb_X12_in hI.T (q1544 hI.T) (Nat.le_of_ble_eq_true rfl) (Nat.le_of_ble_eq_true rfl)) (q1545 hI.T) rfl hl.1 (Nat.le_of_ble_eq_true rfl) dX12_seals_34 ⟨Nat.le_of_ble_eq_true rfl, Nat.le_of_ble_eq_true rfl⟩ (fun H locs hI => ?_)
        refine lv_if_ne (tgt := 42) hx hb dX12_seals_37 (by decide) (fun c8 => ?_) (fun c8 => ?_)
        · have hf := (if_neg c8).symm.trans hf
          refine lv_aload_n hx hb dX12_seals_42 rfl (lv_at hl 0 rfl) ?_
          refine m_get (g := 12) (i := 47) (ci := 10) (k := 1) (v := .ref (w.1 12 48)) hx hb hI hown (mokX (by decide) (by decide)) rfl rfl (by decide) lyX12 (q1427 hI.T) rfl dX12_seals_43 ?_
          refine lv_iconst (v := 0) hx hb dX12_seals_46 (by decide) ?_
          obtain ⟨hi, hf⟩ := mix_e hf
          refine m_iald (g := 12) (i := 48) hx hb hI (mokX (by decide) (by decide)) rfl hi dX12_seals_47 ?_
          refine lv_iload hx hb dX12_seals_48 (lv_at hl 4 rfl) ?_
          refine lv_icmp_ge (tgt := 65) hx hb dX12_seals_50 (by decide) (fun c9 => ?_) (fun c9 => ?_)
          · have hf := (if_pos c9).symm.trans hf
            refine lv_aload_n hx hb dX12_seals_65 rfl (lv_at hl 0 rfl) ?_
            refine m_get (g := 12) (i := 47) (ci := 10) (k := 1) (v := .ref (w.1 12 48)) hx hb hI hown (mokX (by decide) (by decide)) rfl rfl (by decide) lyX12 (q1427 hI.T) rfl dX12_seals_66 ?_
            refine lv_iconst (v := 1) hx hb dX12_seals_69 (by decide) ?_
            refine lv_iconst (v := 1) hx hb dX12_seals_70 (by decide) ?_
            obtain ⟨hi, hf⟩ := mix_e hf
            obtain ⟨M10, eM10, hf⟩ := mlet_e hf
            refine m_iast (g := 12) (i := 48) (M1 := M10) hx hb hI (mokX (by decide) (by decide)) rfl hi eM10 dX12_seals_71 (fun H locs hI => ?_)
            refine lv_aload_n hx hb dX12_seals_72 rfl (lv_at hl 0 rfl) ?_
            refine m_get (g := 12) (i := 47) (ci := 10) (k := 1) (v := .ref (w.1 12 48)) hx hb hI hown (mokX (by decide) (by decide)) rfl rfl (by decide) lyX12 (q1427 hI.T) rfl dX12_seals_73 ?_
            refine lv_iconst (v := 2) hx hb dX12_seals_76 (by decide) ?_
            refine lv_iload_n hx hb dX12_seals_77 rfl (lv_at hl 1 rfl) ?_
            obtain ⟨hi, hf⟩ := mix_e hf
            obtain ⟨M11, eM11, hf⟩ := mlet_e hf
            refine m_iast (g := 12) (i := 48) (M1 := M11) hx hb hI (mokX (by decide) (by decide)) rfl hi eM11 dX12_seals_78 (fun H locs hI => ?_)
            refine lv_aload_n hx hb dX12_seals_79 rfl (lv_at hl 0 rfl) ?_
            refine m_get (g := 12) (i := 47) (ci := 10) (k := 1) (v := .ref (w.1 12 48)) hx hb hI hown (mokX (by decide) (by decide)) rfl rfl (by decide) lyX12 (q1427 hI.T) rfl dX12_seals_80 ?_
            refine lv_iconst (v := 3) hx hb dX12_seals_83 (by decide) ?_
            refine lv_iload hx hb dX12_seals_84 (lv_at hl 4 rfl) ?_
            refine lv_iconst (v := 1) hx hb dX12_seals_86 (by decide) ?_
            obtain ⟨k95_14, ek95_14, hf⟩ := mlet_e hf
            have hj95_14 : ∀ (x13 : Int32) (H : Heap) (locs : List Loc) (ls : Array Slot), k95_14 x13 = some (r, M9) → mI w s (mA w s.heap.size) H locs M11 → lv_has ls 6 [(0, .ref (w.1 12 47)), (3, .int a3), (4, .int a4)] → W p l e rmX12_seals s m args below meth c H locs 0 0 (MQ below (mQ w s.heap.size (some (.int r)) M9) args s 0 0 (mA w s.heap.size)) (F0 m 95 ls [.int x13, .int (3 : Int32), .ref (w.1 12 48)]) := by
              intro x13 H locs ls hf hI hl
              rw [ek95_14] at hf
              try dsimp only at hf
              obtain ⟨hi, hf⟩ := mix_e hf
              obtain ⟨M15, eM15, hf⟩ := mlet_e hf
              refine m_iast (g := 12) (i := 48) (M1 := M15) hx hb hI (mokX (by decide) (by decide)) rfl hi eM15 dX12_seals_95 (fun H locs hI => ?_)
              refine lv_aload_n hx hb dX12_seals_96 rfl (lv_at hl 0 rfl) ?_
              refine m_get (g := 12) (i := 47) (ci := 10) (k := 1) (v := .ref (w.1 12 48)) hx hb hI hown (mokX (by decide) (by decide)) rfl rfl (by decide) lyX12 (q1427 hI.T) rfl dX12_seals_97 ?_
              refine lv_iconst (v := 4) hx hb dX12_seals_100 (by decide) ?_
              refine lv_iload hx hb dX12_seals_101 (lv_at hl 2 rfl) ?_
              refine lv_iconst (v := 2) hx hb dX12_seals_103 (by decide) ?_
              obtain ⟨k112_18, ek112_18, hf⟩ := mlet_e hf
              have hj112_18 : ∀ (x17 : Int32) (H : Heap) (locs : List Loc) (ls : Array Slot), k112_18 x17 = some (r, M9) → mI w s (mA w s.heap.size) H locs M15 → lv_has ls 6 [(0, .ref (w.1 12 47)), (4, .int a4)] → W p l e rmX12_seals s m args below meth c H locs 0 0 (MQ below (mQ w s.heap.size (some (.int r)) M9) args s 0 0 (mA w s.heap.size)) (F0 m 112 ls [.int x17, .int (4 : Int32), .ref (w.1 12 48)]) := by
                intro x17 H locs ls hf hI hl
                rw [ek112_18] at hf
                try dsimp only at hf
                obtain ⟨hi, hf⟩ := mix_e hf
                obtain ⟨M19, eM19, hf⟩ := mlet_e hf
                refine m_iast (g := 12) (i := 48) (M1 := M19) hx hb hI (mokX (by decide) (by decide)) rfl hi eM19 dX12_seals_112 (fun H locs hI => ?_)
                refine lv_aload_n hx hb dX12_seals_113 rfl (lv_at hl 0 rfl) ?_
                refine m_get (g := 12) (i := 47) (ci := 10) (k := 1) (v := .ref (w.1 12 48)) hx hb hI hown (mokX (by decide) (by decide)) rfl rfl (by decide) lyX12 (q1427 hI.T) rfl dX12_seals_114 ?_
                refine lv_iconst (v := 5) hx hb dX12_seals_117 (by decide) ?_
                refine lv_iload hx hb dX12_seals_118 (lv_at hl 1 rfl) ?_
                obtain ⟨hi, hf⟩ := mix_e hf
                obtain ⟨M20, eM20, hf⟩ := mlet_e hf
                refine m_iast (g := 12) (i := 48) (M1 := M20) hx hb hI (mokX (by decide) (by decide)) rfl hi eM20 dX12_seals_120 (fun H locs hI => ?_)
                refine lv_aload_n hx hb dX12_seals_121 rfl (lv_at hl 0 rfl) ?_
                refine m_get (g := 12) (i := 47) (ci := 10) (k := 1) (v := .ref (w.1 12 48)) hx hb hI hown (mokX (by decide) (by decide)) rfl rfl (by decide) lyX12 (q1427 hI.T) rfl dX12_seals_122 ?_
                refine lv_bipush (v := 6) hx hb dX12_seals_125 (by decide) ?_
                refine lv_iconst (v := 0) hx hb dX12_seals_127 (by decide) ?_
                obtain ⟨hi, hf⟩ := mix_e hf
                obtain ⟨M21, eM21, hf⟩ := mlet_e hf
                refine m_iast (g := 12) (i := 48) (M1 := M21) hx hb hI (mokX (by decide) (by decide)) rfl hi eM21 dX12_seals_128 (fun H locs hI => ?_)
                refine lv_aload_n hx hb dX12_seals_129 rfl (lv_at hl 0 rfl) ?_
                refine m_get (g := 12) (i := 47) (ci := 10) (k := 1) (v := .ref (w.1 12 48)) hx hb hI hown (mokX (by decide) (by decide)) rfl rfl (by decide) lyX12 (q1427 hI.T) rfl dX12_seals_130 ?_
                refine lv_bipush (v := 7) hx hb dX12_seals_133 (by decide) ?_
                refine lv_iconst (v := 0) hx hb dX12_seals_135 (by decide) ?_
                obtain ⟨hi, hf⟩ := mix_e hf
                obtain ⟨M22, eM22, hf⟩ := mlet_e hf
                refine m_iast (g := 12) (i := 48) (M1 := M22) hx hb hI (mokX (by decide) (by decide)) rfl hi eM22 dX12_seals_136 (fun H locs hI => ?_)
                refine lv_aload_n hx hb dX12_seals_137 rfl (lv_at hl 0 rfl) ?_
                refine m_get (g := 12) (i := 47) (ci := 10) (k := 1) (v := .ref (w.1 12 48)) hx hb hI hown (mokX (by decide) (by decide)) rfl rfl (by decide) lyX12 (q1427 hI.T) rfl dX12_seals_138 ?_
                refine lv_bipush (v := 8) hx hb dX12_seals_141 (by decide) ?_
                refine lv_iconst (v := 0) hx hb dX12_seals_143 (by decide) ?_
                obtain ⟨hi, hf⟩ := mix_e hf
                obtain ⟨M23, eM23, hf⟩ := mlet_e hf
                refine m_iast (g := 12) (i := 48) (M1 := M23) hx hb hI (mokX (by decide) (by decide)) rfl hi eM23 dX12_seals_144 (fun H locs hI => ?_)
                refine lv_aload_n hx hb dX12_seals_145 rfl (lv_at hl 0 rfl) ?_
                obtain ⟨r24, M25, hc, hf⟩ := mbnd_e hf
                refine m_callV (As := []) (rest := []) hx hb hml hown hI (c_X12_clears l w H.size M23 _ _ hc) (kb_X12_clears hI.T (q1547 hI.T) (Nat.le_of_ble_eq_true rfl) (Nat.le_of_ble_eq_true rfl)) (q1549 hI.T) (sel_X12_clears hI.T) (m_recv (g := 12) (i := 47) hI (mokX (by decide) (by decide)) rfl rfl) rfl hl.1 (Nat.le_of_ble_eq_true rfl) dX12_seals_146 ⟨Nat.le_of_ble_eq_true rfl, Nat.le_of_ble_eq_true rfl⟩ (fun H locs hI => ?_)
                refine lv_iconst (v := 0) hx hb dX12_seals_149 (by decide) ?_
                refine lv_istore (lv' := [(5, .int (0 : Int32)), (0, .ref (w.1 12 47)), (4, .int a4)]) hx hb dX12_seals_150 hl (by decide) rfl (fun ls hl => ?_)
                have hL152 : ∀ (n : Nat) (x26 : Int32) (M27 : Mem) (kk : Mem → Option (Int32 × Mem)) (H : Heap) (locs : List Loc) (ls : Array Slot), f_X12_seals_L152 n x26 M27 kk = some (r, M9) → mI w s (mA w s.heap.size) H locs M27 → lv_has ls 6 [(0, .ref (w.1 12 47)), (5, .int x26)] → (∀  (M27 : Mem) (H : Heap) (locs : List Loc) (ls : Array Slot), kk M27 = some (r, M9) → mI w s (mA w s.heap.size) H locs M27 → lv_has ls 6 [(0, .ref (w.1 12 47))] → W p l e rmX12_seals s m args below meth c H locs 0 0 (MQ below (mQ w s.heap.size (some (.int r)) M9) args s 0 0 (mA w s.heap.size)) (F0 m 185 ls [])) → W p l e rmX12_seals s m args below meth c H locs 0 0 (MQ below (mQ w s.heap.size (some (.int r)) M9) args s 0 0 (mA w s.heap.size)) (F0 m 152 ls []) := by
                  intro n
                  induction n with
                  | zero => intro x26 M27 kk H locs ls hf hI hl hk; rw [f_X12_seals_L152.eq_1] at hf; cases hf
                  | succ n ih152 =>
                    intro x26 M27 kk H locs ls hf hI hl hk
                    rw [f_X12_seals_L152.eq_2] at hf
                    refine lv_iload hx hb dX12_seals_152 (lv_at hl 1 rfl) ?_
                    refine lv_aload_n hx hb dX12_seals_154 rfl (lv_at hl 0 rfl) ?_
                    refine m_get (g := 12) (i := 47) (ci := 10) (k := 1) (v := .ref (w.1 12 48)) hx hb hI hown (mokX (by decide) (by decide)) rfl rfl (by decide) lyX12 (q1427 hI.T) rfl dX12_seals_155 ?_
                    refine lv_iconst (v := 0) hx hb dX12_seals_158 (by decide) ?_
                    obtain ⟨hi, hf⟩ := mix_e hf
                    refine m_iald (g := 12) (i := 48) hx hb hI (mokX (by decide) (by decide)) rfl hi dX12_seals_159 ?_
                    refine lv_icmp_ge (tgt := 185) hx hb dX12_seals_160 (by decide) (fun c28 => ?_) (fun c28 => ?_)
                    · have hf := (if_pos c28).symm.trans hf
                      exact hk M27 H _ _ hf hI (lv_sub hl [0] rfl)
                    · have hf := (if_neg c28).symm.trans hf
                      refine lv_aload_n hx hb dX12_seals_163 rfl (lv_at hl 0 rfl) ?_
                      refine m_get (g := 12) (i := 47) (ci := 10) (k := 1) (v := .ref (w.1 12 48)) hx hb hI hown (mokX (by decide) (by decide)) rfl rfl (by decide) lyX12 (q1427 hI.T) rfl dX12_seals_164 ?_
                      refine lv_bipush (v := 15) hx hb dX12_seals_167 (by decide) ?_
                      refine lv_iload hx hb dX12_seals_169 (lv_at hl 1 rfl) ?_
                      refine lv_iadd hx hb dX12_seals_171 ?_
                      refine lv_aload_n hx hb dX12_seals_172 rfl (lv_at hl 0 rfl) ?_
                      refine lv_iload hx hb dX12_seals_173 (lv_at hl 1 rfl) ?_
                      obtain ⟨r29, hc, hf⟩ := mbp_e hf
                      refine m_callV (As := [.int x26]) (rest := [.int ((15 : Int32) + x26), .ref (w.1 12 48)]) hx hb hml hown hI (c_X12_curve l w H.size x26 M27 _ hc) (kb_X12_curve hI.T (q1516 hI.T) (Nat.le_of_ble_eq_true rfl) (Nat.le_of_ble_eq_true rfl)) (q1518 hI.T) (sel_X12_curve hI.T) (m_recv (g := 12) (i := 47) hI (mokX (by decide) (by decide)) rfl rfl) rfl hl.1 (Nat.le_of_ble_eq_true rfl) dX12_seals_175 ⟨Nat.le_of_ble_eq_true rfl, Nat.le_of_ble_eq_true rfl⟩ (fun H locs hI => ?_)
                      obtain ⟨hi, hf⟩ := mix_e hf
                      obtain ⟨M30, eM30, hf⟩ := mlet_e hf
                      refine m_iast (g := 12) (i := 48) (M1 := M30) hx hb hI (mokX (by decide) (by decide)) rfl hi eM30 dX12_seals_178 (fun H locs hI => ?_)
                      obtain ⟨x31, ex31, hf⟩ := mlet_e hf
                      refine lv_iinc (v := x31) (lv' := [(5, .int x31), (0, .ref (w.1 12 47))]) hx hb dX12_seals_179 hl (k := 1) rfl (by rw [ex31]; rfl) (by decide) rfl (fun ls hl => ?_)
                      refine lv_goto (tgt := 152) hx hb dX12_seals_182 (by decide) ?_
                      exact ih152 x31 M30 kk H _ _ hf hI (lv_sub hl [1, 0] rfl) hk
                refine hL152 1000 (0 : Int32) M25 _ _ _ _ hf hI (lv_sub hl [1, 0] rfl) ?_
                intro M32 H locs ls hf hI hl
                try dsimp only at hf
                refine lv_aload_n hx hb dX12_seals_185 rfl (lv_at hl 0 rfl) ?_
                refine lv_aload_n hx hb dX12_seals_186 rfl (lv_at hl 0 rfl) ?_
                refine m_get (g := 12) (i := 47) (ci := 10) (k := 1) (v := .ref (w.1 12 48)) hx hb hI hown (mokX (by decide) (by decide)) rfl rfl (by decide) lyX12 (q1427 hI.T) rfl dX12_seals_187 ?_
                refine lv_iconst (v := 0) hx hb dX12_seals_190 (by decide) ?_
                obtain ⟨hi, hf⟩ := mix_e hf
                refine m_iald (g := 12) (i := 48) hx hb hI (mokX (by decide) (by decide)) rfl hi dX12_seals_191 ?_
                obtain ⟨r33, M34, hc, hf⟩ := mbnd_e hf
                refine m_callV (As := [.int (M32 12 48 (0 : Int32).toNatClampNeg)]) (rest := []) hx hb hml hown hI (c_X12_done l w H.size (M32 12 48 (0 : Int32).toNatClampNeg) M32 _ _ hc) (kb_X12_done hI.T (q1520 hI.T) (Nat.le_of_ble_eq_true rfl) (Nat.le_of_ble_eq_true rfl)) (q1522 hI.T) (sel_X12_done hI.T) (m_recv (g := 12) (i := 47) hI (mokX (by decide) (by decide)) rfl rfl) rfl hl.1 (Nat.le_of_ble_eq_true rfl) dX12_seals_192 ⟨Nat.le_of_ble_eq_true rfl, Nat.le_of_ble_eq_true rfl⟩ (fun H locs hI => ?_)
                exact m_iretf hx hb hr hlk hI hf dX12_seals_195
              refine lv_icmp_le (tgt := 111) hx hb dX12_seals_104 (by decide) (fun c16 => ?_) (fun c16 => ?_)
              · have hf := (if_pos c16).symm.trans hf
                refine lv_iconst (v := 0) hx hb dX12_seals_111 (by decide) ?_
                exact hj112_18 (0 : Int32) H _ _ hf hI (lv_sub hl [0, 2] rfl)
              · have hf := (if_neg c16).symm.trans hf
                refine lv_iload_n hx hb dX12_seals_107 rfl (lv_at hl 1 rfl) ?_
                refine lv_goto (tgt := 112) hx hb dX12_seals_108 (by decide) ?_
                exact hj112_18 a3 H _ _ hf hI (lv_sub hl [0, 2] rfl)
            refine lv_icmp_le (tgt := 94) hx hb dX12_seals_87 (by decide) (fun c12 => ?_) (fun c12 => ?_)
            · have hf := (if_pos c12).symm.trans hf
              refine lv_iconst (v := 0) hx hb dX12_seals_94 (by decide) ?_
              exact hj95_14 (0 : Int32) H _ _ hf hI (lv_sub hl [0, 3, 4] rfl)
            · have hf := (if_neg c12).symm.trans hf
              refine lv_iload_n hx hb dX12_seals_90 rfl (lv_at hl 2 rfl) ?_
              refine lv_goto (tgt := 95) hx hb dX12_seals_91 (by decide) ?_
              exact hj95_14 a2 H _ _ hf hI (lv_sub hl [0, 3, 4] rfl)
          · have hf := (if_neg c9).symm.trans hf
            refine lv_aload_n hx hb dX12_seals_53 rfl (lv_at hl 0 rfl) ?_
            refine lv_iconst (v := 2) hx hb dX12_seals_54 (by decide) ?_
            refine lv_aload_n hx hb dX12_seals_55 rfl (lv_at hl 0 rfl) ?_
            refine m_get (g := 12) (i := 47) (ci := 10) (k := 1) (v := .ref (w.1 12 48)) hx hb hI hown (mokX (by decide) (by decide)) rfl rfl (by decide) lyX12 (q1427 hI.T) rfl dX12_seals_56 ?_
            refine lv_iconst (v := 0) hx hb dX12_seals_59 (by decide) ?_
            obtain ⟨hi, hf⟩ := mix_e hf
            refine m_iald (g := 12) (i := 48) hx hb hI (mokX (by decide) (by decide)) rfl hi dX12_seals_60 ?_
            obtain ⟨r35, M36, hc, hf⟩ := mbnd_e hf
            refine m_callV (As := [.int (2 : Int32), .int (M 12 48 (0 : Int32).toNatClampNeg)]) (rest := []) hx hb hml hown hI (c_X12_refused l w H.size (2 : Int32) (M 12 48 (0 : Int32).toNatClampNeg) M _ _ hc) (kb_X12_refused hI.T (q1512 hI.T) (Nat.le_of_ble_eq_true rfl) (Nat.le_of_ble_eq_true rfl)) (q1514 hI.T) (sel_X12_refused hI.T) (m_recv (g := 12) (i := 47) hI (mokX (by decide) (by decide)) rfl rfl) rfl hl.1 (Nat.le_of_ble_eq_true rfl) dX12_seals_61 ⟨Nat.le_of_ble_eq_true rfl, Nat.le_of_ble_eq_true rfl⟩ (fun H locs hI => ?_)
            exact m_iretf hx hb hr hlk hI hf dX12_seals_64
        · have hf := (if_pos c8).symm.trans hf
          refine lv_iconst (v := 1) hx hb dX12_seals_40 (by decide) ?_
          exact m_iretf hx hb hr hlk hI hf dX12_seals_41
abbrev rmX12_shares : Room := { frames := 2, cells := 0, slots := 0, locals := 43 }
theorem kb_X12_shares {R : Room} {s : State} {args : Array Value} {own : String} {idx : Nat} (hT : mT s) (hlink : (Cond.methodLink own idx yX12_shares).before args s = true) (h1 : rmX12_shares.frames + 1 ≤ R.frames) (h2 : 8 + (4 + 11) + rmX12_shares.locals ≤ R.locals) : CallB R s args own idx yX12_shares cX12_shares 4 (some .int) [Cond.code yX12_shares cX12_shares 4 (some .int)] rmX12_shares 0 0 2 := m_callB hT kc_X12_shares ki_X12_shares hlink (by decide +kernel) ⟨rfl, rfl, h1, h2⟩
set_option maxHeartbeats 4000000 in
set_option maxRecDepth 100000 in
theorem c_X12_shares (l : Launch) (w : WD) (sz : Nat) (a1 : Int32) (a2 : Int32) (M : Mem) (r : Int32) (M9 : Mem) (hf : f_X12_shares a1 a2 M = some (r, M9)) : mMet l yX12_shares cX12_shares 4 (some .int) rmX12_shares w sz M [.ref (w.1 12 47), .int a1, .int a2] (some (.int r)) M9 := by
  refine m_of (by decide) (Nat.le_of_ble_eq_true rfl) ?_
  intro p e s m args below meth c hx hb hr hml hown hlk hI ls hl
  have hl : lv_has ls 4 [(0, .ref (w.1 12 47)), (1, .int a1), (2, .int a2)] := hl
  unfold f_X12_shares at hf
  refine lv_aload_n hx hb dX12_shares_0 rfl (lv_at hl 0 rfl) ?_
  refine lv_iload_n hx hb dX12_shares_1 rfl (lv_at hl 1 rfl) ?_
  obtain ⟨r1, hc, hf⟩ := mbp_e hf
  refine m_callV (As := [.int a1]) (rest := []) hx hb hml hown hI (c_X12_isHolder l w s.heap.size a1 M _ hc) (kb_X12_isHolder hI.T (q1559 hI.T) (Nat.le_of_ble_eq_true rfl) (Nat.le_of_ble_eq_true rfl)) (q1561 hI.T) (sel_X12_isHolder hI.T) (m_recv (g := 12) (i := 47) hI (mokX (by decide) (by decide)) rfl rfl) rfl hl.1 (Nat.le_of_ble_eq_true rfl) dX12_shares_2 ⟨Nat.le_of_ble_eq_true rfl, Nat.le_of_ble_eq_true rfl⟩ (fun H locs hI => ?_)
  refine lv_if_ne (tgt := 10) hx hb dX12_shares_5 (by decide) (fun c2 => ?_) (fun c2 => ?_)
  · have hf := (if_neg c2).symm.trans hf
    refine lv_iload_n hx hb dX12_shares_10 rfl (lv_at hl 2 rfl) ?_
    refine lv_iconst (v := 0) hx hb dX12_shares_11 (by decide) ?_
    refine lv_bipush (v := 96) hx hb dX12_shares_12 (by decide) ?_
    obtain ⟨r3, hc, hf⟩ := mbp_e hf
    refine m_callS (As := [.int a2, .int (0 : Int32), .int (96 : Int32)]) (rest := []) hx hb hml hown hI (c_X12_in l w H.size a2 (0 : Int32) (96 : Int32) M _ hc) (kb_X12_in hI.T (q1544 hI.T) (Nat.le_of_ble_eq_true rfl) (Nat.le_of_ble_eq_true rfl)) (q1545 hI.T) rfl hl.1 (Nat.le_of_ble_eq_true rfl) dX12_shares_14 ⟨Nat.le_of_ble_eq_true rfl, Nat.le_of_ble_eq_true rfl⟩ (fun H locs hI => ?_)
    refine lv_if_ne (tgt := 22) hx hb dX12_shares_17 (by decide) (fun c4 => ?_) (fun c4 => ?_)
    · have hf := (if_neg c4).symm.trans hf
      refine lv_aload_n hx hb dX12_shares_22 rfl (lv_at hl 0 rfl) ?_
      refine m_get (g := 12) (i := 47) (ci := 10) (k := 1) (v := .ref (w.1 12 48)) hx hb hI hown (mokX (by decide) (by decide)) rfl rfl (by decide) lyX12 (q1427 hI.T) rfl dX12_shares_23 ?_
      refine lv_iconst (v := 1) hx hb dX12_shares_26 (by decide) ?_
      obtain ⟨hi, hf⟩ := mix_e hf
      refine m_iald (g := 12) (i := 48) hx hb hI (mokX (by decide) (by decide)) rfl hi dX12_shares_27 ?_
      refine lv_if_ne (tgt := 38) hx hb dX12_shares_28 (by decide) (fun c5 => ?_) (fun c5 => ?_)
      · have hf := (if_neg c5).symm.trans hf
        refine lv_aload_n hx hb dX12_shares_38 rfl (lv_at hl 0 rfl) ?_
        refine m_get (g := 12) (i := 47) (ci := 10) (k := 1) (v := .ref (w.1 12 48)) hx hb hI hown (mokX (by decide) (by decide)) rfl rfl (by decide) lyX12 (q1427 hI.T) rfl dX12_shares_39 ?_
        refine lv_bipush (v := 15) hx hb dX12_shares_42 (by decide) ?_
        refine lv_iload_n hx hb dX12_shares_44 rfl (lv_at hl 1 rfl) ?_
        refine lv_iadd hx hb dX12_shares_45 ?_
        obtain ⟨hi, hf⟩ := mix_e hf
        refine m_iald (g := 12) (i := 48) hx hb hI (mokX (by decide) (by decide)) rfl hi dX12_shares_46 ?_
        refine lv_topi (fun x6 ex6 => ?_)
        have hf := mlet_s ex6 hf
        refine lv_istore_n (lv' := [(3, .int x6), (0, .ref (w.1 12 47)), (1, .int a1), (2, .int a2)]) hx hb dX12_shares_47 rfl hl (by decide) rfl (fun ls hl => ?_)
        refine lv_aload_n hx hb dX12_shares_48 rfl (lv_at hl 1 rfl) ?_
        refine m_get (g := 12) (i := 47) (ci := 10) (k := 1) (v := .ref (w.1 12 48)) hx hb hI hown (mokX (by decide) (by decide)) rfl rfl (by decide) lyX12 (q1427 hI.T) rfl dX12_shares_49 ?_
        refine lv_bipush (v := 15) hx hb dX12_shares_52 (by decide) ?_
        refine lv_iload_n hx hb dX12_shares_54 rfl (lv_at hl 2 rfl) ?_
        refine lv_iadd hx hb dX12_shares_55 ?_
        refine lv_iload_n hx hb dX12_shares_56 rfl (lv_at hl 3 rfl) ?_
        obtain ⟨hi, hf⟩ := mix_e hf
        obtain ⟨M7, eM7, hf⟩ := mlet_e hf
        refine m_iast (g := 12) (i := 48) (M1 := M7) hx hb hI (mokX (by decide) (by decide)) rfl hi eM7 dX12_shares_57 (fun H locs hI => ?_)
        refine lv_aload_n hx hb dX12_shares_58 rfl (lv_at hl 1 rfl) ?_
        refine lv_iload_n hx hb dX12_shares_59 rfl (lv_at hl 0 rfl) ?_
        obtain ⟨r8, M10, hc, hf⟩ := mbnd_e hf
        refine m_callV (As := [.int x6]) (rest := []) hx hb hml hown hI (c_X12_done l w H.size x6 M7 _ _ hc) (kb_X12_done hI.T (q1520 hI.T) (Nat.le_of_ble_eq_true rfl) (Nat.le_of_ble_eq_true rfl)) (q1522 hI.T) (sel_X12_done hI.T) (m_recv (g := 12) (i := 47) hI (mokX (by decide) (by decide)) rfl rfl) rfl hl.1 (Nat.le_of_ble_eq_true rfl) dX12_shares_60 ⟨Nat.le_of_ble_eq_true rfl, Nat.le_of_ble_eq_true rfl⟩ (fun H locs hI => ?_)
        exact m_iretf hx hb hr hlk hI hf dX12_shares_63
      · have hf := (if_pos c5).symm.trans hf
        refine lv_aload_n hx hb dX12_shares_31 rfl (lv_at hl 0 rfl) ?_
        refine lv_iconst (v := 3) hx hb dX12_shares_32 (by decide) ?_
        refine lv_iconst (v := 0) hx hb dX12_shares_33 (by decide) ?_
        obtain ⟨r11, M12, hc, hf⟩ := mbnd_e hf
        refine m_callV (As := [.int (3 : Int32), .int (0 : Int32)]) (rest := []) hx hb hml hown hI (c_X12_refused l w H.size (3 : Int32) (0 : Int32) M _ _ hc) (kb_X12_refused hI.T (q1512 hI.T) (Nat.le_of_ble_eq_true rfl) (Nat.le_of_ble_eq_true rfl)) (q1514 hI.T) (sel_X12_refused hI.T) (m_recv (g := 12) (i := 47) hI (mokX (by decide) (by decide)) rfl rfl) rfl hl.1 (Nat.le_of_ble_eq_true rfl) dX12_shares_34 ⟨Nat.le_of_ble_eq_true rfl, Nat.le_of_ble_eq_true rfl⟩ (fun H locs hI => ?_)
        exact m_iretf hx hb hr hlk hI hf dX12_shares_37
    · have hf := (if_pos c4).symm.trans hf
      refine lv_iconst (v := 2) hx hb dX12_shares_20 (by decide) ?_
      exact m_iretf hx hb hr hlk hI hf dX12_shares_21
  · have hf := (if_pos c2).symm.trans hf
    refine lv_iconst (v := 1) hx hb dX12_shares_8 (by decide) ?_
    exact m_iretf hx hb hr hlk hI hf dX12_shares_9
abbrev rmX12_presents : Room := { frames := 2, cells := 0, slots := 0, locals := 43 }
theorem kb_X12_presents {R : Room} {s : State} {args : Array Value} {own : String} {idx : Nat} (hT : mT s) (hlink : (Cond.methodLink own idx yX12_presents).before args s = true) (h1 : rmX12_presents.frames + 1 ≤ R.frames) (h2 : 8 + (2 + 11) + rmX12_presents.locals ≤ R.locals) : CallB R s args own idx yX12_presents cX12_presents 2 (some .int) [Cond.code yX12_presents cX12_presents 2 (some .int)] rmX12_presents 0 0 1 := m_callB hT kc_X12_presents ki_X12_presents hlink (by decide +kernel) ⟨rfl, rfl, h1, h2⟩
set_option maxHeartbeats 4000000 in
set_option maxRecDepth 100000 in
theorem c_X12_presents (l : Launch) (w : WD) (sz : Nat) (a1 : Int32) (M : Mem) (r : Int32) (M9 : Mem) (hf : f_X12_presents a1 M = some (r, M9)) : mMet l yX12_presents cX12_presents 2 (some .int) rmX12_presents w sz M [.ref (w.1 12 47), .int a1] (some (.int r)) M9 := by
  refine m_of (by decide) (Nat.le_of_ble_eq_true rfl) ?_
  intro p e s m args below meth c hx hb hr hml hown hlk hI ls hl
  have hl : lv_has ls 2 [(0, .ref (w.1 12 47)), (1, .int a1)] := hl
  unfold f_X12_presents at hf
  refine lv_aload_n hx hb dX12_presents_0 rfl (lv_at hl 0 rfl) ?_
  refine lv_iload_n hx hb dX12_presents_1 rfl (lv_at hl 1 rfl) ?_
  obtain ⟨r1, hc, hf⟩ := mbp_e hf
  refine m_callV (As := [.int a1]) (rest := []) hx hb hml hown hI (c_X12_isHolder l w s.heap.size a1 M _ hc) (kb_X12_isHolder hI.T (q1559 hI.T) (Nat.le_of_ble_eq_true rfl) (Nat.le_of_ble_eq_true rfl)) (q1561 hI.T) (sel_X12_isHolder hI.T) (m_recv (g := 12) (i := 47) hI (mokX (by decide) (by decide)) rfl rfl) rfl hl.1 (Nat.le_of_ble_eq_true rfl) dX12_presents_2 ⟨Nat.le_of_ble_eq_true rfl, Nat.le_of_ble_eq_true rfl⟩ (fun H locs hI => ?_)
  refine lv_if_ne (tgt := 10) hx hb dX12_presents_5 (by decide) (fun c2 => ?_) (fun c2 => ?_)
  · have hf := (if_neg c2).symm.trans hf
    refine lv_aload_n hx hb dX12_presents_10 rfl (lv_at hl 0 rfl) ?_
    refine m_get (g := 12) (i := 47) (ci := 10) (k := 1) (v := .ref (w.1 12 48)) hx hb hI hown (mokX (by decide) (by decide)) rfl rfl (by decide) lyX12 (q1427 hI.T) rfl dX12_presents_11 ?_
    refine lv_iconst (v := 1) hx hb dX12_presents_14 (by decide) ?_
    obtain ⟨hi, hf⟩ := mix_e hf
    refine m_iald (g := 12) (i := 48) hx hb hI (mokX (by decide) (by decide)) rfl hi dX12_presents_15 ?_
    refine lv_if_ne (tgt := 26) hx hb dX12_presents_16 (by decide) (fun c3 => ?_) (fun c3 => ?_)
    · have hf := (if_neg c3).symm.trans hf
      refine lv_aload_n hx hb dX12_presents_26 rfl (lv_at hl 0 rfl) ?_
      refine lv_iload_n hx hb dX12_presents_27 rfl (lv_at hl 1 rfl) ?_
      obtain ⟨r4, hc, hf⟩ := mbp_e hf
      refine m_callV (As := [.int a1]) (rest := []) hx hb hml hown hI (c_X12_placeOf l w H.size a1 M _ hc) (kb_X12_placeOf hI.T (q1571 hI.T) (Nat.le_of_ble_eq_true rfl) (Nat.le_of_ble_eq_true rfl)) (q1573 hI.T) (sel_X12_placeOf hI.T) (m_recv (g := 12) (i := 47) hI (mokX (by decide) (by decide)) rfl rfl) rfl hl.1 (Nat.le_of_ble_eq_true rfl) dX12_presents_28 ⟨Nat.le_of_ble_eq_true rfl, Nat.le_of_ble_eq_true rfl⟩ (fun H locs hI => ?_)
      refine lv_iconst (v := (-1)) hx hb dX12_presents_31 (by decide) ?_
      refine lv_icmp_eq (tgt := 46) hx hb dX12_presents_32 (by decide) (fun c5 => ?_) (fun c5 => ?_)
      · have hf := (if_pos c5).symm.trans hf
        refine lv_aload_n hx hb dX12_presents_46 rfl (lv_at hl 0 rfl) ?_
        refine m_get (g := 12) (i := 47) (ci := 10) (k := 1) (v := .ref (w.1 12 48)) hx hb hI hown (mokX (by decide) (by decide)) rfl rfl (by decide) lyX12 (q1427 hI.T) rfl dX12_presents_47 ?_
        refine lv_bipush (v := 23) hx hb dX12_presents_50 (by decide) ?_
        refine lv_aload_n hx hb dX12_presents_52 rfl (lv_at hl 0 rfl) ?_
        refine m_get (g := 12) (i := 47) (ci := 10) (k := 1) (v := .ref (w.1 12 48)) hx hb hI hown (mokX (by decide) (by decide)) rfl rfl (by decide) lyX12 (q1427 hI.T) rfl dX12_presents_53 ?_
        refine lv_bipush (v := 9) hx hb dX12_presents_56 (by decide) ?_
        obtain ⟨hi, hf⟩ := mix_e hf
        refine m_iald (g := 12) (i := 48) hx hb hI (mokX (by decide) (by decide)) rfl hi dX12_presents_58 ?_
        refine lv_iadd hx hb dX12_presents_59 ?_
        refine lv_iload_n hx hb dX12_presents_60 rfl (lv_at hl 1 rfl) ?_
        obtain ⟨hi, hf⟩ := mix_e hf
        obtain ⟨M6, eM6, hf⟩ := mlet_e hf
        refine m_iast (g := 12) (i := 48) (M1 := M6) hx hb hI (mokX (by decide) (by decide)) rfl hi eM6 dX12_presents_61 (fun H locs hI => ?_)
        refine lv_aload_n hx hb dX12_presents_62 rfl (lv_at hl 0 rfl) ?_
        refine m_get (g := 12) (i := 47) (ci := 10) (k := 1) (v := .ref (w.1 12 48)) hx hb hI hown (mokX (by decide) (by decide)) rfl rfl (by decide) lyX12 (q1427 hI.T) rfl dX12_presents_63 ?_
        refine lv_bipush (v := 9) hx hb dX12_presents_66 (by decide) ?_
        refine lv_dup2_11 hx hb dX12_presents_68 rfl rfl ?_
        obtain ⟨hi, hf⟩ := mix_e hf
        refine m_iald (g := 12) (i := 48) hx hb hI (mokX (by decide) (by decide)) rfl hi dX12_presents_69 ?_
        refine lv_iconst (v := 1) hx hb dX12_presents_70 (by decide) ?_
        refine lv_iadd hx hb dX12_presents_71 ?_
        obtain ⟨hi, hf⟩ := mix_e hf
        obtain ⟨M7, eM7, hf⟩ := mlet_e hf
        refine m_iast (g := 12) (i := 48) (M1 := M7) hx hb hI (mokX (by decide) (by decide)) rfl hi eM7 dX12_presents_72 (fun H locs hI => ?_)
        refine lv_aload_n hx hb dX12_presents_73 rfl (lv_at hl 0 rfl) ?_
        refine lv_aload_n hx hb dX12_presents_74 rfl (lv_at hl 0 rfl) ?_
        refine m_get (g := 12) (i := 47) (ci := 10) (k := 1) (v := .ref (w.1 12 48)) hx hb hI hown (mokX (by decide) (by decide)) rfl rfl (by decide) lyX12 (q1427 hI.T) rfl dX12_presents_75 ?_
        refine lv_bipush (v := 9) hx hb dX12_presents_78 (by decide) ?_
        obtain ⟨hi, hf⟩ := mix_e hf
        refine m_iald (g := 12) (i := 48) hx hb hI (mokX (by decide) (by decide)) rfl hi dX12_presents_80 ?_
        obtain ⟨r8, M10, hc, hf⟩ := mbnd_e hf
        refine m_callV (As := [.int (M7 12 48 (9 : Int32).toNatClampNeg)]) (rest := []) hx hb hml hown hI (c_X12_done l w H.size (M7 12 48 (9 : Int32).toNatClampNeg) M7 _ _ hc) (kb_X12_done hI.T (q1520 hI.T) (Nat.le_of_ble_eq_true rfl) (Nat.le_of_ble_eq_true rfl)) (q1522 hI.T) (sel_X12_done hI.T) (m_recv (g := 12) (i := 47) hI (mokX (by decide) (by decide)) rfl rfl) rfl hl.1 (Nat.le_of_ble_eq_true rfl) dX12_presents_81 ⟨Nat.le_of_ble_eq_true rfl, Nat.le_of_ble_eq_true rfl⟩ (fun H locs hI => ?_)
        exact m_iretf hx hb hr hlk hI hf dX12_presents_84
      · have hf := (if_neg c5).symm.trans hf
        refine lv_aload_n hx hb dX12_presents_35 rfl (lv_at hl 0 rfl) ?_
        refine lv_iconst (v := 4) hx hb dX12_presents_36 (by decide) ?_
        refine lv_aload_n hx hb dX12_presents_37 rfl (lv_at hl 0 rfl) ?_
        refine lv_iload_n hx hb dX12_presents_38 rfl (lv_at hl 1 rfl) ?_
        obtain ⟨r11, hc, hf⟩ := mbp_e hf
        refine m_callV (As := [.int a1]) (rest := [.int (4 : Int32), .ref (w.1 12 47)]) hx hb hml hown hI (c_X12_placeOf l w H.size a1 M _ hc) (kb_X12_placeOf hI.T (q1571 hI.T) (Nat.le_of_ble_eq_true rfl) (Nat.le_of_ble_eq_true rfl)) (q1573 hI.T) (sel_X12_placeOf hI.T) (m_recv (g := 12) (i := 47) hI (mokX (by decide) (by decide)) rfl rfl) rfl hl.1 (Nat.le_of_ble_eq_true rfl) dX12_presents_39 ⟨Nat.le_of_ble_eq_true rfl, Nat.le_of_ble_eq_true rfl⟩ (fun H locs hI => ?_)
        obtain ⟨r12, M13, hc, hf⟩ := mbnd_e hf
        refine m_callV (As := [.int (4 : Int32), .int r11]) (rest := []) hx hb hml hown hI (c_X12_refused l w H.size (4 : Int32) r11 M _ _ hc) (kb_X12_refused hI.T (q1512 hI.T) (Nat.le_of_ble_eq_true rfl) (Nat.le_of_ble_eq_true rfl)) (q1514 hI.T) (sel_X12_refused hI.T) (m_recv (g := 12) (i := 47) hI (mokX (by decide) (by decide)) rfl rfl) rfl hl.1 (Nat.le_of_ble_eq_true rfl) dX12_presents_42 ⟨Nat.le_of_ble_eq_true rfl, Nat.le_of_ble_eq_true rfl⟩ (fun H locs hI => ?_)
        exact m_iretf hx hb hr hlk hI hf dX12_presents_45
    · have hf := (if_pos c3).symm.trans hf
      refine lv_aload_n hx hb dX12_presents_19 rfl (lv_at hl 0 rfl) ?_
      refine lv_iconst (v := 3) hx hb dX12_presents_20 (by decide) ?_
      refine lv_iconst (v := 0) hx hb dX12_presents_21 (by decide) ?_
      obtain ⟨r14, M15, hc, hf⟩ := mbnd_e hf
      refine m_callV (As := [.int (3 : Int32), .int (0 : Int32)]) (rest := []) hx hb hml hown hI (c_X12_refused l w H.size (3 : Int32) (0 : Int32) M _ _ hc) (kb_X12_refused hI.T (q1512 hI.T) (Nat.le_of_ble_eq_true rfl) (Nat.le_of_ble_eq_true rfl)) (q1514 hI.T) (sel_X12_refused hI.T) (m_recv (g := 12) (i := 47) hI (mokX (by decide) (by decide)) rfl rfl) rfl hl.1 (Nat.le_of_ble_eq_true rfl) dX12_presents_22 ⟨Nat.le_of_ble_eq_true rfl, Nat.le_of_ble_eq_true rfl⟩ (fun H locs hI => ?_)
      exact m_iretf hx hb hr hlk hI hf dX12_presents_25
  · have hf := (if_pos c2).symm.trans hf
    refine lv_iconst (v := 1) hx hb dX12_presents_8 (by decide) ?_
    exact m_iretf hx hb hr hlk hI hf dX12_presents_9
abbrev rmX12_takes : Room := { frames := 2, cells := 0, slots := 0, locals := 43 }
theorem kb_X12_takes {R : Room} {s : State} {args : Array Value} {own : String} {idx : Nat} (hT : mT s) (hlink : (Cond.methodLink own idx yX12_takes).before args s = true) (h1 : rmX12_takes.frames + 1 ≤ R.frames) (h2 : 8 + (4 + 11) + rmX12_takes.locals ≤ R.locals) : CallB R s args own idx yX12_takes cX12_takes 4 (some .int) [Cond.code yX12_takes cX12_takes 4 (some .int)] rmX12_takes 0 0 1 := m_callB hT kc_X12_takes ki_X12_takes hlink (by decide +kernel) ⟨rfl, rfl, h1, h2⟩
set_option maxHeartbeats 4000000 in
set_option maxRecDepth 100000 in
theorem c_X12_takes (l : Launch) (w : WD) (sz : Nat) (a1 : Int32) (M : Mem) (r : Int32) (M9 : Mem) (hf : f_X12_takes a1 M = some (r, M9)) : mMet l yX12_takes cX12_takes 4 (some .int) rmX12_takes w sz M [.ref (w.1 12 47), .int a1] (some (.int r)) M9 := by
  refine m_of (by decide) (Nat.le_of_ble_eq_true rfl) ?_
  intro p e s m args below meth c hx hb hr hml hown hlk hI ls hl
  have hl : lv_has ls 4 [(0, .ref (w.1 12 47)), (1, .int a1)] := hl
  unfold f_X12_takes at hf
  refine lv_aload_n hx hb dX12_takes_0 rfl (lv_at hl 0 rfl) ?_
  refine lv_iload_n hx hb dX12_takes_1 rfl (lv_at hl 1 rfl) ?_
  obtain ⟨r1, hc, hf⟩ := mbp_e hf
  refine m_callV (As := [.int a1]) (rest := []) hx hb hml hown hI (c_X12_isHolder l w s.heap.size a1 M _ hc) (kb_X12_isHolder hI.T (q1559 hI.T) (Nat.le_of_ble_eq_true rfl) (Nat.le_of_ble_eq_true rfl)) (q1561 hI.T) (sel_X12_isHolder hI.T) (m_recv (g := 12) (i := 47) hI (mokX (by decide) (by decide)) rfl rfl) rfl hl.1 (Nat.le_of_ble_eq_true rfl) dX12_takes_2 ⟨Nat.le_of_ble_eq_true rfl, Nat.le_of_ble_eq_true rfl⟩ (fun H locs hI => ?_)
  refine lv_if_ne (tgt := 10) hx hb dX12_takes_5 (by decide) (fun c2 => ?_) (fun c2 => ?_)
  · have hf := (if_neg c2).symm.trans hf
    refine lv_aload_n hx hb dX12_takes_10 rfl (lv_at hl 0 rfl) ?_
    refine m_get (g := 12) (i := 47) (ci := 10) (k := 1) (v := .ref (w.1 12 48)) hx hb hI hown (mokX (by decide) (by decide)) rfl rfl (by decide) lyX12 (q1427 hI.T) rfl dX12_takes_11 ?_
    refine lv_iconst (v := 1) hx hb dX12_takes_14 (by decide) ?_
    obtain ⟨hi, hf⟩ := mix_e hf
    refine m_iald (g := 12) (i := 48) hx hb hI (mokX (by decide) (by decide)) rfl hi dX12_takes_15 ?_
    refine lv_if_ne (tgt := 26) hx hb dX12_takes_16 (by decide) (fun c3 => ?_) (fun c3 => ?_)
    · have hf := (if_neg c3).symm.trans hf
      refine lv_aload_n hx hb dX12_takes_26 rfl (lv_at hl 0 rfl) ?_
      refine lv_iload_n hx hb dX12_takes_27 rfl (lv_at hl 1 rfl) ?_
      obtain ⟨r4, hc, hf⟩ := mbp_e hf
      refine m_callV (As := [.int a1]) (rest := []) hx hb hml hown hI (c_X12_placeOf l w H.size a1 M _ hc) (kb_X12_placeOf hI.T (q1571 hI.T) (Nat.le_of_ble_eq_true rfl) (Nat.le_of_ble_eq_true rfl)) (q1573 hI.T) (sel_X12_placeOf hI.T) (m_recv (g := 12) (i := 47) hI (mokX (by decide) (by decide)) rfl rfl) rfl hl.1 (Nat.le_of_ble_eq_true rfl) dX12_takes_28 ⟨Nat.le_of_ble_eq_true rfl, Nat.le_of_ble_eq_true rfl⟩ (fun H locs hI => ?_)
      refine lv_istore_n (lv' := [(2, .int r4), (0, .ref (w.1 12 47)), (1, .int a1)]) hx hb dX12_takes_31 rfl hl (by decide) rfl (fun ls hl => ?_)
      refine lv_iload_n hx hb dX12_takes_32 rfl (lv_at hl 0 rfl) ?_
      refine lv_iconst (v := (-1)) hx hb dX12_takes_33 (by decide) ?_
      refine lv_icmp_ne (tgt := 44) hx hb dX12_takes_34 (by decide) (fun c5 => ?_) (fun c5 => ?_)
      · have hf := (if_neg c5).symm.trans hf
        refine lv_aload_n hx hb dX12_takes_44 rfl (lv_at hl 1 rfl) ?_
        refine m_get (g := 12) (i := 47) (ci := 10) (k := 1) (v := .ref (w.1 12 48)) hx hb hI hown (mokX (by decide) (by decide)) rfl rfl (by decide) lyX12 (q1427 hI.T) rfl dX12_takes_45 ?_
        refine lv_bipush (v := 9) hx hb dX12_takes_48 (by decide) ?_
        refine lv_dup2_11 hx hb dX12_takes_50 rfl rfl ?_
        obtain ⟨hi, hf⟩ := mix_e hf
        refine m_iald (g := 12) (i := 48) hx hb hI (mokX (by decide) (by decide)) rfl hi dX12_takes_51 ?_
        refine lv_iconst (v := 1) hx hb dX12_takes_52 (by decide) ?_
        refine lv_isub hx hb dX12_takes_53 ?_
        obtain ⟨hi, hf⟩ := mix_e hf
        obtain ⟨M6, eM6, hf⟩ := mlet_e hf
        refine m_iast (g := 12) (i := 48) (M1 := M6) hx hb hI (mokX (by decide) (by decide)) rfl hi eM6 dX12_takes_54 (fun H locs hI => ?_)
        refine lv_iload_n hx hb dX12_takes_55 rfl (lv_at hl 0 rfl) ?_
        refine lv_istore_n (lv' := [(3, .int r4), (2, .int r4), (0, .ref (w.1 12 47)), (1, .int a1)]) hx hb dX12_takes_56 rfl hl (by decide) rfl (fun ls hl => ?_)
        have hL57 : ∀ (n : Nat) (x7 : Int32) (M8 : Mem) (kk : Mem → Option (Int32 × Mem)) (H : Heap) (locs : List Loc) (ls : Array Slot), f_X12_takes_L57 n x7 M8 kk = some (r, M9) → mI w s (mA w s.heap.size) H locs M8 → lv_has ls 4 [(0, .ref (w.1 12 47)), (3, .int x7)] → (∀  (M8 : Mem) (H : Heap) (locs : List Loc) (ls : Array Slot), kk M8 = some (r, M9) → mI w s (mA w s.heap.size) H locs M8 → lv_has ls 4 [(0, .ref (w.1 12 47))] → W p l e rmX12_takes s m args below meth c H locs 0 0 (MQ below (mQ w s.heap.size (some (.int r)) M9) args s 0 0 (mA w s.heap.size)) (F0 m 94 ls [])) → W p l e rmX12_takes s m args below meth c H locs 0 0 (MQ below (mQ w s.heap.size (some (.int r)) M9) args s 0 0 (mA w s.heap.size)) (F0 m 57 ls []) := by
          intro n
          induction n with
          | zero => intro x7 M8 kk H locs ls hf hI hl hk; rw [f_X12_takes_L57.eq_1] at hf; cases hf
          | succ n ih57 =>
            intro x7 M8 kk H locs ls hf hI hl hk
            rw [f_X12_takes_L57.eq_2] at hf
            refine lv_iload_n hx hb dX12_takes_57 rfl (lv_at hl 1 rfl) ?_
            refine lv_aload_n hx hb dX12_takes_58 rfl (lv_at hl 0 rfl) ?_
            refine m_get (g := 12) (i := 47) (ci := 10) (k := 1) (v := .ref (w.1 12 48)) hx hb hI hown (mokX (by decide) (by decide)) rfl rfl (by decide) lyX12 (q1427 hI.T) rfl dX12_takes_59 ?_
            refine lv_bipush (v := 9) hx hb dX12_takes_62 (by decide) ?_
            obtain ⟨hi, hf⟩ := mix_e hf
            refine m_iald (g := 12) (i := 48) hx hb hI (mokX (by decide) (by decide)) rfl hi dX12_takes_64 ?_
            refine lv_icmp_ge (tgt := 94) hx hb dX12_takes_65 (by decide) (fun c9 => ?_) (fun c9 => ?_)
            · have hf := (if_pos c9).symm.trans hf
              exact hk M8 H _ _ hf hI (lv_sub hl [0] rfl)
            · have hf := (if_neg c9).symm.trans hf
              refine lv_aload_n hx hb dX12_takes_68 rfl (lv_at hl 0 rfl) ?_
              refine m_get (g := 12) (i := 47) (ci := 10) (k := 1) (v := .ref (w.1 12 48)) hx hb hI hown (mokX (by decide) (by decide)) rfl rfl (by decide) lyX12 (q1427 hI.T) rfl dX12_takes_69 ?_
              refine lv_bipush (v := 23) hx hb dX12_takes_72 (by decide) ?_
              refine lv_iload_n hx hb dX12_takes_74 rfl (lv_at hl 1 rfl) ?_
              refine lv_iadd hx hb dX12_takes_75 ?_
              refine lv_aload_n hx hb dX12_takes_76 rfl (lv_at hl 0 rfl) ?_
              refine m_get (g := 12) (i := 47) (ci := 10) (k := 1) (v := .ref (w.1 12 48)) hx hb hI hown (mokX (by decide) (by decide)) rfl rfl (by decide) lyX12 (q1427 hI.T) rfl dX12_takes_77 ?_
              refine lv_bipush (v := 23) hx hb dX12_takes_80 (by decide) ?_
              refine lv_iload_n hx hb dX12_takes_82 rfl (lv_at hl 1 rfl) ?_
              refine lv_iadd hx hb dX12_takes_83 ?_
              refine lv_iconst (v := 1) hx hb dX12_takes_84 (by decide) ?_
              refine lv_iadd hx hb dX12_takes_85 ?_
              obtain ⟨hi, hf⟩ := mix_e hf
              refine m_iald (g := 12) (i := 48) hx hb hI (mokX (by decide) (by decide)) rfl hi dX12_takes_86 ?_
              obtain ⟨hi, hf⟩ := mix_e hf
              obtain ⟨M10, eM10, hf⟩ := mlet_e hf
              refine m_iast (g := 12) (i := 48) (M1 := M10) hx hb hI (mokX (by decide) (by decide)) rfl hi eM10 dX12_takes_87 (fun H locs hI => ?_)
              obtain ⟨x11, ex11, hf⟩ := mlet_e hf
              refine lv_iinc (v := x11) (lv' := [(3, .int x11), (0, .ref (w.1 12 47))]) hx hb dX12_takes_88 hl (k := 1) rfl (by rw [ex11]; rfl) (by decide) rfl (fun ls hl => ?_)
              refine lv_goto (tgt := 57) hx hb dX12_takes_91 (by decide) ?_
              exact ih57 x11 M10 kk H _ _ hf hI (lv_sub hl [1, 0] rfl) hk
        refine hL57 1000 r4 M6 _ _ _ _ hf hI (lv_sub hl [2, 0] rfl) ?_
        intro M12 H locs ls hf hI hl
        try dsimp only at hf
        refine lv_aload_n hx hb dX12_takes_94 rfl (lv_at hl 0 rfl) ?_
        refine m_get (g := 12) (i := 47) (ci := 10) (k := 1) (v := .ref (w.1 12 48)) hx hb hI hown (mokX (by decide) (by decide)) rfl rfl (by decide) lyX12 (q1427 hI.T) rfl dX12_takes_95 ?_
        refine lv_bipush (v := 23) hx hb dX12_takes_98 (by decide) ?_
        refine lv_aload_n hx hb dX12_takes_100 rfl (lv_at hl 0 rfl) ?_
        refine m_get (g := 12) (i := 47) (ci := 10) (k := 1) (v := .ref (w.1 12 48)) hx hb hI hown (mokX (by decide) (by decide)) rfl rfl (by decide) lyX12 (q1427 hI.T) rfl dX12_takes_101 ?_
        refine lv_bipush (v := 9) hx hb dX12_takes_104 (by decide) ?_
        obtain ⟨hi, hf⟩ := mix_e hf
        refine m_iald (g := 12) (i := 48) hx hb hI (mokX (by decide) (by decide)) rfl hi dX12_takes_106 ?_
        refine lv_iadd hx hb dX12_takes_107 ?_
        refine lv_iconst (v := 0) hx hb dX12_takes_108 (by decide) ?_
        obtain ⟨hi, hf⟩ := mix_e hf
        obtain ⟨M13, eM13, hf⟩ := mlet_e hf
        refine m_iast (g := 12) (i := 48) (M1 := M13) hx hb hI (mokX (by decide) (by decide)) rfl hi eM13 dX12_takes_109 (fun H locs hI => ?_)
        refine lv_aload_n hx hb dX12_takes_110 rfl (lv_at hl 0 rfl) ?_
        refine lv_aload_n hx hb dX12_takes_111 rfl (lv_at hl 0 rfl) ?_
        refine m_get (g := 12) (i := 47) (ci := 10) (k := 1) (v := .ref (w.1 12 48)) hx hb hI hown (mokX (by decide) (by decide)) rfl rfl (by decide) lyX12 (q1427 hI.T) rfl dX12_takes_112 ?_
        refine lv_bipush (v := 9) hx hb dX12_takes_115 (by decide) ?_
        obtain ⟨hi, hf⟩ := mix_e hf
        refine m_iald (g := 12) (i := 48) hx hb hI (mokX (by decide) (by decide)) rfl hi dX12_takes_117 ?_
        obtain ⟨r14, M15, hc, hf⟩ := mbnd_e hf
        refine m_callV (As := [.int (M13 12 48 (9 : Int32).toNatClampNeg)]) (rest := []) hx hb hml hown hI (c_X12_done l w H.size (M13 12 48 (9 : Int32).toNatClampNeg) M13 _ _ hc) (kb_X12_done hI.T (q1520 hI.T) (Nat.le_of_ble_eq_true rfl) (Nat.le_of_ble_eq_true rfl)) (q1522 hI.T) (sel_X12_done hI.T) (m_recv (g := 12) (i := 47) hI (mokX (by decide) (by decide)) rfl rfl) rfl hl.1 (Nat.le_of_ble_eq_true rfl) dX12_takes_118 ⟨Nat.le_of_ble_eq_true rfl, Nat.le_of_ble_eq_true rfl⟩ (fun H locs hI => ?_)
        exact m_iretf hx hb hr hlk hI hf dX12_takes_121
      · have hf := (if_pos c5).symm.trans hf
        refine lv_aload_n hx hb dX12_takes_37 rfl (lv_at hl 1 rfl) ?_
        refine lv_iconst (v := 5) hx hb dX12_takes_38 (by decide) ?_
        refine lv_iload_n hx hb dX12_takes_39 rfl (lv_at hl 2 rfl) ?_
        obtain ⟨r16, M17, hc, hf⟩ := mbnd_e hf
        refine m_callV (As := [.int (5 : Int32), .int a1]) (rest := []) hx hb hml hown hI (c_X12_refused l w H.size (5 : Int32) a1 M _ _ hc) (kb_X12_refused hI.T (q1512 hI.T) (Nat.le_of_ble_eq_true rfl) (Nat.le_of_ble_eq_true rfl)) (q1514 hI.T) (sel_X12_refused hI.T) (m_recv (g := 12) (i := 47) hI (mokX (by decide) (by decide)) rfl rfl) rfl hl.1 (Nat.le_of_ble_eq_true rfl) dX12_takes_40 ⟨Nat.le_of_ble_eq_true rfl, Nat.le_of_ble_eq_true rfl⟩ (fun H locs hI => ?_)
        exact m_iretf hx hb hr hlk hI hf dX12_takes_43
    · have hf := (if_pos c3).symm.trans hf
      refine lv_aload_n hx hb dX12_takes_19 rfl (lv_at hl 0 rfl) ?_
      refine lv_iconst (v := 3) hx hb dX12_takes_20 (by decide) ?_
      refine lv_iconst (v := 0) hx hb dX12_takes_21 (by decide) ?_
      obtain ⟨r18, M19, hc, hf⟩ := mbnd_e hf
      refine m_callV (As := [.int (3 : Int32), .int (0 : Int32)]) (rest := []) hx hb hml hown hI (c_X12_refused l w H.size (3 : Int32) (0 : Int32) M _ _ hc) (kb_X12_refused hI.T (q1512 hI.T) (Nat.le_of_ble_eq_true rfl) (Nat.le_of_ble_eq_true rfl)) (q1514 hI.T) (sel_X12_refused hI.T) (m_recv (g := 12) (i := 47) hI (mokX (by decide) (by decide)) rfl rfl) rfl hl.1 (Nat.le_of_ble_eq_true rfl) dX12_takes_22 ⟨Nat.le_of_ble_eq_true rfl, Nat.le_of_ble_eq_true rfl⟩ (fun H locs hI => ?_)
      exact m_iretf hx hb hr hlk hI hf dX12_takes_25
  · have hf := (if_pos c2).symm.trans hf
    refine lv_iconst (v := 1) hx hb dX12_takes_8 (by decide) ?_
    exact m_iretf hx hb hr hlk hI hf dX12_takes_9
abbrev rmX12_tries : Room := { frames := 3, cells := 0, slots := 0, locals := 70 }
theorem kb_X12_tries {R : Room} {s : State} {args : Array Value} {own : String} {idx : Nat} (hT : mT s) (hlink : (Cond.methodLink own idx yX12_tries).before args s = true) (h1 : rmX12_tries.frames + 1 ≤ R.frames) (h2 : 8 + (2 + 11) + rmX12_tries.locals ≤ R.locals) : CallB R s args own idx yX12_tries cX12_tries 2 (some .int) [Cond.code yX12_tries cX12_tries 2 (some .int)] rmX12_tries 0 0 0 := m_callB hT kc_X12_tries ki_X12_tries hlink (by decide +kernel) ⟨rfl, rfl, h1, h2⟩
set_option maxHeartbeats 4000000 in
set_option maxRecDepth 100000 in
theorem c_X12_tries (l : Launch) (w : WD) (sz : Nat)  (M : Mem) (r : Int32) (M9 : Mem) (hf : f_X12_tries  M = some (r, M9)) : mMet l yX12_tries cX12_tries 2 (some .int) rmX12_tries w sz M [.ref (w.1 12 47)] (some (.int r)) M9 := by
  refine m_of (by decide) (Nat.le_of_ble_eq_true rfl) ?_
  intro p e s m args below meth c hx hb hr hml hown hlk hI ls hl
  have hl : lv_has ls 2 [(0, .ref (w.1 12 47))] := hl
  unfold f_X12_tries at hf
  refine lv_aload_n hx hb dX12_tries_0 rfl (lv_at hl 0 rfl) ?_
  refine m_get (g := 12) (i := 47) (ci := 10) (k := 1) (v := .ref (w.1 12 48)) hx hb hI hown (mokX (by decide) (by decide)) rfl rfl (by decide) lyX12 (q1427 hI.T) rfl dX12_tries_1 ?_
  refine lv_iconst (v := 1) hx hb dX12_tries_4 (by decide) ?_
  obtain ⟨hi, hf⟩ := mix_e hf
  refine m_iald (g := 12) (i := 48) hx hb hI (mokX (by decide) (by decide)) rfl hi dX12_tries_5 ?_
  refine lv_if_ne (tgt := 16) hx hb dX12_tries_6 (by decide) (fun c1 => ?_) (fun c1 => ?_)
  · have hf := (if_neg c1).symm.trans hf
    refine lv_aload_n hx hb dX12_tries_16 rfl (lv_at hl 0 rfl) ?_
    refine m_get (g := 12) (i := 47) (ci := 10) (k := 1) (v := .ref (w.1 12 48)) hx hb hI hown (mokX (by decide) (by decide)) rfl rfl (by decide) lyX12 (q1427 hI.T) rfl dX12_tries_17 ?_
    refine lv_bipush (v := 6) hx hb dX12_tries_20 (by decide) ?_
    obtain ⟨hi, hf⟩ := mix_e hf
    refine m_iald (g := 12) (i := 48) hx hb hI (mokX (by decide) (by decide)) rfl hi dX12_tries_22 ?_
    refine lv_iconst (v := 1) hx hb dX12_tries_23 (by decide) ?_
    refine lv_icmp_ne (tgt := 41) hx hb dX12_tries_24 (by decide) (fun c2 => ?_) (fun c2 => ?_)
    · have hf := (if_neg c2).symm.trans hf
      refine lv_aload_n hx hb dX12_tries_41 rfl (lv_at hl 0 rfl) ?_
      refine m_get (g := 12) (i := 47) (ci := 10) (k := 1) (v := .ref (w.1 12 48)) hx hb hI hown (mokX (by decide) (by decide)) rfl rfl (by decide) lyX12 (q1427 hI.T) rfl dX12_tries_42 ?_
      refine lv_bipush (v := 7) hx hb dX12_tries_45 (by decide) ?_
      obtain ⟨hi, hf⟩ := mix_e hf
      refine m_iald (g := 12) (i := 48) hx hb hI (mokX (by decide) (by decide)) rfl hi dX12_tries_47 ?_
      refine lv_if_le (tgt := 65) hx hb dX12_tries_48 (by decide) (fun c3 => ?_) (fun c3 => ?_)
      · have hf := (if_pos c3).symm.trans hf
        refine lv_aload_n hx hb dX12_tries_65 rfl (lv_at hl 0 rfl) ?_
        refine m_get (g := 12) (i := 47) (ci := 10) (k := 1) (v := .ref (w.1 12 48)) hx hb hI hown (mokX (by decide) (by decide)) rfl rfl (by decide) lyX12 (q1427 hI.T) rfl dX12_tries_66 ?_
        refine lv_bipush (v := 9) hx hb dX12_tries_69 (by decide) ?_
        obtain ⟨hi, hf⟩ := mix_e hf
        refine m_iald (g := 12) (i := 48) hx hb hI (mokX (by decide) (by decide)) rfl hi dX12_tries_71 ?_
        refine lv_aload_n hx hb dX12_tries_72 rfl (lv_at hl 0 rfl) ?_
        refine m_get (g := 12) (i := 47) (ci := 10) (k := 1) (v := .ref (w.1 12 48)) hx hb hI hown (mokX (by decide) (by decide)) rfl rfl (by decide) lyX12 (q1427 hI.T) rfl dX12_tries_73 ?_
        refine lv_iconst (v := 5) hx hb dX12_tries_76 (by decide) ?_
        obtain ⟨hi, hf⟩ := mix_e hf
        refine m_iald (g := 12) (i := 48) hx hb hI (mokX (by decide) (by decide)) rfl hi dX12_tries_77 ?_
        refine lv_icmp_ge (tgt := 102) hx hb dX12_tries_78 (by decide) (fun c4 => ?_) (fun c4 => ?_)
        · have hf := (if_pos c4).symm.trans hf
          refine lv_aload_n hx hb dX12_tries_102 rfl (lv_at hl 0 rfl) ?_
          refine lv_iconst (v := 0) hx hb dX12_tries_103 (by decide) ?_
          obtain ⟨r5, hc, hf⟩ := mbp_e hf
          refine m_callV (As := [.int (0 : Int32)]) (rest := []) hx hb hml hown hI (c_X12_isIn l w s.heap.size (0 : Int32) M _ hc) (kb_X12_isIn hI.T (q1591 hI.T) (Nat.le_of_ble_eq_true rfl) (Nat.le_of_ble_eq_true rfl)) (q1593 hI.T) (sel_X12_isIn hI.T) (m_recv (g := 12) (i := 47) hI (mokX (by decide) (by decide)) rfl rfl) rfl hl.1 (Nat.le_of_ble_eq_true rfl) dX12_tries_104 ⟨Nat.le_of_ble_eq_true rfl, Nat.le_of_ble_eq_true rfl⟩ (fun H locs hI => ?_)
          refine lv_if_ne (tgt := 124) hx hb dX12_tries_107 (by decide) (fun c6 => ?_) (fun c6 => ?_)
          · have hf := (if_neg c6).symm.trans hf
            refine lv_aload_n hx hb dX12_tries_124 rfl (lv_at hl 0 rfl) ?_
            obtain ⟨r7, M8, hc, hf⟩ := mbnd_e hf
            refine m_callV (As := []) (rest := []) hx hb hml hown hI (c_X12_takesFirst l w H.size M _ _ hc) (kb_X12_takesFirst hI.T (q1599 hI.T) (Nat.le_of_ble_eq_true rfl) (Nat.le_of_ble_eq_true rfl)) (q1601 hI.T) (sel_X12_takesFirst hI.T) (m_recv (g := 12) (i := 47) hI (mokX (by decide) (by decide)) rfl rfl) rfl hl.1 (Nat.le_of_ble_eq_true rfl) dX12_tries_125 ⟨Nat.le_of_ble_eq_true rfl, Nat.le_of_ble_eq_true rfl⟩ (fun H locs hI => ?_)
            refine lv_aload_n hx hb dX12_tries_128 rfl (lv_at hl 0 rfl) ?_
            obtain ⟨r9, hc, hf⟩ := mbp_e hf
            refine m_callV (As := []) (rest := []) hx hb hml hown hI (c_X12_onIt l w H.size M8 _ hc) (kb_X12_onIt hI.T (q1603 hI.T) (Nat.le_of_ble_eq_true rfl) (Nat.le_of_ble_eq_true rfl)) (q1605 hI.T) (sel_X12_onIt hI.T) (m_recv (g := 12) (i := 47) hI (mokX (by decide) (by decide)) rfl rfl) rfl hl.1 (Nat.le_of_ble_eq_true rfl) dX12_tries_129 ⟨Nat.le_of_ble_eq_true rfl, Nat.le_of_ble_eq_true rfl⟩ (fun H locs hI => ?_)
            refine lv_aload_n hx hb dX12_tries_132 rfl (lv_at hl 0 rfl) ?_
            refine m_get (g := 12) (i := 47) (ci := 10) (k := 1) (v := .ref (w.1 12 48)) hx hb hI hown (mokX (by decide) (by decide)) rfl rfl (by decide) lyX12 (q1427 hI.T) rfl dX12_tries_133 ?_
            refine lv_bipush (v := 9) hx hb dX12_tries_136 (by decide) ?_
            obtain ⟨hi, hf⟩ := mix_e hf
            refine m_iald (g := 12) (i := 48) hx hb hI (mokX (by decide) (by decide)) rfl hi dX12_tries_138 ?_
            obtain ⟨k161_15, ek161_15, hf⟩ := mlet_e hf
            have hj161_15 : ∀ (x14 : Int32) (H : Heap) (locs : List Loc) (ls : Array Slot), k161_15 x14 = some (r, M9) → mI w s (mA w s.heap.size) H locs M8 → lv_has ls 2 [(0, .ref (w.1 12 47))] → W p l e rmX12_tries s m args below meth c H locs 0 0 (MQ below (mQ w s.heap.size (some (.int r)) M9) args s 0 0 (mA w s.heap.size)) (F0 m 161 ls [.int x14]) := by
              intro x14 H locs ls hf hI hl
              rw [ek161_15] at hf
              try dsimp only at hf
              refine lv_istore_n (lv' := [(1, .int x14), (0, .ref (w.1 12 47))]) hx hb dX12_tries_161 rfl hl (by decide) rfl (fun ls hl => ?_)
              refine lv_aload_n hx hb dX12_tries_162 rfl (lv_at hl 1 rfl) ?_
              refine lv_iload_n hx hb dX12_tries_163 rfl (lv_at hl 0 rfl) ?_
              obtain ⟨k174_18, ek174_18, hf⟩ := mlet_e hf
              have hj174_18 : ∀ (x17 : Int32) (H : Heap) (locs : List Loc) (ls : Array Slot), k174_18 x17 = some (r, M9) → mI w s (mA w s.heap.size) H locs M8 → lv_has ls 2 [(0, .ref (w.1 12 47)), (1, .int x14)] → W p l e rmX12_tries s m args below meth c H locs 0 0 (MQ below (mQ w s.heap.size (some (.int r)) M9) args s 0 0 (mA w s.heap.size)) (F0 m 174 ls [.int x17, .ref (w.1 12 47)]) := by
                intro x17 H locs ls hf hI hl
                rw [ek174_18] at hf
                try dsimp only at hf
                refine lv_aload_n hx hb dX12_tries_174 rfl (lv_at hl 0 rfl) ?_
                refine m_get (g := 12) (i := 47) (ci := 10) (k := 1) (v := .ref (w.1 12 48)) hx hb hI hown (mokX (by decide) (by decide)) rfl rfl (by decide) lyX12 (q1427 hI.T) rfl dX12_tries_175 ?_
                refine lv_bipush (v := 9) hx hb dX12_tries_178 (by decide) ?_
                obtain ⟨hi, hf⟩ := mix_e hf
                refine m_iald (g := 12) (i := 48) hx hb hI (mokX (by decide) (by decide)) rfl hi dX12_tries_180 ?_
                obtain ⟨r19, M20, hc, hf⟩ := mbnd_e hf
                refine m_callV (As := [.int x17, .int (M8 12 48 (9 : Int32).toNatClampNeg)]) (rest := []) hx hb hml hown hI (c_X12_logs l w H.size x17 (M8 12 48 (9 : Int32).toNatClampNeg) M8 _ _ hc) (kb_X12_logs hI.T (q1614 hI.T) (Nat.le_of_ble_eq_true rfl) (Nat.le_of_ble_eq_true rfl)) (q1616 hI.T) (sel_X12_logs hI.T) (m_recv (g := 12) (i := 47) hI (mokX (by decide) (by decide)) rfl rfl) rfl hl.1 (Nat.le_of_ble_eq_true rfl) dX12_tries_181 ⟨Nat.le_of_ble_eq_true rfl, Nat.le_of_ble_eq_true rfl⟩ (fun H locs hI => ?_)
                refine lv_aload_n hx hb dX12_tries_184 rfl (lv_at hl 0 rfl) ?_
                refine m_get (g := 12) (i := 47) (ci := 10) (k := 1) (v := .ref (w.1 12 48)) hx hb hI hown (mokX (by decide) (by decide)) rfl rfl (by decide) lyX12 (q1427 hI.T) rfl dX12_tries_185 ?_
                refine lv_bipush (v := 8) hx hb dX12_tries_188 (by decide) ?_
                refine lv_iload_n hx hb dX12_tries_190 rfl (lv_at hl 1 rfl) ?_
                obtain ⟨k207_23, ek207_23, hf⟩ := mlet_e hf
                have hj207_23 : ∀ (x22 : Int32) (H : Heap) (locs : List Loc) (ls : Array Slot), k207_23 x22 = some (r, M9) → mI w s (mA w s.heap.size) H locs M20 → lv_has ls 2 [(0, .ref (w.1 12 47)), (1, .int x14)] → W p l e rmX12_tries s m args below meth c H locs 0 0 (MQ below (mQ w s.heap.size (some (.int r)) M9) args s 0 0 (mA w s.heap.size)) (F0 m 207 ls [.int x22, .int (8 : Int32), .ref (w.1 12 48)]) := by
                  intro x22 H locs ls hf hI hl
                  rw [ek207_23] at hf
                  try dsimp only at hf
                  obtain ⟨hi, hf⟩ := mix_e hf
                  obtain ⟨M24, eM24, hf⟩ := mlet_e hf
                  refine m_iast (g := 12) (i := 48) (M1 := M24) hx hb hI (mokX (by decide) (by decide)) rfl hi eM24 dX12_tries_207 (fun H locs hI => ?_)
                  refine lv_iload_n hx hb dX12_tries_208 rfl (lv_at hl 1 rfl) ?_
                  obtain ⟨k231_29, ek231_29, hf⟩ := mlet_e hf
                  have hj231_29 : ∀ (M28 : Mem) (H : Heap) (locs : List Loc) (ls : Array Slot), k231_29 M28 = some (r, M9) → mI w s (mA w s.heap.size) H locs M28 → lv_has ls 2 [(0, .ref (w.1 12 47)), (1, .int x14)] → W p l e rmX12_tries s m args below meth c H locs 0 0 (MQ below (mQ w s.heap.size (some (.int r)) M9) args s 0 0 (mA w s.heap.size)) (F0 m 231 ls []) := by
                    intro M28 H locs ls hf hI hl
                    rw [ek231_29] at hf
                    try dsimp only at hf
                    refine lv_aload_n hx hb dX12_tries_231 rfl (lv_at hl 0 rfl) ?_
                    refine m_get (g := 12) (i := 47) (ci := 10) (k := 1) (v := .ref (w.1 12 48)) hx hb hI hown (mokX (by decide) (by decide)) rfl rfl (by decide) lyX12 (q1427 hI.T) rfl dX12_tries_232 ?_
                    refine lv_bipush (v := 8) hx hb dX12_tries_235 (by decide) ?_
                    obtain ⟨hi, hf⟩ := mix_e hf
                    refine m_iald (g := 12) (i := 48) hx hb hI (mokX (by decide) (by decide)) rfl hi dX12_tries_237 ?_
                    refine lv_iconst (v := 3) hx hb dX12_tries_238 (by decide) ?_
                    obtain ⟨k259_34, ek259_34, hf⟩ := mlet_e hf
                    have hj259_34 : ∀ (M33 : Mem) (H : Heap) (locs : List Loc) (ls : Array Slot), k259_34 M33 = some (r, M9) → mI w s (mA w s.heap.size) H locs M33 → lv_has ls 2 [(0, .ref (w.1 12 47)), (1, .int x14)] → W p l e rmX12_tries s m args below meth c H locs 0 0 (MQ below (mQ w s.heap.size (some (.int r)) M9) args s 0 0 (mA w s.heap.size)) (F0 m 259 ls []) := by
                      intro M33 H locs ls hf hI hl
                      rw [ek259_34] at hf
                      try dsimp only at hf
                      refine lv_aload_n hx hb dX12_tries_259 rfl (lv_at hl 0 rfl) ?_
                      refine lv_iload_n hx hb dX12_tries_260 rfl (lv_at hl 1 rfl) ?_
                      obtain ⟨k269_37, ek269_37, hf⟩ := mlet_e hf
                      have hj269_37 : ∀ (x36 : Int32) (H : Heap) (locs : List Loc) (ls : Array Slot), k269_37 x36 = some (r, M9) → mI w s (mA w s.heap.size) H locs M33 → lv_has ls 2 [] → W p l e rmX12_tries s m args below meth c H locs 0 0 (MQ below (mQ w s.heap.size (some (.int r)) M9) args s 0 0 (mA w s.heap.size)) (F0 m 269 ls [.int x36, .ref (w.1 12 47)]) := by
                        intro x36 H locs ls hf hI hl
                        rw [ek269_37] at hf
                        try dsimp only at hf
                        obtain ⟨r38, M39, hc, hf⟩ := mbnd_e hf
                        refine m_callV (As := [.int x36]) (rest := []) hx hb hml hown hI (c_X12_done l w H.size x36 M33 _ _ hc) (kb_X12_done hI.T (q1520 hI.T) (Nat.le_of_ble_eq_true rfl) (Nat.le_of_ble_eq_true rfl)) (q1522 hI.T) (sel_X12_done hI.T) (m_recv (g := 12) (i := 47) hI (mokX (by decide) (by decide)) rfl rfl) rfl hl.1 (Nat.le_of_ble_eq_true rfl) dX12_tries_269 ⟨Nat.le_of_ble_eq_true rfl, Nat.le_of_ble_eq_true rfl⟩ (fun H locs hI => ?_)
                        exact m_iretf hx hb hr hlk hI hf dX12_tries_272
                      refine lv_if_eq (tgt := 268) hx hb dX12_tries_261 (by decide) (fun c35 => ?_) (fun c35 => ?_)
                      · have hf := (if_pos c35).symm.trans hf
                        refine lv_iconst (v := 0) hx hb dX12_tries_268 (by decide) ?_
                        exact hj269_37 (0 : Int32) H _ _ hf hI (lv_sub hl [] rfl)
                      · have hf := (if_neg c35).symm.trans hf
                        refine lv_iconst (v := 1) hx hb dX12_tries_264 (by decide) ?_
                        refine lv_goto (tgt := 269) hx hb dX12_tries_265 (by decide) ?_
                        exact hj269_37 (1 : Int32) H _ _ hf hI (lv_sub hl [] rfl)
                    refine lv_icmp_ne (tgt := 259) hx hb dX12_tries_239 (by decide) (fun c30 => ?_) (fun c30 => ?_)
                    · have hf := (if_neg c30).symm.trans hf
                      exact hj259_34 M28 H _ _ hf hI (lv_sub hl [0, 1] rfl)
                    · have hf := (if_pos c30).symm.trans hf
                      refine lv_aload_n hx hb dX12_tries_242 rfl (lv_at hl 0 rfl) ?_
                      refine m_get (g := 12) (i := 47) (ci := 10) (k := 1) (v := .ref (w.1 12 48)) hx hb hI hown (mokX (by decide) (by decide)) rfl rfl (by decide) lyX12 (q1427 hI.T) rfl dX12_tries_243 ?_
                      refine lv_bipush (v := 8) hx hb dX12_tries_246 (by decide) ?_
                      refine lv_iconst (v := 0) hx hb dX12_tries_248 (by decide) ?_
                      obtain ⟨hi, hf⟩ := mix_e hf
                      obtain ⟨M31, eM31, hf⟩ := mlet_e hf
                      refine m_iast (g := 12) (i := 48) (M1 := M31) hx hb hI (mokX (by decide) (by decide)) rfl hi eM31 dX12_tries_249 (fun H locs hI => ?_)
                      refine lv_aload_n hx hb dX12_tries_250 rfl (lv_at hl 0 rfl) ?_
                      refine m_get (g := 12) (i := 47) (ci := 10) (k := 1) (v := .ref (w.1 12 48)) hx hb hI hown (mokX (by decide) (by decide)) rfl rfl (by decide) lyX12 (q1427 hI.T) rfl dX12_tries_251 ?_
                      refine lv_bipush (v := 7) hx hb dX12_tries_254 (by decide) ?_
                      refine lv_bipush (v := 6) hx hb dX12_tries_256 (by decide) ?_
                      obtain ⟨hi, hf⟩ := mix_e hf
                      obtain ⟨M32, eM32, hf⟩ := mlet_e hf
                      refine m_iast (g := 12) (i := 48) (M1 := M32) hx hb hI (mokX (by decide) (by decide)) rfl hi eM32 dX12_tries_258 (fun H locs hI => ?_)
                      exact hj259_34 M32 H _ _ hf hI (lv_sub hl [0, 1] rfl)
                  refine lv_if_eq (tgt := 231) hx hb dX12_tries_209 (by decide) (fun c25 => ?_) (fun c25 => ?_)
                  · have hf := (if_pos c25).symm.trans hf
                    exact hj231_29 M24 H _ _ hf hI (lv_sub hl [0, 1] rfl)
                  · have hf := (if_neg c25).symm.trans hf
                    refine lv_aload_n hx hb dX12_tries_212 rfl (lv_at hl 0 rfl) ?_
                    refine m_get (g := 12) (i := 47) (ci := 10) (k := 1) (v := .ref (w.1 12 48)) hx hb hI hown (mokX (by decide) (by decide)) rfl rfl (by decide) lyX12 (q1427 hI.T) rfl dX12_tries_213 ?_
                    refine lv_bipush (v := 6) hx hb dX12_tries_216 (by decide) ?_
                    refine lv_iconst (v := 1) hx hb dX12_tries_218 (by decide) ?_
                    obtain ⟨hi, hf⟩ := mix_e hf
                    obtain ⟨M26, eM26, hf⟩ := mlet_e hf
                    refine m_iast (g := 12) (i := 48) (M1 := M26) hx hb hI (mokX (by decide) (by decide)) rfl hi eM26 dX12_tries_219 (fun H locs hI => ?_)
                    refine lv_aload_n hx hb dX12_tries_220 rfl (lv_at hl 0 rfl) ?_
                    refine m_get (g := 12) (i := 47) (ci := 10) (k := 1) (v := .ref (w.1 12 48)) hx hb hI hown (mokX (by decide) (by decide)) rfl rfl (by decide) lyX12 (q1427 hI.T) rfl dX12_tries_221 ?_
                    refine lv_bipush (v := 12) hx hb dX12_tries_224 (by decide) ?_
                    refine lv_dup2_11 hx hb dX12_tries_226 rfl rfl ?_
                    obtain ⟨hi, hf⟩ := mix_e hf
                    refine m_iald (g := 12) (i := 48) hx hb hI (mokX (by decide) (by decide)) rfl hi dX12_tries_227 ?_
                    refine lv_iconst (v := 1) hx hb dX12_tries_228 (by decide) ?_
                    refine lv_iadd hx hb dX12_tries_229 ?_
                    obtain ⟨hi, hf⟩ := mix_e hf
                    obtain ⟨M27, eM27, hf⟩ := mlet_e hf
                    refine m_iast (g := 12) (i := 48) (M1 := M27) hx hb hI (mokX (by decide) (by decide)) rfl hi eM27 dX12_tries_230 (fun H locs hI => ?_)
                    exact hj231_29 M27 H _ _ hf hI (lv_sub hl [0, 1] rfl)
                refine lv_if_eq (tgt := 198) hx hb dX12_tries_191 (by decide) (fun c21 => ?_) (fun c21 => ?_)
                · have hf := (if_pos c21).symm.trans hf
                  refine lv_aload_n hx hb dX12_tries_198 rfl (lv_at hl 0 rfl) ?_
                  refine m_get (g := 12) (i := 47) (ci := 10) (k := 1) (v := .ref (w.1 12 48)) hx hb hI hown (mokX (by decide) (by decide)) rfl rfl (by decide) lyX12 (q1427 hI.T) rfl dX12_tries_199 ?_
                  refine lv_bipush (v := 8) hx hb dX12_tries_202 (by decide) ?_
                  obtain ⟨hi, hf⟩ := mix_e hf
                  refine m_iald (g := 12) (i := 48) hx hb hI (mokX (by decide) (by decide)) rfl hi dX12_tries_204 ?_
                  refine lv_iconst (v := 1) hx hb dX12_tries_205 (by decide) ?_
                  refine lv_iadd hx hb dX12_tries_206 ?_
                  exact hj207_23 ((M20 12 48 (8 : Int32).toNatClampNeg) + (1 : Int32)) H _ _ hf hI (lv_sub hl [0, 1] rfl)
                · have hf := (if_neg c21).symm.trans hf
                  refine lv_iconst (v := 0) hx hb dX12_tries_194 (by decide) ?_
                  refine lv_goto (tgt := 207) hx hb dX12_tries_195 (by decide) ?_
                  exact hj207_23 (0 : Int32) H _ _ hf hI (lv_sub hl [0, 1] rfl)
              refine lv_if_eq (tgt := 172) hx hb dX12_tries_164 (by decide) (fun c16 => ?_) (fun c16 => ?_)
              · have hf := (if_pos c16).symm.trans hf
                refine lv_bipush (v := 102) hx hb dX12_tries_172 (by decide) ?_
                exact hj174_18 (102 : Int32) H _ _ hf hI (lv_sub hl [1, 0] rfl)
              · have hf := (if_neg c16).symm.trans hf
                refine lv_bipush (v := 111) hx hb dX12_tries_167 (by decide) ?_
                refine lv_goto (tgt := 174) hx hb dX12_tries_169 (by decide) ?_
                exact hj174_18 (111 : Int32) H _ _ hf hI (lv_sub hl [1, 0] rfl)
            obtain ⟨k160_13, ek160_13, hf⟩ := mlet_e hf
            have hj160_13 : ∀ (_u : Unit) (H : Heap) (locs : List Loc) (ls : Array Slot), k160_13 _u = some (r, M9) → mI w s (mA w s.heap.size) H locs M8 → lv_has ls 2 [(0, .ref (w.1 12 47))] → W p l e rmX12_tries s m args below meth c H locs 0 0 (MQ below (mQ w s.heap.size (some (.int r)) M9) args s 0 0 (mA w s.heap.size)) (F0 m 160 ls []) := by
              intro _u H locs ls hf hI hl
              rw [ek160_13] at hf
              try dsimp only at hf
              refine lv_iconst (v := 0) hx hb dX12_tries_160 (by decide) ?_
              exact hj161_15 (0 : Int32) H _ _ hf hI (lv_sub hl [0] rfl)
            refine lv_icmp_ne (tgt := 160) hx hb dX12_tries_139 (by decide) (fun c10 => ?_) (fun c10 => ?_)
            · have hf := (if_neg c10).symm.trans hf
              exact hj160_13 () H _ _ hf hI (lv_sub hl [0] rfl)
            · have hf := (if_pos c10).symm.trans hf
              refine lv_aload_n hx hb dX12_tries_142 rfl (lv_at hl 0 rfl) ?_
              refine lv_iconst (v := 0) hx hb dX12_tries_143 (by decide) ?_
              obtain ⟨r11, hc, hf⟩ := mbp_e hf
              refine m_callV (As := [.int (0 : Int32)]) (rest := []) hx hb hml hown hI (c_X12_through l w H.size (0 : Int32) M8 _ hc) (kb_X12_through hI.T (q1607 hI.T) (Nat.le_of_ble_eq_true rfl) (Nat.le_of_ble_eq_true rfl)) (q1609 hI.T) (sel_X12_through hI.T) (m_recv (g := 12) (i := 47) hI (mokX (by decide) (by decide)) rfl rfl) rfl hl.1 (Nat.le_of_ble_eq_true rfl) dX12_tries_144 ⟨Nat.le_of_ble_eq_true rfl, Nat.le_of_ble_eq_true rfl⟩ (fun H locs hI => ?_)
              refine lv_aload_n hx hb dX12_tries_147 rfl (lv_at hl 0 rfl) ?_
              refine m_get (g := 12) (i := 47) (ci := 10) (k := 1) (v := .ref (w.1 12 48)) hx hb hI hown (mokX (by decide) (by decide)) rfl rfl (by decide) lyX12 (q1427 hI.T) rfl dX12_tries_148 ?_
              refine lv_iconst (v := 2) hx hb dX12_tries_151 (by decide) ?_
              obtain ⟨hi, hf⟩ := mix_e hf
              refine m_iald (g := 12) (i := 48) hx hb hI (mokX (by decide) (by decide)) rfl hi dX12_tries_152 ?_
              refine lv_icmp_ne (tgt := 160) hx hb dX12_tries_153 (by decide) (fun c12 => ?_) (fun c12 => ?_)
              · have hf := (if_neg c12).symm.trans hf
                exact hj160_13 () H _ _ hf hI (lv_sub hl [0] rfl)
              · have hf := (if_pos c12).symm.trans hf
                refine lv_iconst (v := 1) hx hb dX12_tries_156 (by decide) ?_
                refine lv_goto (tgt := 161) hx hb dX12_tries_157 (by decide) ?_
                exact hj161_15 (1 : Int32) H _ _ hf hI (lv_sub hl [0] rfl)
          · have hf := (if_pos c6).symm.trans hf
            refine lv_aload_n hx hb dX12_tries_110 rfl (lv_at hl 0 rfl) ?_
            refine lv_bipush (v := 9) hx hb dX12_tries_111 (by decide) ?_
            refine lv_aload_n hx hb dX12_tries_113 rfl (lv_at hl 0 rfl) ?_
            refine m_get (g := 12) (i := 47) (ci := 10) (k := 1) (v := .ref (w.1 12 48)) hx hb hI hown (mokX (by decide) (by decide)) rfl rfl (by decide) lyX12 (q1427 hI.T) rfl dX12_tries_114 ?_
            refine lv_bipush (v := 10) hx hb dX12_tries_117 (by decide) ?_
            obtain ⟨hi, hf⟩ := mix_e hf
            refine m_iald (g := 12) (i := 48) hx hb hI (mokX (by decide) (by decide)) rfl hi dX12_tries_119 ?_
            obtain ⟨r40, M41, hc, hf⟩ := mbnd_e hf
            refine m_callV (As := [.int (9 : Int32), .int (M 12 48 (10 : Int32).toNatClampNeg)]) (rest := []) hx hb hml hown hI (c_X12_refused l w H.size (9 : Int32) (M 12 48 (10 : Int32).toNatClampNeg) M _ _ hc) (kb_X12_refused hI.T (q1512 hI.T) (Nat.le_of_ble_eq_true rfl) (Nat.le_of_ble_eq_true rfl)) (q1514 hI.T) (sel_X12_refused hI.T) (m_recv (g := 12) (i := 47) hI (mokX (by decide) (by decide)) rfl rfl) rfl hl.1 (Nat.le_of_ble_eq_true rfl) dX12_tries_120 ⟨Nat.le_of_ble_eq_true rfl, Nat.le_of_ble_eq_true rfl⟩ (fun H locs hI => ?_)
            exact m_iretf hx hb hr hlk hI hf dX12_tries_123
        · have hf := (if_neg c4).symm.trans hf
          refine lv_aload_n hx hb dX12_tries_81 rfl (lv_at hl 0 rfl) ?_
          refine lv_bipush (v := 8) hx hb dX12_tries_82 (by decide) ?_
          refine lv_aload_n hx hb dX12_tries_84 rfl (lv_at hl 0 rfl) ?_
          refine m_get (g := 12) (i := 47) (ci := 10) (k := 1) (v := .ref (w.1 12 48)) hx hb hI hown (mokX (by decide) (by decide)) rfl rfl (by decide) lyX12 (q1427 hI.T) rfl dX12_tries_85 ?_
          refine lv_iconst (v := 5) hx hb dX12_tries_88 (by decide) ?_
          obtain ⟨hi, hf⟩ := mix_e hf
          refine m_iald (g := 12) (i := 48) hx hb hI (mokX (by decide) (by decide)) rfl hi dX12_tries_89 ?_
          refine lv_aload_n hx hb dX12_tries_90 rfl (lv_at hl 0 rfl) ?_
          refine m_get (g := 12) (i := 47) (ci := 10) (k := 1) (v := .ref (w.1 12 48)) hx hb hI hown (mokX (by decide) (by decide)) rfl rfl (by decide) lyX12 (q1427 hI.T) rfl dX12_tries_91 ?_
          refine lv_bipush (v := 9) hx hb dX12_tries_94 (by decide) ?_
          obtain ⟨hi, hf⟩ := mix_e hf
          refine m_iald (g := 12) (i := 48) hx hb hI (mokX (by decide) (by decide)) rfl hi dX12_tries_96 ?_
          refine lv_isub hx hb dX12_tries_97 ?_
          obtain ⟨r42, M43, hc, hf⟩ := mbnd_e hf
          refine m_callV (As := [.int (8 : Int32), .int ((M 12 48 (5 : Int32).toNatClampNeg) - (M 12 48 (9 : Int32).toNatClampNeg))]) (rest := []) hx hb hml hown hI (c_X12_refused l w s.heap.size (8 : Int32) ((M 12 48 (5 : Int32).toNatClampNeg) - (M 12 48 (9 : Int32).toNatClampNeg)) M _ _ hc) (kb_X12_refused hI.T (q1512 hI.T) (Nat.le_of_ble_eq_true rfl) (Nat.le_of_ble_eq_true rfl)) (q1514 hI.T) (sel_X12_refused hI.T) (m_recv (g := 12) (i := 47) hI (mokX (by decide) (by decide)) rfl rfl) rfl hl.1 (Nat.le_of_ble_eq_true rfl) dX12_tries_98 ⟨Nat.le_of_ble_eq_true rfl, Nat.le_of_ble_eq_true rfl⟩ (fun H locs hI => ?_)
          exact m_iretf hx hb hr hlk hI hf dX12_tries_101
      · have hf := (if_neg c3).symm.trans hf
        refine lv_aload_n hx hb dX12_tries_51 rfl (lv_at hl 0 rfl) ?_
        refine lv_bipush (v := 7) hx hb dX12_tries_52 (by decide) ?_
        refine lv_aload_n hx hb dX12_tries_54 rfl (lv_at hl 0 rfl) ?_
        refine m_get (g := 12) (i := 47) (ci := 10) (k := 1) (v := .ref (w.1 12 48)) hx hb hI hown (mokX (by decide) (by decide)) rfl rfl (by decide) lyX12 (q1427 hI.T) rfl dX12_tries_55 ?_
        refine lv_bipush (v := 7) hx hb dX12_tries_58 (by decide) ?_
        obtain ⟨hi, hf⟩ := mix_e hf
        refine m_iald (g := 12) (i := 48) hx hb hI (mokX (by decide) (by decide)) rfl hi dX12_tries_60 ?_
        obtain ⟨r44, M45, hc, hf⟩ := mbnd_e hf
        refine m_callV (As := [.int (7 : Int32), .int (M 12 48 (7 : Int32).toNatClampNeg)]) (rest := []) hx hb hml hown hI (c_X12_refused l w s.heap.size (7 : Int32) (M 12 48 (7 : Int32).toNatClampNeg) M _ _ hc) (kb_X12_refused hI.T (q1512 hI.T) (Nat.le_of_ble_eq_true rfl) (Nat.le_of_ble_eq_true rfl)) (q1514 hI.T) (sel_X12_refused hI.T) (m_recv (g := 12) (i := 47) hI (mokX (by decide) (by decide)) rfl rfl) rfl hl.1 (Nat.le_of_ble_eq_true rfl) dX12_tries_61 ⟨Nat.le_of_ble_eq_true rfl, Nat.le_of_ble_eq_true rfl⟩ (fun H locs hI => ?_)
        exact m_iretf hx hb hr hlk hI hf dX12_tries_64
    · have hf := (if_pos c2).symm.trans hf
      refine lv_aload_n hx hb dX12_tries_27 rfl (lv_at hl 0 rfl) ?_
      refine lv_bipush (v := 6) hx hb dX12_tries_28 (by decide) ?_
      refine lv_aload_n hx hb dX12_tries_30 rfl (lv_at hl 0 rfl) ?_
      refine m_get (g := 12) (i := 47) (ci := 10) (k := 1) (v := .ref (w.1 12 48)) hx hb hI hown (mokX (by decide) (by decide)) rfl rfl (by decide) lyX12 (q1427 hI.T) rfl dX12_tries_31 ?_
      refine lv_bipush (v := 9) hx hb dX12_tries_34 (by decide) ?_
      obtain ⟨hi, hf⟩ := mix_e hf
      refine m_iald (g := 12) (i := 48) hx hb hI (mokX (by decide) (by decide)) rfl hi dX12_tries_36 ?_
      obtain ⟨r46, M47, hc, hf⟩ := mbnd_e hf
      refine m_callV (As := [.int (6 : Int32), .int (M 12 48 (9 : Int32).toNatClampNeg)]) (rest := []) hx hb hml hown hI (c_X12_refused l w s.heap.size (6 : Int32) (M 12 48 (9 : Int32).toNatClampNeg) M _ _ hc) (kb_X12_refused hI.T (q1512 hI.T) (Nat.le_of_ble_eq_true rfl) (Nat.le_of_ble_eq_true rfl)) (q1514 hI.T) (sel_X12_refused hI.T) (m_recv (g := 12) (i := 47) hI (mokX (by decide) (by decide)) rfl rfl) rfl hl.1 (Nat.le_of_ble_eq_true rfl) dX12_tries_37 ⟨Nat.le_of_ble_eq_true rfl, Nat.le_of_ble_eq_true rfl⟩ (fun H locs hI => ?_)
      exact m_iretf hx hb hr hlk hI hf dX12_tries_40
  · have hf := (if_pos c1).symm.trans hf
    refine lv_aload_n hx hb dX12_tries_9 rfl (lv_at hl 0 rfl) ?_
    refine lv_iconst (v := 3) hx hb dX12_tries_10 (by decide) ?_
    refine lv_iconst (v := 0) hx hb dX12_tries_11 (by decide) ?_
    obtain ⟨r48, M49, hc, hf⟩ := mbnd_e hf
    refine m_callV (As := [.int (3 : Int32), .int (0 : Int32)]) (rest := []) hx hb hml hown hI (c_X12_refused l w s.heap.size (3 : Int32) (0 : Int32) M _ _ hc) (kb_X12_refused hI.T (q1512 hI.T) (Nat.le_of_ble_eq_true rfl) (Nat.le_of_ble_eq_true rfl)) (q1514 hI.T) (sel_X12_refused hI.T) (m_recv (g := 12) (i := 47) hI (mokX (by decide) (by decide)) rfl rfl) rfl hl.1 (Nat.le_of_ble_eq_true rfl) dX12_tries_12 ⟨Nat.le_of_ble_eq_true rfl, Nat.le_of_ble_eq_true rfl⟩ (fun H locs hI => ?_)
    exact m_iretf hx hb hr hlk hI hf dX12_tries_15
