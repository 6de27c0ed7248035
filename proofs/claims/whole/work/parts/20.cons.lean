abbrev rmX3_copyFrom : Room := { frames := 0, cells := 0, slots := 0, locals := 0 }
theorem kb_X3_copyFrom {R : Room} {s : State} {args : Array Value} {own : String} {idx : Nat} (hT : mT s) (hlink : (Cond.methodLink own idx yX3_copyFrom).before args s = true) (h1 : rmX3_copyFrom.frames + 1 ≤ R.frames) (h2 : 8 + (2 + 11) + rmX3_copyFrom.locals ≤ R.locals) : CallB R s args own idx yX3_copyFrom cX3_copyFrom 2 (none) [Cond.code yX3_copyFrom cX3_copyFrom 2 (none)] rmX3_copyFrom 0 0 1 := m_callB hT kc_X3_copyFrom ki_X3_copyFrom hlink (by decide +kernel) ⟨rfl, rfl, h1, h2⟩
set_option maxHeartbeats 4000000 in
set_option maxRecDepth 100000 in
theorem c_X3_copyFrom (l : Launch) (w : WD) (sz : Nat) (g : Nat) (hg : g ≤ 10) (g1 : Nat) (hg1 : g1 ≤ 10) (M : Mem) (r : Unit) (M9 : Mem) (hf : f_X3_copyFrom g g1 M = some (r, M9)) : mMet l yX3_copyFrom cX3_copyFrom 2 (none) rmX3_copyFrom w sz M [.ref (w.1 g 5), .ref (w.1 g1 5)] none M9 := by
  refine m_of (by decide) (Nat.le_of_ble_eq_true rfl) ?_
  intro p e s m args below meth c hx hb hr hml hown hlk hI ls hl
  have hl : lv_has ls 2 [(0, .ref (w.1 g 5)), (1, .ref (w.1 g1 5))] := hl
  unfold f_X3_copyFrom at hf
  refine lv_aload_n hx hb dX3_copyFrom_0 rfl (lv_at hl 0 rfl) ?_
  refine lv_aload_n hx hb dX3_copyFrom_1 rfl (lv_at hl 1 rfl) ?_
  refine m_get (g := g1) (i := 5) (ci := 2) (k := 0) (v := .int (M g1 5 0)) hx hb hI hown (mokS hg1 (by decide)) rfl rfl (by decide) lyX3 (q94 hI.T) rfl dX3_copyFrom_2 ?_
  obtain ⟨hz, hf⟩ := mnz_e hf
  obtain ⟨M1, eM1, hf⟩ := mlet_e hf
  refine m_put (g := g) (i := 5) (ci := 2) (k := 0) (ty := .boolean) (M1 := M1) hx hb hI hown (mokS hg (by decide)) rfl rfl (by decide) lyX3 tyX3 tyX3_ok nmX3 (q94 hI.T) rfl rfl (mnz_n hz) (mnz_f hz) (Nat.le_of_ble_eq_true rfl) rfl eM1 dX3_copyFrom_5 (fun H locs hI => ?_)
  refine lv_aload_n hx hb dX3_copyFrom_8 rfl (lv_at hl 0 rfl) ?_
  refine lv_aload_n hx hb dX3_copyFrom_9 rfl (lv_at hl 1 rfl) ?_
  refine m_get (g := g1) (i := 5) (ci := 2) (k := 1) (v := .int (M1 g1 5 1)) hx hb hI hown (mokS hg1 (by decide)) rfl rfl (by decide) lyX3 (q97 hI.T) rfl dX3_copyFrom_10 ?_
  obtain ⟨M2, eM2, hf⟩ := mlet_e hf
  refine m_put (g := g) (i := 5) (ci := 2) (k := 1) (ty := .int) (M1 := M2) hx hb hI hown (mokS hg (by decide)) rfl rfl (by decide) lyX3 tyX3 tyX3_ok nmX3 (q97 hI.T) rfl rfl rfl rfl (Nat.le_of_ble_eq_true rfl) rfl eM2 dX3_copyFrom_13 (fun H locs hI => ?_)
  refine lv_aload_n hx hb dX3_copyFrom_16 rfl (lv_at hl 0 rfl) ?_
  refine lv_aload_n hx hb dX3_copyFrom_17 rfl (lv_at hl 1 rfl) ?_
  refine m_get (g := g1) (i := 5) (ci := 2) (k := 2) (v := .int (M2 g1 5 2)) hx hb hI hown (mokS hg1 (by decide)) rfl rfl (by decide) lyX3 (q100 hI.T) rfl dX3_copyFrom_18 ?_
  obtain ⟨M3, eM3, hf⟩ := mlet_e hf
  refine m_put (g := g) (i := 5) (ci := 2) (k := 2) (ty := .int) (M1 := M3) hx hb hI hown (mokS hg (by decide)) rfl rfl (by decide) lyX3 tyX3 tyX3_ok nmX3 (q100 hI.T) rfl rfl rfl rfl (Nat.le_of_ble_eq_true rfl) rfl eM3 dX3_copyFrom_21 (fun H locs hI => ?_)
  refine lv_aload_n hx hb dX3_copyFrom_24 rfl (lv_at hl 0 rfl) ?_
  refine lv_aload_n hx hb dX3_copyFrom_25 rfl (lv_at hl 1 rfl) ?_
  refine m_get (g := g1) (i := 5) (ci := 2) (k := 3) (v := .int (M3 g1 5 3)) hx hb hI hown (mokS hg1 (by decide)) rfl rfl (by decide) lyX3 (q103 hI.T) rfl dX3_copyFrom_26 ?_
  obtain ⟨M4, eM4, hf⟩ := mlet_e hf
  refine m_put (g := g) (i := 5) (ci := 2) (k := 3) (ty := .int) (M1 := M4) hx hb hI hown (mokS hg (by decide)) rfl rfl (by decide) lyX3 tyX3 tyX3_ok nmX3 (q103 hI.T) rfl rfl rfl rfl (Nat.le_of_ble_eq_true rfl) rfl eM4 dX3_copyFrom_29 (fun H locs hI => ?_)
  exact m_vretf hx hb hr hlk hI hf dX3_copyFrom_32
abbrev rmX3_shutAnew : Room := { frames := 0, cells := 0, slots := 0, locals := 0 }
theorem kb_X3_shutAnew {R : Room} {s : State} {args : Array Value} {own : String} {idx : Nat} (hT : mT s) (hlink : (Cond.methodLink own idx yX3_shutAnew).before args s = true) (h1 : rmX3_shutAnew.frames + 1 ≤ R.frames) (h2 : 8 + (1 + 11) + rmX3_shutAnew.locals ≤ R.locals) : CallB R s args own idx yX3_shutAnew cX3_shutAnew 1 (none) [Cond.code yX3_shutAnew cX3_shutAnew 1 (none)] rmX3_shutAnew 0 0 0 := m_callB hT kc_X3_shutAnew ki_X3_shutAnew hlink (by decide +kernel) ⟨rfl, rfl, h1, h2⟩
set_option maxHeartbeats 4000000 in
set_option maxRecDepth 100000 in
theorem c_X3_shutAnew (l : Launch) (w : WD) (sz : Nat) (g : Nat) (hg : g ≤ 10) (M : Mem) (r : Unit) (M9 : Mem) (hf : f_X3_shutAnew g M = some (r, M9)) : mMet l yX3_shutAnew cX3_shutAnew 1 (none) rmX3_shutAnew w sz M [.ref (w.1 g 5)] none M9 := by
  refine m_of (by decide) (Nat.le_of_ble_eq_true rfl) ?_
  intro p e s m args below meth c hx hb hr hml hown hlk hI ls hl
  have hl : lv_has ls 1 [(0, .ref (w.1 g 5))] := hl
  unfold f_X3_shutAnew at hf
  refine lv_aload_n hx hb dX3_shutAnew_0 rfl (lv_at hl 0 rfl) ?_
  refine lv_iconst (v := 0) hx hb dX3_shutAnew_1 (by decide) ?_
  obtain ⟨M1, eM1, hf⟩ := mlet_e hf
  refine m_put (g := g) (i := 5) (ci := 2) (k := 0) (ty := .boolean) (M1 := M1) hx hb hI hown (mokS hg (by decide)) rfl rfl (by decide) lyX3 tyX3 tyX3_ok nmX3 (q94 hI.T) rfl rfl rfl rfl (Nat.le_of_ble_eq_true rfl) rfl eM1 dX3_shutAnew_2 (fun H locs hI => ?_)
  refine lv_aload_n hx hb dX3_shutAnew_5 rfl (lv_at hl 0 rfl) ?_
  refine lv_iconst (v := 0) hx hb dX3_shutAnew_6 (by decide) ?_
  obtain ⟨M2, eM2, hf⟩ := mlet_e hf
  refine m_put (g := g) (i := 5) (ci := 2) (k := 1) (ty := .int) (M1 := M2) hx hb hI hown (mokS hg (by decide)) rfl rfl (by decide) lyX3 tyX3 tyX3_ok nmX3 (q97 hI.T) rfl rfl rfl rfl (Nat.le_of_ble_eq_true rfl) rfl eM2 dX3_shutAnew_7 (fun H locs hI => ?_)
  refine lv_aload_n hx hb dX3_shutAnew_10 rfl (lv_at hl 0 rfl) ?_
  refine lv_iconst (v := 0) hx hb dX3_shutAnew_11 (by decide) ?_
  obtain ⟨M3, eM3, hf⟩ := mlet_e hf
  refine m_put (g := g) (i := 5) (ci := 2) (k := 2) (ty := .int) (M1 := M3) hx hb hI hown (mokS hg (by decide)) rfl rfl (by decide) lyX3 tyX3 tyX3_ok nmX3 (q100 hI.T) rfl rfl rfl rfl (Nat.le_of_ble_eq_true rfl) rfl eM3 dX3_shutAnew_12 (fun H locs hI => ?_)
  exact m_vretf hx hb hr hlk hI hf dX3_shutAnew_15
abbrev rmX3_swingOpen : Room := { frames := 0, cells := 0, slots := 0, locals := 0 }
theorem kb_X3_swingOpen {R : Room} {s : State} {args : Array Value} {own : String} {idx : Nat} (hT : mT s) (hlink : (Cond.methodLink own idx yX3_swingOpen).before args s = true) (h1 : rmX3_swingOpen.frames + 1 ≤ R.frames) (h2 : 8 + (1 + 11) + rmX3_swingOpen.locals ≤ R.locals) : CallB R s args own idx yX3_swingOpen cX3_swingOpen 1 (none) [Cond.code yX3_swingOpen cX3_swingOpen 1 (none)] rmX3_swingOpen 0 0 0 := m_callB hT kc_X3_swingOpen ki_X3_swingOpen hlink (by decide +kernel) ⟨rfl, rfl, h1, h2⟩
set_option maxHeartbeats 4000000 in
set_option maxRecDepth 100000 in
theorem c_X3_swingOpen (l : Launch) (w : WD) (sz : Nat) (g : Nat) (hg : g ≤ 10) (M : Mem) (r : Unit) (M9 : Mem) (hf : f_X3_swingOpen g M = some (r, M9)) : mMet l yX3_swingOpen cX3_swingOpen 1 (none) rmX3_swingOpen w sz M [.ref (w.1 g 5)] none M9 := by
  refine m_of (by decide) (Nat.le_of_ble_eq_true rfl) ?_
  intro p e s m args below meth c hx hb hr hml hown hlk hI ls hl
  have hl : lv_has ls 1 [(0, .ref (w.1 g 5))] := hl
  unfold f_X3_swingOpen at hf
  refine lv_aload_n hx hb dX3_swingOpen_0 rfl (lv_at hl 0 rfl) ?_
  refine lv_iconst (v := 1) hx hb dX3_swingOpen_1 (by decide) ?_
  obtain ⟨M1, eM1, hf⟩ := mlet_e hf
  refine m_put (g := g) (i := 5) (ci := 2) (k := 0) (ty := .boolean) (M1 := M1) hx hb hI hown (mokS hg (by decide)) rfl rfl (by decide) lyX3 tyX3 tyX3_ok nmX3 (q94 hI.T) rfl rfl rfl rfl (Nat.le_of_ble_eq_true rfl) rfl eM1 dX3_swingOpen_2 (fun H locs hI => ?_)
  refine lv_aload_n hx hb dX3_swingOpen_5 rfl (lv_at hl 0 rfl) ?_
  refine lv_iconst (v := 0) hx hb dX3_swingOpen_6 (by decide) ?_
  obtain ⟨M2, eM2, hf⟩ := mlet_e hf
  refine m_put (g := g) (i := 5) (ci := 2) (k := 2) (ty := .int) (M1 := M2) hx hb hI hown (mokS hg (by decide)) rfl rfl (by decide) lyX3 tyX3 tyX3_ok nmX3 (q100 hI.T) rfl rfl rfl rfl (Nat.le_of_ble_eq_true rfl) rfl eM2 dX3_swingOpen_7 (fun H locs hI => ?_)
  refine lv_aload_n hx hb dX3_swingOpen_10 rfl (lv_at hl 0 rfl) ?_
  refine lv_dup hx hb dX3_swingOpen_11 rfl ?_
  refine m_get (g := g) (i := 5) (ci := 2) (k := 3) (v := .int (M2 g 5 3)) hx hb hI hown (mokS hg (by decide)) rfl rfl (by decide) lyX3 (q103 hI.T) rfl dX3_swingOpen_12 ?_
  refine lv_iconst (v := 1) hx hb dX3_swingOpen_15 (by decide) ?_
  refine lv_iadd hx hb dX3_swingOpen_16 ?_
  obtain ⟨M3, eM3, hf⟩ := mlet_e hf
  refine m_put (g := g) (i := 5) (ci := 2) (k := 3) (ty := .int) (M1 := M3) hx hb hI hown (mokS hg (by decide)) rfl rfl (by decide) lyX3 tyX3 tyX3_ok nmX3 (q103 hI.T) rfl rfl rfl rfl (Nat.le_of_ble_eq_true rfl) rfl eM3 dX3_swingOpen_17 (fun H locs hI => ?_)
  exact m_vretf hx hb hr hlk hI hf dX3_swingOpen_20
abbrev rmX3_countFailure : Room := { frames := 0, cells := 0, slots := 0, locals := 0 }
theorem kb_X3_countFailure {R : Room} {s : State} {args : Array Value} {own : String} {idx : Nat} (hT : mT s) (hlink : (Cond.methodLink own idx yX3_countFailure).before args s = true) (h1 : rmX3_countFailure.frames + 1 ≤ R.frames) (h2 : 8 + (1 + 11) + rmX3_countFailure.locals ≤ R.locals) : CallB R s args own idx yX3_countFailure cX3_countFailure 1 (none) [Cond.code yX3_countFailure cX3_countFailure 1 (none)] rmX3_countFailure 0 0 0 := m_callB hT kc_X3_countFailure ki_X3_countFailure hlink (by decide +kernel) ⟨rfl, rfl, h1, h2⟩
set_option maxHeartbeats 4000000 in
set_option maxRecDepth 100000 in
theorem c_X3_countFailure (l : Launch) (w : WD) (sz : Nat) (g : Nat) (hg : g ≤ 10) (M : Mem) (r : Unit) (M9 : Mem) (hf : f_X3_countFailure g M = some (r, M9)) : mMet l yX3_countFailure cX3_countFailure 1 (none) rmX3_countFailure w sz M [.ref (w.1 g 5)] none M9 := by
  refine m_of (by decide) (Nat.le_of_ble_eq_true rfl) ?_
  intro p e s m args below meth c hx hb hr hml hown hlk hI ls hl
  have hl : lv_has ls 1 [(0, .ref (w.1 g 5))] := hl
  unfold f_X3_countFailure at hf
  refine lv_aload_n hx hb dX3_countFailure_0 rfl (lv_at hl 0 rfl) ?_
  refine lv_dup hx hb dX3_countFailure_1 rfl ?_
  refine m_get (g := g) (i := 5) (ci := 2) (k := 2) (v := .int (M g 5 2)) hx hb hI hown (mokS hg (by decide)) rfl rfl (by decide) lyX3 (q100 hI.T) rfl dX3_countFailure_2 ?_
  refine lv_iconst (v := 1) hx hb dX3_countFailure_5 (by decide) ?_
  refine lv_iadd hx hb dX3_countFailure_6 ?_
  obtain ⟨M1, eM1, hf⟩ := mlet_e hf
  refine m_put (g := g) (i := 5) (ci := 2) (k := 2) (ty := .int) (M1 := M1) hx hb hI hown (mokS hg (by decide)) rfl rfl (by decide) lyX3 tyX3 tyX3_ok nmX3 (q100 hI.T) rfl rfl rfl rfl (Nat.le_of_ble_eq_true rfl) rfl eM1 dX3_countFailure_7 (fun H locs hI => ?_)
  refine lv_aload_n hx hb dX3_countFailure_10 rfl (lv_at hl 0 rfl) ?_
  refine m_get (g := g) (i := 5) (ci := 2) (k := 2) (v := .int (M1 g 5 2)) hx hb hI hown (mokS hg (by decide)) rfl rfl (by decide) lyX3 (q100 hI.T) rfl dX3_countFailure_11 ?_
  refine lv_iconst (v := 3) hx hb dX3_countFailure_14 (by decide) ?_
  refine lv_icmp_ne (tgt := 29) hx hb dX3_countFailure_15 (by decide) (fun c2 => ?_) (fun c2 => ?_)
  · have hf := (if_neg c2).symm.trans hf
    exact m_vretf hx hb hr hlk hI hf dX3_countFailure_29
  · have hf := (if_pos c2).symm.trans hf
    refine lv_aload_n hx hb dX3_countFailure_18 rfl (lv_at hl 0 rfl) ?_
    refine lv_iconst (v := 0) hx hb dX3_countFailure_19 (by decide) ?_
    obtain ⟨M3, eM3, hf⟩ := mlet_e hf
    refine m_put (g := g) (i := 5) (ci := 2) (k := 2) (ty := .int) (M1 := M3) hx hb hI hown (mokS hg (by decide)) rfl rfl (by decide) lyX3 tyX3 tyX3_ok nmX3 (q100 hI.T) rfl rfl rfl rfl (Nat.le_of_ble_eq_true rfl) rfl eM3 dX3_countFailure_20 (fun H locs hI => ?_)
    refine lv_aload_n hx hb dX3_countFailure_23 rfl (lv_at hl 0 rfl) ?_
    refine lv_bipush (v := 6) hx hb dX3_countFailure_24 (by decide) ?_
    obtain ⟨M4, eM4, hf⟩ := mlet_e hf
    refine m_put (g := g) (i := 5) (ci := 2) (k := 1) (ty := .int) (M1 := M4) hx hb hI hown (mokS hg (by decide)) rfl rfl (by decide) lyX3 tyX3 tyX3_ok nmX3 (q97 hI.T) rfl rfl rfl rfl (Nat.le_of_ble_eq_true rfl) rfl eM4 dX3_countFailure_26 (fun H locs hI => ?_)
    exact m_vretf hx hb hr hlk hI hf dX3_countFailure_29
abbrev rmX3_passOneHour : Room := { frames := 0, cells := 0, slots := 0, locals := 0 }
theorem kb_X3_passOneHour {R : Room} {s : State} {args : Array Value} {own : String} {idx : Nat} (hT : mT s) (hlink : (Cond.methodLink own idx yX3_passOneHour).before args s = true) (h1 : rmX3_passOneHour.frames + 1 ≤ R.frames) (h2 : 8 + (1 + 11) + rmX3_passOneHour.locals ≤ R.locals) : CallB R s args own idx yX3_passOneHour cX3_passOneHour 1 (none) [Cond.code yX3_passOneHour cX3_passOneHour 1 (none)] rmX3_passOneHour 0 0 0 := m_callB hT kc_X3_passOneHour ki_X3_passOneHour hlink (by decide +kernel) ⟨rfl, rfl, h1, h2⟩
set_option maxHeartbeats 4000000 in
set_option maxRecDepth 100000 in
theorem c_X3_passOneHour (l : Launch) (w : WD) (sz : Nat) (g : Nat) (hg : g ≤ 10) (M : Mem) (r : Unit) (M9 : Mem) (hf : f_X3_passOneHour g M = some (r, M9)) : mMet l yX3_passOneHour cX3_passOneHour 1 (none) rmX3_passOneHour w sz M [.ref (w.1 g 5)] none M9 := by
  refine m_of (by decide) (Nat.le_of_ble_eq_true rfl) ?_
  intro p e s m args below meth c hx hb hr hml hown hlk hI ls hl
  have hl : lv_has ls 1 [(0, .ref (w.1 g 5))] := hl
  unfold f_X3_passOneHour at hf
  refine lv_aload_n hx hb dX3_passOneHour_0 rfl (lv_at hl 0 rfl) ?_
  refine m_get (g := g) (i := 5) (ci := 2) (k := 1) (v := .int (M g 5 1)) hx hb hI hown (mokS hg (by decide)) rfl rfl (by decide) lyX3 (q97 hI.T) rfl dX3_passOneHour_1 ?_
  refine lv_if_le (tgt := 17) hx hb dX3_passOneHour_4 (by decide) (fun c1 => ?_) (fun c1 => ?_)
  · have hf := (if_pos c1).symm.trans hf
    exact m_vretf hx hb hr hlk hI hf dX3_passOneHour_17
  · have hf := (if_neg c1).symm.trans hf
    refine lv_aload_n hx hb dX3_passOneHour_7 rfl (lv_at hl 0 rfl) ?_
    refine lv_dup hx hb dX3_passOneHour_8 rfl ?_
    refine m_get (g := g) (i := 5) (ci := 2) (k := 1) (v := .int (M g 5 1)) hx hb hI hown (mokS hg (by decide)) rfl rfl (by decide) lyX3 (q97 hI.T) rfl dX3_passOneHour_9 ?_
    refine lv_iconst (v := 1) hx hb dX3_passOneHour_12 (by decide) ?_
    refine lv_isub hx hb dX3_passOneHour_13 ?_
    obtain ⟨M2, eM2, hf⟩ := mlet_e hf
    refine m_put (g := g) (i := 5) (ci := 2) (k := 1) (ty := .int) (M1 := M2) hx hb hI hown (mokS hg (by decide)) rfl rfl (by decide) lyX3 tyX3 tyX3_ok nmX3 (q97 hI.T) rfl rfl rfl rfl (Nat.le_of_ble_eq_true rfl) rfl eM2 dX3_passOneHour_14 (fun H locs hI => ?_)
    exact m_vretf hx hb hr hlk hI hf dX3_passOneHour_17
abbrev rmX6_copyFrom : Room := { frames := 1, cells := 0, slots := 0, locals := 40 }
theorem kb_X6_copyFrom {R : Room} {s : State} {args : Array Value} {own : String} {idx : Nat} (hT : mT s) (hlink : (Cond.methodLink own idx yX6_copyFrom).before args s = true) (h1 : rmX6_copyFrom.frames + 1 ≤ R.frames) (h2 : 8 + (2 + 11) + rmX6_copyFrom.locals ≤ R.locals) : CallB R s args own idx yX6_copyFrom cX6_copyFrom 2 (none) [Cond.code yX6_copyFrom cX6_copyFrom 2 (none)] rmX6_copyFrom 0 0 1 := m_callB hT kc_X6_copyFrom ki_X6_copyFrom hlink (by decide +kernel) ⟨rfl, rfl, h1, h2⟩
set_option maxHeartbeats 4000000 in
set_option maxRecDepth 100000 in
theorem c_X6_copyFrom (l : Launch) (w : WD) (sz : Nat) (g : Nat) (hg : g ≤ 10) (g1 : Nat) (hg1 : g1 ≤ 10) (M : Mem) (r : Unit) (M9 : Mem) (hf : f_X6_copyFrom g g1 M = some (r, M9)) : mMet l yX6_copyFrom cX6_copyFrom 2 (none) rmX6_copyFrom w sz M [.ref (w.1 g 1), .ref (w.1 g1 1)] none M9 := by
  refine m_of (by decide) (Nat.le_of_ble_eq_true rfl) ?_
  intro p e s m args below meth c hx hb hr hml hown hlk hI ls hl
  have hl : lv_has ls 2 [(0, .ref (w.1 g 1)), (1, .ref (w.1 g1 1))] := hl
  unfold f_X6_copyFrom at hf
  refine lv_aload_n hx hb dX6_copyFrom_0 rfl (lv_at hl 0 rfl) ?_
  refine lv_aload_n hx hb dX6_copyFrom_1 rfl (lv_at hl 1 rfl) ?_
  refine m_get (g := g1) (i := 1) (ci := 5) (k := 0) (v := .int (M g1 1 0)) hx hb hI hown (mokS hg1 (by decide)) rfl rfl (by decide) lyX6 (q50 hI.T) rfl dX6_copyFrom_2 ?_
  obtain ⟨M1, eM1, hf⟩ := mlet_e hf
  refine m_put (g := g) (i := 1) (ci := 5) (k := 0) (ty := .int) (M1 := M1) hx hb hI hown (mokS hg (by decide)) rfl rfl (by decide) lyX6 tyX6 tyX6_ok nmX6 (q50 hI.T) rfl rfl rfl rfl (Nat.le_of_ble_eq_true rfl) rfl eM1 dX6_copyFrom_5 (fun H locs hI => ?_)
  refine lv_aload_n hx hb dX6_copyFrom_8 rfl (lv_at hl 1 rfl) ?_
  refine m_get (g := g1) (i := 1) (ci := 5) (k := 1) (v := .ref (w.1 g1 2)) hx hb hI hown (mokS hg1 (by decide)) rfl rfl (by decide) lyX6 (q53 hI.T) rfl dX6_copyFrom_9 ?_
  refine lv_iconst (v := 0) hx hb dX6_copyFrom_12 (by decide) ?_
  refine lv_aload_n hx hb dX6_copyFrom_13 rfl (lv_at hl 0 rfl) ?_
  refine m_get (g := g) (i := 1) (ci := 5) (k := 1) (v := .ref (w.1 g 2)) hx hb hI hown (mokS hg (by decide)) rfl rfl (by decide) lyX6 (q53 hI.T) rfl dX6_copyFrom_14 ?_
  refine lv_iconst (v := 0) hx hb dX6_copyFrom_17 (by decide) ?_
  refine lv_bipush (v := 8) hx hb dX6_copyFrom_18 (by decide) ?_
  obtain ⟨hcp, M2, eM2, hf⟩ := mcpy_e hf
  refine m_copy (t0 := 0) (ty := .int) (M1 := M2) hx hb (hml.trans hl.1.symm) hI hown (q548 hI.T) (q400 hI.T) (q399 hI.T) (q12 hI.T) (mokS hg1 (by decide)) (fun _ => menc_i rfl) (mokS hg (by decide)) (fun _ => menc_i rfl) rfl rfl hcp eM2 (Nat.le_of_ble_eq_true rfl) (Nat.le_of_ble_eq_true rfl) dX6_copyFrom_20 (fun H locs hI => ?_)
  refine lv_aload_n hx hb dX6_copyFrom_23 rfl (lv_at hl 0 rfl) ?_
  refine lv_aload_n hx hb dX6_copyFrom_24 rfl (lv_at hl 1 rfl) ?_
  refine m_get (g := g1) (i := 1) (ci := 5) (k := 2) (v := .int (M2 g1 1 2)) hx hb hI hown (mokS hg1 (by decide)) rfl rfl (by decide) lyX6 (q57 hI.T) rfl dX6_copyFrom_25 ?_
  obtain ⟨hz, hf⟩ := mnz_e hf
  obtain ⟨M3, eM3, hf⟩ := mlet_e hf
  refine m_put (g := g) (i := 1) (ci := 5) (k := 2) (ty := .boolean) (M1 := M3) hx hb hI hown (mokS hg (by decide)) rfl rfl (by decide) lyX6 tyX6 tyX6_ok nmX6 (q57 hI.T) rfl rfl (mnz_n hz) (mnz_f hz) (Nat.le_of_ble_eq_true rfl) rfl eM3 dX6_copyFrom_28 (fun H locs hI => ?_)
  refine lv_aload_n hx hb dX6_copyFrom_31 rfl (lv_at hl 0 rfl) ?_
  refine lv_aload_n hx hb dX6_copyFrom_32 rfl (lv_at hl 1 rfl) ?_
  refine m_get (g := g1) (i := 1) (ci := 5) (k := 3) (v := .int (M3 g1 1 3)) hx hb hI hown (mokS hg1 (by decide)) rfl rfl (by decide) lyX6 (q60 hI.T) rfl dX6_copyFrom_33 ?_
  obtain ⟨M4, eM4, hf⟩ := mlet_e hf
  refine m_put (g := g) (i := 1) (ci := 5) (k := 3) (ty := .int) (M1 := M4) hx hb hI hown (mokS hg (by decide)) rfl rfl (by decide) lyX6 tyX6 tyX6_ok nmX6 (q60 hI.T) rfl rfl rfl rfl (Nat.le_of_ble_eq_true rfl) rfl eM4 dX6_copyFrom_36 (fun H locs hI => ?_)
  refine lv_aload_n hx hb dX6_copyFrom_39 rfl (lv_at hl 1 rfl) ?_
  refine m_get (g := g1) (i := 1) (ci := 5) (k := 4) (v := .ref (w.1 g1 3)) hx hb hI hown (mokS hg1 (by decide)) rfl rfl (by decide) lyX6 (q64 hI.T) rfl dX6_copyFrom_40 ?_
  refine lv_iconst (v := 0) hx hb dX6_copyFrom_43 (by decide) ?_
  refine lv_aload_n hx hb dX6_copyFrom_44 rfl (lv_at hl 0 rfl) ?_
  refine m_get (g := g) (i := 1) (ci := 5) (k := 4) (v := .ref (w.1 g 3)) hx hb hI hown (mokS hg (by decide)) rfl rfl (by decide) lyX6 (q64 hI.T) rfl dX6_copyFrom_45 ?_
  refine lv_iconst (v := 0) hx hb dX6_copyFrom_48 (by decide) ?_
  refine lv_iconst (v := 3) hx hb dX6_copyFrom_49 (by decide) ?_
  obtain ⟨hcp, M5, eM5, hf⟩ := mcpy_e hf
  refine m_copy (t0 := 0) (ty := .int) (M1 := M5) hx hb (hml.trans hl.1.symm) hI hown (q548 hI.T) (q400 hI.T) (q399 hI.T) (q12 hI.T) (mokS hg1 (by decide)) (fun _ => menc_i rfl) (mokS hg (by decide)) (fun _ => menc_i rfl) rfl rfl hcp eM5 (Nat.le_of_ble_eq_true rfl) (Nat.le_of_ble_eq_true rfl) dX6_copyFrom_50 (fun H locs hI => ?_)
  refine lv_aload_n hx hb dX6_copyFrom_53 rfl (lv_at hl 0 rfl) ?_
  refine lv_aload_n hx hb dX6_copyFrom_54 rfl (lv_at hl 1 rfl) ?_
  refine m_get (g := g1) (i := 1) (ci := 5) (k := 5) (v := .int (M5 g1 1 5)) hx hb hI hown (mokS hg1 (by decide)) rfl rfl (by decide) lyX6 (q65 hI.T) rfl dX6_copyFrom_55 ?_
  obtain ⟨M6, eM6, hf⟩ := mlet_e hf
  refine m_put (g := g) (i := 1) (ci := 5) (k := 5) (ty := .int) (M1 := M6) hx hb hI hown (mokS hg (by decide)) rfl rfl (by decide) lyX6 tyX6 tyX6_ok nmX6 (q65 hI.T) rfl rfl rfl rfl (Nat.le_of_ble_eq_true rfl) rfl eM6 dX6_copyFrom_58 (fun H locs hI => ?_)
  refine lv_aload_n hx hb dX6_copyFrom_61 rfl (lv_at hl 1 rfl) ?_
  refine m_get (g := g1) (i := 1) (ci := 5) (k := 6) (v := .ref (w.1 g1 4)) hx hb hI hown (mokS hg1 (by decide)) rfl rfl (by decide) lyX6 (q69 hI.T) rfl dX6_copyFrom_62 ?_
  refine lv_iconst (v := 0) hx hb dX6_copyFrom_65 (by decide) ?_
  refine lv_aload_n hx hb dX6_copyFrom_66 rfl (lv_at hl 0 rfl) ?_
  refine m_get (g := g) (i := 1) (ci := 5) (k := 6) (v := .ref (w.1 g 4)) hx hb hI hown (mokS hg (by decide)) rfl rfl (by decide) lyX6 (q69 hI.T) rfl dX6_copyFrom_67 ?_
  refine lv_iconst (v := 0) hx hb dX6_copyFrom_70 (by decide) ?_
  refine lv_bipush (v := 8) hx hb dX6_copyFrom_71 (by decide) ?_
  obtain ⟨hcp, M7, eM7, hf⟩ := mcpy_e hf
  refine m_copy (t0 := 0) (ty := .int) (M1 := M7) hx hb (hml.trans hl.1.symm) hI hown (q548 hI.T) (q400 hI.T) (q399 hI.T) (q12 hI.T) (mokS hg1 (by decide)) (fun _ => menc_i rfl) (mokS hg (by decide)) (fun _ => menc_i rfl) rfl rfl hcp eM7 (Nat.le_of_ble_eq_true rfl) (Nat.le_of_ble_eq_true rfl) dX6_copyFrom_73 (fun H locs hI => ?_)
  exact m_vretf hx hb hr hlk hI hf dX6_copyFrom_76
abbrev rmX6_positionOf : Room := { frames := 0, cells := 0, slots := 0, locals := 0 }
theorem kb_X6_positionOf {R : Room} {s : State} {args : Array Value} {own : String} {idx : Nat} (hT : mT s) (hlink : (Cond.methodLink own idx yX6_positionOf).before args s = true) (h1 : rmX6_positionOf.frames + 1 ≤ R.frames) (h2 : 8 + (1 + 11) + rmX6_positionOf.locals ≤ R.locals) : CallB R s args own idx yX6_positionOf cX6_positionOf 1 (some .int) [Cond.code yX6_positionOf cX6_positionOf 1 (some .int)] rmX6_positionOf 0 0 1 := m_callB hT kc_X6_positionOf ki_X6_positionOf hlink (by decide +kernel) ⟨rfl, rfl, h1, h2⟩
set_option maxHeartbeats 4000000 in
set_option maxRecDepth 100000 in
theorem c_X6_positionOf (l : Launch) (w : WD) (sz : Nat) (a1 : Int32) (M : Mem) (r : Int32) (hf : f_X6_positionOf a1 M = some r) : mMet l yX6_positionOf cX6_positionOf 1 (some .int) rmX6_positionOf w sz M [.int a1] (some (.int r)) M := by
  refine m_of (by decide) (Nat.le_of_ble_eq_true rfl) ?_
  intro p e s m args below meth c hx hb hr hml hown hlk hI ls hl
  have hl : lv_has ls 1 [(0, .int a1)] := hl
  unfold f_X6_positionOf at hf
  refine lv_iload_n hx hb dX6_positionOf_0 rfl (lv_at hl 0 rfl) ?_
  refine lv_iconst (v := 1) hx hb dX6_positionOf_1 (by decide) ?_
  refine lv_iadd hx hb dX6_positionOf_2 ?_
  exact m_iretp hx hb hr hlk hI hf dX6_positionOf_3
abbrev rmX6_isResidue : Room := { frames := 0, cells := 0, slots := 0, locals := 0 }
theorem kb_X6_isResidue {R : Room} {s : State} {args : Array Value} {own : String} {idx : Nat} (hT : mT s) (hlink : (Cond.methodLink own idx yX6_isResidue).before args s = true) (h1 : rmX6_isResidue.frames + 1 ≤ R.frames) (h2 : 8 + (1 + 11) + rmX6_isResidue.locals ≤ R.locals) : CallB R s args own idx yX6_isResidue cX6_isResidue 1 (some .boolean) [Cond.code yX6_isResidue cX6_isResidue 1 (some .boolean)] rmX6_isResidue 0 0 1 := m_callB hT kc_X6_isResidue ki_X6_isResidue hlink (by decide +kernel) ⟨rfl, rfl, h1, h2⟩
set_option maxHeartbeats 4000000 in
set_option maxRecDepth 100000 in
theorem c_X6_isResidue (l : Launch) (w : WD) (sz : Nat) (a1 : Int32) (M : Mem) (r : Int32) (hf : f_X6_isResidue a1 M = some r) : mMet l yX6_isResidue cX6_isResidue 1 (some .boolean) rmX6_isResidue w sz M [.int a1] (some (.int r)) M := by
  refine m_of (by decide) (Nat.le_of_ble_eq_true rfl) ?_
  intro p e s m args below meth c hx hb hr hml hown hlk hI ls hl
  have hl : lv_has ls 1 [(0, .int a1)] := hl
  unfold f_X6_isResidue at hf
  refine lv_iload_n hx hb dX6_isResidue_0 rfl (lv_at hl 0 rfl) ?_
  refine lv_if_lt (tgt := 14) hx hb dX6_isResidue_1 (by decide) (fun c1 => ?_) (fun c1 => ?_)
  · have hf := (if_pos c1).symm.trans hf
    refine lv_iconst (v := 0) hx hb dX6_isResidue_14 (by decide) ?_
    exact m_zretp hx hb hr hlk hI rfl hf dX6_isResidue_15
  · have hf := (if_neg c1).symm.trans hf
    refine lv_iload_n hx hb dX6_isResidue_4 rfl (lv_at hl 0 rfl) ?_
    refine lv_bipush (v := 97) hx hb dX6_isResidue_5 (by decide) ?_
    refine lv_icmp_ge (tgt := 14) hx hb dX6_isResidue_7 (by decide) (fun c2 => ?_) (fun c2 => ?_)
    · have hf := (if_pos c2).symm.trans hf
      refine lv_iconst (v := 0) hx hb dX6_isResidue_14 (by decide) ?_
      exact m_zretp hx hb hr hlk hI rfl hf dX6_isResidue_15
    · have hf := (if_neg c2).symm.trans hf
      refine lv_iconst (v := 1) hx hb dX6_isResidue_10 (by decide) ?_
      refine lv_goto (tgt := 15) hx hb dX6_isResidue_11 (by decide) ?_
      exact m_zretp hx hb hr hlk hI rfl hf dX6_isResidue_15
abbrev rmX6_hasHolder : Room := { frames := 0, cells := 0, slots := 0, locals := 0 }
theorem kb_X6_hasHolder {R : Room} {s : State} {args : Array Value} {own : String} {idx : Nat} (hT : mT s) (hlink : (Cond.methodLink own idx yX6_hasHolder).before args s = true) (h1 : rmX6_hasHolder.frames + 1 ≤ R.frames) (h2 : 8 + (2 + 11) + rmX6_hasHolder.locals ≤ R.locals) : CallB R s args own idx yX6_hasHolder cX6_hasHolder 2 (some .boolean) [Cond.code yX6_hasHolder cX6_hasHolder 2 (some .boolean)] rmX6_hasHolder 0 0 1 := m_callB hT kc_X6_hasHolder ki_X6_hasHolder hlink (by decide +kernel) ⟨rfl, rfl, h1, h2⟩
set_option maxHeartbeats 4000000 in
set_option maxRecDepth 100000 in
theorem c_X6_hasHolder (l : Launch) (w : WD) (sz : Nat) (g : Nat) (hg : g ≤ 10) (a1 : Int32) (M : Mem) (r : Int32) (hf : f_X6_hasHolder g a1 M = some r) : mMet l yX6_hasHolder cX6_hasHolder 2 (some .boolean) rmX6_hasHolder w sz M [.ref (w.1 g 1), .int a1] (some (.int r)) M := by
  refine m_of (by decide) (Nat.le_of_ble_eq_true rfl) ?_
  intro p e s m args below meth c hx hb hr hml hown hlk hI ls hl
  have hl : lv_has ls 2 [(0, .ref (w.1 g 1)), (1, .int a1)] := hl
  unfold f_X6_hasHolder at hf
  refine lv_iload_n hx hb dX6_hasHolder_0 rfl (lv_at hl 1 rfl) ?_
  refine lv_if_lt (tgt := 16) hx hb dX6_hasHolder_1 (by decide) (fun c1 => ?_) (fun c1 => ?_)
  · have hf := (if_pos c1).symm.trans hf
    refine lv_iconst (v := 0) hx hb dX6_hasHolder_16 (by decide) ?_
    exact m_zretp hx hb hr hlk hI rfl hf dX6_hasHolder_17
  · have hf := (if_neg c1).symm.trans hf
    refine lv_iload_n hx hb dX6_hasHolder_4 rfl (lv_at hl 1 rfl) ?_
    refine lv_aload_n hx hb dX6_hasHolder_5 rfl (lv_at hl 0 rfl) ?_
    refine m_get (g := g) (i := 1) (ci := 5) (k := 0) (v := .int (M g 1 0)) hx hb hI hown (mokS hg (by decide)) rfl rfl (by decide) lyX6 (q50 hI.T) rfl dX6_hasHolder_6 ?_
    refine lv_icmp_ge (tgt := 16) hx hb dX6_hasHolder_9 (by decide) (fun c2 => ?_) (fun c2 => ?_)
    · have hf := (if_pos c2).symm.trans hf
      refine lv_iconst (v := 0) hx hb dX6_hasHolder_16 (by decide) ?_
      exact m_zretp hx hb hr hlk hI rfl hf dX6_hasHolder_17
    · have hf := (if_neg c2).symm.trans hf
      refine lv_iconst (v := 1) hx hb dX6_hasHolder_12 (by decide) ?_
      refine lv_goto (tgt := 17) hx hb dX6_hasHolder_13 (by decide) ?_
      exact m_zretp hx hb hr hlk hI rfl hf dX6_hasHolder_17
abbrev rmX6_areEnough : Room := { frames := 0, cells := 0, slots := 0, locals := 0 }
theorem kb_X6_areEnough {R : Room} {s : State} {args : Array Value} {own : String} {idx : Nat} (hT : mT s) (hlink : (Cond.methodLink own idx yX6_areEnough).before args s = true) (h1 : rmX6_areEnough.frames + 1 ≤ R.frames) (h2 : 8 + (1 + 11) + rmX6_areEnough.locals ≤ R.locals) : CallB R s args own idx yX6_areEnough cX6_areEnough 1 (some .boolean) [Cond.code yX6_areEnough cX6_areEnough 1 (some .boolean)] rmX6_areEnough 0 0 0 := m_callB hT kc_X6_areEnough ki_X6_areEnough hlink (by decide +kernel) ⟨rfl, rfl, h1, h2⟩
set_option maxHeartbeats 4000000 in
set_option maxRecDepth 100000 in
theorem c_X6_areEnough (l : Launch) (w : WD) (sz : Nat) (g : Nat) (hg : g ≤ 10) (M : Mem) (r : Int32) (hf : f_X6_areEnough g M = some r) : mMet l yX6_areEnough cX6_areEnough 1 (some .boolean) rmX6_areEnough w sz M [.ref (w.1 g 1)] (some (.int r)) M := by
  refine m_of (by decide) (Nat.le_of_ble_eq_true rfl) ?_
  intro p e s m args below meth c hx hb hr hml hown hlk hI ls hl
  have hl : lv_has ls 1 [(0, .ref (w.1 g 1))] := hl
  unfold f_X6_areEnough at hf
  refine lv_aload_n hx hb dX6_areEnough_0 rfl (lv_at hl 0 rfl) ?_
  refine m_get (g := g) (i := 1) (ci := 5) (k := 2) (v := .int (M g 1 2)) hx hb hI hown (mokS hg (by decide)) rfl rfl (by decide) lyX6 (q57 hI.T) rfl dX6_areEnough_1 ?_
  refine lv_if_eq (tgt := 22) hx hb dX6_areEnough_4 (by decide) (fun c1 => ?_) (fun c1 => ?_)
  · have hf := (if_pos c1).symm.trans hf
    refine lv_iconst (v := 0) hx hb dX6_areEnough_22 (by decide) ?_
    exact m_zretp hx hb hr hlk hI rfl hf dX6_areEnough_23
  · have hf := (if_neg c1).symm.trans hf
    refine lv_aload_n hx hb dX6_areEnough_7 rfl (lv_at hl 0 rfl) ?_
    refine m_get (g := g) (i := 1) (ci := 5) (k := 5) (v := .int (M g 1 5)) hx hb hI hown (mokS hg (by decide)) rfl rfl (by decide) lyX6 (q65 hI.T) rfl dX6_areEnough_8 ?_
    refine lv_aload_n hx hb dX6_areEnough_11 rfl (lv_at hl 0 rfl) ?_
    refine m_get (g := g) (i := 1) (ci := 5) (k := 3) (v := .int (M g 1 3)) hx hb hI hown (mokS hg (by decide)) rfl rfl (by decide) lyX6 (q60 hI.T) rfl dX6_areEnough_12 ?_
    refine lv_icmp_lt (tgt := 22) hx hb dX6_areEnough_15 (by decide) (fun c2 => ?_) (fun c2 => ?_)
    · have hf := (if_pos c2).symm.trans hf
      refine lv_iconst (v := 0) hx hb dX6_areEnough_22 (by decide) ?_
      exact m_zretp hx hb hr hlk hI rfl hf dX6_areEnough_23
    · have hf := (if_neg c2).symm.trans hf
      refine lv_iconst (v := 1) hx hb dX6_areEnough_18 (by decide) ?_
      refine lv_goto (tgt := 23) hx hb dX6_areEnough_19 (by decide) ?_
      exact m_zretp hx hb hr hlk hI rfl hf dX6_areEnough_23
abbrev rmX6_valueOn : Room := { frames := 0, cells := 0, slots := 0, locals := 0 }
theorem kb_X6_valueOn {R : Room} {s : State} {args : Array Value} {own : String} {idx : Nat} (hT : mT s) (hlink : (Cond.methodLink own idx yX6_valueOn).before args s = true) (h1 : rmX6_valueOn.frames + 1 ≤ R.frames) (h2 : 8 + (4 + 11) + rmX6_valueOn.locals ≤ R.locals) : CallB R s args own idx yX6_valueOn cX6_valueOn 4 (some .int) [Cond.code yX6_valueOn cX6_valueOn 4 (some .int)] rmX6_valueOn 0 0 2 := m_callB hT kc_X6_valueOn ki_X6_valueOn hlink (by decide +kernel) ⟨rfl, rfl, h1, h2⟩
set_option maxHeartbeats 4000000 in
set_option maxRecDepth 100000 in
theorem c_X6_valueOn (l : Launch) (w : WD) (sz : Nat) (ga1 ia1 : Nat) (ho1 : mok ga1 ia1) (hn1 : mil ia1 = some 3) (a2 : Int32) (M : Mem) (r : Int32) (hf : f_X6_valueOn ga1 ia1 a2 M = some r) : mMet l yX6_valueOn cX6_valueOn 4 (some .int) rmX6_valueOn w sz M [.ref (w.1 ga1 ia1), .int a2] (some (.int r)) M := by
  refine m_of (by decide) (Nat.le_of_ble_eq_true rfl) ?_
  intro p e s m args below meth c hx hb hr hml hown hlk hI ls hl
  have hl : lv_has ls 4 [(0, .ref (w.1 ga1 ia1)), (1, .int a2)] := hl
  unfold f_X6_valueOn at hf
  refine lv_iconst (v := 0) hx hb dX6_valueOn_0 (by decide) ?_
  refine lv_istore_n (lv' := [(2, .int (0 : Int32)), (0, .ref (w.1 ga1 ia1)), (1, .int a2)]) hx hb dX6_valueOn_1 rfl hl (by decide) rfl (fun ls hl => ?_)
  refine lv_aload_n hx hb dX6_valueOn_2 rfl (lv_at hl 1 rfl) ?_
  refine m_alen (v := 3) (g := ga1) (i := ia1) hx hb hI ho1 hn1 rfl dX6_valueOn_3 ?_
  refine lv_iconst (v := 1) hx hb dX6_valueOn_4 (by decide) ?_
  refine lv_isub hx hb dX6_valueOn_5 ?_
  refine lv_topi (fun x1 ex1 => ?_)
  have hf := mlet_s ex1 hf
  refine lv_istore_n (lv' := [(3, .int x1), (2, .int (0 : Int32)), (0, .ref (w.1 ga1 ia1)), (1, .int a2)]) hx hb dX6_valueOn_6 rfl hl (by decide) rfl (fun ls hl => ?_)
  have hL7 : ∀ (n : Nat) (x2 : Int32) (x3 : Int32) (kk : Int32 → Option Int32) (H : Heap) (locs : List Loc) (ls : Array Slot), f_X6_valueOn_L7 ga1 ia1 a2 M n x2 x3 kk = some r → mI w s (mA w s.heap.size) H locs M → lv_has ls 4 [(0, .ref (w.1 ga1 ia1)), (1, .int a2), (2, .int x2), (3, .int x3)] → (∀ (x2 : Int32) (H : Heap) (locs : List Loc) (ls : Array Slot), kk x2 = some r → mI w s (mA w s.heap.size) H locs M → lv_has ls 4 [(2, .int x2)] → W p l e rmX6_valueOn s m args below meth c H locs 0 0 (MQ below (mQ w s.heap.size (some (.int r)) M) args s 0 0 (mA w s.heap.size)) (F0 m 28 ls [])) → W p l e rmX6_valueOn s m args below meth c H locs 0 0 (MQ below (mQ w s.heap.size (some (.int r)) M) args s 0 0 (mA w s.heap.size)) (F0 m 7 ls []) := by
    intro n
    induction n with
    | zero => intro x2 x3 kk H locs ls hf hI hl hk; rw [f_X6_valueOn_L7.eq_1] at hf; cases hf
    | succ n ih7 =>
      intro x2 x3 kk H locs ls hf hI hl hk
      rw [f_X6_valueOn_L7.eq_2] at hf
      refine lv_iload_n hx hb dX6_valueOn_7 rfl (lv_at hl 3 rfl) ?_
      refine lv_if_lt (tgt := 28) hx hb dX6_valueOn_8 (by decide) (fun c4 => ?_) (fun c4 => ?_)
      · have hf := (if_pos c4).symm.trans hf
        exact hk x2 H _ _ hf hI (lv_sub hl [2] rfl)
      · have hf := (if_neg c4).symm.trans hf
        refine lv_iload_n hx hb dX6_valueOn_11 rfl (lv_at hl 2 rfl) ?_
        refine lv_iload_n hx hb dX6_valueOn_12 rfl (lv_at hl 1 rfl) ?_
        refine lv_imul hx hb dX6_valueOn_13 ?_
        refine lv_aload_n hx hb dX6_valueOn_14 rfl (lv_at hl 0 rfl) ?_
        refine lv_iload_n hx hb dX6_valueOn_15 rfl (lv_at hl 3 rfl) ?_
        obtain ⟨hi, hf⟩ := mix_e hf
        refine m_iald (g := ga1) (i := ia1) hx hb hI ho1 hn1 hi dX6_valueOn_16 ?_
        refine lv_iadd hx hb dX6_valueOn_17 ?_
        refine lv_bipush (v := 97) hx hb dX6_valueOn_18 (by decide) ?_
        refine lv_irem hx hb dX6_valueOn_20 (by decide) ?_
        refine lv_topi (fun x5 ex5 => ?_)
        have hf := mlet_s ex5 hf
        refine lv_istore_n (lv' := [(2, .int x5), (0, .ref (w.1 ga1 ia1)), (1, .int a2), (3, .int x3)]) hx hb dX6_valueOn_21 rfl hl (by decide) rfl (fun ls hl => ?_)
        obtain ⟨x6, ex6, hf⟩ := mlet_e hf
        refine lv_iinc (v := x6) (lv' := [(3, .int x6), (2, .int x5), (0, .ref (w.1 ga1 ia1)), (1, .int a2)]) hx hb dX6_valueOn_22 hl (k := 3) rfl (by rw [ex6]; rfl) (by decide) rfl (fun ls hl => ?_)
        refine lv_goto (tgt := 7) hx hb dX6_valueOn_25 (by decide) ?_
        exact ih7 x5 x6 kk H _ _ hf hI (lv_sub hl [2, 3, 1, 0] rfl) hk
  refine hL7 1000 (0 : Int32) x1 _ _ _ _ hf hI (lv_sub hl [2, 3, 1, 0] rfl) ?_
  intro x7 H locs ls hf hI hl
  try dsimp only at hf
  refine lv_iload_n hx hb dX6_valueOn_28 rfl (lv_at hl 0 rfl) ?_
  exact m_iretp hx hb hr hlk hI hf dX6_valueOn_29
abbrev rmX6_correctShare : Room := { frames := 1, cells := 0, slots := 0, locals := 23 }
theorem kb_X6_correctShare {R : Room} {s : State} {args : Array Value} {own : String} {idx : Nat} (hT : mT s) (hlink : (Cond.methodLink own idx yX6_correctShare).before args s = true) (h1 : rmX6_correctShare.frames + 1 ≤ R.frames) (h2 : 8 + (2 + 11) + rmX6_correctShare.locals ≤ R.locals) : CallB R s args own idx yX6_correctShare cX6_correctShare 2 (some .int) [Cond.code yX6_correctShare cX6_correctShare 2 (some .int)] rmX6_correctShare 0 0 1 := m_callB hT kc_X6_correctShare ki_X6_correctShare hlink (by decide +kernel) ⟨rfl, rfl, h1, h2⟩
set_option maxHeartbeats 4000000 in
set_option maxRecDepth 100000 in
theorem c_X6_correctShare (l : Launch) (w : WD) (sz : Nat) (g : Nat) (hg : g ≤ 10) (a1 : Int32) (M : Mem) (r : Int32) (hf : f_X6_correctShare g a1 M = some r) : mMet l yX6_correctShare cX6_correctShare 2 (some .int) rmX6_correctShare w sz M [.ref (w.1 g 1), .int a1] (some (.int r)) M := by
  refine m_of (by decide) (Nat.le_of_ble_eq_true rfl) ?_
  intro p e s m args below meth c hx hb hr hml hown hlk hI ls hl
  have hl : lv_has ls 2 [(0, .ref (w.1 g 1)), (1, .int a1)] := hl
  unfold f_X6_correctShare at hf
  refine lv_aload_n hx hb dX6_correctShare_0 rfl (lv_at hl 0 rfl) ?_
  refine m_get (g := g) (i := 1) (ci := 5) (k := 4) (v := .ref (w.1 g 3)) hx hb hI hown (mokS hg (by decide)) rfl rfl (by decide) lyX6 (q64 hI.T) rfl dX6_correctShare_1 ?_
  refine lv_iload_n hx hb dX6_correctShare_4 rfl (lv_at hl 1 rfl) ?_
  obtain ⟨r1, hc, hf⟩ := mbp_e hf
  refine m_callS (As := [.int a1]) (rest := [.ref (w.1 g 3)]) hx hb hml hown hI (c_X6_positionOf l w s.heap.size a1 M _ hc) (kb_X6_positionOf hI.T (q501 hI.T) (Nat.le_of_ble_eq_true rfl) (Nat.le_of_ble_eq_true rfl)) (q458 hI.T) rfl hl.1 (Nat.le_of_ble_eq_true rfl) dX6_correctShare_5 ⟨Nat.le_of_ble_eq_true rfl, Nat.le_of_ble_eq_true rfl⟩ (fun H locs hI => ?_)
  obtain ⟨r2, hc, hf⟩ := mbp_e hf
  refine m_callS (As := [.ref (w.1 g 3), .int r1]) (rest := []) hx hb hml hown hI (c_X6_valueOn l w H.size g 3 (mokS hg (by decide)) rfl r1 M _ hc) (kb_X6_valueOn hI.T (q584 hI.T) (Nat.le_of_ble_eq_true rfl) (Nat.le_of_ble_eq_true rfl)) (q488 hI.T) rfl hl.1 (Nat.le_of_ble_eq_true rfl) dX6_correctShare_8 ⟨Nat.le_of_ble_eq_true rfl, Nat.le_of_ble_eq_true rfl⟩ (fun H locs hI => ?_)
  exact m_iretp hx hb hr hlk hI hf dX6_correctShare_11
abbrev rmX6_placeOf : Room := { frames := 0, cells := 0, slots := 0, locals := 0 }
theorem kb_X6_placeOf {R : Room} {s : State} {args : Array Value} {own : String} {idx : Nat} (hT : mT s) (hlink : (Cond.methodLink own idx yX6_placeOf).before args s = true) (h1 : rmX6_placeOf.frames + 1 ≤ R.frames) (h2 : 8 + (3 + 11) + rmX6_placeOf.locals ≤ R.locals) : CallB R s args own idx yX6_placeOf cX6_placeOf 3 (some .int) [Cond.code yX6_placeOf cX6_placeOf 3 (some .int)] rmX6_placeOf 0 0 1 := m_callB hT kc_X6_placeOf ki_X6_placeOf hlink (by decide +kernel) ⟨rfl, rfl, h1, h2⟩
set_option maxHeartbeats 4000000 in
set_option maxRecDepth 100000 in
theorem c_X6_placeOf (l : Launch) (w : WD) (sz : Nat) (g : Nat) (hg : g ≤ 10) (a1 : Int32) (M : Mem) (r : Int32) (hf : f_X6_placeOf g a1 M = some r) : mMet l yX6_placeOf cX6_placeOf 3 (some .int) rmX6_placeOf w sz M [.ref (w.1 g 1), .int a1] (some (.int r)) M := by
  refine m_of (by decide) (Nat.le_of_ble_eq_true rfl) ?_
  intro p e s m args below meth c hx hb hr hml hown hlk hI ls hl
  have hl : lv_has ls 3 [(0, .ref (w.1 g 1)), (1, .int a1)] := hl
  unfold f_X6_placeOf at hf
  refine lv_iconst (v := 0) hx hb dX6_placeOf_0 (by decide) ?_
  refine lv_istore_n (lv' := [(2, .int (0 : Int32)), (0, .ref (w.1 g 1)), (1, .int a1)]) hx hb dX6_placeOf_1 rfl hl (by decide) rfl (fun ls hl => ?_)
  have hL2 : ∀ (n : Nat) (x1 : Int32) (kk : Unit → Option Int32) (H : Heap) (locs : List Loc) (ls : Array Slot), f_X6_placeOf_L2 g a1 M n x1 kk = some r → mI w s (mA w s.heap.size) H locs M → lv_has ls 3 [(0, .ref (w.1 g 1)), (1, .int a1), (2, .int x1)] → (∀ (_u : Unit) (H : Heap) (locs : List Loc) (ls : Array Slot), kk () = some r → mI w s (mA w s.heap.size) H locs M → lv_has ls 3 [] → W p l e rmX6_placeOf s m args below meth c H locs 0 0 (MQ below (mQ w s.heap.size (some (.int r)) M) args s 0 0 (mA w s.heap.size)) (F0 m 28 ls [])) → W p l e rmX6_placeOf s m args below meth c H locs 0 0 (MQ below (mQ w s.heap.size (some (.int r)) M) args s 0 0 (mA w s.heap.size)) (F0 m 2 ls []) := by
    intro n
    induction n with
    | zero => intro x1 kk H locs ls hf hI hl hk; rw [f_X6_placeOf_L2.eq_1] at hf; cases hf
    | succ n ih2 =>
      intro x1 kk H locs ls hf hI hl hk
      rw [f_X6_placeOf_L2.eq_2] at hf
      refine lv_iload_n hx hb dX6_placeOf_2 rfl (lv_at hl 2 rfl) ?_
      refine lv_aload_n hx hb dX6_placeOf_3 rfl (lv_at hl 0 rfl) ?_
      refine m_get (g := g) (i := 1) (ci := 5) (k := 5) (v := .int (M g 1 5)) hx hb hI hown (mokS hg (by decide)) rfl rfl (by decide) lyX6 (q65 hI.T) rfl dX6_placeOf_4 ?_
      refine lv_icmp_ge (tgt := 28) hx hb dX6_placeOf_7 (by decide) (fun c2 => ?_) (fun c2 => ?_)
      · have hf := (if_pos c2).symm.trans hf
        exact hk () H _ _ hf hI (lv_sub hl [] rfl)
      · have hf := (if_neg c2).symm.trans hf
        refine lv_aload_n hx hb dX6_placeOf_10 rfl (lv_at hl 0 rfl) ?_
        refine m_get (g := g) (i := 1) (ci := 5) (k := 6) (v := .ref (w.1 g 4)) hx hb hI hown (mokS hg (by decide)) rfl rfl (by decide) lyX6 (q69 hI.T) rfl dX6_placeOf_11 ?_
        refine lv_iload_n hx hb dX6_placeOf_14 rfl (lv_at hl 2 rfl) ?_
        obtain ⟨hi, hf⟩ := mix_e hf
        refine m_iald (g := g) (i := 4) hx hb hI (mokS hg (by decide)) rfl hi dX6_placeOf_15 ?_
        refine lv_iload_n hx hb dX6_placeOf_16 rfl (lv_at hl 1 rfl) ?_
        refine lv_icmp_ne (tgt := 22) hx hb dX6_placeOf_17 (by decide) (fun c3 => ?_) (fun c3 => ?_)
        · have hf := (if_neg c3).symm.trans hf
          obtain ⟨x4, ex4, hf⟩ := mlet_e hf
          refine lv_iinc (v := x4) (lv' := [(2, .int x4), (0, .ref (w.1 g 1)), (1, .int a1)]) hx hb dX6_placeOf_22 hl (k := 2) rfl (by rw [ex4]; rfl) (by decide) rfl (fun ls hl => ?_)
          refine lv_goto (tgt := 2) hx hb dX6_placeOf_25 (by decide) ?_
          exact ih2 x4 kk H _ _ hf hI (lv_sub hl [1, 2, 0] rfl) hk
        · have hf := (if_pos c3).symm.trans hf
          refine lv_iload_n hx hb dX6_placeOf_20 rfl (lv_at hl 2 rfl) ?_
          exact m_iretp hx hb hr hlk hI hf dX6_placeOf_21
  refine hL2 1000 (0 : Int32) _ _ _ _ hf hI (lv_sub hl [1, 2, 0] rfl) ?_
  intro _u H locs ls hf hI hl
  try dsimp only at hf
  refine lv_iconst (v := (-1)) hx hb dX6_placeOf_28 (by decide) ?_
  exact m_iretp hx hb hr hlk hI hf dX6_placeOf_29
abbrev rmX6_join : Room := { frames := 2, cells := 0, slots := 0, locals := 44 }
theorem kb_X6_join {R : Room} {s : State} {args : Array Value} {own : String} {idx : Nat} (hT : mT s) (hlink : (Cond.methodLink own idx yX6_join).before args s = true) (h1 : rmX6_join.frames + 1 ≤ R.frames) (h2 : 8 + (2 + 11) + rmX6_join.locals ≤ R.locals) : CallB R s args own idx yX6_join cX6_join 2 (some .int) [Cond.code yX6_join cX6_join 2 (some .int)] rmX6_join 0 0 0 := m_callB hT kc_X6_join ki_X6_join hlink (by decide +kernel) ⟨rfl, rfl, h1, h2⟩
set_option maxHeartbeats 4000000 in
set_option maxRecDepth 100000 in
theorem c_X6_join (l : Launch) (w : WD) (sz : Nat) (g : Nat) (hg : g ≤ 10) (M : Mem) (r : Int32) (M9 : Mem) (hf : f_X6_join g M = some (r, M9)) : mMet l yX6_join cX6_join 2 (some .int) rmX6_join w sz M [.ref (w.1 g 1)] (some (.int r)) M9 := by
  refine m_of (by decide) (Nat.le_of_ble_eq_true rfl) ?_
  intro p e s m args below meth c hx hb hr hml hown hlk hI ls hl
  have hl : lv_has ls 2 [(0, .ref (w.1 g 1))] := hl
  unfold f_X6_join at hf
  refine lv_aload_n hx hb dX6_join_0 rfl (lv_at hl 0 rfl) ?_
  refine m_get (g := g) (i := 1) (ci := 5) (k := 0) (v := .int (M g 1 0)) hx hb hI hown (mokS hg (by decide)) rfl rfl (by decide) lyX6 (q50 hI.T) rfl dX6_join_1 ?_
  refine lv_topi (fun x1 ex1 => ?_)
  have hf := mlet_s ex1 hf
  refine lv_istore_n (lv' := [(1, .int x1), (0, .ref (w.1 g 1))]) hx hb dX6_join_4 rfl hl (by decide) rfl (fun ls hl => ?_)
  refine lv_aload_n hx hb dX6_join_5 rfl (lv_at hl 1 rfl) ?_
  refine lv_dup hx hb dX6_join_6 rfl ?_
  refine m_get (g := g) (i := 1) (ci := 5) (k := 0) (v := .int (M g 1 0)) hx hb hI hown (mokS hg (by decide)) rfl rfl (by decide) lyX6 (q50 hI.T) rfl dX6_join_7 ?_
  refine lv_iconst (v := 1) hx hb dX6_join_10 (by decide) ?_
  refine lv_iadd hx hb dX6_join_11 ?_
  obtain ⟨M2, eM2, hf⟩ := mlet_e hf
  refine m_put (g := g) (i := 1) (ci := 5) (k := 0) (ty := .int) (M1 := M2) hx hb hI hown (mokS hg (by decide)) rfl rfl (by decide) lyX6 tyX6 tyX6_ok nmX6 (q50 hI.T) rfl rfl rfl rfl (Nat.le_of_ble_eq_true rfl) rfl eM2 dX6_join_12 (fun H locs hI => ?_)
  refine lv_aload_n hx hb dX6_join_15 rfl (lv_at hl 1 rfl) ?_
  refine m_get (g := g) (i := 1) (ci := 5) (k := 1) (v := .ref (w.1 g 2)) hx hb hI hown (mokS hg (by decide)) rfl rfl (by decide) lyX6 (q53 hI.T) rfl dX6_join_16 ?_
  refine lv_iload_n hx hb dX6_join_19 rfl (lv_at hl 0 rfl) ?_
  refine lv_aload_n hx hb dX6_join_20 rfl (lv_at hl 1 rfl) ?_
  refine lv_iload_n hx hb dX6_join_21 rfl (lv_at hl 0 rfl) ?_
  obtain ⟨r3, hc, hf⟩ := mbp_e hf
  refine m_callV (As := [.int x1]) (rest := [.int x1, .ref (w.1 g 2)]) hx hb hml hown hI (c_X6_correctShare l w H.size g hg x1 M2 _ hc) (kb_X6_correctShare hI.T (q580 hI.T) (Nat.le_of_ble_eq_true rfl) (Nat.le_of_ble_eq_true rfl)) (q581 hI.T) (q582 hI.T) (m_recv (g := g) (i := 1) hI (mokS hg (by decide)) rfl rfl) rfl hl.1 (Nat.le_of_ble_eq_true rfl) dX6_join_22 ⟨Nat.le_of_ble_eq_true rfl, Nat.le_of_ble_eq_true rfl⟩ (fun H locs hI => ?_)
  obtain ⟨hi, hf⟩ := mix_e hf
  obtain ⟨M4, eM4, hf⟩ := mlet_e hf
  refine m_iast (g := g) (i := 2) (M1 := M4) hx hb hI (mokS hg (by decide)) rfl hi eM4 dX6_join_25 (fun H locs hI => ?_)
  refine lv_iload_n hx hb dX6_join_26 rfl (lv_at hl 0 rfl) ?_
  exact m_iretf hx hb hr hlk hI hf dX6_join_27
abbrev rmX6_sealWith : Room := { frames := 2, cells := 0, slots := 0, locals := 44 }
theorem kb_X6_sealWith {R : Room} {s : State} {args : Array Value} {own : String} {idx : Nat} (hT : mT s) (hlink : (Cond.methodLink own idx yX6_sealWith).before args s = true) (h1 : rmX6_sealWith.frames + 1 ≤ R.frames) (h2 : 8 + (6 + 11) + rmX6_sealWith.locals ≤ R.locals) : CallB R s args own idx yX6_sealWith cX6_sealWith 6 (none) [Cond.code yX6_sealWith cX6_sealWith 6 (none)] rmX6_sealWith 0 0 4 := m_callB hT kc_X6_sealWith ki_X6_sealWith hlink (by decide +kernel) ⟨rfl, rfl, h1, h2⟩
set_option maxHeartbeats 4000000 in
set_option maxRecDepth 100000 in
theorem c_X6_sealWith (l : Launch) (w : WD) (sz : Nat) (g : Nat) (hg : g ≤ 10) (a1 : Int32) (a2 : Int32) (a3 : Int32) (a4 : Int32) (M : Mem) (r : Unit) (M9 : Mem) (hf : f_X6_sealWith g a1 a2 a3 a4 M = some (r, M9)) : mMet l yX6_sealWith cX6_sealWith 6 (none) rmX6_sealWith w sz M [.ref (w.1 g 1), .int a1, .int a2, .int a3, .int a4] none M9 := by
  refine m_of (by decide) (Nat.le_of_ble_eq_true rfl) ?_
  intro p e s m args below meth c hx hb hr hml hown hlk hI ls hl
  have hl : lv_has ls 6 [(0, .ref (w.1 g 1)), (1, .int a1), (2, .int a2), (3, .int a3), (4, .int a4)] := hl
  unfold f_X6_sealWith at hf
  refine lv_aload_n hx hb dX6_sealWith_0 rfl (lv_at hl 0 rfl) ?_
  refine lv_iconst (v := 1) hx hb dX6_sealWith_1 (by decide) ?_
  obtain ⟨M1, eM1, hf⟩ := mlet_e hf
  refine m_put (g := g) (i := 1) (ci := 5) (k := 2) (ty := .boolean) (M1 := M1) hx hb hI hown (mokS hg (by decide)) rfl rfl (by decide) lyX6 tyX6 tyX6_ok nmX6 (q57 hI.T) rfl rfl rfl rfl (Nat.le_of_ble_eq_true rfl) rfl eM1 dX6_sealWith_2 (fun H locs hI => ?_)
  refine lv_aload_n hx hb dX6_sealWith_5 rfl (lv_at hl 0 rfl) ?_
  refine lv_iload hx hb dX6_sealWith_6 (lv_at hl 4 rfl) ?_
  obtain ⟨M2, eM2, hf⟩ := mlet_e hf
  refine m_put (g := g) (i := 1) (ci := 5) (k := 3) (ty := .int) (M1 := M2) hx hb hI hown (mokS hg (by decide)) rfl rfl (by decide) lyX6 tyX6 tyX6_ok nmX6 (q60 hI.T) rfl rfl rfl rfl (Nat.le_of_ble_eq_true rfl) rfl eM2 dX6_sealWith_8 (fun H locs hI => ?_)
  refine lv_aload_n hx hb dX6_sealWith_11 rfl (lv_at hl 0 rfl) ?_
  refine m_get (g := g) (i := 1) (ci := 5) (k := 4) (v := .ref (w.1 g 3)) hx hb hI hown (mokS hg (by decide)) rfl rfl (by decide) lyX6 (q64 hI.T) rfl dX6_sealWith_12 ?_
  refine lv_iconst (v := 0) hx hb dX6_sealWith_15 (by decide) ?_
  refine lv_iload_n hx hb dX6_sealWith_16 rfl (lv_at hl 1 rfl) ?_
  obtain ⟨hi, hf⟩ := mix_e hf
  obtain ⟨M3, eM3, hf⟩ := mlet_e hf
  refine m_iast (g := g) (i := 3) (M1 := M3) hx hb hI (mokS hg (by decide)) rfl hi eM3 dX6_sealWith_17 (fun H locs hI => ?_)
  refine lv_aload_n hx hb dX6_sealWith_18 rfl (lv_at hl 0 rfl) ?_
  refine m_get (g := g) (i := 1) (ci := 5) (k := 4) (v := .ref (w.1 g 3)) hx hb hI hown (mokS hg (by decide)) rfl rfl (by decide) lyX6 (q64 hI.T) rfl dX6_sealWith_19 ?_
  refine lv_iconst (v := 1) hx hb dX6_sealWith_22 (by decide) ?_
  refine lv_iload hx hb dX6_sealWith_23 (lv_at hl 4 rfl) ?_
  refine lv_iconst (v := 1) hx hb dX6_sealWith_25 (by decide) ?_
  obtain ⟨k34_6, ek34_6, hf⟩ := mlet_e hf
  have hj34_6 : ∀ (x5 : Int32) (H : Heap) (locs : List Loc) (ls : Array Slot), k34_6 x5 = some (r, M9) → mI w s (mA w s.heap.size) H locs M3 → lv_has ls 6 [(0, .ref (w.1 g 1)), (3, .int a3), (4, .int a4)] → W p l e rmX6_sealWith s m args below meth c H locs 0 0 (MQ below (mQ w s.heap.size none M9) args s 0 0 (mA w s.heap.size)) (F0 m 34 ls [.int x5, .int (1 : Int32), .ref (w.1 g 3)]) := by
    intro x5 H locs ls hf hI hl
    rw [ek34_6] at hf
    try dsimp only at hf
    obtain ⟨hi, hf⟩ := mix_e hf
    obtain ⟨M7, eM7, hf⟩ := mlet_e hf
    refine m_iast (g := g) (i := 3) (M1 := M7) hx hb hI (mokS hg (by decide)) rfl hi eM7 dX6_sealWith_34 (fun H locs hI => ?_)
    refine lv_aload_n hx hb dX6_sealWith_35 rfl (lv_at hl 0 rfl) ?_
    refine m_get (g := g) (i := 1) (ci := 5) (k := 4) (v := .ref (w.1 g 3)) hx hb hI hown (mokS hg (by decide)) rfl rfl (by decide) lyX6 (q64 hI.T) rfl dX6_sealWith_36 ?_
    refine lv_iconst (v := 2) hx hb dX6_sealWith_39 (by decide) ?_
    refine lv_iload hx hb dX6_sealWith_40 (lv_at hl 2 rfl) ?_
    refine lv_iconst (v := 3) hx hb dX6_sealWith_42 (by decide) ?_
    obtain ⟨k51_10, ek51_10, hf⟩ := mlet_e hf
    have hj51_10 : ∀ (x9 : Int32) (H : Heap) (locs : List Loc) (ls : Array Slot), k51_10 x9 = some (r, M9) → mI w s (mA w s.heap.size) H locs M7 → lv_has ls 6 [(0, .ref (w.1 g 1))] → W p l e rmX6_sealWith s m args below meth c H locs 0 0 (MQ below (mQ w s.heap.size none M9) args s 0 0 (mA w s.heap.size)) (F0 m 51 ls [.int x9, .int (2 : Int32), .ref (w.1 g 3)]) := by
      intro x9 H locs ls hf hI hl
      rw [ek51_10] at hf
      try dsimp only at hf
      obtain ⟨hi, hf⟩ := mix_e hf
      obtain ⟨M11, eM11, hf⟩ := mlet_e hf
      refine m_iast (g := g) (i := 3) (M1 := M11) hx hb hI (mokS hg (by decide)) rfl hi eM11 dX6_sealWith_51 (fun H locs hI => ?_)
      refine lv_aload_n hx hb dX6_sealWith_52 rfl (lv_at hl 0 rfl) ?_
      refine lv_iconst (v := 0) hx hb dX6_sealWith_53 (by decide) ?_
      obtain ⟨M12, eM12, hf⟩ := mlet_e hf
      refine m_put (g := g) (i := 1) (ci := 5) (k := 5) (ty := .int) (M1 := M12) hx hb hI hown (mokS hg (by decide)) rfl rfl (by decide) lyX6 tyX6 tyX6_ok nmX6 (q65 hI.T) rfl rfl rfl rfl (Nat.le_of_ble_eq_true rfl) rfl eM12 dX6_sealWith_54 (fun H locs hI => ?_)
      refine lv_iconst (v := 0) hx hb dX6_sealWith_57 (by decide) ?_
      refine lv_istore (lv' := [(5, .int (0 : Int32)), (0, .ref (w.1 g 1))]) hx hb dX6_sealWith_58 hl (by decide) rfl (fun ls hl => ?_)
      have hL60 : ∀ (n : Nat) (x13 : Int32) (M14 : Mem) (kk : Mem → Option (Unit × Mem)) (H : Heap) (locs : List Loc) (ls : Array Slot), f_X6_sealWith_L60 g n x13 M14 kk = some (r, M9) → mI w s (mA w s.heap.size) H locs M14 → lv_has ls 6 [(0, .ref (w.1 g 1)), (5, .int x13)] → (∀  (M14 : Mem) (H : Heap) (locs : List Loc) (ls : Array Slot), kk M14 = some (r, M9) → mI w s (mA w s.heap.size) H locs M14 → lv_has ls 6 [] → W p l e rmX6_sealWith s m args below meth c H locs 0 0 (MQ below (mQ w s.heap.size none M9) args s 0 0 (mA w s.heap.size)) (F0 m 88 ls [])) → W p l e rmX6_sealWith s m args below meth c H locs 0 0 (MQ below (mQ w s.heap.size none M9) args s 0 0 (mA w s.heap.size)) (F0 m 60 ls []) := by
        intro n
        induction n with
        | zero => intro x13 M14 kk H locs ls hf hI hl hk; rw [f_X6_sealWith_L60.eq_1] at hf; cases hf
        | succ n ih60 =>
          intro x13 M14 kk H locs ls hf hI hl hk
          rw [f_X6_sealWith_L60.eq_2] at hf
          refine lv_iload hx hb dX6_sealWith_60 (lv_at hl 1 rfl) ?_
          refine lv_aload_n hx hb dX6_sealWith_62 rfl (lv_at hl 0 rfl) ?_
          refine m_get (g := g) (i := 1) (ci := 5) (k := 0) (v := .int (M14 g 1 0)) hx hb hI hown (mokS hg (by decide)) rfl rfl (by decide) lyX6 (q50 hI.T) rfl dX6_sealWith_63 ?_
          refine lv_icmp_ge (tgt := 88) hx hb dX6_sealWith_66 (by decide) (fun c15 => ?_) (fun c15 => ?_)
          · have hf := (if_pos c15).symm.trans hf
            exact hk M14 H _ _ hf hI (lv_sub hl [] rfl)
          · have hf := (if_neg c15).symm.trans hf
            refine lv_aload_n hx hb dX6_sealWith_69 rfl (lv_at hl 0 rfl) ?_
            refine m_get (g := g) (i := 1) (ci := 5) (k := 1) (v := .ref (w.1 g 2)) hx hb hI hown (mokS hg (by decide)) rfl rfl (by decide) lyX6 (q53 hI.T) rfl dX6_sealWith_70 ?_
            refine lv_iload hx hb dX6_sealWith_73 (lv_at hl 1 rfl) ?_
            refine lv_aload_n hx hb dX6_sealWith_75 rfl (lv_at hl 0 rfl) ?_
            refine lv_iload hx hb dX6_sealWith_76 (lv_at hl 1 rfl) ?_
            obtain ⟨r16, hc, hf⟩ := mbp_e hf
            refine m_callV (As := [.int x13]) (rest := [.int x13, .ref (w.1 g 2)]) hx hb hml hown hI (c_X6_correctShare l w H.size g hg x13 M14 _ hc) (kb_X6_correctShare hI.T (q580 hI.T) (Nat.le_of_ble_eq_true rfl) (Nat.le_of_ble_eq_true rfl)) (q581 hI.T) (q582 hI.T) (m_recv (g := g) (i := 1) hI (mokS hg (by decide)) rfl rfl) rfl hl.1 (Nat.le_of_ble_eq_true rfl) dX6_sealWith_78 ⟨Nat.le_of_ble_eq_true rfl, Nat.le_of_ble_eq_true rfl⟩ (fun H locs hI => ?_)
            obtain ⟨hi, hf⟩ := mix_e hf
            obtain ⟨M17, eM17, hf⟩ := mlet_e hf
            refine m_iast (g := g) (i := 2) (M1 := M17) hx hb hI (mokS hg (by decide)) rfl hi eM17 dX6_sealWith_81 (fun H locs hI => ?_)
            obtain ⟨x18, ex18, hf⟩ := mlet_e hf
            refine lv_iinc (v := x18) (lv' := [(5, .int x18), (0, .ref (w.1 g 1))]) hx hb dX6_sealWith_82 hl (k := 1) rfl (by rw [ex18]; rfl) (by decide) rfl (fun ls hl => ?_)
            refine lv_goto (tgt := 60) hx hb dX6_sealWith_85 (by decide) ?_
            exact ih60 x18 M17 kk H _ _ hf hI (lv_sub hl [1, 0] rfl) hk
      refine hL60 1000 (0 : Int32) M12 _ _ _ _ hf hI (lv_sub hl [1, 0] rfl) ?_
      intro M19 H locs ls hf hI hl
      try dsimp only at hf
      exact m_vretf hx hb hr hlk hI hf dX6_sealWith_88
    refine lv_icmp_ge (tgt := 50) hx hb dX6_sealWith_43 (by decide) (fun c8 => ?_) (fun c8 => ?_)
    · have hf := (if_pos c8).symm.trans hf
      refine lv_iload_n hx hb dX6_sealWith_50 rfl (lv_at hl 1 rfl) ?_
      exact hj51_10 a3 H _ _ hf hI (lv_sub hl [0] rfl)
    · have hf := (if_neg c8).symm.trans hf
      refine lv_iconst (v := 0) hx hb dX6_sealWith_46 (by decide) ?_
      refine lv_goto (tgt := 51) hx hb dX6_sealWith_47 (by decide) ?_
      exact hj51_10 (0 : Int32) H _ _ hf hI (lv_sub hl [0] rfl)
  refine lv_icmp_ne (tgt := 33) hx hb dX6_sealWith_26 (by decide) (fun c4 => ?_) (fun c4 => ?_)
  · have hf := (if_neg c4).symm.trans hf
    refine lv_iload_n hx hb dX6_sealWith_33 rfl (lv_at hl 2 rfl) ?_
    exact hj34_6 a2 H _ _ hf hI (lv_sub hl [0, 3, 4] rfl)
  · have hf := (if_pos c4).symm.trans hf
    refine lv_iconst (v := 0) hx hb dX6_sealWith_29 (by decide) ?_
    refine lv_goto (tgt := 34) hx hb dX6_sealWith_30 (by decide) ?_
    exact hj34_6 (0 : Int32) H _ _ hf hI (lv_sub hl [0, 3, 4] rfl)
abbrev rmX6_show : Room := { frames := 0, cells := 0, slots := 0, locals := 0 }
theorem kb_X6_show {R : Room} {s : State} {args : Array Value} {own : String} {idx : Nat} (hT : mT s) (hlink : (Cond.methodLink own idx yX6_show).before args s = true) (h1 : rmX6_show.frames + 1 ≤ R.frames) (h2 : 8 + (2 + 11) + rmX6_show.locals ≤ R.locals) : CallB R s args own idx yX6_show cX6_show 2 (some .int) [Cond.code yX6_show cX6_show 2 (some .int)] rmX6_show 0 0 1 := m_callB hT kc_X6_show ki_X6_show hlink (by decide +kernel) ⟨rfl, rfl, h1, h2⟩
set_option maxHeartbeats 4000000 in
set_option maxRecDepth 100000 in
theorem c_X6_show (l : Launch) (w : WD) (sz : Nat) (g : Nat) (hg : g ≤ 10) (a1 : Int32) (M : Mem) (r : Int32) (M9 : Mem) (hf : f_X6_show g a1 M = some (r, M9)) : mMet l yX6_show cX6_show 2 (some .int) rmX6_show w sz M [.ref (w.1 g 1), .int a1] (some (.int r)) M9 := by
  refine m_of (by decide) (Nat.le_of_ble_eq_true rfl) ?_
  intro p e s m args below meth c hx hb hr hml hown hlk hI ls hl
  have hl : lv_has ls 2 [(0, .ref (w.1 g 1)), (1, .int a1)] := hl
  unfold f_X6_show at hf
  refine lv_aload_n hx hb dX6_show_0 rfl (lv_at hl 0 rfl) ?_
  refine m_get (g := g) (i := 1) (ci := 5) (k := 6) (v := .ref (w.1 g 4)) hx hb hI hown (mokS hg (by decide)) rfl rfl (by decide) lyX6 (q69 hI.T) rfl dX6_show_1 ?_
  refine lv_aload_n hx hb dX6_show_4 rfl (lv_at hl 0 rfl) ?_
  refine m_get (g := g) (i := 1) (ci := 5) (k := 5) (v := .int (M g 1 5)) hx hb hI hown (mokS hg (by decide)) rfl rfl (by decide) lyX6 (q65 hI.T) rfl dX6_show_5 ?_
  refine lv_iload_n hx hb dX6_show_8 rfl (lv_at hl 1 rfl) ?_
  obtain ⟨hi, hf⟩ := mix_e hf
  obtain ⟨M1, eM1, hf⟩ := mlet_e hf
  refine m_iast (g := g) (i := 4) (M1 := M1) hx hb hI (mokS hg (by decide)) rfl hi eM1 dX6_show_9 (fun H locs hI => ?_)
  refine lv_aload_n hx hb dX6_show_10 rfl (lv_at hl 0 rfl) ?_
  refine lv_dup hx hb dX6_show_11 rfl ?_
  refine m_get (g := g) (i := 1) (ci := 5) (k := 5) (v := .int (M1 g 1 5)) hx hb hI hown (mokS hg (by decide)) rfl rfl (by decide) lyX6 (q65 hI.T) rfl dX6_show_12 ?_
  refine lv_iconst (v := 1) hx hb dX6_show_15 (by decide) ?_
  refine lv_iadd hx hb dX6_show_16 ?_
  obtain ⟨M2, eM2, hf⟩ := mlet_e hf
  refine m_put (g := g) (i := 1) (ci := 5) (k := 5) (ty := .int) (M1 := M2) hx hb hI hown (mokS hg (by decide)) rfl rfl (by decide) lyX6 tyX6 tyX6_ok nmX6 (q65 hI.T) rfl rfl rfl rfl (Nat.le_of_ble_eq_true rfl) rfl eM2 dX6_show_17 (fun H locs hI => ?_)
  refine lv_aload_n hx hb dX6_show_20 rfl (lv_at hl 0 rfl) ?_
  refine m_get (g := g) (i := 1) (ci := 5) (k := 5) (v := .int (M2 g 1 5)) hx hb hI hown (mokS hg (by decide)) rfl rfl (by decide) lyX6 (q65 hI.T) rfl dX6_show_21 ?_
  exact m_iretf hx hb hr hlk hI hf dX6_show_24
abbrev rmX6_hide : Room := { frames := 0, cells := 0, slots := 0, locals := 0 }
theorem kb_X6_hide {R : Room} {s : State} {args : Array Value} {own : String} {idx : Nat} (hT : mT s) (hlink : (Cond.methodLink own idx yX6_hide).before args s = true) (h1 : rmX6_hide.frames + 1 ≤ R.frames) (h2 : 8 + (3 + 11) + rmX6_hide.locals ≤ R.locals) : CallB R s args own idx yX6_hide cX6_hide 3 (some .int) [Cond.code yX6_hide cX6_hide 3 (some .int)] rmX6_hide 0 0 1 := m_callB hT kc_X6_hide ki_X6_hide hlink (by decide +kernel) ⟨rfl, rfl, h1, h2⟩
set_option maxHeartbeats 4000000 in
set_option maxRecDepth 100000 in
theorem c_X6_hide (l : Launch) (w : WD) (sz : Nat) (g : Nat) (hg : g ≤ 10) (a1 : Int32) (M : Mem) (r : Int32) (M9 : Mem) (hf : f_X6_hide g a1 M = some (r, M9)) : mMet l yX6_hide cX6_hide 3 (some .int) rmX6_hide w sz M [.ref (w.1 g 1), .int a1] (some (.int r)) M9 := by
  refine m_of (by decide) (Nat.le_of_ble_eq_true rfl) ?_
  intro p e s m args below meth c hx hb hr hml hown hlk hI ls hl
  have hl : lv_has ls 3 [(0, .ref (w.1 g 1)), (1, .int a1)] := hl
  unfold f_X6_hide at hf
  refine lv_aload_n hx hb dX6_hide_0 rfl (lv_at hl 0 rfl) ?_
  refine lv_dup hx hb dX6_hide_1 rfl ?_
  refine m_get (g := g) (i := 1) (ci := 5) (k := 5) (v := .int (M g 1 5)) hx hb hI hown (mokS hg (by decide)) rfl rfl (by decide) lyX6 (q65 hI.T) rfl dX6_hide_2 ?_
  refine lv_iconst (v := 1) hx hb dX6_hide_5 (by decide) ?_
  refine lv_isub hx hb dX6_hide_6 ?_
  obtain ⟨M1, eM1, hf⟩ := mlet_e hf
  refine m_put (g := g) (i := 1) (ci := 5) (k := 5) (ty := .int) (M1 := M1) hx hb hI hown (mokS hg (by decide)) rfl rfl (by decide) lyX6 tyX6 tyX6_ok nmX6 (q65 hI.T) rfl rfl rfl rfl (Nat.le_of_ble_eq_true rfl) rfl eM1 dX6_hide_7 (fun H locs hI => ?_)
  refine lv_iload_n hx hb dX6_hide_10 rfl (lv_at hl 1 rfl) ?_
  refine lv_istore_n (lv' := [(2, .int a1), (0, .ref (w.1 g 1)), (1, .int a1)]) hx hb dX6_hide_11 rfl hl (by decide) rfl (fun ls hl => ?_)
  have hL12 : ∀ (n : Nat) (x2 : Int32) (M3 : Mem) (kk : Mem → Option (Int32 × Mem)) (H : Heap) (locs : List Loc) (ls : Array Slot), f_X6_hide_L12 g n x2 M3 kk = some (r, M9) → mI w s (mA w s.heap.size) H locs M3 → lv_has ls 3 [(0, .ref (w.1 g 1)), (2, .int x2)] → (∀  (M3 : Mem) (H : Heap) (locs : List Loc) (ls : Array Slot), kk M3 = some (r, M9) → mI w s (mA w s.heap.size) H locs M3 → lv_has ls 3 [(0, .ref (w.1 g 1))] → W p l e rmX6_hide s m args below meth c H locs 0 0 (MQ below (mQ w s.heap.size (some (.int r)) M9) args s 0 0 (mA w s.heap.size)) (F0 m 40 ls [])) → W p l e rmX6_hide s m args below meth c H locs 0 0 (MQ below (mQ w s.heap.size (some (.int r)) M9) args s 0 0 (mA w s.heap.size)) (F0 m 12 ls []) := by
    intro n
    induction n with
    | zero => intro x2 M3 kk H locs ls hf hI hl hk; rw [f_X6_hide_L12.eq_1] at hf; cases hf
    | succ n ih12 =>
      intro x2 M3 kk H locs ls hf hI hl hk
      rw [f_X6_hide_L12.eq_2] at hf
      refine lv_iload_n hx hb dX6_hide_12 rfl (lv_at hl 1 rfl) ?_
      refine lv_aload_n hx hb dX6_hide_13 rfl (lv_at hl 0 rfl) ?_
      refine m_get (g := g) (i := 1) (ci := 5) (k := 5) (v := .int (M3 g 1 5)) hx hb hI hown (mokS hg (by decide)) rfl rfl (by decide) lyX6 (q65 hI.T) rfl dX6_hide_14 ?_
      refine lv_icmp_ge (tgt := 40) hx hb dX6_hide_17 (by decide) (fun c4 => ?_) (fun c4 => ?_)
      · have hf := (if_pos c4).symm.trans hf
        exact hk M3 H _ _ hf hI (lv_sub hl [0] rfl)
      · have hf := (if_neg c4).symm.trans hf
        refine lv_aload_n hx hb dX6_hide_20 rfl (lv_at hl 0 rfl) ?_
        refine m_get (g := g) (i := 1) (ci := 5) (k := 6) (v := .ref (w.1 g 4)) hx hb hI hown (mokS hg (by decide)) rfl rfl (by decide) lyX6 (q69 hI.T) rfl dX6_hide_21 ?_
        refine lv_iload_n hx hb dX6_hide_24 rfl (lv_at hl 1 rfl) ?_
        refine lv_aload_n hx hb dX6_hide_25 rfl (lv_at hl 0 rfl) ?_
        refine m_get (g := g) (i := 1) (ci := 5) (k := 6) (v := .ref (w.1 g 4)) hx hb hI hown (mokS hg (by decide)) rfl rfl (by decide) lyX6 (q69 hI.T) rfl dX6_hide_26 ?_
        refine lv_iload_n hx hb dX6_hide_29 rfl (lv_at hl 1 rfl) ?_
        refine lv_iconst (v := 1) hx hb dX6_hide_30 (by decide) ?_
        refine lv_iadd hx hb dX6_hide_31 ?_
        obtain ⟨hi, hf⟩ := mix_e hf
        refine m_iald (g := g) (i := 4) hx hb hI (mokS hg (by decide)) rfl hi dX6_hide_32 ?_
        obtain ⟨hi, hf⟩ := mix_e hf
        obtain ⟨M5, eM5, hf⟩ := mlet_e hf
        refine m_iast (g := g) (i := 4) (M1 := M5) hx hb hI (mokS hg (by decide)) rfl hi eM5 dX6_hide_33 (fun H locs hI => ?_)
        obtain ⟨x6, ex6, hf⟩ := mlet_e hf
        refine lv_iinc (v := x6) (lv' := [(2, .int x6), (0, .ref (w.1 g 1))]) hx hb dX6_hide_34 hl (k := 1) rfl (by rw [ex6]; rfl) (by decide) rfl (fun ls hl => ?_)
        refine lv_goto (tgt := 12) hx hb dX6_hide_37 (by decide) ?_
        exact ih12 x6 M5 kk H _ _ hf hI (lv_sub hl [1, 0] rfl) hk
  refine hL12 1000 a1 M1 _ _ _ _ hf hI (lv_sub hl [1, 0] rfl) ?_
  intro M7 H locs ls hf hI hl
  try dsimp only at hf
  refine lv_aload_n hx hb dX6_hide_40 rfl (lv_at hl 0 rfl) ?_
  refine m_get (g := g) (i := 1) (ci := 5) (k := 5) (v := .int (M7 g 1 5)) hx hb hI hown (mokS hg (by decide)) rfl rfl (by decide) lyX6 (q65 hI.T) rfl dX6_hide_41 ?_
  exact m_iretf hx hb hr hlk hI hf dX6_hide_44
abbrev rmX6_quotientsOf : Room := { frames := 0, cells := 0, slots := 0, locals := 0 }
theorem kb_X6_quotientsOf {R : Room} {s : State} {args : Array Value} {own : String} {idx : Nat} (hT : mT s) (hlink : (Cond.methodLink own idx yX6_quotientsOf).before args s = true) (h1 : rmX6_quotientsOf.frames + 1 ≤ R.frames) (h2 : 8 + (8 + 11) + rmX6_quotientsOf.locals ≤ R.locals) : CallB R s args own idx yX6_quotientsOf cX6_quotientsOf 8 (some .int) [Cond.code yX6_quotientsOf cX6_quotientsOf 8 (some .int)] rmX6_quotientsOf 0 0 3 := m_callB hT kc_X6_quotientsOf ki_X6_quotientsOf hlink (by decide +kernel) ⟨rfl, rfl, h1, h2⟩
set_option maxHeartbeats 4000000 in
set_option maxRecDepth 100000 in
theorem c_X6_quotientsOf (l : Launch) (w : WD) (sz : Nat) (g : Nat) (hg : g ≤ 10) (ga1 ia1 : Nat) (ho1 : mok ga1 ia1) (hn1 : mil ia1 = some 8) (a2 : Int32) (a3 : Int32) (M : Mem) (r : Int32) (hf : f_X6_quotientsOf g ga1 ia1 a2 a3 M = some r) : mMet l yX6_quotientsOf cX6_quotientsOf 8 (some .int) rmX6_quotientsOf w sz M [.ref (w.1 g 1), .ref (w.1 ga1 ia1), .int a2, .int a3] (some (.int r)) M := by
  refine m_of (by decide) (Nat.le_of_ble_eq_true rfl) ?_
  intro p e s m args below meth c hx hb hr hml hown hlk hI ls hl
  have hl : lv_has ls 8 [(0, .ref (w.1 g 1)), (1, .ref (w.1 ga1 ia1)), (2, .int a2), (3, .int a3)] := hl
  unfold f_X6_quotientsOf at hf
  refine lv_iload_n hx hb dX6_quotientsOf_0 rfl (lv_at hl 3 rfl) ?_
  refine lv_iconst (v := 1) hx hb dX6_quotientsOf_1 (by decide) ?_
  refine lv_isub hx hb dX6_quotientsOf_2 ?_
  refine lv_topi (fun x1 ex1 => ?_)
  have hf := mlet_s ex1 hf
  refine lv_istore (lv' := [(4, .int x1), (0, .ref (w.1 g 1)), (1, .ref (w.1 ga1 ia1)), (2, .int a2), (3, .int a3)]) hx hb dX6_quotientsOf_3 hl (by decide) rfl (fun ls hl => ?_)
  refine lv_iconst (v := 1) hx hb dX6_quotientsOf_5 (by decide) ?_
  refine lv_istore (lv' := [(5, .int (1 : Int32)), (4, .int x1), (0, .ref (w.1 g 1)), (1, .ref (w.1 ga1 ia1)), (2, .int a2), (3, .int a3)]) hx hb dX6_quotientsOf_6 hl (by decide) rfl (fun ls hl => ?_)
  refine lv_iconst (v := 1) hx hb dX6_quotientsOf_8 (by decide) ?_
  refine lv_istore (lv' := [(6, .int (1 : Int32)), (5, .int (1 : Int32)), (4, .int x1), (0, .ref (w.1 g 1)), (1, .ref (w.1 ga1 ia1)), (2, .int a2), (3, .int a3)]) hx hb dX6_quotientsOf_9 hl (by decide) rfl (fun ls hl => ?_)
  refine lv_iconst (v := 0) hx hb dX6_quotientsOf_11 (by decide) ?_
  refine lv_istore (lv' := [(7, .int (0 : Int32)), (6, .int (1 : Int32)), (5, .int (1 : Int32)), (4, .int x1), (0, .ref (w.1 g 1)), (1, .ref (w.1 ga1 ia1)), (2, .int a2), (3, .int a3)]) hx hb dX6_quotientsOf_12 hl (by decide) rfl (fun ls hl => ?_)
  have hL14 : ∀ (n : Nat) (x2 : Int32) (x3 : Int32) (x4 : Int32) (kk : Int32 → Int32 → Option Int32) (H : Heap) (locs : List Loc) (ls : Array Slot), f_X6_quotientsOf_L14 g ga1 ia1 a2 M x1 n x2 x3 x4 kk = some r → mI w s (mA w s.heap.size) H locs M → lv_has ls 8 [(0, .ref (w.1 g 1)), (1, .ref (w.1 ga1 ia1)), (2, .int a2), (4, .int x1), (5, .int x2), (6, .int x3), (7, .int x4)] → (∀ (x2 : Int32) (x3 : Int32) (H : Heap) (locs : List Loc) (ls : Array Slot), kk x2 x3 = some r → mI w s (mA w s.heap.size) H locs M → lv_has ls 8 [(5, .int x2), (6, .int x3)] → W p l e rmX6_quotientsOf s m args below meth c H locs 0 0 (MQ below (mQ w s.heap.size (some (.int r)) M) args s 0 0 (mA w s.heap.size)) (F0 m 72 ls [])) → W p l e rmX6_quotientsOf s m args below meth c H locs 0 0 (MQ below (mQ w s.heap.size (some (.int r)) M) args s 0 0 (mA w s.heap.size)) (F0 m 14 ls []) := by
    intro n
    induction n with
    | zero => intro x2 x3 x4 kk H locs ls hf hI hl hk; rw [f_X6_quotientsOf_L14.eq_1] at hf; cases hf
    | succ n ih14 =>
      intro x2 x3 x4 kk H locs ls hf hI hl hk
      rw [f_X6_quotientsOf_L14.eq_2] at hf
      refine lv_iload hx hb dX6_quotientsOf_14 (lv_at hl 6 rfl) ?_
      refine lv_aload_n hx hb dX6_quotientsOf_16 rfl (lv_at hl 0 rfl) ?_
      refine m_get (g := g) (i := 1) (ci := 5) (k := 3) (v := .int (M g 1 3)) hx hb hI hown (mokS hg (by decide)) rfl rfl (by decide) lyX6 (q60 hI.T) rfl dX6_quotientsOf_17 ?_
      refine lv_icmp_ge (tgt := 72) hx hb dX6_quotientsOf_20 (by decide) (fun c5 => ?_) (fun c5 => ?_)
      · have hf := (if_pos c5).symm.trans hf
        exact hk x2 x3 H _ _ hf hI (lv_sub hl [4, 5] rfl)
      · have hf := (if_neg c5).symm.trans hf
        refine lv_iload hx hb dX6_quotientsOf_23 (lv_at hl 6 rfl) ?_
        refine lv_iload_n hx hb dX6_quotientsOf_25 rfl (lv_at hl 2 rfl) ?_
        obtain ⟨k66_11, ek66_11, hf⟩ := mlet_e hf
        have hj66_11 : ∀ (x9 : Int32) (x10 : Int32) (H : Heap) (locs : List Loc) (ls : Array Slot), k66_11 x9 x10 = some r → mI w s (mA w s.heap.size) H locs M → lv_has ls 8 [(0, .ref (w.1 g 1)), (1, .ref (w.1 ga1 ia1)), (2, .int a2), (4, .int x1), (5, .int x9), (6, .int x10), (7, .int x4)] → W p l e rmX6_quotientsOf s m args below meth c H locs 0 0 (MQ below (mQ w s.heap.size (some (.int r)) M) args s 0 0 (mA w s.heap.size)) (F0 m 66 ls []) := by
          intro x9 x10 H locs ls hf hI hl
          rw [ek66_11] at hf
          try dsimp only at hf
          obtain ⟨x12, ex12, hf⟩ := mlet_e hf
          refine lv_iinc (v := x12) (lv' := [(7, .int x12), (0, .ref (w.1 g 1)), (1, .ref (w.1 ga1 ia1)), (2, .int a2), (4, .int x1), (5, .int x9), (6, .int x10)]) hx hb dX6_quotientsOf_66 hl (k := 6) rfl (by rw [ex12]; rfl) (by decide) rfl (fun ls hl => ?_)
          refine lv_goto (tgt := 14) hx hb dX6_quotientsOf_69 (by decide) ?_
          exact ih14 x9 x10 x12 kk H _ _ hf hI (lv_sub hl [1, 2, 3, 4, 5, 6, 0] rfl) hk
        refine lv_icmp_eq (tgt := 66) hx hb dX6_quotientsOf_26 (by decide) (fun c6 => ?_) (fun c6 => ?_)
        · have hf := (if_pos c6).symm.trans hf
          exact hj66_11 x2 x3 H _ _ hf hI (lv_sub hl [0, 1, 2, 3, 4, 5, 6] rfl)
        · have hf := (if_neg c6).symm.trans hf
          refine lv_iload hx hb dX6_quotientsOf_29 (lv_at hl 4 rfl) ?_
          refine lv_iload hx hb dX6_quotientsOf_31 (lv_at hl 3 rfl) ?_
          refine lv_aload_n hx hb dX6_quotientsOf_33 rfl (lv_at hl 1 rfl) ?_
          refine lv_iload hx hb dX6_quotientsOf_34 (lv_at hl 6 rfl) ?_
          obtain ⟨hi, hf⟩ := mix_e hf
          refine m_iald (g := ga1) (i := ia1) hx hb hI ho1 hn1 hi dX6_quotientsOf_36 ?_
          refine lv_isub hx hb dX6_quotientsOf_37 ?_
          refine lv_bipush (v := 97) hx hb dX6_quotientsOf_38 (by decide) ?_
          refine lv_iadd hx hb dX6_quotientsOf_40 ?_
          refine lv_imul hx hb dX6_quotientsOf_41 ?_
          refine lv_bipush (v := 97) hx hb dX6_quotientsOf_42 (by decide) ?_
          refine lv_irem hx hb dX6_quotientsOf_44 (by decide) ?_
          refine lv_topi (fun x7 ex7 => ?_)
          have hf := mlet_s ex7 hf
          refine lv_istore (lv' := [(5, .int x7), (0, .ref (w.1 g 1)), (1, .ref (w.1 ga1 ia1)), (2, .int a2), (4, .int x1), (6, .int x3), (7, .int x4)]) hx hb dX6_quotientsOf_45 hl (by decide) rfl (fun ls hl => ?_)
          refine lv_iload hx hb dX6_quotientsOf_47 (lv_at hl 5 rfl) ?_
          refine lv_aload_n hx hb dX6_quotientsOf_49 rfl (lv_at hl 2 rfl) ?_
          refine lv_iload_n hx hb dX6_quotientsOf_50 rfl (lv_at hl 3 rfl) ?_
          obtain ⟨hi, hf⟩ := mix_e hf
          refine m_iald (g := ga1) (i := ia1) hx hb hI ho1 hn1 hi dX6_quotientsOf_51 ?_
          refine lv_aload_n hx hb dX6_quotientsOf_52 rfl (lv_at hl 2 rfl) ?_
          refine lv_iload hx hb dX6_quotientsOf_53 (lv_at hl 6 rfl) ?_
          obtain ⟨hi, hf⟩ := mix_e hf
          refine m_iald (g := ga1) (i := ia1) hx hb hI ho1 hn1 hi dX6_quotientsOf_55 ?_
          refine lv_isub hx hb dX6_quotientsOf_56 ?_
          refine lv_bipush (v := 97) hx hb dX6_quotientsOf_57 (by decide) ?_
          refine lv_iadd hx hb dX6_quotientsOf_59 ?_
          refine lv_imul hx hb dX6_quotientsOf_60 ?_
          refine lv_bipush (v := 97) hx hb dX6_quotientsOf_61 (by decide) ?_
          refine lv_irem hx hb dX6_quotientsOf_63 (by decide) ?_
          refine lv_topi (fun x8 ex8 => ?_)
          have hf := mlet_s ex8 hf
          refine lv_istore (lv' := [(6, .int x8), (5, .int x7), (0, .ref (w.1 g 1)), (1, .ref (w.1 ga1 ia1)), (2, .int a2), (4, .int x1), (7, .int x4)]) hx hb dX6_quotientsOf_64 hl (by decide) rfl (fun ls hl => ?_)
          exact hj66_11 x7 x8 H _ _ hf hI (lv_sub hl [2, 3, 4, 5, 1, 0, 6] rfl)
  refine hL14 1000 (1 : Int32) (1 : Int32) (0 : Int32) _ _ _ _ hf hI (lv_sub hl [4, 5, 6, 3, 2, 1, 0] rfl) ?_
  intro x13 x14 H locs ls hf hI hl
  try dsimp only at hf
  refine lv_iload hx hb dX6_quotientsOf_72 (lv_at hl 0 rfl) ?_
  refine va_getsN hx hb hI.Zinv hI.S hown (q443 hI.T) (fun _ h => h) dX6_quotientsOf_74 ?_
  refine lv_iload hx hb dX6_quotientsOf_77 (lv_at hl 1 rfl) ?_
  obtain ⟨hi, hf⟩ := mix_e hf
  refine va_ti hx hb hI.Tinv hI.S hi rfl dX6_quotientsOf_79 ?_
  refine lv_imul hx hb dX6_quotientsOf_80 ?_
  refine lv_bipush (v := 97) hx hb dX6_quotientsOf_81 (by decide) ?_
  refine lv_irem hx hb dX6_quotientsOf_83 (by decide) ?_
  exact m_iretp hx hb hr hlk hI hf dX6_quotientsOf_84
abbrev rmX6_valueThrough : Room := { frames := 1, cells := 0, slots := 0, locals := 27 }
theorem kb_X6_valueThrough {R : Room} {s : State} {args : Array Value} {own : String} {idx : Nat} (hT : mT s) (hlink : (Cond.methodLink own idx yX6_valueThrough).before args s = true) (h1 : rmX6_valueThrough.frames + 1 ≤ R.frames) (h2 : 8 + (5 + 11) + rmX6_valueThrough.locals ≤ R.locals) : CallB R s args own idx yX6_valueThrough cX6_valueThrough 5 (some .int) [Cond.code yX6_valueThrough cX6_valueThrough 5 (some .int)] rmX6_valueThrough 0 0 2 := m_callB hT kc_X6_valueThrough ki_X6_valueThrough hlink (by decide +kernel) ⟨rfl, rfl, h1, h2⟩
set_option maxHeartbeats 4000000 in
set_option maxRecDepth 100000 in
theorem c_X6_valueThrough (l : Launch) (w : WD) (sz : Nat) (g : Nat) (hg : g ≤ 10) (ga1 ia1 : Nat) (ho1 : mok ga1 ia1) (hn1 : mil ia1 = some 8) (a2 : Int32) (M : Mem) (r : Int32) (hf : f_X6_valueThrough g ga1 ia1 a2 M = some r) : mMet l yX6_valueThrough cX6_valueThrough 5 (some .int) rmX6_valueThrough w sz M [.ref (w.1 g 1), .ref (w.1 ga1 ia1), .int a2] (some (.int r)) M := by
  refine m_of (by decide) (Nat.le_of_ble_eq_true rfl) ?_
  intro p e s m args below meth c hx hb hr hml hown hlk hI ls hl
  have hl : lv_has ls 5 [(0, .ref (w.1 g 1)), (1, .ref (w.1 ga1 ia1)), (2, .int a2)] := hl
  unfold f_X6_valueThrough at hf
  refine lv_iconst (v := 0) hx hb dX6_valueThrough_0 (by decide) ?_
  refine lv_istore_n (lv' := [(3, .int (0 : Int32)), (0, .ref (w.1 g 1)), (1, .ref (w.1 ga1 ia1)), (2, .int a2)]) hx hb dX6_valueThrough_1 rfl hl (by decide) rfl (fun ls hl => ?_)
  refine lv_iconst (v := 0) hx hb dX6_valueThrough_2 (by decide) ?_
  refine lv_istore (lv' := [(4, .int (0 : Int32)), (3, .int (0 : Int32)), (0, .ref (w.1 g 1)), (1, .ref (w.1 ga1 ia1)), (2, .int a2)]) hx hb dX6_valueThrough_3 hl (by decide) rfl (fun ls hl => ?_)
  have hL5 : ∀ (n : Nat) (x1 : Int32) (x2 : Int32) (kk : Int32 → Option Int32) (H : Heap) (locs : List Loc) (ls : Array Slot), f_X6_valueThrough_L5 g ga1 ia1 a2 M n x1 x2 kk = some r → mI w s (mA w s.heap.size) H locs M → lv_has ls 5 [(0, .ref (w.1 g 1)), (1, .ref (w.1 ga1 ia1)), (2, .int a2), (3, .int x1), (4, .int x2)] → (∀ (x1 : Int32) (H : Heap) (locs : List Loc) (ls : Array Slot), kk x1 = some r → mI w s (mA w s.heap.size) H locs M → lv_has ls 5 [(3, .int x1)] → W p l e rmX6_valueThrough s m args below meth c H locs 0 0 (MQ below (mQ w s.heap.size (some (.int r)) M) args s 0 0 (mA w s.heap.size)) (F0 m 41 ls [])) → W p l e rmX6_valueThrough s m args below meth c H locs 0 0 (MQ below (mQ w s.heap.size (some (.int r)) M) args s 0 0 (mA w s.heap.size)) (F0 m 5 ls []) := by
    intro n
    induction n with
    | zero => intro x1 x2 kk H locs ls hf hI hl hk; rw [f_X6_valueThrough_L5.eq_1] at hf; cases hf
    | succ n ih5 =>
      intro x1 x2 kk H locs ls hf hI hl hk
      rw [f_X6_valueThrough_L5.eq_2] at hf
      refine lv_iload hx hb dX6_valueThrough_5 (lv_at hl 4 rfl) ?_
      refine lv_aload_n hx hb dX6_valueThrough_7 rfl (lv_at hl 0 rfl) ?_
      refine m_get (g := g) (i := 1) (ci := 5) (k := 3) (v := .int (M g 1 3)) hx hb hI hown (mokS hg (by decide)) rfl rfl (by decide) lyX6 (q60 hI.T) rfl dX6_valueThrough_8 ?_
      refine lv_icmp_ge (tgt := 41) hx hb dX6_valueThrough_11 (by decide) (fun c3 => ?_) (fun c3 => ?_)
      · have hf := (if_pos c3).symm.trans hf
        exact hk x1 H _ _ hf hI (lv_sub hl [3] rfl)
      · have hf := (if_neg c3).symm.trans hf
        refine lv_iload_n hx hb dX6_valueThrough_14 rfl (lv_at hl 3 rfl) ?_
        refine lv_aload_n hx hb dX6_valueThrough_15 rfl (lv_at hl 0 rfl) ?_
        refine m_get (g := g) (i := 1) (ci := 5) (k := 1) (v := .ref (w.1 g 2)) hx hb hI hown (mokS hg (by decide)) rfl rfl (by decide) lyX6 (q53 hI.T) rfl dX6_valueThrough_16 ?_
        refine lv_aload_n hx hb dX6_valueThrough_19 rfl (lv_at hl 1 rfl) ?_
        refine lv_iload hx hb dX6_valueThrough_20 (lv_at hl 4 rfl) ?_
        obtain ⟨hi, hf⟩ := mix_e hf
        refine m_iald (g := ga1) (i := ia1) hx hb hI ho1 hn1 hi dX6_valueThrough_22 ?_
        obtain ⟨hi, hf⟩ := mix_e hf
        refine m_iald (g := g) (i := 2) hx hb hI (mokS hg (by decide)) rfl hi dX6_valueThrough_23 ?_
        refine lv_aload_n hx hb dX6_valueThrough_24 rfl (lv_at hl 0 rfl) ?_
        refine lv_aload_n hx hb dX6_valueThrough_25 rfl (lv_at hl 1 rfl) ?_
        refine lv_iload hx hb dX6_valueThrough_26 (lv_at hl 4 rfl) ?_
        refine lv_iload_n hx hb dX6_valueThrough_28 rfl (lv_at hl 2 rfl) ?_
        obtain ⟨r4, hc, hf⟩ := mbp_e hf
        refine m_callV (As := [.ref (w.1 ga1 ia1), .int x2, .int a2]) (rest := [.int (M g 2 (M ga1 ia1 x2.toNatClampNeg).toNatClampNeg), .int x1]) hx hb hml hown hI (c_X6_quotientsOf l w H.size g hg ga1 ia1 ho1 hn1 x2 a2 M _ hc) (kb_X6_quotientsOf hI.T (q439 hI.T) (Nat.le_of_ble_eq_true rfl) (Nat.le_of_ble_eq_true rfl)) (q441 hI.T) (sel_X6_quotientsOf hI.T) (m_recv (g := g) (i := 1) hI (mokS hg (by decide)) rfl rfl) rfl hl.1 (Nat.le_of_ble_eq_true rfl) dX6_valueThrough_29 ⟨Nat.le_of_ble_eq_true rfl, Nat.le_of_ble_eq_true rfl⟩ (fun H locs hI => ?_)
        refine lv_imul hx hb dX6_valueThrough_32 ?_
        refine lv_iadd hx hb dX6_valueThrough_33 ?_
        refine lv_topi (fun x5 ex5 => ?_)
        have hf := mlet_s ex5 hf
        refine lv_istore_n (lv' := [(3, .int x5), (0, .ref (w.1 g 1)), (1, .ref (w.1 ga1 ia1)), (2, .int a2), (4, .int x2)]) hx hb dX6_valueThrough_34 rfl hl (by decide) rfl (fun ls hl => ?_)
        obtain ⟨x6, ex6, hf⟩ := mlet_e hf
        refine lv_iinc (v := x6) (lv' := [(4, .int x6), (3, .int x5), (0, .ref (w.1 g 1)), (1, .ref (w.1 ga1 ia1)), (2, .int a2)]) hx hb dX6_valueThrough_35 hl (k := 4) rfl (by rw [ex6]; rfl) (by decide) rfl (fun ls hl => ?_)
        refine lv_goto (tgt := 5) hx hb dX6_valueThrough_38 (by decide) ?_
        exact ih5 x5 x6 kk H _ _ hf hI (lv_sub hl [2, 3, 4, 1, 0] rfl) hk
  refine hL5 1000 (0 : Int32) (0 : Int32) _ _ _ _ hf hI (lv_sub hl [2, 3, 4, 1, 0] rfl) ?_
  intro x7 H locs ls hf hI hl
  try dsimp only at hf
  refine lv_iload_n hx hb dX6_valueThrough_41 rfl (lv_at hl 0 rfl) ?_
  refine lv_bipush (v := 97) hx hb dX6_valueThrough_42 (by decide) ?_
  refine lv_irem hx hb dX6_valueThrough_44 (by decide) ?_
  exact m_iretp hx hb hr hlk hI hf dX6_valueThrough_45
abbrev rmX6_toldAt : Room := { frames := 2, cells := 0, slots := 0, locals := 51 }
theorem kb_X6_toldAt {R : Room} {s : State} {args : Array Value} {own : String} {idx : Nat} (hT : mT s) (hlink : (Cond.methodLink own idx yX6_toldAt).before args s = true) (h1 : rmX6_toldAt.frames + 1 ≤ R.frames) (h2 : 8 + (2 + 11) + rmX6_toldAt.locals ≤ R.locals) : CallB R s args own idx yX6_toldAt cX6_toldAt 2 (some .int) [Cond.code yX6_toldAt cX6_toldAt 2 (some .int)] rmX6_toldAt 0 0 1 := m_callB hT kc_X6_toldAt ki_X6_toldAt hlink (by decide +kernel) ⟨rfl, rfl, h1, h2⟩
set_option maxHeartbeats 4000000 in
set_option maxRecDepth 100000 in
theorem c_X6_toldAt (l : Launch) (w : WD) (sz : Nat) (g : Nat) (hg : g ≤ 10) (a1 : Int32) (M : Mem) (r : Int32) (hf : f_X6_toldAt g a1 M = some r) : mMet l yX6_toldAt cX6_toldAt 2 (some .int) rmX6_toldAt w sz M [.ref (w.1 g 1), .int a1] (some (.int r)) M := by
  refine m_of (by decide) (Nat.le_of_ble_eq_true rfl) ?_
  intro p e s m args below meth c hx hb hr hml hown hlk hI ls hl
  have hl : lv_has ls 2 [(0, .ref (w.1 g 1)), (1, .int a1)] := hl
  unfold f_X6_toldAt at hf
  refine lv_aload_n hx hb dX6_toldAt_0 rfl (lv_at hl 0 rfl) ?_
  refine lv_aload_n hx hb dX6_toldAt_1 rfl (lv_at hl 0 rfl) ?_
  refine m_get (g := g) (i := 1) (ci := 5) (k := 6) (v := .ref (w.1 g 4)) hx hb hI hown (mokS hg (by decide)) rfl rfl (by decide) lyX6 (q69 hI.T) rfl dX6_toldAt_2 ?_
  refine lv_iload_n hx hb dX6_toldAt_5 rfl (lv_at hl 1 rfl) ?_
  obtain ⟨r1, hc, hf⟩ := mbp_e hf
  refine m_callV (As := [.ref (w.1 g 4), .int a1]) (rest := []) hx hb hml hown hI (c_X6_valueThrough l w s.heap.size g hg g 4 (mokS hg (by decide)) rfl a1 M _ hc) (kb_X6_valueThrough hI.T (q435 hI.T) (Nat.le_of_ble_eq_true rfl) (Nat.le_of_ble_eq_true rfl)) (q437 hI.T) (sel_X6_valueThrough hI.T) (m_recv (g := g) (i := 1) hI (mokS hg (by decide)) rfl rfl) rfl hl.1 (Nat.le_of_ble_eq_true rfl) dX6_toldAt_6 ⟨Nat.le_of_ble_eq_true rfl, Nat.le_of_ble_eq_true rfl⟩ (fun H locs hI => ?_)
  exact m_iretp hx hb hr hlk hI hf dX6_toldAt_9
abbrev rmX6_isOneCurve : Room := { frames := 2, cells := 0, slots := 0, locals := 51 }
theorem kb_X6_isOneCurve {R : Room} {s : State} {args : Array Value} {own : String} {idx : Nat} (hT : mT s) (hlink : (Cond.methodLink own idx yX6_isOneCurve).before args s = true) (h1 : rmX6_isOneCurve.frames + 1 ≤ R.frames) (h2 : 8 + (5 + 11) + rmX6_isOneCurve.locals ≤ R.locals) : CallB R s args own idx yX6_isOneCurve cX6_isOneCurve 5 (some .boolean) [Cond.code yX6_isOneCurve cX6_isOneCurve 5 (some .boolean)] rmX6_isOneCurve 0 0 2 := m_callB hT kc_X6_isOneCurve ki_X6_isOneCurve hlink (by decide +kernel) ⟨rfl, rfl, h1, h2⟩
set_option maxHeartbeats 4000000 in
set_option maxRecDepth 100000 in
theorem c_X6_isOneCurve (l : Launch) (w : WD) (sz : Nat) (g : Nat) (hg : g ≤ 10) (ga1 ia1 : Nat) (ho1 : mok ga1 ia1) (hn1 : mil ia1 = some 8) (a2 : Int32) (M : Mem) (r : Int32) (hf : f_X6_isOneCurve g ga1 ia1 a2 M = some r) : mMet l yX6_isOneCurve cX6_isOneCurve 5 (some .boolean) rmX6_isOneCurve w sz M [.ref (w.1 g 1), .ref (w.1 ga1 ia1), .int a2] (some (.int r)) M := by
  refine m_of (by decide) (Nat.le_of_ble_eq_true rfl) ?_
  intro p e s m args below meth c hx hb hr hml hown hlk hI ls hl
  have hl : lv_has ls 5 [(0, .ref (w.1 g 1)), (1, .ref (w.1 ga1 ia1)), (2, .int a2)] := hl
  unfold f_X6_isOneCurve at hf
  refine lv_aload_n hx hb dX6_isOneCurve_0 rfl (lv_at hl 0 rfl) ?_
  refine m_get (g := g) (i := 1) (ci := 5) (k := 3) (v := .int (M g 1 3)) hx hb hI hown (mokS hg (by decide)) rfl rfl (by decide) lyX6 (q60 hI.T) rfl dX6_isOneCurve_1 ?_
  refine lv_topi (fun x1 ex1 => ?_)
  have hf := mlet_s ex1 hf
  refine lv_istore_n (lv' := [(3, .int x1), (0, .ref (w.1 g 1)), (1, .ref (w.1 ga1 ia1)), (2, .int a2)]) hx hb dX6_isOneCurve_4 rfl hl (by decide) rfl (fun ls hl => ?_)
  have hL5 : ∀ (n : Nat) (x2 : Int32) (kk : Unit → Option Int32) (H : Heap) (locs : List Loc) (ls : Array Slot), f_X6_isOneCurve_L5 g ga1 ia1 a2 M n x2 kk = some r → mI w s (mA w s.heap.size) H locs M → lv_has ls 5 [(0, .ref (w.1 g 1)), (1, .ref (w.1 ga1 ia1)), (2, .int a2), (3, .int x2)] → (∀ (_u : Unit) (H : Heap) (locs : List Loc) (ls : Array Slot), kk () = some r → mI w s (mA w s.heap.size) H locs M → lv_has ls 5 [] → W p l e rmX6_isOneCurve s m args below meth c H locs 0 0 (MQ below (mQ w s.heap.size (some (.int r)) M) args s 0 0 (mA w s.heap.size)) (F0 m 43 ls [])) → W p l e rmX6_isOneCurve s m args below meth c H locs 0 0 (MQ below (mQ w s.heap.size (some (.int r)) M) args s 0 0 (mA w s.heap.size)) (F0 m 5 ls []) := by
    intro n
    induction n with
    | zero => intro x2 kk H locs ls hf hI hl hk; rw [f_X6_isOneCurve_L5.eq_1] at hf; cases hf
    | succ n ih5 =>
      intro x2 kk H locs ls hf hI hl hk
      rw [f_X6_isOneCurve_L5.eq_2] at hf
      refine lv_iload_n hx hb dX6_isOneCurve_5 rfl (lv_at hl 3 rfl) ?_
      refine lv_iload_n hx hb dX6_isOneCurve_6 rfl (lv_at hl 2 rfl) ?_
      refine lv_icmp_ge (tgt := 43) hx hb dX6_isOneCurve_7 (by decide) (fun c3 => ?_) (fun c3 => ?_)
      · have hf := (if_pos c3).symm.trans hf
        exact hk () H _ _ hf hI (lv_sub hl [] rfl)
      · have hf := (if_neg c3).symm.trans hf
        refine lv_aload_n hx hb dX6_isOneCurve_10 rfl (lv_at hl 1 rfl) ?_
        refine lv_iload_n hx hb dX6_isOneCurve_11 rfl (lv_at hl 3 rfl) ?_
        obtain ⟨hi, hf⟩ := mix_e hf
        refine m_iald (g := ga1) (i := ia1) hx hb hI ho1 hn1 hi dX6_isOneCurve_12 ?_
        refine lv_topi (fun x4 ex4 => ?_)
        have hf := mlet_s ex4 hf
        refine lv_istore (lv' := [(4, .int x4), (0, .ref (w.1 g 1)), (1, .ref (w.1 ga1 ia1)), (2, .int a2), (3, .int x2)]) hx hb dX6_isOneCurve_13 hl (by decide) rfl (fun ls hl => ?_)
        refine lv_aload_n hx hb dX6_isOneCurve_15 rfl (lv_at hl 1 rfl) ?_
        refine m_get (g := g) (i := 1) (ci := 5) (k := 1) (v := .ref (w.1 g 2)) hx hb hI hown (mokS hg (by decide)) rfl rfl (by decide) lyX6 (q53 hI.T) rfl dX6_isOneCurve_16 ?_
        refine lv_iload hx hb dX6_isOneCurve_19 (lv_at hl 0 rfl) ?_
        obtain ⟨hi, hf⟩ := mix_e hf
        refine m_iald (g := g) (i := 2) hx hb hI (mokS hg (by decide)) rfl hi dX6_isOneCurve_21 ?_
        refine lv_aload_n hx hb dX6_isOneCurve_22 rfl (lv_at hl 1 rfl) ?_
        refine lv_aload_n hx hb dX6_isOneCurve_23 rfl (lv_at hl 2 rfl) ?_
        refine lv_iload hx hb dX6_isOneCurve_24 (lv_at hl 0 rfl) ?_
        obtain ⟨r5, hc, hf⟩ := mbp_e hf
        refine m_callS (As := [.int x4]) (rest := [.ref (w.1 ga1 ia1), .ref (w.1 g 1), .int (M g 2 x4.toNatClampNeg)]) hx hb hml hown hI (c_X6_positionOf l w H.size x4 M _ hc) (kb_X6_positionOf hI.T (q501 hI.T) (Nat.le_of_ble_eq_true rfl) (Nat.le_of_ble_eq_true rfl)) (q458 hI.T) rfl hl.1 (Nat.le_of_ble_eq_true rfl) dX6_isOneCurve_26 ⟨Nat.le_of_ble_eq_true rfl, Nat.le_of_ble_eq_true rfl⟩ (fun H locs hI => ?_)
        obtain ⟨r6, hc, hf⟩ := mbp_e hf
        refine m_callV (As := [.ref (w.1 ga1 ia1), .int r5]) (rest := [.int (M g 2 x4.toNatClampNeg)]) hx hb hml hown hI (c_X6_valueThrough l w H.size g hg ga1 ia1 ho1 hn1 r5 M _ hc) (kb_X6_valueThrough hI.T (q435 hI.T) (Nat.le_of_ble_eq_true rfl) (Nat.le_of_ble_eq_true rfl)) (q437 hI.T) (sel_X6_valueThrough hI.T) (m_recv (g := g) (i := 1) hI (mokS hg (by decide)) rfl rfl) rfl hl.1 (Nat.le_of_ble_eq_true rfl) dX6_isOneCurve_29 ⟨Nat.le_of_ble_eq_true rfl, Nat.le_of_ble_eq_true rfl⟩ (fun H locs hI => ?_)
        refine lv_icmp_eq (tgt := 37) hx hb dX6_isOneCurve_32 (by decide) (fun c7 => ?_) (fun c7 => ?_)
        · have hf := (if_pos c7).symm.trans hf
          obtain ⟨x8, ex8, hf⟩ := mlet_e hf
          refine lv_iinc (v := x8) (lv' := [(3, .int x8), (4, .int x4), (0, .ref (w.1 g 1)), (1, .ref (w.1 ga1 ia1)), (2, .int a2)]) hx hb dX6_isOneCurve_37 hl (k := 4) rfl (by rw [ex8]; rfl) (by decide) rfl (fun ls hl => ?_)
          refine lv_goto (tgt := 5) hx hb dX6_isOneCurve_40 (by decide) ?_
          exact ih5 x8 kk H _ _ hf hI (lv_sub hl [2, 3, 4, 0] rfl) hk
        · have hf := (if_neg c7).symm.trans hf
          refine lv_iconst (v := 0) hx hb dX6_isOneCurve_35 (by decide) ?_
          exact m_zretp hx hb hr hlk hI rfl hf dX6_isOneCurve_36
  refine hL5 1000 x1 _ _ _ _ hf hI (lv_sub hl [1, 2, 3, 0] rfl) ?_
  intro _u H locs ls hf hI hl
  try dsimp only at hf
  refine lv_iconst (v := 1) hx hb dX6_isOneCurve_43 (by decide) ?_
  exact m_zretp hx hb hr hlk hI rfl hf dX6_isOneCurve_44
abbrev rmX6_allAgree : Room := { frames := 3, cells := 0, slots := 0, locals := 75 }
theorem kb_X6_allAgree {R : Room} {s : State} {args : Array Value} {own : String} {idx : Nat} (hT : mT s) (hlink : (Cond.methodLink own idx yX6_allAgree).before args s = true) (h1 : rmX6_allAgree.frames + 1 ≤ R.frames) (h2 : 8 + (1 + 11) + rmX6_allAgree.locals ≤ R.locals) : CallB R s args own idx yX6_allAgree cX6_allAgree 1 (some .boolean) [Cond.code yX6_allAgree cX6_allAgree 1 (some .boolean)] rmX6_allAgree 0 0 0 := m_callB hT kc_X6_allAgree ki_X6_allAgree hlink (by decide +kernel) ⟨rfl, rfl, h1, h2⟩
set_option maxHeartbeats 4000000 in
set_option maxRecDepth 100000 in
theorem c_X6_allAgree (l : Launch) (w : WD) (sz : Nat) (g : Nat) (hg : g ≤ 10) (M : Mem) (r : Int32) (hf : f_X6_allAgree g M = some r) : mMet l yX6_allAgree cX6_allAgree 1 (some .boolean) rmX6_allAgree w sz M [.ref (w.1 g 1)] (some (.int r)) M := by
  refine m_of (by decide) (Nat.le_of_ble_eq_true rfl) ?_
  intro p e s m args below meth c hx hb hr hml hown hlk hI ls hl
  have hl : lv_has ls 1 [(0, .ref (w.1 g 1))] := hl
  unfold f_X6_allAgree at hf
  refine lv_aload_n hx hb dX6_allAgree_0 rfl (lv_at hl 0 rfl) ?_
  refine lv_aload_n hx hb dX6_allAgree_1 rfl (lv_at hl 0 rfl) ?_
  refine m_get (g := g) (i := 1) (ci := 5) (k := 6) (v := .ref (w.1 g 4)) hx hb hI hown (mokS hg (by decide)) rfl rfl (by decide) lyX6 (q69 hI.T) rfl dX6_allAgree_2 ?_
  refine lv_aload_n hx hb dX6_allAgree_5 rfl (lv_at hl 0 rfl) ?_
  refine m_get (g := g) (i := 1) (ci := 5) (k := 5) (v := .int (M g 1 5)) hx hb hI hown (mokS hg (by decide)) rfl rfl (by decide) lyX6 (q65 hI.T) rfl dX6_allAgree_6 ?_
  obtain ⟨r1, hc, hf⟩ := mbp_e hf
  refine m_callV (As := [.ref (w.1 g 4), .int (M g 1 5)]) (rest := []) hx hb hml hown hI (c_X6_isOneCurve l w s.heap.size g hg g 4 (mokS hg (by decide)) rfl (M g 1 5) M _ hc) (kb_X6_isOneCurve hI.T (q820 hI.T) (Nat.le_of_ble_eq_true rfl) (Nat.le_of_ble_eq_true rfl)) (q498 hI.T) (q499 hI.T) (m_recv (g := g) (i := 1) hI (mokS hg (by decide)) rfl rfl) rfl hl.1 (Nat.le_of_ble_eq_true rfl) dX6_allAgree_9 ⟨Nat.le_of_ble_eq_true rfl, Nat.le_of_ble_eq_true rfl⟩ (fun H locs hI => ?_)
  obtain ⟨hz, hf⟩ := mnz_e hf
  exact m_zretp hx hb hr hlk hI (mnz_n hz) hf dX6_allAgree_12
abbrev rmX6_tellTheSecret : Room := { frames := 3, cells := 0, slots := 0, locals := 75 }
theorem kb_X6_tellTheSecret {R : Room} {s : State} {args : Array Value} {own : String} {idx : Nat} (hT : mT s) (hlink : (Cond.methodLink own idx yX6_tellTheSecret).before args s = true) (h1 : rmX6_tellTheSecret.frames + 1 ≤ R.frames) (h2 : 8 + (1 + 11) + rmX6_tellTheSecret.locals ≤ R.locals) : CallB R s args own idx yX6_tellTheSecret cX6_tellTheSecret 1 (some .boolean) [Cond.code yX6_tellTheSecret cX6_tellTheSecret 1 (some .boolean)] rmX6_tellTheSecret 0 0 0 := m_callB hT kc_X6_tellTheSecret ki_X6_tellTheSecret hlink (by decide +kernel) ⟨rfl, rfl, h1, h2⟩
set_option maxHeartbeats 4000000 in
set_option maxRecDepth 100000 in
theorem c_X6_tellTheSecret (l : Launch) (w : WD) (sz : Nat) (g : Nat) (hg : g ≤ 10) (M : Mem) (r : Int32) (hf : f_X6_tellTheSecret g M = some r) : mMet l yX6_tellTheSecret cX6_tellTheSecret 1 (some .boolean) rmX6_tellTheSecret w sz M [.ref (w.1 g 1)] (some (.int r)) M := by
  refine m_of (by decide) (Nat.le_of_ble_eq_true rfl) ?_
  intro p e s m args below meth c hx hb hr hml hown hlk hI ls hl
  have hl : lv_has ls 1 [(0, .ref (w.1 g 1))] := hl
  unfold f_X6_tellTheSecret at hf
  refine lv_aload_n hx hb dX6_tellTheSecret_0 rfl (lv_at hl 0 rfl) ?_
  refine lv_aload_n hx hb dX6_tellTheSecret_1 rfl (lv_at hl 0 rfl) ?_
  refine m_get (g := g) (i := 1) (ci := 5) (k := 6) (v := .ref (w.1 g 4)) hx hb hI hown (mokS hg (by decide)) rfl rfl (by decide) lyX6 (q69 hI.T) rfl dX6_tellTheSecret_2 ?_
  refine lv_aload_n hx hb dX6_tellTheSecret_5 rfl (lv_at hl 0 rfl) ?_
  refine m_get (g := g) (i := 1) (ci := 5) (k := 5) (v := .int (M g 1 5)) hx hb hI hown (mokS hg (by decide)) rfl rfl (by decide) lyX6 (q65 hI.T) rfl dX6_tellTheSecret_6 ?_
  obtain ⟨r1, hc, hf⟩ := mbp_e hf
  refine m_callV (As := [.ref (w.1 g 4), .int (M g 1 5)]) (rest := []) hx hb hml hown hI (c_X6_isOneCurve l w s.heap.size g hg g 4 (mokS hg (by decide)) rfl (M g 1 5) M _ hc) (kb_X6_isOneCurve hI.T (q820 hI.T) (Nat.le_of_ble_eq_true rfl) (Nat.le_of_ble_eq_true rfl)) (q498 hI.T) (q499 hI.T) (m_recv (g := g) (i := 1) hI (mokS hg (by decide)) rfl rfl) rfl hl.1 (Nat.le_of_ble_eq_true rfl) dX6_tellTheSecret_9 ⟨Nat.le_of_ble_eq_true rfl, Nat.le_of_ble_eq_true rfl⟩ (fun H locs hI => ?_)
  refine lv_if_eq (tgt := 33) hx hb dX6_tellTheSecret_12 (by decide) (fun c2 => ?_) (fun c2 => ?_)
  · have hf := (if_pos c2).symm.trans hf
    refine lv_iconst (v := 0) hx hb dX6_tellTheSecret_33 (by decide) ?_
    exact m_zretp hx hb hr hlk hI rfl hf dX6_tellTheSecret_34
  · have hf := (if_neg c2).symm.trans hf
    refine lv_aload_n hx hb dX6_tellTheSecret_15 rfl (lv_at hl 0 rfl) ?_
    refine lv_iconst (v := 0) hx hb dX6_tellTheSecret_16 (by decide) ?_
    obtain ⟨r3, hc, hf⟩ := mbp_e hf
    refine m_callV (As := [.int (0 : Int32)]) (rest := []) hx hb hml hown hI (c_X6_toldAt l w H.size g hg (0 : Int32) M _ hc) (kb_X6_toldAt hI.T (q821 hI.T) (Nat.le_of_ble_eq_true rfl) (Nat.le_of_ble_eq_true rfl)) (q432 hI.T) (q433 hI.T) (m_recv (g := g) (i := 1) hI (mokS hg (by decide)) rfl rfl) rfl hl.1 (Nat.le_of_ble_eq_true rfl) dX6_tellTheSecret_17 ⟨Nat.le_of_ble_eq_true rfl, Nat.le_of_ble_eq_true rfl⟩ (fun H locs hI => ?_)
    refine lv_aload_n hx hb dX6_tellTheSecret_20 rfl (lv_at hl 0 rfl) ?_
    refine m_get (g := g) (i := 1) (ci := 5) (k := 4) (v := .ref (w.1 g 3)) hx hb hI hown (mokS hg (by decide)) rfl rfl (by decide) lyX6 (q64 hI.T) rfl dX6_tellTheSecret_21 ?_
    refine lv_iconst (v := 0) hx hb dX6_tellTheSecret_24 (by decide) ?_
    obtain ⟨hi, hf⟩ := mix_e hf
    refine m_iald (g := g) (i := 3) hx hb hI (mokS hg (by decide)) rfl hi dX6_tellTheSecret_25 ?_
    refine lv_icmp_ne (tgt := 33) hx hb dX6_tellTheSecret_26 (by decide) (fun c4 => ?_) (fun c4 => ?_)
    · have hf := (if_neg c4).symm.trans hf
      refine lv_iconst (v := 0) hx hb dX6_tellTheSecret_33 (by decide) ?_
      exact m_zretp hx hb hr hlk hI rfl hf dX6_tellTheSecret_34
    · have hf := (if_pos c4).symm.trans hf
      refine lv_iconst (v := 1) hx hb dX6_tellTheSecret_29 (by decide) ?_
      refine lv_goto (tgt := 34) hx hb dX6_tellTheSecret_30 (by decide) ?_
      exact m_zretp hx hb hr hlk hI rfl hf dX6_tellTheSecret_34
