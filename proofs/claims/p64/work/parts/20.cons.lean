abbrev rmX6_copyFrom : Room := { frames := 1, cells := 0, slots := 0, locals := 40 }
theorem kb_X6_copyFrom {R : Room} {s : State} {args : Array Value} {own : String} {idx : Nat} (hT : mT s) (hlink : (Cond.methodLink own idx yX6_copyFrom).before args s = true) (h1 : rmX6_copyFrom.frames + 1 ≤ R.frames) (h2 : 8 + (2 + 11) + rmX6_copyFrom.locals ≤ R.locals) : CallB R s args own idx yX6_copyFrom cX6_copyFrom 2 (none) [Cond.code yX6_copyFrom cX6_copyFrom 2 (none)] rmX6_copyFrom 0 0 1 := m_callB hT kc_X6_copyFrom ki_X6_copyFrom hlink (by decide +kernel) ⟨rfl, rfl, h1, h2⟩
set_option maxHeartbeats 4000000 in
set_option maxRecDepth 100000 in
theorem c_X6_copyFrom (l : Launch) (w : WD) (sz : Nat) (g : Nat) (hg : g ≤ 10) (g1 : Nat) (hg1 : g1 ≤ 10) (M : Mem) (r : Unit) (M9 : Mem) (hf : f_X6_copyFrom g g1 M = some (r, M9)) : mMet l yX6_copyFrom cX6_copyFrom 2 (none) rmX6_copyFrom w sz M [.ref (w.1 g 1), .ref (w.1 g1 1)] none M9 := by
  refine m_of (by decide) (Nat.le_of_ble_eq_true rfl) ?_
  intro p e s m args below meth c hx hb hr hml hown hlk hI ls hl
  have hl : lv_has ls 2 [(0, .ref (w.1 g 1)), (1, .ref (w.1 g1 1))] := hl
  unfold f_X6_copyFrom at hf
  refine lv_aload_n hx hb dX6_copyFrom_0 rfl (lv_at hl 0 rfl) ?_
  refine lv_aload_n hx hb dX6_copyFrom_1 rfl (lv_at hl 1 rfl) ?_
  refine m_get (g := g1) (i := 1) (ci := 5) (k := 0) (v := .int (M g1 1 0)) hx hb hI hown (mokS hg1 (by decide)) rfl rfl (by decide) lyX6 (q54 hI.T) rfl dX6_copyFrom_2 ?_
  obtain ⟨M1, eM1, hf⟩ := mlet_e hf
  refine m_put (g := g) (i := 1) (ci := 5) (k := 0) (ty := .int) (M1 := M1) hx hb hI hown (mokS hg (by decide)) rfl rfl (by decide) lyX6 tyX6 tyX6_ok nmX6 (q54 hI.T) rfl rfl rfl rfl (Nat.le_of_ble_eq_true rfl) rfl eM1 dX6_copyFrom_5 (fun H locs hI => ?_)
  refine lv_aload_n hx hb dX6_copyFrom_8 rfl (lv_at hl 1 rfl) ?_
  refine m_get (g := g1) (i := 1) (ci := 5) (k := 1) (v := .ref (w.1 g1 2)) hx hb hI hown (mokS hg1 (by decide)) rfl rfl (by decide) lyX6 (q57 hI.T) rfl dX6_copyFrom_9 ?_
  refine lv_iconst (v := 0) hx hb dX6_copyFrom_12 (by decide) ?_
  refine lv_aload_n hx hb dX6_copyFrom_13 rfl (lv_at hl 0 rfl) ?_
  refine m_get (g := g) (i := 1) (ci := 5) (k := 1) (v := .ref (w.1 g 2)) hx hb hI hown (mokS hg (by decide)) rfl rfl (by decide) lyX6 (q57 hI.T) rfl dX6_copyFrom_14 ?_
  refine lv_iconst (v := 0) hx hb dX6_copyFrom_17 (by decide) ?_
  refine lv_bipush (v := 8) hx hb dX6_copyFrom_18 (by decide) ?_
  obtain ⟨hcp, M2, eM2, hf⟩ := mcpy_e hf
  refine m_copy (t0 := 0) (ty := .int) (M1 := M2) hx hb (hml.trans hl.1.symm) hI hown (q736 hI.T) (q620 hI.T) (q619 hI.T) (q19 hI.T) (mokS hg1 (by decide)) (fun _ => menc_i rfl) (mokS hg (by decide)) (fun _ => menc_i rfl) rfl rfl hcp eM2 (Nat.le_of_ble_eq_true rfl) (Nat.le_of_ble_eq_true rfl) dX6_copyFrom_20 (fun H locs hI => ?_)
  refine lv_aload_n hx hb dX6_copyFrom_23 rfl (lv_at hl 0 rfl) ?_
  refine lv_aload_n hx hb dX6_copyFrom_24 rfl (lv_at hl 1 rfl) ?_
  refine m_get (g := g1) (i := 1) (ci := 5) (k := 2) (v := .int (M2 g1 1 2)) hx hb hI hown (mokS hg1 (by decide)) rfl rfl (by decide) lyX6 (q61 hI.T) rfl dX6_copyFrom_25 ?_
  obtain ⟨hz, hf⟩ := mnz_e hf
  obtain ⟨M3, eM3, hf⟩ := mlet_e hf
  refine m_put (g := g) (i := 1) (ci := 5) (k := 2) (ty := .boolean) (M1 := M3) hx hb hI hown (mokS hg (by decide)) rfl rfl (by decide) lyX6 tyX6 tyX6_ok nmX6 (q61 hI.T) rfl rfl (mnz_n hz) (mnz_f hz) (Nat.le_of_ble_eq_true rfl) rfl eM3 dX6_copyFrom_28 (fun H locs hI => ?_)
  refine lv_aload_n hx hb dX6_copyFrom_31 rfl (lv_at hl 0 rfl) ?_
  refine lv_aload_n hx hb dX6_copyFrom_32 rfl (lv_at hl 1 rfl) ?_
  refine m_get (g := g1) (i := 1) (ci := 5) (k := 3) (v := .int (M3 g1 1 3)) hx hb hI hown (mokS hg1 (by decide)) rfl rfl (by decide) lyX6 (q64 hI.T) rfl dX6_copyFrom_33 ?_
  obtain ⟨M4, eM4, hf⟩ := mlet_e hf
  refine m_put (g := g) (i := 1) (ci := 5) (k := 3) (ty := .int) (M1 := M4) hx hb hI hown (mokS hg (by decide)) rfl rfl (by decide) lyX6 tyX6 tyX6_ok nmX6 (q64 hI.T) rfl rfl rfl rfl (Nat.le_of_ble_eq_true rfl) rfl eM4 dX6_copyFrom_36 (fun H locs hI => ?_)
  refine lv_aload_n hx hb dX6_copyFrom_39 rfl (lv_at hl 1 rfl) ?_
  refine m_get (g := g1) (i := 1) (ci := 5) (k := 4) (v := .ref (w.1 g1 3)) hx hb hI hown (mokS hg1 (by decide)) rfl rfl (by decide) lyX6 (q68 hI.T) rfl dX6_copyFrom_40 ?_
  refine lv_iconst (v := 0) hx hb dX6_copyFrom_43 (by decide) ?_
  refine lv_aload_n hx hb dX6_copyFrom_44 rfl (lv_at hl 0 rfl) ?_
  refine m_get (g := g) (i := 1) (ci := 5) (k := 4) (v := .ref (w.1 g 3)) hx hb hI hown (mokS hg (by decide)) rfl rfl (by decide) lyX6 (q68 hI.T) rfl dX6_copyFrom_45 ?_
  refine lv_iconst (v := 0) hx hb dX6_copyFrom_48 (by decide) ?_
  refine lv_iconst (v := 3) hx hb dX6_copyFrom_49 (by decide) ?_
  obtain ⟨hcp, M5, eM5, hf⟩ := mcpy_e hf
  refine m_copy (t0 := 0) (ty := .int) (M1 := M5) hx hb (hml.trans hl.1.symm) hI hown (q736 hI.T) (q620 hI.T) (q619 hI.T) (q19 hI.T) (mokS hg1 (by decide)) (fun _ => menc_i rfl) (mokS hg (by decide)) (fun _ => menc_i rfl) rfl rfl hcp eM5 (Nat.le_of_ble_eq_true rfl) (Nat.le_of_ble_eq_true rfl) dX6_copyFrom_50 (fun H locs hI => ?_)
  refine lv_aload_n hx hb dX6_copyFrom_53 rfl (lv_at hl 0 rfl) ?_
  refine lv_aload_n hx hb dX6_copyFrom_54 rfl (lv_at hl 1 rfl) ?_
  refine m_get (g := g1) (i := 1) (ci := 5) (k := 5) (v := .int (M5 g1 1 5)) hx hb hI hown (mokS hg1 (by decide)) rfl rfl (by decide) lyX6 (q69 hI.T) rfl dX6_copyFrom_55 ?_
  obtain ⟨M6, eM6, hf⟩ := mlet_e hf
  refine m_put (g := g) (i := 1) (ci := 5) (k := 5) (ty := .int) (M1 := M6) hx hb hI hown (mokS hg (by decide)) rfl rfl (by decide) lyX6 tyX6 tyX6_ok nmX6 (q69 hI.T) rfl rfl rfl rfl (Nat.le_of_ble_eq_true rfl) rfl eM6 dX6_copyFrom_58 (fun H locs hI => ?_)
  refine lv_aload_n hx hb dX6_copyFrom_61 rfl (lv_at hl 1 rfl) ?_
  refine m_get (g := g1) (i := 1) (ci := 5) (k := 6) (v := .ref (w.1 g1 4)) hx hb hI hown (mokS hg1 (by decide)) rfl rfl (by decide) lyX6 (q73 hI.T) rfl dX6_copyFrom_62 ?_
  refine lv_iconst (v := 0) hx hb dX6_copyFrom_65 (by decide) ?_
  refine lv_aload_n hx hb dX6_copyFrom_66 rfl (lv_at hl 0 rfl) ?_
  refine m_get (g := g) (i := 1) (ci := 5) (k := 6) (v := .ref (w.1 g 4)) hx hb hI hown (mokS hg (by decide)) rfl rfl (by decide) lyX6 (q73 hI.T) rfl dX6_copyFrom_67 ?_
  refine lv_iconst (v := 0) hx hb dX6_copyFrom_70 (by decide) ?_
  refine lv_bipush (v := 8) hx hb dX6_copyFrom_71 (by decide) ?_
  obtain ⟨hcp, M7, eM7, hf⟩ := mcpy_e hf
  refine m_copy (t0 := 0) (ty := .int) (M1 := M7) hx hb (hml.trans hl.1.symm) hI hown (q736 hI.T) (q620 hI.T) (q619 hI.T) (q19 hI.T) (mokS hg1 (by decide)) (fun _ => menc_i rfl) (mokS hg (by decide)) (fun _ => menc_i rfl) rfl rfl hcp eM7 (Nat.le_of_ble_eq_true rfl) (Nat.le_of_ble_eq_true rfl) dX6_copyFrom_73 (fun H locs hI => ?_)
  exact m_vretf hx hb hr hlk hI hf dX6_copyFrom_76
abbrev rmX3_copyFrom : Room := { frames := 0, cells := 0, slots := 0, locals := 0 }
theorem kb_X3_copyFrom {R : Room} {s : State} {args : Array Value} {own : String} {idx : Nat} (hT : mT s) (hlink : (Cond.methodLink own idx yX3_copyFrom).before args s = true) (h1 : rmX3_copyFrom.frames + 1 ≤ R.frames) (h2 : 8 + (2 + 11) + rmX3_copyFrom.locals ≤ R.locals) : CallB R s args own idx yX3_copyFrom cX3_copyFrom 2 (none) [Cond.code yX3_copyFrom cX3_copyFrom 2 (none)] rmX3_copyFrom 0 0 1 := m_callB hT kc_X3_copyFrom ki_X3_copyFrom hlink (by decide +kernel) ⟨rfl, rfl, h1, h2⟩
set_option maxHeartbeats 4000000 in
set_option maxRecDepth 100000 in
theorem c_X3_copyFrom (l : Launch) (w : WD) (sz : Nat) (g : Nat) (hg : g ≤ 10) (g1 : Nat) (hg1 : g1 ≤ 10) (M : Mem) (r : Unit) (M9 : Mem) (hf : f_X3_copyFrom g g1 M = some (r, M9)) : mMet l yX3_copyFrom cX3_copyFrom 2 (none) rmX3_copyFrom w sz M [.ref (w.1 g 5), .ref (w.1 g1 5)] none M9 := by
  refine m_of (by decide) (Nat.le_of_ble_eq_true rfl) ?_
  intro p e s m args below meth c hx hb hr hml hown hlk hI ls hl
  have hl : lv_has ls 2 [(0, .ref (w.1 g 5)), (1, .ref (w.1 g1 5))] := hl
  unfold f_X3_copyFrom at hf
  refine lv_aload_n hx hb dX3_copyFrom_0 rfl (lv_at hl 0 rfl) ?_
  refine lv_aload_n hx hb dX3_copyFrom_1 rfl (lv_at hl 1 rfl) ?_
  refine m_get (g := g1) (i := 5) (ci := 2) (k := 0) (v := .int (M g1 5 0)) hx hb hI hown (mokS hg1 (by decide)) rfl rfl (by decide) lyX3 (q98 hI.T) rfl dX3_copyFrom_2 ?_
  obtain ⟨hz, hf⟩ := mnz_e hf
  obtain ⟨M1, eM1, hf⟩ := mlet_e hf
  refine m_put (g := g) (i := 5) (ci := 2) (k := 0) (ty := .boolean) (M1 := M1) hx hb hI hown (mokS hg (by decide)) rfl rfl (by decide) lyX3 tyX3 tyX3_ok nmX3 (q98 hI.T) rfl rfl (mnz_n hz) (mnz_f hz) (Nat.le_of_ble_eq_true rfl) rfl eM1 dX3_copyFrom_5 (fun H locs hI => ?_)
  refine lv_aload_n hx hb dX3_copyFrom_8 rfl (lv_at hl 0 rfl) ?_
  refine lv_aload_n hx hb dX3_copyFrom_9 rfl (lv_at hl 1 rfl) ?_
  refine m_get (g := g1) (i := 5) (ci := 2) (k := 1) (v := .int (M1 g1 5 1)) hx hb hI hown (mokS hg1 (by decide)) rfl rfl (by decide) lyX3 (q101 hI.T) rfl dX3_copyFrom_10 ?_
  obtain ⟨M2, eM2, hf⟩ := mlet_e hf
  refine m_put (g := g) (i := 5) (ci := 2) (k := 1) (ty := .int) (M1 := M2) hx hb hI hown (mokS hg (by decide)) rfl rfl (by decide) lyX3 tyX3 tyX3_ok nmX3 (q101 hI.T) rfl rfl rfl rfl (Nat.le_of_ble_eq_true rfl) rfl eM2 dX3_copyFrom_13 (fun H locs hI => ?_)
  refine lv_aload_n hx hb dX3_copyFrom_16 rfl (lv_at hl 0 rfl) ?_
  refine lv_aload_n hx hb dX3_copyFrom_17 rfl (lv_at hl 1 rfl) ?_
  refine m_get (g := g1) (i := 5) (ci := 2) (k := 2) (v := .int (M2 g1 5 2)) hx hb hI hown (mokS hg1 (by decide)) rfl rfl (by decide) lyX3 (q104 hI.T) rfl dX3_copyFrom_18 ?_
  obtain ⟨M3, eM3, hf⟩ := mlet_e hf
  refine m_put (g := g) (i := 5) (ci := 2) (k := 2) (ty := .int) (M1 := M3) hx hb hI hown (mokS hg (by decide)) rfl rfl (by decide) lyX3 tyX3 tyX3_ok nmX3 (q104 hI.T) rfl rfl rfl rfl (Nat.le_of_ble_eq_true rfl) rfl eM3 dX3_copyFrom_21 (fun H locs hI => ?_)
  refine lv_aload_n hx hb dX3_copyFrom_24 rfl (lv_at hl 0 rfl) ?_
  refine lv_aload_n hx hb dX3_copyFrom_25 rfl (lv_at hl 1 rfl) ?_
  refine m_get (g := g1) (i := 5) (ci := 2) (k := 3) (v := .int (M3 g1 5 3)) hx hb hI hown (mokS hg1 (by decide)) rfl rfl (by decide) lyX3 (q107 hI.T) rfl dX3_copyFrom_26 ?_
  obtain ⟨M4, eM4, hf⟩ := mlet_e hf
  refine m_put (g := g) (i := 5) (ci := 2) (k := 3) (ty := .int) (M1 := M4) hx hb hI hown (mokS hg (by decide)) rfl rfl (by decide) lyX3 tyX3 tyX3_ok nmX3 (q107 hI.T) rfl rfl rfl rfl (Nat.le_of_ble_eq_true rfl) rfl eM4 dX3_copyFrom_29 (fun H locs hI => ?_)
  exact m_vretf hx hb hr hlk hI hf dX3_copyFrom_32
abbrev rmX1_copyFrom : Room := { frames := 1, cells := 0, slots := 0, locals := 40 }
theorem kb_X1_copyFrom {R : Room} {s : State} {args : Array Value} {own : String} {idx : Nat} (hT : mT s) (hlink : (Cond.methodLink own idx yX1_copyFrom).before args s = true) (h1 : rmX1_copyFrom.frames + 1 ≤ R.frames) (h2 : 8 + (3 + 11) + rmX1_copyFrom.locals ≤ R.locals) : CallB R s args own idx yX1_copyFrom cX1_copyFrom 3 (none) [Cond.code yX1_copyFrom cX1_copyFrom 3 (none)] rmX1_copyFrom 0 0 1 := m_callB hT kc_X1_copyFrom ki_X1_copyFrom hlink (by decide +kernel) ⟨rfl, rfl, h1, h2⟩
set_option maxHeartbeats 4000000 in
set_option maxRecDepth 100000 in
theorem c_X1_copyFrom (l : Launch) (w : WD) (sz : Nat) (g : Nat) (hg : g ≤ 11) (g1 : Nat) (hg1 : g1 ≤ 11) (M : Mem) (r : Unit) (M9 : Mem) (hf : f_X1_copyFrom g g1 M = some (r, M9)) : mMet l yX1_copyFrom cX1_copyFrom 3 (none) rmX1_copyFrom w sz M [.ref (w.1 g 6), .ref (w.1 g1 6)] none M9 := by
  refine m_of (by decide) (Nat.le_of_ble_eq_true rfl) ?_
  intro p e s m args below meth c hx hb hr hml hown hlk hI ls hl
  have hl : lv_has ls 3 [(0, .ref (w.1 g 6)), (1, .ref (w.1 g1 6))] := hl
  unfold f_X1_copyFrom at hf
  refine lv_aload_n hx hb dX1_copyFrom_0 rfl (lv_at hl 0 rfl) ?_
  refine lv_aload_n hx hb dX1_copyFrom_1 rfl (lv_at hl 1 rfl) ?_
  refine m_get (g := g1) (i := 6) (ci := 0) (k := 0) (v := .int (M g1 6 0)) hx hb hI hown (mokB hg1 (by decide) (by decide)) rfl rfl (by decide) lyX1 (q124 hI.T) rfl dX1_copyFrom_2 ?_
  obtain ⟨M1, eM1, hf⟩ := mlet_e hf
  refine m_put (g := g) (i := 6) (ci := 0) (k := 0) (ty := .int) (M1 := M1) hx hb hI hown (mokB hg (by decide) (by decide)) rfl rfl (by decide) lyX1 tyX1 tyX1_ok nmX1 (q124 hI.T) rfl rfl rfl rfl (Nat.le_of_ble_eq_true rfl) rfl eM1 dX1_copyFrom_5 (fun H locs hI => ?_)
  refine lv_aload_n hx hb dX1_copyFrom_8 rfl (lv_at hl 1 rfl) ?_
  refine m_get (g := g1) (i := 6) (ci := 0) (k := 1) (v := .ref (w.1 g1 7)) hx hb hI hown (mokB hg1 (by decide) (by decide)) rfl rfl (by decide) lyX1 (q127 hI.T) rfl dX1_copyFrom_9 ?_
  refine lv_iconst (v := 0) hx hb dX1_copyFrom_12 (by decide) ?_
  refine lv_aload_n hx hb dX1_copyFrom_13 rfl (lv_at hl 0 rfl) ?_
  refine m_get (g := g) (i := 6) (ci := 0) (k := 1) (v := .ref (w.1 g 7)) hx hb hI hown (mokB hg (by decide) (by decide)) rfl rfl (by decide) lyX1 (q127 hI.T) rfl dX1_copyFrom_14 ?_
  refine lv_iconst (v := 0) hx hb dX1_copyFrom_17 (by decide) ?_
  refine lv_bipush (v := 8) hx hb dX1_copyFrom_18 (by decide) ?_
  obtain ⟨hcp, M2, eM2, hf⟩ := mcpy_e hf
  refine m_copy (t0 := 0) (ty := .int) (M1 := M2) hx hb (hml.trans hl.1.symm) hI hown (q618 hI.T) (q620 hI.T) (q619 hI.T) (q19 hI.T) (mokB hg1 (by decide) (by decide)) (fun _ => menc_i rfl) (mokB hg (by decide) (by decide)) (fun _ => menc_i rfl) rfl rfl hcp eM2 (Nat.le_of_ble_eq_true rfl) (Nat.le_of_ble_eq_true rfl) dX1_copyFrom_20 (fun H locs hI => ?_)
  refine lv_aload_n hx hb dX1_copyFrom_23 rfl (lv_at hl 1 rfl) ?_
  refine m_get (g := g1) (i := 6) (ci := 0) (k := 2) (v := .ref (w.1 g1 8)) hx hb hI hown (mokB hg1 (by decide) (by decide)) rfl rfl (by decide) lyX1 (q130 hI.T) rfl dX1_copyFrom_24 ?_
  refine lv_iconst (v := 0) hx hb dX1_copyFrom_27 (by decide) ?_
  refine lv_aload_n hx hb dX1_copyFrom_28 rfl (lv_at hl 0 rfl) ?_
  refine m_get (g := g) (i := 6) (ci := 0) (k := 2) (v := .ref (w.1 g 8)) hx hb hI hown (mokB hg (by decide) (by decide)) rfl rfl (by decide) lyX1 (q130 hI.T) rfl dX1_copyFrom_29 ?_
  refine lv_iconst (v := 0) hx hb dX1_copyFrom_32 (by decide) ?_
  refine lv_bipush (v := 8) hx hb dX1_copyFrom_33 (by decide) ?_
  obtain ⟨hcp, M3, eM3, hf⟩ := mcpy_e hf
  refine m_copy (t0 := 0) (ty := .int) (M1 := M3) hx hb (hml.trans hl.1.symm) hI hown (q618 hI.T) (q620 hI.T) (q619 hI.T) (q19 hI.T) (mokB hg1 (by decide) (by decide)) (fun _ => menc_i rfl) (mokB hg (by decide) (by decide)) (fun _ => menc_i rfl) rfl rfl hcp eM3 (Nat.le_of_ble_eq_true rfl) (Nat.le_of_ble_eq_true rfl) dX1_copyFrom_35 (fun H locs hI => ?_)
  refine lv_aload_n hx hb dX1_copyFrom_38 rfl (lv_at hl 0 rfl) ?_
  refine lv_aload_n hx hb dX1_copyFrom_39 rfl (lv_at hl 1 rfl) ?_
  refine m_get (g := g1) (i := 6) (ci := 0) (k := 3) (v := .int (M3 g1 6 3)) hx hb hI hown (mokB hg1 (by decide) (by decide)) rfl rfl (by decide) lyX1 (q132 hI.T) rfl dX1_copyFrom_40 ?_
  obtain ⟨M4, eM4, hf⟩ := mlet_e hf
  refine m_put (g := g) (i := 6) (ci := 0) (k := 3) (ty := .int) (M1 := M4) hx hb hI hown (mokB hg (by decide) (by decide)) rfl rfl (by decide) lyX1 tyX1 tyX1_ok nmX1 (q132 hI.T) rfl rfl rfl rfl (Nat.le_of_ble_eq_true rfl) rfl eM4 dX1_copyFrom_43 (fun H locs hI => ?_)
  refine lv_aload_n hx hb dX1_copyFrom_46 rfl (lv_at hl 0 rfl) ?_
  refine lv_aload_n hx hb dX1_copyFrom_47 rfl (lv_at hl 1 rfl) ?_
  refine m_get (g := g1) (i := 6) (ci := 0) (k := 4) (v := .int (M4 g1 6 4)) hx hb hI hown (mokB hg1 (by decide) (by decide)) rfl rfl (by decide) lyX1 (q135 hI.T) rfl dX1_copyFrom_48 ?_
  obtain ⟨M5, eM5, hf⟩ := mlet_e hf
  refine m_put (g := g) (i := 6) (ci := 0) (k := 4) (ty := .int) (M1 := M5) hx hb hI hown (mokB hg (by decide) (by decide)) rfl rfl (by decide) lyX1 tyX1 tyX1_ok nmX1 (q135 hI.T) rfl rfl rfl rfl (Nat.le_of_ble_eq_true rfl) rfl eM5 dX1_copyFrom_51 (fun H locs hI => ?_)
  refine lv_aload_n hx hb dX1_copyFrom_54 rfl (lv_at hl 1 rfl) ?_
  refine m_get (g := g1) (i := 6) (ci := 0) (k := 5) (v := .ref (w.1 g1 9)) hx hb hI hown (mokB hg1 (by decide) (by decide)) rfl rfl (by decide) lyX1 (q138 hI.T) rfl dX1_copyFrom_55 ?_
  refine lv_iconst (v := 0) hx hb dX1_copyFrom_58 (by decide) ?_
  refine lv_aload_n hx hb dX1_copyFrom_59 rfl (lv_at hl 0 rfl) ?_
  refine m_get (g := g) (i := 6) (ci := 0) (k := 5) (v := .ref (w.1 g 9)) hx hb hI hown (mokB hg (by decide) (by decide)) rfl rfl (by decide) lyX1 (q138 hI.T) rfl dX1_copyFrom_60 ?_
  refine lv_iconst (v := 0) hx hb dX1_copyFrom_63 (by decide) ?_
  refine lv_iconst (v := 3) hx hb dX1_copyFrom_64 (by decide) ?_
  obtain ⟨hcp, M6, eM6, hf⟩ := mcpy_e hf
  refine m_copy (t0 := 0) (ty := .int) (M1 := M6) hx hb (hml.trans hl.1.symm) hI hown (q618 hI.T) (q620 hI.T) (q619 hI.T) (q19 hI.T) (mokB hg1 (by decide) (by decide)) (fun _ => menc_i rfl) (mokB hg (by decide) (by decide)) (fun _ => menc_i rfl) rfl rfl hcp eM6 (Nat.le_of_ble_eq_true rfl) (Nat.le_of_ble_eq_true rfl) dX1_copyFrom_65 (fun H locs hI => ?_)
  refine lv_aload_n hx hb dX1_copyFrom_68 rfl (lv_at hl 1 rfl) ?_
  refine m_get (g := g1) (i := 6) (ci := 0) (k := 7) (v := .ref (w.1 g1 11)) hx hb hI hown (mokB hg1 (by decide) (by decide)) rfl rfl (by decide) lyX1 (q143 hI.T) rfl dX1_copyFrom_69 ?_
  refine lv_iconst (v := 0) hx hb dX1_copyFrom_72 (by decide) ?_
  refine lv_aload_n hx hb dX1_copyFrom_73 rfl (lv_at hl 0 rfl) ?_
  refine m_get (g := g) (i := 6) (ci := 0) (k := 7) (v := .ref (w.1 g 11)) hx hb hI hown (mokB hg (by decide) (by decide)) rfl rfl (by decide) lyX1 (q143 hI.T) rfl dX1_copyFrom_74 ?_
  refine lv_iconst (v := 0) hx hb dX1_copyFrom_77 (by decide) ?_
  refine lv_iconst (v := 3) hx hb dX1_copyFrom_78 (by decide) ?_
  obtain ⟨hcp, M7, eM7, hf⟩ := mcpy_e hf
  refine m_copy (t0 := 0) (ty := .int) (M1 := M7) hx hb (hml.trans hl.1.symm) hI hown (q618 hI.T) (q620 hI.T) (q619 hI.T) (q19 hI.T) (mokB hg1 (by decide) (by decide)) (fun _ => menc_i rfl) (mokB hg (by decide) (by decide)) (fun _ => menc_i rfl) rfl rfl hcp eM7 (Nat.le_of_ble_eq_true rfl) (Nat.le_of_ble_eq_true rfl) dX1_copyFrom_79 (fun H locs hI => ?_)
  refine lv_iconst (v := 0) hx hb dX1_copyFrom_82 (by decide) ?_
  refine lv_istore_n (lv' := [(2, .int (0 : Int32)), (0, .ref (w.1 g 6)), (1, .ref (w.1 g1 6))]) hx hb dX1_copyFrom_83 rfl hl (by decide) rfl (fun ls hl => ?_)
  have hL84 : ∀ (n : Nat) (x8 : Int32) (M10 : Mem) (kk : Mem → Option (Unit × Mem)) (H : Heap) (locs : List Loc) (ls : Array Slot), f_X1_copyFrom_L84 g g1 n x8 M10 kk = some (r, M9) → mI w s (mA w s.heap.size) H locs M10 → lv_has ls 3 [(0, .ref (w.1 g 6)), (1, .ref (w.1 g1 6)), (2, .int x8)] → (∀  (M10 : Mem) (H : Heap) (locs : List Loc) (ls : Array Slot), kk M10 = some (r, M9) → mI w s (mA w s.heap.size) H locs M10 → lv_has ls 3 [] → W p l e rmX1_copyFrom s m args below meth c H locs 0 0 (MQ below (mQ w s.heap.size none M9) args s 0 0 (mA w s.heap.size)) (F0 m 107 ls [])) → W p l e rmX1_copyFrom s m args below meth c H locs 0 0 (MQ below (mQ w s.heap.size none M9) args s 0 0 (mA w s.heap.size)) (F0 m 84 ls []) := by
    intro n
    induction n with
    | zero => intro x8 M10 kk H locs ls hf hI hl hk; rw [f_X1_copyFrom_L84.eq_1] at hf; cases hf
    | succ n ih84 =>
      intro x8 M10 kk H locs ls hf hI hl hk
      rw [f_X1_copyFrom_L84.eq_2] at hf
      refine lv_iload_n hx hb dX1_copyFrom_84 rfl (lv_at hl 2 rfl) ?_
      refine lv_iconst (v := 3) hx hb dX1_copyFrom_85 (by decide) ?_
      refine lv_icmp_ge (tgt := 107) hx hb dX1_copyFrom_86 (by decide) (fun c11 => ?_) (fun c11 => ?_)
      · have hf := (if_pos c11).symm.trans hf
        exact hk M10 H _ _ hf hI (lv_sub hl [] rfl)
      · have hf := (if_neg c11).symm.trans hf
        refine lv_aload_n hx hb dX1_copyFrom_89 rfl (lv_at hl 0 rfl) ?_
        refine m_get (g := g) (i := 6) (ci := 0) (k := 6) (v := .ref (w.1 g 10)) hx hb hI hown (mokB hg (by decide) (by decide)) rfl rfl (by decide) lyX1 (q140 hI.T) rfl dX1_copyFrom_90 ?_
        refine lv_iload_n hx hb dX1_copyFrom_93 rfl (lv_at hl 2 rfl) ?_
        refine lv_aload_n hx hb dX1_copyFrom_94 rfl (lv_at hl 1 rfl) ?_
        refine m_get (g := g1) (i := 6) (ci := 0) (k := 6) (v := .ref (w.1 g1 10)) hx hb hI hown (mokB hg1 (by decide) (by decide)) rfl rfl (by decide) lyX1 (q140 hI.T) rfl dX1_copyFrom_95 ?_
        refine lv_iload_n hx hb dX1_copyFrom_98 rfl (lv_at hl 2 rfl) ?_
        obtain ⟨hi, hf⟩ := mix_e hf
        refine m_zald (g := g1) hx hb hI (mokB hg1 (by decide) (by decide)) hi dX1_copyFrom_99 ?_
        obtain ⟨hi, hf⟩ := mix_e hf
        obtain ⟨M12, eM12, hf⟩ := mlet_e hf
        refine m_zast (g := g) (M1 := M12) hx hb hI (mokB hg (by decide) (by decide)) hi eM12 dX1_copyFrom_100 (fun H locs hI => ?_)
        obtain ⟨x13, ex13, hf⟩ := mlet_e hf
        refine lv_iinc (v := x13) (lv' := [(2, .int x13), (0, .ref (w.1 g 6)), (1, .ref (w.1 g1 6))]) hx hb dX1_copyFrom_101 hl (k := 2) rfl (by rw [ex13]; rfl) (by decide) rfl (fun ls hl => ?_)
        refine lv_goto (tgt := 84) hx hb dX1_copyFrom_104 (by decide) ?_
        exact ih84 x13 M12 kk H _ _ hf hI (lv_sub hl [1, 2, 0] rfl) hk
  refine hL84 1000 (0 : Int32) M7 _ _ _ _ hf hI (lv_sub hl [1, 2, 0] rfl) ?_
  intro M14 H locs ls hf hI hl
  try dsimp only at hf
  exact m_vretf hx hb hr hlk hI hf dX1_copyFrom_107
abbrev rmX5_copyFrom : Room := { frames := 1, cells := 0, slots := 0, locals := 40 }
theorem kb_X5_copyFrom {R : Room} {s : State} {args : Array Value} {own : String} {idx : Nat} (hT : mT s) (hlink : (Cond.methodLink own idx yX5_copyFrom).before args s = true) (h1 : rmX5_copyFrom.frames + 1 ≤ R.frames) (h2 : 8 + (2 + 11) + rmX5_copyFrom.locals ≤ R.locals) : CallB R s args own idx yX5_copyFrom cX5_copyFrom 2 (none) [Cond.code yX5_copyFrom cX5_copyFrom 2 (none)] rmX5_copyFrom 0 0 1 := m_callB hT kc_X5_copyFrom ki_X5_copyFrom hlink (by decide +kernel) ⟨rfl, rfl, h1, h2⟩
set_option maxHeartbeats 4000000 in
set_option maxRecDepth 100000 in
theorem c_X5_copyFrom (l : Launch) (w : WD) (sz : Nat) (g : Nat) (hg : g ≤ 10) (g1 : Nat) (hg1 : g1 ≤ 10) (M : Mem) (r : Unit) (M9 : Mem) (hf : f_X5_copyFrom g g1 M = some (r, M9)) : mMet l yX5_copyFrom cX5_copyFrom 2 (none) rmX5_copyFrom w sz M [.ref (w.1 g 12), .ref (w.1 g1 12)] none M9 := by
  refine m_of (by decide) (Nat.le_of_ble_eq_true rfl) ?_
  intro p e s m args below meth c hx hb hr hml hown hlk hI ls hl
  have hl : lv_has ls 2 [(0, .ref (w.1 g 12)), (1, .ref (w.1 g1 12))] := hl
  unfold f_X5_copyFrom at hf
  refine lv_aload_n hx hb dX5_copyFrom_0 rfl (lv_at hl 0 rfl) ?_
  refine lv_aload_n hx hb dX5_copyFrom_1 rfl (lv_at hl 1 rfl) ?_
  refine m_get (g := g1) (i := 12) (ci := 4) (k := 0) (v := .int (M g1 12 0)) hx hb hI hown (mokS hg1 (by decide)) rfl rfl (by decide) lyX5 (q168 hI.T) rfl dX5_copyFrom_2 ?_
  obtain ⟨M1, eM1, hf⟩ := mlet_e hf
  refine m_put (g := g) (i := 12) (ci := 4) (k := 0) (ty := .int) (M1 := M1) hx hb hI hown (mokS hg (by decide)) rfl rfl (by decide) lyX5 tyX5 tyX5_ok nmX5 (q168 hI.T) rfl rfl rfl rfl (Nat.le_of_ble_eq_true rfl) rfl eM1 dX5_copyFrom_5 (fun H locs hI => ?_)
  refine lv_aload_n hx hb dX5_copyFrom_8 rfl (lv_at hl 1 rfl) ?_
  refine m_get (g := g1) (i := 12) (ci := 4) (k := 1) (v := .ref (w.1 g1 13)) hx hb hI hown (mokS hg1 (by decide)) rfl rfl (by decide) lyX5 (q170 hI.T) rfl dX5_copyFrom_9 ?_
  refine lv_iconst (v := 0) hx hb dX5_copyFrom_12 (by decide) ?_
  refine lv_aload_n hx hb dX5_copyFrom_13 rfl (lv_at hl 0 rfl) ?_
  refine m_get (g := g) (i := 12) (ci := 4) (k := 1) (v := .ref (w.1 g 13)) hx hb hI hown (mokS hg (by decide)) rfl rfl (by decide) lyX5 (q170 hI.T) rfl dX5_copyFrom_14 ?_
  refine lv_iconst (v := 0) hx hb dX5_copyFrom_17 (by decide) ?_
  refine lv_bipush (v := 12) hx hb dX5_copyFrom_18 (by decide) ?_
  obtain ⟨hcp, M2, eM2, hf⟩ := mcpy_e hf
  refine m_copy (t0 := 0) (ty := .int) (M1 := M2) hx hb (hml.trans hl.1.symm) hI hown (q746 hI.T) (q620 hI.T) (q619 hI.T) (q19 hI.T) (mokS hg1 (by decide)) (fun _ => menc_i rfl) (mokS hg (by decide)) (fun _ => menc_i rfl) rfl rfl hcp eM2 (Nat.le_of_ble_eq_true rfl) (Nat.le_of_ble_eq_true rfl) dX5_copyFrom_20 (fun H locs hI => ?_)
  refine lv_aload_n hx hb dX5_copyFrom_23 rfl (lv_at hl 1 rfl) ?_
  refine m_get (g := g1) (i := 12) (ci := 4) (k := 2) (v := .ref (w.1 g1 14)) hx hb hI hown (mokS hg1 (by decide)) rfl rfl (by decide) lyX5 (q172 hI.T) rfl dX5_copyFrom_24 ?_
  refine lv_iconst (v := 0) hx hb dX5_copyFrom_27 (by decide) ?_
  refine lv_aload_n hx hb dX5_copyFrom_28 rfl (lv_at hl 0 rfl) ?_
  refine m_get (g := g) (i := 12) (ci := 4) (k := 2) (v := .ref (w.1 g 14)) hx hb hI hown (mokS hg (by decide)) rfl rfl (by decide) lyX5 (q172 hI.T) rfl dX5_copyFrom_29 ?_
  refine lv_iconst (v := 0) hx hb dX5_copyFrom_32 (by decide) ?_
  refine lv_bipush (v := 12) hx hb dX5_copyFrom_33 (by decide) ?_
  obtain ⟨hcp, M3, eM3, hf⟩ := mcpy_e hf
  refine m_copy (t0 := 2) (ty := .char) (M1 := M3) hx hb (hml.trans hl.1.symm) hI hown (q746 hI.T) (q620 hI.T) (q619 hI.T) (q19 hI.T) (mokS hg1 (by decide)) (fun _ => menc_c rfl) (mokS hg (by decide)) (fun _ => menc_c rfl) rfl rfl hcp eM3 (Nat.le_of_ble_eq_true rfl) (Nat.le_of_ble_eq_true rfl) dX5_copyFrom_35 (fun H locs hI => ?_)
  refine lv_aload_n hx hb dX5_copyFrom_38 rfl (lv_at hl 1 rfl) ?_
  refine m_get (g := g1) (i := 12) (ci := 4) (k := 3) (v := .ref (w.1 g1 15)) hx hb hI hown (mokS hg1 (by decide)) rfl rfl (by decide) lyX5 (q174 hI.T) rfl dX5_copyFrom_39 ?_
  refine lv_iconst (v := 0) hx hb dX5_copyFrom_42 (by decide) ?_
  refine lv_aload_n hx hb dX5_copyFrom_43 rfl (lv_at hl 0 rfl) ?_
  refine m_get (g := g) (i := 12) (ci := 4) (k := 3) (v := .ref (w.1 g 15)) hx hb hI hown (mokS hg (by decide)) rfl rfl (by decide) lyX5 (q174 hI.T) rfl dX5_copyFrom_44 ?_
  refine lv_iconst (v := 0) hx hb dX5_copyFrom_47 (by decide) ?_
  refine lv_bipush (v := 12) hx hb dX5_copyFrom_48 (by decide) ?_
  obtain ⟨hcp, M4, eM4, hf⟩ := mcpy_e hf
  refine m_copy (t0 := 0) (ty := .int) (M1 := M4) hx hb (hml.trans hl.1.symm) hI hown (q746 hI.T) (q620 hI.T) (q619 hI.T) (q19 hI.T) (mokS hg1 (by decide)) (fun _ => menc_i rfl) (mokS hg (by decide)) (fun _ => menc_i rfl) rfl rfl hcp eM4 (Nat.le_of_ble_eq_true rfl) (Nat.le_of_ble_eq_true rfl) dX5_copyFrom_50 (fun H locs hI => ?_)
  exact m_vretf hx hb hr hlk hI hf dX5_copyFrom_53
abbrev rmX9_copyFrom : Room := { frames := 2, cells := 0, slots := 0, locals := 62 }
theorem kb_X9_copyFrom {R : Room} {s : State} {args : Array Value} {own : String} {idx : Nat} (hT : mT s) (hlink : (Cond.methodLink own idx yX9_copyFrom).before args s = true) (h1 : rmX9_copyFrom.frames + 1 ≤ R.frames) (h2 : 8 + (2 + 11) + rmX9_copyFrom.locals ≤ R.locals) : CallB R s args own idx yX9_copyFrom cX9_copyFrom 2 (none) [Cond.code yX9_copyFrom cX9_copyFrom 2 (none)] rmX9_copyFrom 0 0 1 := m_callB hT kc_X9_copyFrom ki_X9_copyFrom hlink (by decide +kernel) ⟨rfl, rfl, h1, h2⟩
set_option maxHeartbeats 4000000 in
set_option maxRecDepth 100000 in
theorem c_X9_copyFrom (l : Launch) (w : WD) (sz : Nat) (g : Nat) (hg : g ≤ 10) (g1 : Nat) (hg1 : g1 ≤ 10) (M : Mem) (r : Unit) (M9 : Mem) (hf : f_X9_copyFrom g g1 M = some (r, M9)) : mMet l yX9_copyFrom cX9_copyFrom 2 (none) rmX9_copyFrom w sz M [.ref (w.1 g 0), .ref (w.1 g1 0)] none M9 := by
  refine m_of (by decide) (Nat.le_of_ble_eq_true rfl) ?_
  intro p e s m args below meth c hx hb hr hml hown hlk hI ls hl
  have hl : lv_has ls 2 [(0, .ref (w.1 g 0)), (1, .ref (w.1 g1 0))] := hl
  unfold f_X9_copyFrom at hf
  refine lv_aload_n hx hb dX9_copyFrom_0 rfl (lv_at hl 0 rfl) ?_
  refine m_get (g := g) (i := 0) (ci := 8) (k := 0) (v := .ref (w.1 g 1)) hx hb hI hown (mokS hg (by decide)) rfl rfl (by decide) lyX9 (q186 hI.T) rfl dX9_copyFrom_1 ?_
  refine lv_aload_n hx hb dX9_copyFrom_4 rfl (lv_at hl 1 rfl) ?_
  refine m_get (g := g1) (i := 0) (ci := 8) (k := 0) (v := .ref (w.1 g1 1)) hx hb hI hown (mokS hg1 (by decide)) rfl rfl (by decide) lyX9 (q186 hI.T) rfl dX9_copyFrom_5 ?_
  obtain ⟨r1, M2, hc, hf⟩ := mbnd_e hf
  refine m_callV (As := [.ref (w.1 g1 1)]) (rest := []) hx hb hml hown hI (c_X6_copyFrom l w s.heap.size g hg g1 hg1 M _ _ hc) (kb_X6_copyFrom hI.T (q732 hI.T) (Nat.le_of_ble_eq_true rfl) (Nat.le_of_ble_eq_true rfl)) (q733 hI.T) (q734 hI.T) (m_recv (g := g) (i := 1) hI (mokS hg (by decide)) rfl rfl) rfl hl.1 (Nat.le_of_ble_eq_true rfl) dX9_copyFrom_8 ⟨Nat.le_of_ble_eq_true rfl, Nat.le_of_ble_eq_true rfl⟩ (fun H locs hI => ?_)
  refine lv_aload_n hx hb dX9_copyFrom_11 rfl (lv_at hl 0 rfl) ?_
  refine m_get (g := g) (i := 0) (ci := 8) (k := 1) (v := .ref (w.1 g 5)) hx hb hI hown (mokS hg (by decide)) rfl rfl (by decide) lyX9 (q188 hI.T) rfl dX9_copyFrom_12 ?_
  refine lv_aload_n hx hb dX9_copyFrom_15 rfl (lv_at hl 1 rfl) ?_
  refine m_get (g := g1) (i := 0) (ci := 8) (k := 1) (v := .ref (w.1 g1 5)) hx hb hI hown (mokS hg1 (by decide)) rfl rfl (by decide) lyX9 (q188 hI.T) rfl dX9_copyFrom_16 ?_
  obtain ⟨r3, M4, hc, hf⟩ := mbnd_e hf
  refine m_callV (As := [.ref (w.1 g1 5)]) (rest := []) hx hb hml hown hI (c_X3_copyFrom l w H.size g hg g1 hg1 M2 _ _ hc) (kb_X3_copyFrom hI.T (q737 hI.T) (Nat.le_of_ble_eq_true rfl) (Nat.le_of_ble_eq_true rfl)) (q738 hI.T) (q739 hI.T) (m_recv (g := g) (i := 5) hI (mokS hg (by decide)) rfl rfl) rfl hl.1 (Nat.le_of_ble_eq_true rfl) dX9_copyFrom_19 ⟨Nat.le_of_ble_eq_true rfl, Nat.le_of_ble_eq_true rfl⟩ (fun H locs hI => ?_)
  refine lv_aload_n hx hb dX9_copyFrom_22 rfl (lv_at hl 0 rfl) ?_
  refine m_get (g := g) (i := 0) (ci := 8) (k := 2) (v := .ref (w.1 g 6)) hx hb hI hown (mokS hg (by decide)) rfl rfl (by decide) lyX9 (q190 hI.T) rfl dX9_copyFrom_23 ?_
  refine lv_aload_n hx hb dX9_copyFrom_26 rfl (lv_at hl 1 rfl) ?_
  refine m_get (g := g1) (i := 0) (ci := 8) (k := 2) (v := .ref (w.1 g1 6)) hx hb hI hown (mokS hg1 (by decide)) rfl rfl (by decide) lyX9 (q190 hI.T) rfl dX9_copyFrom_27 ?_
  obtain ⟨r5, M6, hc, hf⟩ := mbnd_e hf
  refine m_callV (As := [.ref (w.1 g1 6)]) (rest := []) hx hb hml hown hI (c_X1_copyFrom l w H.size g (Nat.le_trans hg (by decide)) g1 (Nat.le_trans hg1 (by decide)) M4 _ _ hc) (kb_X1_copyFrom hI.T (q741 hI.T) (Nat.le_of_ble_eq_true rfl) (Nat.le_of_ble_eq_true rfl)) (q615 hI.T) (q616 hI.T) (m_recv (g := g) (i := 6) hI (mokS hg (by decide)) rfl rfl) rfl hl.1 (Nat.le_of_ble_eq_true rfl) dX9_copyFrom_30 ⟨Nat.le_of_ble_eq_true rfl, Nat.le_of_ble_eq_true rfl⟩ (fun H locs hI => ?_)
  refine lv_aload_n hx hb dX9_copyFrom_33 rfl (lv_at hl 0 rfl) ?_
  refine m_get (g := g) (i := 0) (ci := 8) (k := 3) (v := .ref (w.1 g 12)) hx hb hI hown (mokS hg (by decide)) rfl rfl (by decide) lyX9 (q192 hI.T) rfl dX9_copyFrom_34 ?_
  refine lv_aload_n hx hb dX9_copyFrom_37 rfl (lv_at hl 1 rfl) ?_
  refine m_get (g := g1) (i := 0) (ci := 8) (k := 3) (v := .ref (w.1 g1 12)) hx hb hI hown (mokS hg1 (by decide)) rfl rfl (by decide) lyX9 (q192 hI.T) rfl dX9_copyFrom_38 ?_
  obtain ⟨r7, M8, hc, hf⟩ := mbnd_e hf
  refine m_callV (As := [.ref (w.1 g1 12)]) (rest := []) hx hb hml hown hI (c_X5_copyFrom l w H.size g hg g1 hg1 M6 _ _ hc) (kb_X5_copyFrom hI.T (q742 hI.T) (Nat.le_of_ble_eq_true rfl) (Nat.le_of_ble_eq_true rfl)) (q743 hI.T) (q744 hI.T) (m_recv (g := g) (i := 12) hI (mokS hg (by decide)) rfl rfl) rfl hl.1 (Nat.le_of_ble_eq_true rfl) dX9_copyFrom_41 ⟨Nat.le_of_ble_eq_true rfl, Nat.le_of_ble_eq_true rfl⟩ (fun H locs hI => ?_)
  exact m_vretf hx hb hr hlk hI hf dX9_copyFrom_44
abbrev rmX4_prepare : Room := { frames := 3, cells := 0, slots := 0, locals := 83 }
theorem kb_X4_prepare {R : Room} {s : State} {args : Array Value} {own : String} {idx : Nat} (hT : mT s) (hlink : (Cond.methodLink own idx yX4_prepare).before args s = true) (h1 : rmX4_prepare.frames + 1 ≤ R.frames) (h2 : 8 + (2 + 11) + rmX4_prepare.locals ≤ R.locals) : CallB R s args own idx yX4_prepare cX4_prepare 2 (none) [Cond.code yX4_prepare cX4_prepare 2 (none)] rmX4_prepare 0 0 1 := m_callB hT kc_X4_prepare ki_X4_prepare hlink (by decide +kernel) ⟨rfl, rfl, h1, h2⟩
set_option maxHeartbeats 4000000 in
set_option maxRecDepth 100000 in
theorem c_X4_prepare (l : Launch) (w : WD) (sz : Nat) (g1 : Nat) (hg1 : g1 ≤ 10) (M : Mem) (r : Unit) (M9 : Mem) (hf : f_X4_prepare g1 M = some (r, M9)) : mMet l yX4_prepare cX4_prepare 2 (none) rmX4_prepare w sz M [.ref (w.1 12 17), .ref (w.1 g1 0)] none M9 := by
  refine m_of (by decide) (Nat.le_of_ble_eq_true rfl) ?_
  intro p e s m args below meth c hx hb hr hml hown hlk hI ls hl
  have hl : lv_has ls 2 [(0, .ref (w.1 12 17)), (1, .ref (w.1 g1 0))] := hl
  unfold f_X4_prepare at hf
  refine lv_aload_n hx hb dX4_prepare_0 rfl (lv_at hl 0 rfl) ?_
  refine m_get (g := 12) (i := 17) (ci := 3) (k := 0) (v := .ref (w.1 12 18)) hx hb hI hown (mokX (by decide) (by decide)) rfl rfl (by decide) lyX4 (q216 hI.T) rfl dX4_prepare_1 ?_
  refine lv_aload_n hx hb dX4_prepare_4 rfl (lv_at hl 0 rfl) ?_
  refine m_get (g := 12) (i := 17) (ci := 3) (k := 1) (v := .int (M 12 17 1)) hx hb hI hown (mokX (by decide) (by decide)) rfl rfl (by decide) lyX4 (q217 hI.T) rfl dX4_prepare_5 ?_
  obtain ⟨hi, hf⟩ := mix_e hf
  have hk8 := mix_lt hi
  refine m_aald (g := 12) (i := 18) (t0 := 3) (v := .ref (w.1 (1 + (M 12 17 1).toNatClampNeg) 0)) hx hb hI (mokX (by decide) (by decide)) rfl rfl rfl hi rfl dX4_prepare_8 ?_
  refine lv_aload_n hx hb dX4_prepare_9 rfl (lv_at hl 1 rfl) ?_
  obtain ⟨r1, M2, hc, hf⟩ := mbnd_e hf
  refine m_callV (As := [.ref (w.1 g1 0)]) (rest := []) hx hb hml hown hI (c_X9_copyFrom l w s.heap.size (1 + (M 12 17 1).toNatClampNeg) (mok_st hk8) g1 hg1 M _ _ hc) (kb_X9_copyFrom hI.T (q728 hI.T) (Nat.le_of_ble_eq_true rfl) (Nat.le_of_ble_eq_true rfl)) (q729 hI.T) (q730 hI.T) (m_recv (g := (1 + (M 12 17 1).toNatClampNeg)) (i := 0) hI (mokS (mok_st hk8) (by decide)) rfl rfl) rfl hl.1 (Nat.le_of_ble_eq_true rfl) dX4_prepare_10 ⟨Nat.le_of_ble_eq_true rfl, Nat.le_of_ble_eq_true rfl⟩ (fun H locs hI => ?_)
  exact m_vretf hx hb hr hlk hI hf dX4_prepare_13
abbrev rmX6_positionOf : Room := { frames := 0, cells := 0, slots := 0, locals := 0 }
theorem kb_X6_positionOf {R : Room} {s : State} {args : Array Value} {own : String} {idx : Nat} (hT : mT s) (hlink : (Cond.methodLink own idx yX6_positionOf).before args s = true) (h1 : rmX6_positionOf.frames + 1 ≤ R.frames) (h2 : 8 + (1 + 11) + rmX6_positionOf.locals ≤ R.locals) : CallB R s args own idx yX6_positionOf cX6_positionOf 1 (some .int) [Cond.code yX6_positionOf cX6_positionOf 1 (some .int)] rmX6_positionOf 0 0 1 := m_callB hT kc_X6_positionOf ki_X6_positionOf hlink (by decide +kernel) ⟨rfl, rfl, h1, h2⟩
set_option maxHeartbeats 4000000 in
set_option maxRecDepth 100000 in
theorem c_X6_positionOf (l : Launch) (w : WD) (sz : Nat) (a1 : Int32) (M : Mem) (r : Int32) (hf : f_X6_positionOf a1 M = some r) : mMet l yX6_positionOf cX6_positionOf 1 (some .int) rmX6_positionOf w sz M [.int a1] (some (.int r)) M := by
  refine m_of (by decide) (Nat.le_of_ble_eq_true rfl) ?_
  intro p e s m args below meth c hx hb hr hml hown hlk hI ls hl
  have hl : lv_has ls 1 [(0, .int a1)] := hl
  unfold f_X6_positionOf at hf
  refine lv_iload_n hx hb dX6_positionOf_0 rfl (lv_at hl 0 rfl) ?_
  refine lv_iconst (v := 1) hx hb dX6_positionOf_1 (by decide) ?_
  refine lv_iadd hx hb dX6_positionOf_2 ?_
  exact m_iretp hx hb hr hlk hI hf dX6_positionOf_3
abbrev rmX6_valueOn : Room := { frames := 0, cells := 0, slots := 0, locals := 0 }
theorem kb_X6_valueOn {R : Room} {s : State} {args : Array Value} {own : String} {idx : Nat} (hT : mT s) (hlink : (Cond.methodLink own idx yX6_valueOn).before args s = true) (h1 : rmX6_valueOn.frames + 1 ≤ R.frames) (h2 : 8 + (4 + 11) + rmX6_valueOn.locals ≤ R.locals) : CallB R s args own idx yX6_valueOn cX6_valueOn 4 (some .int) [Cond.code yX6_valueOn cX6_valueOn 4 (some .int)] rmX6_valueOn 0 0 2 := m_callB hT kc_X6_valueOn ki_X6_valueOn hlink (by decide +kernel) ⟨rfl, rfl, h1, h2⟩
set_option maxHeartbeats 4000000 in
set_option maxRecDepth 100000 in
theorem c_X6_valueOn (l : Launch) (w : WD) (sz : Nat) (ga1 ia1 : Nat) (ho1 : mok ga1 ia1) (hn1 : mil ia1 = some 3) (a2 : Int32) (M : Mem) (r : Int32) (hf : f_X6_valueOn ga1 ia1 a2 M = some r) : mMet l yX6_valueOn cX6_valueOn 4 (some .int) rmX6_valueOn w sz M [.ref (w.1 ga1 ia1), .int a2] (some (.int r)) M := by
  refine m_of (by decide) (Nat.le_of_ble_eq_true rfl) ?_
  intro p e s m args below meth c hx hb hr hml hown hlk hI ls hl
  have hl : lv_has ls 4 [(0, .ref (w.1 ga1 ia1)), (1, .int a2)] := hl
  unfold f_X6_valueOn at hf
  refine lv_iconst (v := 0) hx hb dX6_valueOn_0 (by decide) ?_
  refine lv_istore_n (lv' := [(2, .int (0 : Int32)), (0, .ref (w.1 ga1 ia1)), (1, .int a2)]) hx hb dX6_valueOn_1 rfl hl (by decide) rfl (fun ls hl => ?_)
  refine lv_aload_n hx hb dX6_valueOn_2 rfl (lv_at hl 1 rfl) ?_
  refine m_alen (v := 3) (g := ga1) (i := ia1) hx hb hI ho1 hn1 rfl dX6_valueOn_3 ?_
  refine lv_iconst (v := 1) hx hb dX6_valueOn_4 (by decide) ?_
  refine lv_isub hx hb dX6_valueOn_5 ?_
  refine lv_topi (fun x1 ex1 => ?_)
  have hf := mlet_s ex1 hf
  refine lv_istore_n (lv' := [(3, .int x1), (2, .int (0 : Int32)), (0, .ref (w.1 ga1 ia1)), (1, .int a2)]) hx hb dX6_valueOn_6 rfl hl (by decide) rfl (fun ls hl => ?_)
  have hL7 : ∀ (n : Nat) (x2 : Int32) (x3 : Int32) (kk : Int32 → Option Int32) (H : Heap) (locs : List Loc) (ls : Array Slot), f_X6_valueOn_L7 ga1 ia1 a2 M n x2 x3 kk = some r → mI w s (mA w s.heap.size) H locs M → lv_has ls 4 [(0, .ref (w.1 ga1 ia1)), (1, .int a2), (2, .int x2), (3, .int x3)] → (∀ (x2 : Int32) (H : Heap) (locs : List Loc) (ls : Array Slot), kk x2 = some r → mI w s (mA w s.heap.size) H locs M → lv_has ls 4 [(2, .int x2)] → W p l e rmX6_valueOn s m args below meth c H locs 0 0 (MQ below (mQ w s.heap.size (some (.int r)) M) args s 0 0 (mA w s.heap.size)) (F0 m 28 ls [])) → W p l e rmX6_valueOn s m args below meth c H locs 0 0 (MQ below (mQ w s.heap.size (some (.int r)) M) args s 0 0 (mA w s.heap.size)) (F0 m 7 ls []) := by
    intro n
    induction n with
    | zero => intro x2 x3 kk H locs ls hf hI hl hk; rw [f_X6_valueOn_L7.eq_1] at hf; cases hf
    | succ n ih7 =>
      intro x2 x3 kk H locs ls hf hI hl hk
      rw [f_X6_valueOn_L7.eq_2] at hf
      refine lv_iload_n hx hb dX6_valueOn_7 rfl (lv_at hl 3 rfl) ?_
      refine lv_if_lt (tgt := 28) hx hb dX6_valueOn_8 (by decide) (fun c4 => ?_) (fun c4 => ?_)
      · have hf := (if_pos c4).symm.trans hf
        exact hk x2 H _ _ hf hI (lv_sub hl [2] rfl)
      · have hf := (if_neg c4).symm.trans hf
        refine lv_iload_n hx hb dX6_valueOn_11 rfl (lv_at hl 2 rfl) ?_
        refine lv_iload_n hx hb dX6_valueOn_12 rfl (lv_at hl 1 rfl) ?_
        refine lv_imul hx hb dX6_valueOn_13 ?_
        refine lv_aload_n hx hb dX6_valueOn_14 rfl (lv_at hl 0 rfl) ?_
        refine lv_iload_n hx hb dX6_valueOn_15 rfl (lv_at hl 3 rfl) ?_
        obtain ⟨hi, hf⟩ := mix_e hf
        refine m_iald (g := ga1) (i := ia1) hx hb hI ho1 hn1 hi dX6_valueOn_16 ?_
        refine lv_iadd hx hb dX6_valueOn_17 ?_
        refine lv_bipush (v := 97) hx hb dX6_valueOn_18 (by decide) ?_
        refine lv_irem hx hb dX6_valueOn_20 (by decide) ?_
        refine lv_topi (fun x5 ex5 => ?_)
        have hf := mlet_s ex5 hf
        refine lv_istore_n (lv' := [(2, .int x5), (0, .ref (w.1 ga1 ia1)), (1, .int a2), (3, .int x3)]) hx hb dX6_valueOn_21 rfl hl (by decide) rfl (fun ls hl => ?_)
        obtain ⟨x6, ex6, hf⟩ := mlet_e hf
        refine lv_iinc (v := x6) (lv' := [(3, .int x6), (2, .int x5), (0, .ref (w.1 ga1 ia1)), (1, .int a2)]) hx hb dX6_valueOn_22 hl (k := 3) rfl (by rw [ex6]; rfl) (by decide) rfl (fun ls hl => ?_)
        refine lv_goto (tgt := 7) hx hb dX6_valueOn_25 (by decide) ?_
        exact ih7 x5 x6 kk H _ _ hf hI (lv_sub hl [2, 3, 1, 0] rfl) hk
  refine hL7 1000 (0 : Int32) x1 _ _ _ _ hf hI (lv_sub hl [2, 3, 1, 0] rfl) ?_
  intro x7 H locs ls hf hI hl
  try dsimp only at hf
  refine lv_iload_n hx hb dX6_valueOn_28 rfl (lv_at hl 0 rfl) ?_
  exact m_iretp hx hb hr hlk hI hf dX6_valueOn_29
abbrev rmX6_correctShare : Room := { frames := 1, cells := 0, slots := 0, locals := 23 }
theorem kb_X6_correctShare {R : Room} {s : State} {args : Array Value} {own : String} {idx : Nat} (hT : mT s) (hlink : (Cond.methodLink own idx yX6_correctShare).before args s = true) (h1 : rmX6_correctShare.frames + 1 ≤ R.frames) (h2 : 8 + (2 + 11) + rmX6_correctShare.locals ≤ R.locals) : CallB R s args own idx yX6_correctShare cX6_correctShare 2 (some .int) [Cond.code yX6_correctShare cX6_correctShare 2 (some .int)] rmX6_correctShare 0 0 1 := m_callB hT kc_X6_correctShare ki_X6_correctShare hlink (by decide +kernel) ⟨rfl, rfl, h1, h2⟩
set_option maxHeartbeats 4000000 in
set_option maxRecDepth 100000 in
theorem c_X6_correctShare (l : Launch) (w : WD) (sz : Nat) (g : Nat) (hg : g ≤ 10) (a1 : Int32) (M : Mem) (r : Int32) (hf : f_X6_correctShare g a1 M = some r) : mMet l yX6_correctShare cX6_correctShare 2 (some .int) rmX6_correctShare w sz M [.ref (w.1 g 1), .int a1] (some (.int r)) M := by
  refine m_of (by decide) (Nat.le_of_ble_eq_true rfl) ?_
  intro p e s m args below meth c hx hb hr hml hown hlk hI ls hl
  have hl : lv_has ls 2 [(0, .ref (w.1 g 1)), (1, .int a1)] := hl
  unfold f_X6_correctShare at hf
  refine lv_aload_n hx hb dX6_correctShare_0 rfl (lv_at hl 0 rfl) ?_
  refine m_get (g := g) (i := 1) (ci := 5) (k := 4) (v := .ref (w.1 g 3)) hx hb hI hown (mokS hg (by decide)) rfl rfl (by decide) lyX6 (q68 hI.T) rfl dX6_correctShare_1 ?_
  refine lv_iload_n hx hb dX6_correctShare_4 rfl (lv_at hl 1 rfl) ?_
  obtain ⟨r1, hc, hf⟩ := mbp_e hf
  refine m_callS (As := [.int a1]) (rest := [.ref (w.1 g 3)]) hx hb hml hown hI (c_X6_positionOf l w s.heap.size a1 M _ hc) (kb_X6_positionOf hI.T (q571 hI.T) (Nat.le_of_ble_eq_true rfl) (Nat.le_of_ble_eq_true rfl)) (q572 hI.T) rfl hl.1 (Nat.le_of_ble_eq_true rfl) dX6_correctShare_5 ⟨Nat.le_of_ble_eq_true rfl, Nat.le_of_ble_eq_true rfl⟩ (fun H locs hI => ?_)
  obtain ⟨r2, hc, hf⟩ := mbp_e hf
  refine m_callS (As := [.ref (w.1 g 3), .int r1]) (rest := []) hx hb hml hown hI (c_X6_valueOn l w H.size g 3 (mokS hg (by decide)) rfl r1 M _ hc) (kb_X6_valueOn hI.T (q710 hI.T) (Nat.le_of_ble_eq_true rfl) (Nat.le_of_ble_eq_true rfl)) (q711 hI.T) rfl hl.1 (Nat.le_of_ble_eq_true rfl) dX6_correctShare_8 ⟨Nat.le_of_ble_eq_true rfl, Nat.le_of_ble_eq_true rfl⟩ (fun H locs hI => ?_)
  exact m_iretp hx hb hr hlk hI hf dX6_correctShare_11
abbrev rmX6_join : Room := { frames := 2, cells := 0, slots := 0, locals := 44 }
theorem kb_X6_join {R : Room} {s : State} {args : Array Value} {own : String} {idx : Nat} (hT : mT s) (hlink : (Cond.methodLink own idx yX6_join).before args s = true) (h1 : rmX6_join.frames + 1 ≤ R.frames) (h2 : 8 + (2 + 11) + rmX6_join.locals ≤ R.locals) : CallB R s args own idx yX6_join cX6_join 2 (some .int) [Cond.code yX6_join cX6_join 2 (some .int)] rmX6_join 0 0 0 := m_callB hT kc_X6_join ki_X6_join hlink (by decide +kernel) ⟨rfl, rfl, h1, h2⟩
set_option maxHeartbeats 4000000 in
set_option maxRecDepth 100000 in
theorem c_X6_join (l : Launch) (w : WD) (sz : Nat) (g : Nat) (hg : g ≤ 10) (M : Mem) (r : Int32) (M9 : Mem) (hf : f_X6_join g M = some (r, M9)) : mMet l yX6_join cX6_join 2 (some .int) rmX6_join w sz M [.ref (w.1 g 1)] (some (.int r)) M9 := by
  refine m_of (by decide) (Nat.le_of_ble_eq_true rfl) ?_
  intro p e s m args below meth c hx hb hr hml hown hlk hI ls hl
  have hl : lv_has ls 2 [(0, .ref (w.1 g 1))] := hl
  unfold f_X6_join at hf
  refine lv_aload_n hx hb dX6_join_0 rfl (lv_at hl 0 rfl) ?_
  refine m_get (g := g) (i := 1) (ci := 5) (k := 0) (v := .int (M g 1 0)) hx hb hI hown (mokS hg (by decide)) rfl rfl (by decide) lyX6 (q54 hI.T) rfl dX6_join_1 ?_
  refine lv_topi (fun x1 ex1 => ?_)
  have hf := mlet_s ex1 hf
  refine lv_istore_n (lv' := [(1, .int x1), (0, .ref (w.1 g 1))]) hx hb dX6_join_4 rfl hl (by decide) rfl (fun ls hl => ?_)
  refine lv_aload_n hx hb dX6_join_5 rfl (lv_at hl 1 rfl) ?_
  refine lv_dup hx hb dX6_join_6 rfl ?_
  refine m_get (g := g) (i := 1) (ci := 5) (k := 0) (v := .int (M g 1 0)) hx hb hI hown (mokS hg (by decide)) rfl rfl (by decide) lyX6 (q54 hI.T) rfl dX6_join_7 ?_
  refine lv_iconst (v := 1) hx hb dX6_join_10 (by decide) ?_
  refine lv_iadd hx hb dX6_join_11 ?_
  obtain ⟨M2, eM2, hf⟩ := mlet_e hf
  refine m_put (g := g) (i := 1) (ci := 5) (k := 0) (ty := .int) (M1 := M2) hx hb hI hown (mokS hg (by decide)) rfl rfl (by decide) lyX6 tyX6 tyX6_ok nmX6 (q54 hI.T) rfl rfl rfl rfl (Nat.le_of_ble_eq_true rfl) rfl eM2 dX6_join_12 (fun H locs hI => ?_)
  refine lv_aload_n hx hb dX6_join_15 rfl (lv_at hl 1 rfl) ?_
  refine m_get (g := g) (i := 1) (ci := 5) (k := 1) (v := .ref (w.1 g 2)) hx hb hI hown (mokS hg (by decide)) rfl rfl (by decide) lyX6 (q57 hI.T) rfl dX6_join_16 ?_
  refine lv_iload_n hx hb dX6_join_19 rfl (lv_at hl 0 rfl) ?_
  refine lv_aload_n hx hb dX6_join_20 rfl (lv_at hl 1 rfl) ?_
  refine lv_iload_n hx hb dX6_join_21 rfl (lv_at hl 0 rfl) ?_
  obtain ⟨r3, hc, hf⟩ := mbp_e hf
  refine m_callV (As := [.int x1]) (rest := [.int x1, .ref (w.1 g 2)]) hx hb hml hown hI (c_X6_correctShare l w H.size g hg x1 M2 _ hc) (kb_X6_correctShare hI.T (q755 hI.T) (Nat.le_of_ble_eq_true rfl) (Nat.le_of_ble_eq_true rfl)) (q707 hI.T) (q708 hI.T) (m_recv (g := g) (i := 1) hI (mokS hg (by decide)) rfl rfl) rfl hl.1 (Nat.le_of_ble_eq_true rfl) dX6_join_22 ⟨Nat.le_of_ble_eq_true rfl, Nat.le_of_ble_eq_true rfl⟩ (fun H locs hI => ?_)
  obtain ⟨hi, hf⟩ := mix_e hf
  obtain ⟨M4, eM4, hf⟩ := mlet_e hf
  refine m_iast (g := g) (i := 2) (M1 := M4) hx hb hI (mokS hg (by decide)) rfl hi eM4 dX6_join_25 (fun H locs hI => ?_)
  refine lv_iload_n hx hb dX6_join_26 rfl (lv_at hl 0 rfl) ?_
  exact m_iretf hx hb hr hlk hI hf dX6_join_27
abbrev rmX9_tryHolder : Room := { frames := 3, cells := 0, slots := 0, locals := 65 }
theorem kb_X9_tryHolder {R : Room} {s : State} {args : Array Value} {own : String} {idx : Nat} (hT : mT s) (hlink : (Cond.methodLink own idx yX9_tryHolder).before args s = true) (h1 : rmX9_tryHolder.frames + 1 ≤ R.frames) (h2 : 8 + (1 + 11) + rmX9_tryHolder.locals ≤ R.locals) : CallB R s args own idx yX9_tryHolder cX9_tryHolder 1 (some .int) [Cond.code yX9_tryHolder cX9_tryHolder 1 (some .int)] rmX9_tryHolder 0 0 0 := m_callB hT kc_X9_tryHolder ki_X9_tryHolder hlink (by decide +kernel) ⟨rfl, rfl, h1, h2⟩
set_option maxHeartbeats 4000000 in
set_option maxRecDepth 100000 in
theorem c_X9_tryHolder (l : Launch) (w : WD) (sz : Nat) (g : Nat) (hg : g ≤ 10) (M : Mem) (r : Int32) (M9 : Mem) (hf : f_X9_tryHolder g M = some (r, M9)) : mMet l yX9_tryHolder cX9_tryHolder 1 (some .int) rmX9_tryHolder w sz M [.ref (w.1 g 0)] (some (.int r)) M9 := by
  refine m_of (by decide) (Nat.le_of_ble_eq_true rfl) ?_
  intro p e s m args below meth c hx hb hr hml hown hlk hI ls hl
  have hl : lv_has ls 1 [(0, .ref (w.1 g 0))] := hl
  unfold f_X9_tryHolder at hf
  refine lv_aload_n hx hb dX9_tryHolder_0 rfl (lv_at hl 0 rfl) ?_
  refine m_get (g := g) (i := 0) (ci := 8) (k := 0) (v := .ref (w.1 g 1)) hx hb hI hown (mokS hg (by decide)) rfl rfl (by decide) lyX9 (q186 hI.T) rfl dX9_tryHolder_1 ?_
  refine m_get (g := g) (i := 1) (ci := 5) (k := 0) (v := .int (M g 1 0)) hx hb hI hown (mokS hg (by decide)) rfl rfl (by decide) lyX6 (q55 hI.T) rfl dX9_tryHolder_4 ?_
  refine lv_bipush (v := 8) hx hb dX9_tryHolder_7 (by decide) ?_
  refine lv_icmp_lt (tgt := 14) hx hb dX9_tryHolder_9 (by decide) (fun c1 => ?_) (fun c1 => ?_)
  · have hf := (if_pos c1).symm.trans hf
    refine lv_aload_n hx hb dX9_tryHolder_14 rfl (lv_at hl 0 rfl) ?_
    refine lv_aload_n hx hb dX9_tryHolder_15 rfl (lv_at hl 0 rfl) ?_
    refine m_get (g := g) (i := 0) (ci := 8) (k := 0) (v := .ref (w.1 g 1)) hx hb hI hown (mokS hg (by decide)) rfl rfl (by decide) lyX9 (q186 hI.T) rfl dX9_tryHolder_16 ?_
    obtain ⟨r2, M3, hc, hf⟩ := mbnd_e hf
    refine m_callV (As := []) (rest := [.ref (w.1 g 0)]) hx hb hml hown hI (c_X6_join l w s.heap.size g hg M _ _ hc) (kb_X6_join hI.T (q751 hI.T) (Nat.le_of_ble_eq_true rfl) (Nat.le_of_ble_eq_true rfl)) (q752 hI.T) (q753 hI.T) (m_recv (g := g) (i := 1) hI (mokS hg (by decide)) rfl rfl) rfl hl.1 (Nat.le_of_ble_eq_true rfl) dX9_tryHolder_19 ⟨Nat.le_of_ble_eq_true rfl, Nat.le_of_ble_eq_true rfl⟩ (fun H locs hI => ?_)
    obtain ⟨M4, eM4, hf⟩ := mlet_e hf
    refine m_put (g := g) (i := 0) (ci := 8) (k := 4) (ty := .int) (M1 := M4) hx hb hI hown (mokS hg (by decide)) rfl rfl (by decide) lyX9 tyX9 tyX9_ok nmX9 (q194 hI.T) rfl rfl rfl rfl (Nat.le_of_ble_eq_true rfl) rfl eM4 dX9_tryHolder_22 (fun H locs hI => ?_)
    refine lv_iconst (v := 0) hx hb dX9_tryHolder_25 (by decide) ?_
    exact m_iretf hx hb hr hlk hI hf dX9_tryHolder_26
  · have hf := (if_neg c1).symm.trans hf
    refine lv_iconst (v := 1) hx hb dX9_tryHolder_12 (by decide) ?_
    exact m_iretf hx hb hr hlk hI hf dX9_tryHolder_13
abbrev rmX6_placeOf : Room := { frames := 0, cells := 0, slots := 0, locals := 0 }
theorem kb_X6_placeOf {R : Room} {s : State} {args : Array Value} {own : String} {idx : Nat} (hT : mT s) (hlink : (Cond.methodLink own idx yX6_placeOf).before args s = true) (h1 : rmX6_placeOf.frames + 1 ≤ R.frames) (h2 : 8 + (3 + 11) + rmX6_placeOf.locals ≤ R.locals) : CallB R s args own idx yX6_placeOf cX6_placeOf 3 (some .int) [Cond.code yX6_placeOf cX6_placeOf 3 (some .int)] rmX6_placeOf 0 0 1 := m_callB hT kc_X6_placeOf ki_X6_placeOf hlink (by decide +kernel) ⟨rfl, rfl, h1, h2⟩
set_option maxHeartbeats 4000000 in
set_option maxRecDepth 100000 in
theorem c_X6_placeOf (l : Launch) (w : WD) (sz : Nat) (g : Nat) (hg : g ≤ 10) (a1 : Int32) (M : Mem) (r : Int32) (hf : f_X6_placeOf g a1 M = some r) : mMet l yX6_placeOf cX6_placeOf 3 (some .int) rmX6_placeOf w sz M [.ref (w.1 g 1), .int a1] (some (.int r)) M := by
  refine m_of (by decide) (Nat.le_of_ble_eq_true rfl) ?_
  intro p e s m args below meth c hx hb hr hml hown hlk hI ls hl
  have hl : lv_has ls 3 [(0, .ref (w.1 g 1)), (1, .int a1)] := hl
  unfold f_X6_placeOf at hf
  refine lv_iconst (v := 0) hx hb dX6_placeOf_0 (by decide) ?_
  refine lv_istore_n (lv' := [(2, .int (0 : Int32)), (0, .ref (w.1 g 1)), (1, .int a1)]) hx hb dX6_placeOf_1 rfl hl (by decide) rfl (fun ls hl => ?_)
  have hL2 : ∀ (n : Nat) (x1 : Int32) (kk : Unit → Option Int32) (H : Heap) (locs : List Loc) (ls : Array Slot), f_X6_placeOf_L2 g a1 M n x1 kk = some r → mI w s (mA w s.heap.size) H locs M → lv_has ls 3 [(0, .ref (w.1 g 1)), (1, .int a1), (2, .int x1)] → (∀ (_u : Unit) (H : Heap) (locs : List Loc) (ls : Array Slot), kk () = some r → mI w s (mA w s.heap.size) H locs M → lv_has ls 3 [] → W p l e rmX6_placeOf s m args below meth c H locs 0 0 (MQ below (mQ w s.heap.size (some (.int r)) M) args s 0 0 (mA w s.heap.size)) (F0 m 28 ls [])) → W p l e rmX6_placeOf s m args below meth c H locs 0 0 (MQ below (mQ w s.heap.size (some (.int r)) M) args s 0 0 (mA w s.heap.size)) (F0 m 2 ls []) := by
    intro n
    induction n with
    | zero => intro x1 kk H locs ls hf hI hl hk; rw [f_X6_placeOf_L2.eq_1] at hf; cases hf
    | succ n ih2 =>
      intro x1 kk H locs ls hf hI hl hk
      rw [f_X6_placeOf_L2.eq_2] at hf
      refine lv_iload_n hx hb dX6_placeOf_2 rfl (lv_at hl 2 rfl) ?_
      refine lv_aload_n hx hb dX6_placeOf_3 rfl (lv_at hl 0 rfl) ?_
      refine m_get (g := g) (i := 1) (ci := 5) (k := 5) (v := .int (M g 1 5)) hx hb hI hown (mokS hg (by decide)) rfl rfl (by decide) lyX6 (q69 hI.T) rfl dX6_placeOf_4 ?_
      refine lv_icmp_ge (tgt := 28) hx hb dX6_placeOf_7 (by decide) (fun c2 => ?_) (fun c2 => ?_)
      · have hf := (if_pos c2).symm.trans hf
        exact hk () H _ _ hf hI (lv_sub hl [] rfl)
      · have hf := (if_neg c2).symm.trans hf
        refine lv_aload_n hx hb dX6_placeOf_10 rfl (lv_at hl 0 rfl) ?_
        refine m_get (g := g) (i := 1) (ci := 5) (k := 6) (v := .ref (w.1 g 4)) hx hb hI hown (mokS hg (by decide)) rfl rfl (by decide) lyX6 (q73 hI.T) rfl dX6_placeOf_11 ?_
        refine lv_iload_n hx hb dX6_placeOf_14 rfl (lv_at hl 2 rfl) ?_
        obtain ⟨hi, hf⟩ := mix_e hf
        refine m_iald (g := g) (i := 4) hx hb hI (mokS hg (by decide)) rfl hi dX6_placeOf_15 ?_
        refine lv_iload_n hx hb dX6_placeOf_16 rfl (lv_at hl 1 rfl) ?_
        refine lv_icmp_ne (tgt := 22) hx hb dX6_placeOf_17 (by decide) (fun c3 => ?_) (fun c3 => ?_)
        · have hf := (if_neg c3).symm.trans hf
          obtain ⟨x4, ex4, hf⟩ := mlet_e hf
          refine lv_iinc (v := x4) (lv' := [(2, .int x4), (0, .ref (w.1 g 1)), (1, .int a1)]) hx hb dX6_placeOf_22 hl (k := 2) rfl (by rw [ex4]; rfl) (by decide) rfl (fun ls hl => ?_)
          refine lv_goto (tgt := 2) hx hb dX6_placeOf_25 (by decide) ?_
          exact ih2 x4 kk H _ _ hf hI (lv_sub hl [1, 2, 0] rfl) hk
        · have hf := (if_pos c3).symm.trans hf
          refine lv_iload_n hx hb dX6_placeOf_20 rfl (lv_at hl 2 rfl) ?_
          exact m_iretp hx hb hr hlk hI hf dX6_placeOf_21
  refine hL2 1000 (0 : Int32) _ _ _ _ hf hI (lv_sub hl [1, 2, 0] rfl) ?_
  intro _u H locs ls hf hI hl
  try dsimp only at hf
  refine lv_iconst (v := (-1)) hx hb dX6_placeOf_28 (by decide) ?_
  exact m_iretp hx hb hr hlk hI hf dX6_placeOf_29
abbrev rmX9_detailOf : Room := { frames := 1, cells := 0, slots := 0, locals := 22 }
theorem kb_X9_detailOf {R : Room} {s : State} {args : Array Value} {own : String} {idx : Nat} (hT : mT s) (hlink : (Cond.methodLink own idx yX9_detailOf).before args s = true) (h1 : rmX9_detailOf.frames + 1 ≤ R.frames) (h2 : 8 + (3 + 11) + rmX9_detailOf.locals ≤ R.locals) : CallB R s args own idx yX9_detailOf cX9_detailOf 3 (some .int) [Cond.code yX9_detailOf cX9_detailOf 3 (some .int)] rmX9_detailOf 0 0 2 := m_callB hT kc_X9_detailOf ki_X9_detailOf hlink (by decide +kernel) ⟨rfl, rfl, h1, h2⟩
theorem mtab_X9_detailOf {p : Program} {l : Launch} {e : Env} {R : Room} {s : State} {m : MethodId} {args : Array Value} {below : List Frame} {meth : Method} {c : Code} {H : Heap} {locs : List Loc} {cells slots : Nat} {Q : State → Prop} {ls : Array Slot} {rest : List Value} {x : Int32} (hx : p.tables.exec = Jvm.exec) (hb : c.code = cX9_detailOf) (hd : decode cX9_detailOf 1 = .ok (.tableswitch 122 1 10 #[55, 57, 122, 65, 55, 74, 82, 90, 106, 114], 55)) (c0 : ¬ x = 1) (c1 : ¬ x = 2) (c2 : ¬ x = 4) (c3 : ¬ x = 5) (c4 : ¬ x = 6) (c5 : ¬ x = 7) (c6 : ¬ x = 8) (c7 : ¬ x = 9) (c8 : ¬ x = 10) (k : W p l e R s m args below meth c H locs cells slots Q (F0 m 123 ls rest)) : W p l e R s m args below meth c H locs cells slots Q (F0 m 1 ls (.int x :: rest)) := by
  have h0 : x.toInt ≠ 1 := mne_i c0
  have h1 : x.toInt ≠ 2 := mne_i c1
  have h2 : x.toInt ≠ 4 := mne_i c2
  have h3 : x.toInt ≠ 5 := mne_i c3
  have h4 : x.toInt ≠ 6 := mne_i c4
  have h5 : x.toInt ≠ 7 := mne_i c5
  have h6 : x.toInt ≠ 8 := mne_i c6
  have h7 : x.toInt ≠ 9 := mne_i c7
  have h8 : x.toInt ≠ 10 := mne_i c8
  by_cases ho : x.toInt < 1 ∨ 10 < x.toInt
  · exact lv_tableOut (tgt := 123) hx hb hd ho (by decide) k
  · obtain ⟨n, hn⟩ : ∃ n : Nat, n = (x.toInt - 1).toNat := ⟨_, rfl⟩
    have hT : ∀ n : Nat, n < 10 → n = 0 ∨ n = 1 ∨ n = 3 ∨ n = 4 ∨ n = 5 ∨ n = 6 ∨ n = 7 ∨ n = 8 ∨ n = 9 ∨ (#[55, 57, 122, 65, 55, 74, 82, 90, 106, 114] : Array Int)[n]? = some 122 := by decide
    exact lv_tableIn (tgt := 123) (off := 122) hx hb hd (fun q => ho (Or.inl q)) (fun q => ho (Or.inr q)) (by rw [← hn]; exact (((((((((hT n (by omega)).resolve_left (by omega)).resolve_left (by omega)).resolve_left (by omega)).resolve_left (by omega)).resolve_left (by omega)).resolve_left (by omega)).resolve_left (by omega)).resolve_left (by omega)).resolve_left (by omega)) (by decide) k
set_option maxHeartbeats 4000000 in
set_option maxRecDepth 100000 in
theorem c_X9_detailOf (l : Launch) (w : WD) (sz : Nat) (g : Nat) (hg : g ≤ 10) (a1 : Int32) (a2 : Int32) (M : Mem) (r : Int32) (hf : f_X9_detailOf g a1 a2 M = some r) : mMet l yX9_detailOf cX9_detailOf 3 (some .int) rmX9_detailOf w sz M [.ref (w.1 g 0), .int a1, .int a2] (some (.int r)) M := by
  refine m_of (by decide) (Nat.le_of_ble_eq_true rfl) ?_
  intro p e s m args below meth c hx hb hr hml hown hlk hI ls hl
  have hl : lv_has ls 3 [(0, .ref (w.1 g 0)), (1, .int a1), (2, .int a2)] := hl
  unfold f_X9_detailOf at hf
  refine lv_iload_n hx hb dX9_detailOf_0 rfl (lv_at hl 1 rfl) ?_
  by_cases c1 : a1 = 1
  · have hf := (if_pos c1).symm.trans hf
    refine lv_tableIn (tgt := 56) hx hb dX9_detailOf_1 (by rw [c1]; decide) (by rw [c1]; decide) (by rw [c1]; rfl) (by decide) ?_
    refine lv_iload_n hx hb dX9_detailOf_56 rfl (lv_at hl 2 rfl) ?_
    exact m_iretp hx hb hr hlk hI hf dX9_detailOf_57
  have hf := (if_neg c1).symm.trans hf
  by_cases c2 : a1 = 2
  · have hf := (if_pos c2).symm.trans hf
    refine lv_tableIn (tgt := 58) hx hb dX9_detailOf_1 (by rw [c2]; decide) (by rw [c2]; decide) (by rw [c2]; rfl) (by decide) ?_
    refine lv_aload_n hx hb dX9_detailOf_58 rfl (lv_at hl 0 rfl) ?_
    refine m_get (g := g) (i := 0) (ci := 8) (k := 0) (v := .ref (w.1 g 1)) hx hb hI hown (mokS hg (by decide)) rfl rfl (by decide) lyX9 (q186 hI.T) rfl dX9_detailOf_59 ?_
    refine m_get (g := g) (i := 1) (ci := 5) (k := 0) (v := .int (M g 1 0)) hx hb hI hown (mokS hg (by decide)) rfl rfl (by decide) lyX6 (q55 hI.T) rfl dX9_detailOf_62 ?_
    exact m_iretp hx hb hr hlk hI hf dX9_detailOf_65
  have hf := (if_neg c2).symm.trans hf
  by_cases c3 : a1 = 4
  · have hf := (if_pos c3).symm.trans hf
    refine lv_tableIn (tgt := 66) hx hb dX9_detailOf_1 (by rw [c3]; decide) (by rw [c3]; decide) (by rw [c3]; rfl) (by decide) ?_
    refine lv_aload_n hx hb dX9_detailOf_66 rfl (lv_at hl 0 rfl) ?_
    refine m_get (g := g) (i := 0) (ci := 8) (k := 0) (v := .ref (w.1 g 1)) hx hb hI hown (mokS hg (by decide)) rfl rfl (by decide) lyX9 (q186 hI.T) rfl dX9_detailOf_67 ?_
    refine lv_iload_n hx hb dX9_detailOf_70 rfl (lv_at hl 2 rfl) ?_
    obtain ⟨r4, hc, hf⟩ := mbp_e hf
    refine m_callV (As := [.int a2]) (rest := []) hx hb hml hown hI (c_X6_placeOf l w s.heap.size g hg a2 M _ hc) (kb_X6_placeOf hI.T (q766 hI.T) (Nat.le_of_ble_eq_true rfl) (Nat.le_of_ble_eq_true rfl)) (q515 hI.T) (q516 hI.T) (m_recv (g := g) (i := 1) hI (mokS hg (by decide)) rfl rfl) rfl hl.1 (Nat.le_of_ble_eq_true rfl) dX9_detailOf_71 ⟨Nat.le_of_ble_eq_true rfl, Nat.le_of_ble_eq_true rfl⟩ (fun H locs hI => ?_)
    exact m_iretp hx hb hr hlk hI hf dX9_detailOf_74
  have hf := (if_neg c3).symm.trans hf
  by_cases c5 : a1 = 5
  · have hf := (if_pos c5).symm.trans hf
    refine lv_tableIn (tgt := 56) hx hb dX9_detailOf_1 (by rw [c5]; decide) (by rw [c5]; decide) (by rw [c5]; rfl) (by decide) ?_
    refine lv_iload_n hx hb dX9_detailOf_56 rfl (lv_at hl 2 rfl) ?_
    exact m_iretp hx hb hr hlk hI hf dX9_detailOf_57
  have hf := (if_neg c5).symm.trans hf
  by_cases c6 : a1 = 6
  · have hf := (if_pos c6).symm.trans hf
    refine lv_tableIn (tgt := 75) hx hb dX9_detailOf_1 (by rw [c6]; decide) (by rw [c6]; decide) (by rw [c6]; rfl) (by decide) ?_
    refine lv_aload_n hx hb dX9_detailOf_75 rfl (lv_at hl 0 rfl) ?_
    refine m_get (g := g) (i := 0) (ci := 8) (k := 0) (v := .ref (w.1 g 1)) hx hb hI hown (mokS hg (by decide)) rfl rfl (by decide) lyX9 (q186 hI.T) rfl dX9_detailOf_76 ?_
    refine m_get (g := g) (i := 1) (ci := 5) (k := 5) (v := .int (M g 1 5)) hx hb hI hown (mokS hg (by decide)) rfl rfl (by decide) lyX6 (q71 hI.T) rfl dX9_detailOf_79 ?_
    exact m_iretp hx hb hr hlk hI hf dX9_detailOf_82
  have hf := (if_neg c6).symm.trans hf
  by_cases c7 : a1 = 7
  · have hf := (if_pos c7).symm.trans hf
    refine lv_tableIn (tgt := 83) hx hb dX9_detailOf_1 (by rw [c7]; decide) (by rw [c7]; decide) (by rw [c7]; rfl) (by decide) ?_
    refine lv_aload_n hx hb dX9_detailOf_83 rfl (lv_at hl 0 rfl) ?_
    refine m_get (g := g) (i := 0) (ci := 8) (k := 1) (v := .ref (w.1 g 5)) hx hb hI hown (mokS hg (by decide)) rfl rfl (by decide) lyX9 (q188 hI.T) rfl dX9_detailOf_84 ?_
    refine m_get (g := g) (i := 5) (ci := 2) (k := 1) (v := .int (M g 5 1)) hx hb hI hown (mokS hg (by decide)) rfl rfl (by decide) lyX3 (q102 hI.T) rfl dX9_detailOf_87 ?_
    exact m_iretp hx hb hr hlk hI hf dX9_detailOf_90
  have hf := (if_neg c7).symm.trans hf
  by_cases c8 : a1 = 8
  · have hf := (if_pos c8).symm.trans hf
    refine lv_tableIn (tgt := 91) hx hb dX9_detailOf_1 (by rw [c8]; decide) (by rw [c8]; decide) (by rw [c8]; rfl) (by decide) ?_
    refine lv_aload_n hx hb dX9_detailOf_91 rfl (lv_at hl 0 rfl) ?_
    refine m_get (g := g) (i := 0) (ci := 8) (k := 0) (v := .ref (w.1 g 1)) hx hb hI hown (mokS hg (by decide)) rfl rfl (by decide) lyX9 (q186 hI.T) rfl dX9_detailOf_92 ?_
    refine m_get (g := g) (i := 1) (ci := 5) (k := 3) (v := .int (M g 1 3)) hx hb hI hown (mokS hg (by decide)) rfl rfl (by decide) lyX6 (q66 hI.T) rfl dX9_detailOf_95 ?_
    refine lv_aload_n hx hb dX9_detailOf_98 rfl (lv_at hl 0 rfl) ?_
    refine m_get (g := g) (i := 0) (ci := 8) (k := 0) (v := .ref (w.1 g 1)) hx hb hI hown (mokS hg (by decide)) rfl rfl (by decide) lyX9 (q186 hI.T) rfl dX9_detailOf_99 ?_
    refine m_get (g := g) (i := 1) (ci := 5) (k := 5) (v := .int (M g 1 5)) hx hb hI hown (mokS hg (by decide)) rfl rfl (by decide) lyX6 (q71 hI.T) rfl dX9_detailOf_102 ?_
    refine lv_isub hx hb dX9_detailOf_105 ?_
    exact m_iretp hx hb hr hlk hI hf dX9_detailOf_106
  have hf := (if_neg c8).symm.trans hf
  by_cases c9 : a1 = 9
  · have hf := (if_pos c9).symm.trans hf
    refine lv_tableIn (tgt := 107) hx hb dX9_detailOf_1 (by rw [c9]; decide) (by rw [c9]; decide) (by rw [c9]; rfl) (by decide) ?_
    refine lv_aload_n hx hb dX9_detailOf_107 rfl (lv_at hl 0 rfl) ?_
    refine m_get (g := g) (i := 0) (ci := 8) (k := 2) (v := .ref (w.1 g 6)) hx hb hI hown (mokS hg (by decide)) rfl rfl (by decide) lyX9 (q190 hI.T) rfl dX9_detailOf_108 ?_
    refine m_get (g := g) (i := 6) (ci := 0) (k := 4) (v := .int (M g 6 4)) hx hb hI hown (mokS hg (by decide)) rfl rfl (by decide) lyX1 (q136 hI.T) rfl dX9_detailOf_111 ?_
    exact m_iretp hx hb hr hlk hI hf dX9_detailOf_114
  have hf := (if_neg c9).symm.trans hf
  by_cases c10 : a1 = 10
  · have hf := (if_pos c10).symm.trans hf
    refine lv_tableIn (tgt := 115) hx hb dX9_detailOf_1 (by rw [c10]; decide) (by rw [c10]; decide) (by rw [c10]; rfl) (by decide) ?_
    refine lv_aload_n hx hb dX9_detailOf_115 rfl (lv_at hl 0 rfl) ?_
    refine m_get (g := g) (i := 0) (ci := 8) (k := 1) (v := .ref (w.1 g 5)) hx hb hI hown (mokS hg (by decide)) rfl rfl (by decide) lyX9 (q188 hI.T) rfl dX9_detailOf_116 ?_
    refine m_get (g := g) (i := 5) (ci := 2) (k := 2) (v := .int (M g 5 2)) hx hb hI hown (mokS hg (by decide)) rfl rfl (by decide) lyX3 (q105 hI.T) rfl dX9_detailOf_119 ?_
    exact m_iretp hx hb hr hlk hI hf dX9_detailOf_122
  have hf := (if_neg c10).symm.trans hf
  have hc1 := mne_i c1
  have hc2 := mne_i c2
  have hc3 := mne_i c3
  have hc5 := mne_i c5
  have hc6 := mne_i c6
  have hc7 := mne_i c7
  have hc8 := mne_i c8
  have hc9 := mne_i c9
  have hc10 := mne_i c10
  refine mtab_X9_detailOf hx hb dX9_detailOf_1 c1 c2 c3 c5 c6 c7 c8 c9 c10 ?_
  refine lv_iconst (v := 0) hx hb dX9_detailOf_123 (by decide) ?_
  exact m_iretp hx hb hr hlk hI hf dX9_detailOf_124
abbrev rmX11_keepRefusal : Room := { frames := 0, cells := 0, slots := 0, locals := 0 }
theorem kb_X11_keepRefusal {R : Room} {s : State} {args : Array Value} {own : String} {idx : Nat} (hT : mT s) (hlink : (Cond.methodLink own idx yX11_keepRefusal).before args s = true) (h1 : rmX11_keepRefusal.frames + 1 ≤ R.frames) (h2 : 8 + (4 + 11) + rmX11_keepRefusal.locals ≤ R.locals) : CallB R s args own idx yX11_keepRefusal cX11_keepRefusal 4 (none) [Cond.code yX11_keepRefusal cX11_keepRefusal 4 (none)] rmX11_keepRefusal 0 0 3 := m_callB hT kc_X11_keepRefusal ki_X11_keepRefusal hlink (by decide +kernel) ⟨rfl, rfl, h1, h2⟩
set_option maxHeartbeats 4000000 in
set_option maxRecDepth 100000 in
theorem c_X11_keepRefusal (l : Launch) (w : WD) (sz : Nat) (a1 : Int32) (a2 : Int32) (a3 : Int32) (M : Mem) (r : Unit) (M9 : Mem) (hf : f_X11_keepRefusal a1 a2 a3 M = some (r, M9)) : mMet l yX11_keepRefusal cX11_keepRefusal 4 (none) rmX11_keepRefusal w sz M [.ref (w.1 12 16), .int a1, .int a2, .int a3] none M9 := by
  refine m_of (by decide) (Nat.le_of_ble_eq_true rfl) ?_
  intro p e s m args below meth c hx hb hr hml hown hlk hI ls hl
  have hl : lv_has ls 4 [(0, .ref (w.1 12 16)), (1, .int a1), (2, .int a2), (3, .int a3)] := hl
  unfold f_X11_keepRefusal at hf
  refine lv_aload_n hx hb dX11_keepRefusal_0 rfl (lv_at hl 0 rfl) ?_
  refine lv_iload_n hx hb dX11_keepRefusal_1 rfl (lv_at hl 1 rfl) ?_
  obtain ⟨M1, eM1, hf⟩ := mlet_e hf
  refine m_put (g := 12) (i := 16) (ci := 9) (k := 8) (ty := .int) (M1 := M1) hx hb hI hown (mokX (by decide) (by decide)) rfl rfl (by decide) lyX11 tyX11 tyX11_ok nmX11 (q302 hI.T) rfl rfl rfl rfl (Nat.le_of_ble_eq_true rfl) rfl eM1 dX11_keepRefusal_2 (fun H locs hI => ?_)
  refine lv_aload_n hx hb dX11_keepRefusal_5 rfl (lv_at hl 0 rfl) ?_
  refine lv_iload_n hx hb dX11_keepRefusal_6 rfl (lv_at hl 2 rfl) ?_
  obtain ⟨M2, eM2, hf⟩ := mlet_e hf
  refine m_put (g := 12) (i := 16) (ci := 9) (k := 9) (ty := .int) (M1 := M2) hx hb hI hown (mokX (by decide) (by decide)) rfl rfl (by decide) lyX11 tyX11 tyX11_ok nmX11 (q303 hI.T) rfl rfl rfl rfl (Nat.le_of_ble_eq_true rfl) rfl eM2 dX11_keepRefusal_7 (fun H locs hI => ?_)
  refine lv_aload_n hx hb dX11_keepRefusal_10 rfl (lv_at hl 0 rfl) ?_
  refine lv_iload_n hx hb dX11_keepRefusal_11 rfl (lv_at hl 3 rfl) ?_
  obtain ⟨M3, eM3, hf⟩ := mlet_e hf
  refine m_put (g := 12) (i := 16) (ci := 9) (k := 10) (ty := .int) (M1 := M3) hx hb hI hown (mokX (by decide) (by decide)) rfl rfl (by decide) lyX11 tyX11 tyX11_ok nmX11 (q304 hI.T) rfl rfl rfl rfl (Nat.le_of_ble_eq_true rfl) rfl eM3 dX11_keepRefusal_12 (fun H locs hI => ?_)
  exact m_vretf hx hb hr hlk hI hf dX11_keepRefusal_15
abbrev rmX4_keep : Room := { frames := 1, cells := 0, slots := 0, locals := 30 }
theorem kb_X4_keep {R : Room} {s : State} {args : Array Value} {own : String} {idx : Nat} (hT : mT s) (hlink : (Cond.methodLink own idx yX4_keep).before args s = true) (h1 : rmX4_keep.frames + 1 ≤ R.frames) (h2 : 8 + (1 + 11) + rmX4_keep.locals ≤ R.locals) : CallB R s args own idx yX4_keep cX4_keep 1 (none) [Cond.code yX4_keep cX4_keep 1 (none)] rmX4_keep 0 0 0 := m_callB hT kc_X4_keep ki_X4_keep hlink (by decide +kernel) ⟨rfl, rfl, h1, h2⟩
set_option maxHeartbeats 4000000 in
set_option maxRecDepth 100000 in
theorem c_X4_keep (l : Launch) (w : WD) (sz : Nat)  (M : Mem) (r : Unit) (M9 : Mem) (hf : f_X4_keep  M = some (r, M9)) : mMet l yX4_keep cX4_keep 1 (none) rmX4_keep w sz M [.ref (w.1 12 17)] none M9 := by
  refine m_of (by decide) (Nat.le_of_ble_eq_true rfl) ?_
  intro p e s m args below meth c hx hb hr hml hown hlk hI ls hl
  have hl : lv_has ls 1 [(0, .ref (w.1 12 17))] := hl
  unfold f_X4_keep at hf
  refine lv_aload_n hx hb dX4_keep_0 rfl (lv_at hl 0 rfl) ?_
  refine lv_aload_n hx hb dX4_keep_1 rfl (lv_at hl 0 rfl) ?_
  refine m_get (g := 12) (i := 17) (ci := 3) (k := 1) (v := .int (M 12 17 1)) hx hb hI hown (mokX (by decide) (by decide)) rfl rfl (by decide) lyX4 (q217 hI.T) rfl dX4_keep_2 ?_
  refine lv_iconst (v := 1) hx hb dX4_keep_5 (by decide) ?_
  refine lv_iadd hx hb dX4_keep_6 ?_
  refine lv_bipush (v := 9) hx hb dX4_keep_7 (by decide) ?_
  refine lv_irem hx hb dX4_keep_9 (by decide) ?_
  obtain ⟨M1, eM1, hf⟩ := mlet_e hf
  refine m_put (g := 12) (i := 17) (ci := 3) (k := 1) (ty := .int) (M1 := M1) hx hb hI hown (mokX (by decide) (by decide)) rfl rfl (by decide) lyX4 tyX4 tyX4_ok nmX4 (q217 hI.T) rfl rfl rfl rfl (Nat.le_of_ble_eq_true rfl) rfl eM1 dX4_keep_10 (fun H locs hI => ?_)
  refine lv_aload_n hx hb dX4_keep_13 rfl (lv_at hl 0 rfl) ?_
  refine lv_aload_n hx hb dX4_keep_14 rfl (lv_at hl 0 rfl) ?_
  refine m_get (g := 12) (i := 17) (ci := 3) (k := 2) (v := .int (M1 12 17 2)) hx hb hI hown (mokX (by decide) (by decide)) rfl rfl (by decide) lyX4 (q218 hI.T) rfl dX4_keep_15 ?_
  refine lv_iconst (v := 1) hx hb dX4_keep_18 (by decide) ?_
  refine lv_iadd hx hb dX4_keep_19 ?_
  refine lv_bipush (v := 8) hx hb dX4_keep_20 (by decide) ?_
  refine va_mmin hx hb (hml.trans hl.1.symm) hown (q791 hI.T) (q792 hI.T) (q21 hI.T) (q793 hI.T) (Nat.le_of_ble_eq_true rfl) (Nat.le_of_ble_eq_true rfl) (Nat.le_of_ble_eq_true rfl) (Nat.le_of_ble_eq_true rfl) dX4_keep_22 ?_
  obtain ⟨M2, eM2, hf⟩ := mlet_e hf
  refine m_put (g := 12) (i := 17) (ci := 3) (k := 2) (ty := .int) (M1 := M2) hx hb hI hown (mokX (by decide) (by decide)) rfl rfl (by decide) lyX4 tyX4 tyX4_ok nmX4 (q218 hI.T) rfl rfl rfl rfl (Nat.le_of_ble_eq_true rfl) rfl eM2 dX4_keep_25 (fun H locs hI => ?_)
  exact m_vretf hx hb hr hlk hI hf dX4_keep_28
abbrev rmX11_settle : Room := { frames := 8, cells := 1, slots := 6, locals := 140 }
theorem kb_X11_settle {R : Room} {s : State} {args : Array Value} {own : String} {idx : Nat} (hT : mT s) (hlink : (Cond.methodLink own idx yX11_settle).before args s = true) (h1 : rmX11_settle.frames + 1 ≤ R.frames) (h2 : 8 + (3 + 11) + rmX11_settle.locals ≤ R.locals) : CallB R s args own idx yX11_settle cX11_settle 3 (some .int) [Cond.code yX11_settle cX11_settle 3 (some .int)] rmX11_settle 1 6 2 := m_callB hT kc_X11_settle ki_X11_settle hlink (by decide +kernel) ⟨rfl, rfl, h1, h2⟩
set_option maxHeartbeats 4000000 in
set_option maxRecDepth 100000 in
theorem c_X11_settle (l : Launch) (w : WD) (hsf : l.stackTraces = false) (sz : Nat) (a1 : Int32) (a2 : Int32) (M : Mem) (r : (Nat ⊕ Int32)) (M9 : Mem) (hf : f_X11_settle a1 a2 M = some (r, M9)) : mMetx l yX11_settle cX11_settle 3 (some .int) rmX11_settle w sz M [.ref (w.1 12 16), .int a1, .int a2] (moI r) M9 1 6 := by
  refine m_ofx (by decide) (Nat.le_of_ble_eq_true rfl) ?_
  intro p e s m args below meth c hx hb hr hml hown hlk hxt hI ls hl
  have hl : lv_has ls 3 [(0, .ref (w.1 12 16)), (1, .int a1), (2, .int a2)] := hl
  unfold f_X11_settle at hf
  refine lv_iload_n hx hb dX11_settle_0 rfl (lv_at hl 1 rfl) ?_
  refine lv_iconst (v := (-1)) hx hb dX11_settle_1 (by decide) ?_
  refine lv_icmp_ne (tgt := 16) hx hb dX11_settle_2 (by decide) (fun c1 => ?_) (fun c1 => ?_)
  · have hf := (if_neg c1).symm.trans hf
    refine lv_iload_n hx hb dX11_settle_16 rfl (lv_at hl 1 rfl) ?_
    refine lv_bipush (v := (-2)) hx hb dX11_settle_17 (by decide) ?_
    refine lv_icmp_ne (tgt := 33) hx hb dX11_settle_19 (by decide) (fun c2 => ?_) (fun c2 => ?_)
    · have hf := (if_neg c2).symm.trans hf
      refine lv_iload_n hx hb dX11_settle_33 rfl (lv_at hl 1 rfl) ?_
      refine lv_if_eq (tgt := 63) hx hb dX11_settle_34 (by decide) (fun c3 => ?_) (fun c3 => ?_)
      · have hf := (if_pos c3).symm.trans hf
        refine lv_aload_n hx hb dX11_settle_63 rfl (lv_at hl 0 rfl) ?_
        refine m_get (g := 12) (i := 16) (ci := 9) (k := 1) (v := .ref (w.1 12 17)) hx hb hI hown (mokX (by decide) (by decide)) rfl rfl (by decide) lyX11 (q295 hI.T) rfl dX11_settle_64 ?_
        obtain ⟨r4, M5, hc, hf⟩ := mbnd_e hf
        refine m_callV (As := []) (rest := []) hx hb hml hown hI (c_X4_keep l w s.heap.size M _ _ hc) (kb_X4_keep hI.T (q787 hI.T) (Nat.le_of_ble_eq_true rfl) (Nat.le_of_ble_eq_true rfl)) (q788 hI.T) (q789 hI.T) (m_recv (g := 12) (i := 17) hI (mokX (by decide) (by decide)) rfl rfl) rfl hl.1 (Nat.le_of_ble_eq_true rfl) dX11_settle_67 ⟨Nat.le_of_ble_eq_true rfl, Nat.le_of_ble_eq_true rfl⟩ (fun H locs hI => ?_)
        refine lv_aload_n hx hb dX11_settle_70 rfl (lv_at hl 0 rfl) ?_
        refine m_get (g := 12) (i := 16) (ci := 9) (k := 0) (v := .ref (w.1 0 0)) hx hb hI hown (mokX (by decide) (by decide)) rfl rfl (by decide) lyX11 (q294 hI.T) rfl dX11_settle_71 ?_
        refine m_get (g := 0) (i := 0) (ci := 8) (k := 4) (v := .int (M5 0 0 4)) hx hb hI hown (mokS (by decide) (by decide)) rfl rfl (by decide) lyX9 (q195 hI.T) rfl dX11_settle_74 ?_
        exact m_iretx hx hb hr hlk hI hf dX11_settle_77 (Nat.le_of_ble_eq_true rfl) (Nat.le_of_ble_eq_true rfl)
      · have hf := (if_neg c3).symm.trans hf
        refine lv_aload_n hx hb dX11_settle_37 rfl (lv_at hl 0 rfl) ?_
        refine lv_iload_n hx hb dX11_settle_38 rfl (lv_at hl 1 rfl) ?_
        refine lv_aload_n hx hb dX11_settle_39 rfl (lv_at hl 0 rfl) ?_
        refine m_get (g := 12) (i := 16) (ci := 9) (k := 0) (v := .ref (w.1 0 0)) hx hb hI hown (mokX (by decide) (by decide)) rfl rfl (by decide) lyX11 (q294 hI.T) rfl dX11_settle_40 ?_
        refine lv_iload_n hx hb dX11_settle_43 rfl (lv_at hl 1 rfl) ?_
        refine lv_iload_n hx hb dX11_settle_44 rfl (lv_at hl 2 rfl) ?_
        obtain ⟨r6, hc, hf⟩ := mbp_e hf
        refine m_callV (As := [.int a1, .int a2]) (rest := [.int a1, .ref (w.1 12 16)]) hx hb hml hown hI (c_X9_detailOf l w s.heap.size 0 (by decide) a1 a2 M _ hc) (kb_X9_detailOf hI.T (q762 hI.T) (Nat.le_of_ble_eq_true rfl) (Nat.le_of_ble_eq_true rfl)) (q763 hI.T) (q764 hI.T) (m_recv (g := 0) (i := 0) hI (mokS (by decide) (by decide)) rfl rfl) rfl hl.1 (Nat.le_of_ble_eq_true rfl) dX11_settle_45 ⟨Nat.le_of_ble_eq_true rfl, Nat.le_of_ble_eq_true rfl⟩ (fun H locs hI => ?_)
        refine lv_iconst (v := (-1)) hx hb dX11_settle_48 (by decide) ?_
        obtain ⟨r7, M8, hc, hf⟩ := mbnd_e hf
        refine m_callV (As := [.int a1, .int r6, .int (-1 : Int32)]) (rest := []) hx hb hml hown hI (c_X11_keepRefusal l w H.size a1 r6 (-1 : Int32) M _ _ hc) (kb_X11_keepRefusal hI.T (q767 hI.T) (Nat.le_of_ble_eq_true rfl) (Nat.le_of_ble_eq_true rfl)) (q769 hI.T) (sel_X11_keepRefusal hI.T) (m_recv (g := 12) (i := 16) hI (mokX (by decide) (by decide)) rfl rfl) rfl hl.1 (Nat.le_of_ble_eq_true rfl) dX11_settle_49 ⟨Nat.le_of_ble_eq_true rfl, Nat.le_of_ble_eq_true rfl⟩ (fun H locs hI => ?_)
        exact m_throwW (n := 3) (ix := 12) hx hb hsf hown hI rfl (q771 hI.T) (q20 hI.T) (m_thw_3_X11_353 hI) hl.1 hml dX11_settle_52 dX11_settle_55 dX11_settle_56 dX11_settle_59 dX11_settle_62 hxt (Nat.le_of_ble_eq_true rfl) (Nat.le_of_ble_eq_true rfl) (Nat.le_of_ble_eq_true rfl) (Nat.le_of_ble_eq_true rfl) hlk hf (Nat.le_of_ble_eq_true rfl) (Nat.le_of_ble_eq_true rfl)
    · have hf := (if_pos c2).symm.trans hf
      exact m_throwW (n := 2) (ix := 11) hx hb hsf hown hI rfl (q589 hI.T) (q18 hI.T) (m_thw_2_X11_175 hI) hl.1 hml dX11_settle_22 dX11_settle_25 dX11_settle_26 dX11_settle_29 dX11_settle_32 hxt (Nat.le_of_ble_eq_true rfl) (Nat.le_of_ble_eq_true rfl) (Nat.le_of_ble_eq_true rfl) (Nat.le_of_ble_eq_true rfl) hlk hf (Nat.le_of_ble_eq_true rfl) (Nat.le_of_ble_eq_true rfl)
  · have hf := (if_pos c1).symm.trans hf
    exact m_throwW (n := 1) (ix := 10) hx hb hsf hown hI rfl (q501 hI.T) (q15 hI.T) (m_thw_1_X11_378 hI) hl.1 hml dX11_settle_5 dX11_settle_8 dX11_settle_9 dX11_settle_12 dX11_settle_15 hxt (Nat.le_of_ble_eq_true rfl) (Nat.le_of_ble_eq_true rfl) (Nat.le_of_ble_eq_true rfl) (Nat.le_of_ble_eq_true rfl) hlk hf (Nat.le_of_ble_eq_true rfl) (Nat.le_of_ble_eq_true rfl)
abbrev rmX11_addHolder : Room := { frames := 9, cells := 1, slots := 6, locals := 162 }
theorem kb_X11_addHolder {R : Room} {s : State} {args : Array Value} {own : String} {idx : Nat} (hT : mT s) (hlink : (Cond.methodLink own idx yX11_addHolder).before args s = true) (h1 : rmX11_addHolder.frames + 1 ≤ R.frames) (h2 : 8 + (1 + 11) + rmX11_addHolder.locals ≤ R.locals) : CallB R s args own idx yX11_addHolder cX11_addHolder 1 (some .int) [Cond.code yX11_addHolder cX11_addHolder 1 (some .int)] rmX11_addHolder 1 6 0 := m_callB hT kc_X11_addHolder ki_X11_addHolder hlink (by decide +kernel) ⟨rfl, rfl, h1, h2⟩
set_option maxHeartbeats 4000000 in
set_option maxRecDepth 100000 in
theorem c_X11_addHolder (l : Launch) (w : WD) (hsf : l.stackTraces = false) (sz : Nat)  (M : Mem) (r : (Nat ⊕ Int32)) (M9 : Mem) (hf : f_X11_addHolder  M = some (r, M9)) : mMetx l yX11_addHolder cX11_addHolder 1 (some .int) rmX11_addHolder w sz M [.ref (w.1 12 16)] (moI r) M9 1 6 := by
  refine m_ofx (by decide) (Nat.le_of_ble_eq_true rfl) ?_
  intro p e s m args below meth c hx hb hr hml hown hlk hxt hI ls hl
  have hl : lv_has ls 1 [(0, .ref (w.1 12 16))] := hl
  unfold f_X11_addHolder at hf
  refine lv_aload_n hx hb dX11_addHolder_0 rfl (lv_at hl 0 rfl) ?_
  refine m_get (g := 12) (i := 16) (ci := 9) (k := 1) (v := .ref (w.1 12 17)) hx hb hI hown (mokX (by decide) (by decide)) rfl rfl (by decide) lyX11 (q295 hI.T) rfl dX11_addHolder_1 ?_
  refine lv_aload_n hx hb dX11_addHolder_4 rfl (lv_at hl 0 rfl) ?_
  refine m_get (g := 12) (i := 16) (ci := 9) (k := 0) (v := .ref (w.1 0 0)) hx hb hI hown (mokX (by decide) (by decide)) rfl rfl (by decide) lyX11 (q294 hI.T) rfl dX11_addHolder_5 ?_
  obtain ⟨r1, M2, hc, hf⟩ := mbnd_e hf
  refine m_callV (As := [.ref (w.1 0 0)]) (rest := []) hx hb hml hown hI (c_X4_prepare l w s.heap.size 0 (by decide) M _ _ hc) (kb_X4_prepare hI.T (q724 hI.T) (Nat.le_of_ble_eq_true rfl) (Nat.le_of_ble_eq_true rfl)) (q725 hI.T) (q726 hI.T) (m_recv (g := 12) (i := 17) hI (mokX (by decide) (by decide)) rfl rfl) rfl hl.1 (Nat.le_of_ble_eq_true rfl) dX11_addHolder_8 ⟨Nat.le_of_ble_eq_true rfl, Nat.le_of_ble_eq_true rfl⟩ (fun H locs hI => ?_)
  refine lv_aload_n hx hb dX11_addHolder_11 rfl (lv_at hl 0 rfl) ?_
  refine lv_aload_n hx hb dX11_addHolder_12 rfl (lv_at hl 0 rfl) ?_
  refine m_get (g := 12) (i := 16) (ci := 9) (k := 0) (v := .ref (w.1 0 0)) hx hb hI hown (mokX (by decide) (by decide)) rfl rfl (by decide) lyX11 (q294 hI.T) rfl dX11_addHolder_13 ?_
  obtain ⟨r3, M4, hc, hf⟩ := mbnd_e hf
  refine m_callV (As := []) (rest := [.ref (w.1 12 16)]) hx hb hml hown hI (c_X9_tryHolder l w H.size 0 (by decide) M2 _ _ hc) (kb_X9_tryHolder hI.T (q747 hI.T) (Nat.le_of_ble_eq_true rfl) (Nat.le_of_ble_eq_true rfl)) (q748 hI.T) (q749 hI.T) (m_recv (g := 0) (i := 0) hI (mokS (by decide) (by decide)) rfl rfl) rfl hl.1 (Nat.le_of_ble_eq_true rfl) dX11_addHolder_16 ⟨Nat.le_of_ble_eq_true rfl, Nat.le_of_ble_eq_true rfl⟩ (fun H locs hI => ?_)
  refine lv_bipush (v := 8) hx hb dX11_addHolder_19 (by decide) ?_
  rcases mbndx_e hf with ⟨n6, M7, hc, hf⟩ | ⟨r5, M7, hc, hf⟩
  · exact m_callxTV (As := [.int r3, .int (8 : Int32)]) (rest := []) hx hb hml hown hI (c_X11_settle l w hsf H.size r3 (8 : Int32) M4 _ _ hc) (kb_X11_settle hI.T (q756 hI.T) (Nat.le_of_ble_eq_true rfl) (Nat.le_of_ble_eq_true rfl)) (q758 hI.T) (sel_X11_settle hI.T) (m_recv (g := 12) (i := 16) hI (mokX (by decide) (by decide)) rfl rfl) rfl hl.1 (Nat.le_of_ble_eq_true rfl) dX11_addHolder_21 ⟨Nat.le_of_ble_eq_true rfl, Nat.le_of_ble_eq_true rfl⟩ hxt hlk hf (Nat.le_of_ble_eq_true rfl) (Nat.le_of_ble_eq_true rfl)
  refine m_callxRV (As := [.int r3, .int (8 : Int32)]) (rest := []) hx hb hml hown hI (c_X11_settle l w hsf H.size r3 (8 : Int32) M4 _ _ hc) (kb_X11_settle hI.T (q756 hI.T) (Nat.le_of_ble_eq_true rfl) (Nat.le_of_ble_eq_true rfl)) (q758 hI.T) (sel_X11_settle hI.T) (m_recv (g := 12) (i := 16) hI (mokX (by decide) (by decide)) rfl rfl) rfl hl.1 (Nat.le_of_ble_eq_true rfl) dX11_addHolder_21 ⟨Nat.le_of_ble_eq_true rfl, Nat.le_of_ble_eq_true rfl⟩ (fun H locs hI => ?_)
  exact m_iretx hx hb hr hlk hI hf dX11_addHolder_24 (Nat.le_of_ble_eq_true rfl) (Nat.le_of_ble_eq_true rfl)
abbrev rmX6_isResidue : Room := { frames := 0, cells := 0, slots := 0, locals := 0 }
theorem kb_X6_isResidue {R : Room} {s : State} {args : Array Value} {own : String} {idx : Nat} (hT : mT s) (hlink : (Cond.methodLink own idx yX6_isResidue).before args s = true) (h1 : rmX6_isResidue.frames + 1 ≤ R.frames) (h2 : 8 + (1 + 11) + rmX6_isResidue.locals ≤ R.locals) : CallB R s args own idx yX6_isResidue cX6_isResidue 1 (some .boolean) [Cond.code yX6_isResidue cX6_isResidue 1 (some .boolean)] rmX6_isResidue 0 0 1 := m_callB hT kc_X6_isResidue ki_X6_isResidue hlink (by decide +kernel) ⟨rfl, rfl, h1, h2⟩
set_option maxHeartbeats 4000000 in
set_option maxRecDepth 100000 in
theorem c_X6_isResidue (l : Launch) (w : WD) (sz : Nat) (a1 : Int32) (M : Mem) (r : Int32) (hf : f_X6_isResidue a1 M = some r) : mMet l yX6_isResidue cX6_isResidue 1 (some .boolean) rmX6_isResidue w sz M [.int a1] (some (.int r)) M := by
  refine m_of (by decide) (Nat.le_of_ble_eq_true rfl) ?_
  intro p e s m args below meth c hx hb hr hml hown hlk hI ls hl
  have hl : lv_has ls 1 [(0, .int a1)] := hl
  unfold f_X6_isResidue at hf
  refine lv_iload_n hx hb dX6_isResidue_0 rfl (lv_at hl 0 rfl) ?_
  refine lv_if_lt (tgt := 14) hx hb dX6_isResidue_1 (by decide) (fun c1 => ?_) (fun c1 => ?_)
  · have hf := (if_pos c1).symm.trans hf
    refine lv_iconst (v := 0) hx hb dX6_isResidue_14 (by decide) ?_
    exact m_zretp hx hb hr hlk hI rfl hf dX6_isResidue_15
  · have hf := (if_neg c1).symm.trans hf
    refine lv_iload_n hx hb dX6_isResidue_4 rfl (lv_at hl 0 rfl) ?_
    refine lv_bipush (v := 97) hx hb dX6_isResidue_5 (by decide) ?_
    refine lv_icmp_ge (tgt := 14) hx hb dX6_isResidue_7 (by decide) (fun c2 => ?_) (fun c2 => ?_)
    · have hf := (if_pos c2).symm.trans hf
      refine lv_iconst (v := 0) hx hb dX6_isResidue_14 (by decide) ?_
      exact m_zretp hx hb hr hlk hI rfl hf dX6_isResidue_15
    · have hf := (if_neg c2).symm.trans hf
      refine lv_iconst (v := 1) hx hb dX6_isResidue_10 (by decide) ?_
      refine lv_goto (tgt := 15) hx hb dX6_isResidue_11 (by decide) ?_
      exact m_zretp hx hb hr hlk hI rfl hf dX6_isResidue_15
abbrev rmX6_sealWith : Room := { frames := 2, cells := 0, slots := 0, locals := 44 }
theorem kb_X6_sealWith {R : Room} {s : State} {args : Array Value} {own : String} {idx : Nat} (hT : mT s) (hlink : (Cond.methodLink own idx yX6_sealWith).before args s = true) (h1 : rmX6_sealWith.frames + 1 ≤ R.frames) (h2 : 8 + (6 + 11) + rmX6_sealWith.locals ≤ R.locals) : CallB R s args own idx yX6_sealWith cX6_sealWith 6 (none) [Cond.code yX6_sealWith cX6_sealWith 6 (none)] rmX6_sealWith 0 0 4 := m_callB hT kc_X6_sealWith ki_X6_sealWith hlink (by decide +kernel) ⟨rfl, rfl, h1, h2⟩
set_option maxHeartbeats 4000000 in
set_option maxRecDepth 100000 in
theorem c_X6_sealWith (l : Launch) (w : WD) (sz : Nat) (g : Nat) (hg : g ≤ 10) (a1 : Int32) (a2 : Int32) (a3 : Int32) (a4 : Int32) (M : Mem) (r : Unit) (M9 : Mem) (hf : f_X6_sealWith g a1 a2 a3 a4 M = some (r, M9)) : mMet l yX6_sealWith cX6_sealWith 6 (none) rmX6_sealWith w sz M [.ref (w.1 g 1), .int a1, .int a2, .int a3, .int a4] none M9 := by
  refine m_of (by decide) (Nat.le_of_ble_eq_true rfl) ?_
  intro p e s m args below meth c hx hb hr hml hown hlk hI ls hl
  have hl : lv_has ls 6 [(0, .ref (w.1 g 1)), (1, .int a1), (2, .int a2), (3, .int a3), (4, .int a4)] := hl
  unfold f_X6_sealWith at hf
  refine lv_aload_n hx hb dX6_sealWith_0 rfl (lv_at hl 0 rfl) ?_
  refine lv_iconst (v := 1) hx hb dX6_sealWith_1 (by decide) ?_
  obtain ⟨M1, eM1, hf⟩ := mlet_e hf
  refine m_put (g := g) (i := 1) (ci := 5) (k := 2) (ty := .boolean) (M1 := M1) hx hb hI hown (mokS hg (by decide)) rfl rfl (by decide) lyX6 tyX6 tyX6_ok nmX6 (q61 hI.T) rfl rfl rfl rfl (Nat.le_of_ble_eq_true rfl) rfl eM1 dX6_sealWith_2 (fun H locs hI => ?_)
  refine lv_aload_n hx hb dX6_sealWith_5 rfl (lv_at hl 0 rfl) ?_
  refine lv_iload hx hb dX6_sealWith_6 (lv_at hl 4 rfl) ?_
  obtain ⟨M2, eM2, hf⟩ := mlet_e hf
  refine m_put (g := g) (i := 1) (ci := 5) (k := 3) (ty := .int) (M1 := M2) hx hb hI hown (mokS hg (by decide)) rfl rfl (by decide) lyX6 tyX6 tyX6_ok nmX6 (q64 hI.T) rfl rfl rfl rfl (Nat.le_of_ble_eq_true rfl) rfl eM2 dX6_sealWith_8 (fun H locs hI => ?_)
  refine lv_aload_n hx hb dX6_sealWith_11 rfl (lv_at hl 0 rfl) ?_
  refine m_get (g := g) (i := 1) (ci := 5) (k := 4) (v := .ref (w.1 g 3)) hx hb hI hown (mokS hg (by decide)) rfl rfl (by decide) lyX6 (q68 hI.T) rfl dX6_sealWith_12 ?_
  refine lv_iconst (v := 0) hx hb dX6_sealWith_15 (by decide) ?_
  refine lv_iload_n hx hb dX6_sealWith_16 rfl (lv_at hl 1 rfl) ?_
  obtain ⟨hi, hf⟩ := mix_e hf
  obtain ⟨M3, eM3, hf⟩ := mlet_e hf
  refine m_iast (g := g) (i := 3) (M1 := M3) hx hb hI (mokS hg (by decide)) rfl hi eM3 dX6_sealWith_17 (fun H locs hI => ?_)
  refine lv_aload_n hx hb dX6_sealWith_18 rfl (lv_at hl 0 rfl) ?_
  refine m_get (g := g) (i := 1) (ci := 5) (k := 4) (v := .ref (w.1 g 3)) hx hb hI hown (mokS hg (by decide)) rfl rfl (by decide) lyX6 (q68 hI.T) rfl dX6_sealWith_19 ?_
  refine lv_iconst (v := 1) hx hb dX6_sealWith_22 (by decide) ?_
  refine lv_iload hx hb dX6_sealWith_23 (lv_at hl 4 rfl) ?_
  refine lv_iconst (v := 1) hx hb dX6_sealWith_25 (by decide) ?_
  obtain ⟨k34_6, ek34_6, hf⟩ := mlet_e hf
  have hj34_6 : ∀ (x5 : Int32) (H : Heap) (locs : List Loc) (ls : Array Slot), k34_6 x5 = some (r, M9) → mI w s (mA w s.heap.size) H locs M3 → lv_has ls 6 [(0, .ref (w.1 g 1)), (3, .int a3), (4, .int a4)] → W p l e rmX6_sealWith s m args below meth c H locs 0 0 (MQ below (mQ w s.heap.size none M9) args s 0 0 (mA w s.heap.size)) (F0 m 34 ls [.int x5, .int (1 : Int32), .ref (w.1 g 3)]) := by
    intro x5 H locs ls hf hI hl
    rw [ek34_6] at hf
    try dsimp only at hf
    obtain ⟨hi, hf⟩ := mix_e hf
    obtain ⟨M7, eM7, hf⟩ := mlet_e hf
    refine m_iast (g := g) (i := 3) (M1 := M7) hx hb hI (mokS hg (by decide)) rfl hi eM7 dX6_sealWith_34 (fun H locs hI => ?_)
    refine lv_aload_n hx hb dX6_sealWith_35 rfl (lv_at hl 0 rfl) ?_
    refine m_get (g := g) (i := 1) (ci := 5) (k := 4) (v := .ref (w.1 g 3)) hx hb hI hown (mokS hg (by decide)) rfl rfl (by decide) lyX6 (q68 hI.T) rfl dX6_sealWith_36 ?_
    refine lv_iconst (v := 2) hx hb dX6_sealWith_39 (by decide) ?_
    refine lv_iload hx hb dX6_sealWith_40 (lv_at hl 2 rfl) ?_
    refine lv_iconst (v := 3) hx hb dX6_sealWith_42 (by decide) ?_
    obtain ⟨k51_10, ek51_10, hf⟩ := mlet_e hf
    have hj51_10 : ∀ (x9 : Int32) (H : Heap) (locs : List Loc) (ls : Array Slot), k51_10 x9 = some (r, M9) → mI w s (mA w s.heap.size) H locs M7 → lv_has ls 6 [(0, .ref (w.1 g 1))] → W p l e rmX6_sealWith s m args below meth c H locs 0 0 (MQ below (mQ w s.heap.size none M9) args s 0 0 (mA w s.heap.size)) (F0 m 51 ls [.int x9, .int (2 : Int32), .ref (w.1 g 3)]) := by
      intro x9 H locs ls hf hI hl
      rw [ek51_10] at hf
      try dsimp only at hf
      obtain ⟨hi, hf⟩ := mix_e hf
      obtain ⟨M11, eM11, hf⟩ := mlet_e hf
      refine m_iast (g := g) (i := 3) (M1 := M11) hx hb hI (mokS hg (by decide)) rfl hi eM11 dX6_sealWith_51 (fun H locs hI => ?_)
      refine lv_aload_n hx hb dX6_sealWith_52 rfl (lv_at hl 0 rfl) ?_
      refine lv_iconst (v := 0) hx hb dX6_sealWith_53 (by decide) ?_
      obtain ⟨M12, eM12, hf⟩ := mlet_e hf
      refine m_put (g := g) (i := 1) (ci := 5) (k := 5) (ty := .int) (M1 := M12) hx hb hI hown (mokS hg (by decide)) rfl rfl (by decide) lyX6 tyX6 tyX6_ok nmX6 (q69 hI.T) rfl rfl rfl rfl (Nat.le_of_ble_eq_true rfl) rfl eM12 dX6_sealWith_54 (fun H locs hI => ?_)
      refine lv_iconst (v := 0) hx hb dX6_sealWith_57 (by decide) ?_
      refine lv_istore (lv' := [(5, .int (0 : Int32)), (0, .ref (w.1 g 1))]) hx hb dX6_sealWith_58 hl (by decide) rfl (fun ls hl => ?_)
      have hL60 : ∀ (n : Nat) (x13 : Int32) (M14 : Mem) (kk : Mem → Option (Unit × Mem)) (H : Heap) (locs : List Loc) (ls : Array Slot), f_X6_sealWith_L60 g n x13 M14 kk = some (r, M9) → mI w s (mA w s.heap.size) H locs M14 → lv_has ls 6 [(0, .ref (w.1 g 1)), (5, .int x13)] → (∀  (M14 : Mem) (H : Heap) (locs : List Loc) (ls : Array Slot), kk M14 = some (r, M9) → mI w s (mA w s.heap.size) H locs M14 → lv_has ls 6 [] → W p l e rmX6_sealWith s m args below meth c H locs 0 0 (MQ below (mQ w s.heap.size none M9) args s 0 0 (mA w s.heap.size)) (F0 m 88 ls [])) → W p l e rmX6_sealWith s m args below meth c H locs 0 0 (MQ below (mQ w s.heap.size none M9) args s 0 0 (mA w s.heap.size)) (F0 m 60 ls []) := by
        intro n
        induction n with
        | zero => intro x13 M14 kk H locs ls hf hI hl hk; rw [f_X6_sealWith_L60.eq_1] at hf; cases hf
        | succ n ih60 =>
          intro x13 M14 kk H locs ls hf hI hl hk
          rw [f_X6_sealWith_L60.eq_2] at hf
          refine lv_iload hx hb dX6_sealWith_60 (lv_at hl 1 rfl) ?_
          refine lv_aload_n hx hb dX6_sealWith_62 rfl (lv_at hl 0 rfl) ?_
          refine m_get (g := g) (i := 1) (ci := 5) (k := 0) (v := .int (M14 g 1 0)) hx hb hI hown (mokS hg (by decide)) rfl rfl (by decide) lyX6 (q54 hI.T) rfl dX6_sealWith_63 ?_
          refine lv_icmp_ge (tgt := 88) hx hb dX6_sealWith_66 (by decide) (fun c15 => ?_) (fun c15 => ?_)
          · have hf := (if_pos c15).symm.trans hf
            exact hk M14 H _ _ hf hI (lv_sub hl [] rfl)
          · have hf := (if_neg c15).symm.trans hf
            refine lv_aload_n hx hb dX6_sealWith_69 rfl (lv_at hl 0 rfl) ?_
            refine m_get (g := g) (i := 1) (ci := 5) (k := 1) (v := .ref (w.1 g 2)) hx hb hI hown (mokS hg (by decide)) rfl rfl (by decide) lyX6 (q57 hI.T) rfl dX6_sealWith_70 ?_
            refine lv_iload hx hb dX6_sealWith_73 (lv_at hl 1 rfl) ?_
            refine lv_aload_n hx hb dX6_sealWith_75 rfl (lv_at hl 0 rfl) ?_
            refine lv_iload hx hb dX6_sealWith_76 (lv_at hl 1 rfl) ?_
            obtain ⟨r16, hc, hf⟩ := mbp_e hf
            refine m_callV (As := [.int x13]) (rest := [.int x13, .ref (w.1 g 2)]) hx hb hml hown hI (c_X6_correctShare l w H.size g hg x13 M14 _ hc) (kb_X6_correctShare hI.T (q755 hI.T) (Nat.le_of_ble_eq_true rfl) (Nat.le_of_ble_eq_true rfl)) (q707 hI.T) (q708 hI.T) (m_recv (g := g) (i := 1) hI (mokS hg (by decide)) rfl rfl) rfl hl.1 (Nat.le_of_ble_eq_true rfl) dX6_sealWith_78 ⟨Nat.le_of_ble_eq_true rfl, Nat.le_of_ble_eq_true rfl⟩ (fun H locs hI => ?_)
            obtain ⟨hi, hf⟩ := mix_e hf
            obtain ⟨M17, eM17, hf⟩ := mlet_e hf
            refine m_iast (g := g) (i := 2) (M1 := M17) hx hb hI (mokS hg (by decide)) rfl hi eM17 dX6_sealWith_81 (fun H locs hI => ?_)
            obtain ⟨x18, ex18, hf⟩ := mlet_e hf
            refine lv_iinc (v := x18) (lv' := [(5, .int x18), (0, .ref (w.1 g 1))]) hx hb dX6_sealWith_82 hl (k := 1) rfl (by rw [ex18]; rfl) (by decide) rfl (fun ls hl => ?_)
            refine lv_goto (tgt := 60) hx hb dX6_sealWith_85 (by decide) ?_
            exact ih60 x18 M17 kk H _ _ hf hI (lv_sub hl [1, 0] rfl) hk
      refine hL60 1000 (0 : Int32) M12 _ _ _ _ hf hI (lv_sub hl [1, 0] rfl) ?_
      intro M19 H locs ls hf hI hl
      try dsimp only at hf
      exact m_vretf hx hb hr hlk hI hf dX6_sealWith_88
    refine lv_icmp_ge (tgt := 50) hx hb dX6_sealWith_43 (by decide) (fun c8 => ?_) (fun c8 => ?_)
    · have hf := (if_pos c8).symm.trans hf
      refine lv_iload_n hx hb dX6_sealWith_50 rfl (lv_at hl 1 rfl) ?_
      exact hj51_10 a3 H _ _ hf hI (lv_sub hl [0] rfl)
    · have hf := (if_neg c8).symm.trans hf
      refine lv_iconst (v := 0) hx hb dX6_sealWith_46 (by decide) ?_
      refine lv_goto (tgt := 51) hx hb dX6_sealWith_47 (by decide) ?_
      exact hj51_10 (0 : Int32) H _ _ hf hI (lv_sub hl [0] rfl)
  refine lv_icmp_ne (tgt := 33) hx hb dX6_sealWith_26 (by decide) (fun c4 => ?_) (fun c4 => ?_)
  · have hf := (if_neg c4).symm.trans hf
    refine lv_iload_n hx hb dX6_sealWith_33 rfl (lv_at hl 2 rfl) ?_
    exact hj34_6 a2 H _ _ hf hI (lv_sub hl [0, 3, 4] rfl)
  · have hf := (if_pos c4).symm.trans hf
    refine lv_iconst (v := 0) hx hb dX6_sealWith_29 (by decide) ?_
    refine lv_goto (tgt := 34) hx hb dX6_sealWith_30 (by decide) ?_
    exact hj34_6 (0 : Int32) H _ _ hf hI (lv_sub hl [0, 3, 4] rfl)
abbrev rmX3_shutAnew : Room := { frames := 0, cells := 0, slots := 0, locals := 0 }
theorem kb_X3_shutAnew {R : Room} {s : State} {args : Array Value} {own : String} {idx : Nat} (hT : mT s) (hlink : (Cond.methodLink own idx yX3_shutAnew).before args s = true) (h1 : rmX3_shutAnew.frames + 1 ≤ R.frames) (h2 : 8 + (1 + 11) + rmX3_shutAnew.locals ≤ R.locals) : CallB R s args own idx yX3_shutAnew cX3_shutAnew 1 (none) [Cond.code yX3_shutAnew cX3_shutAnew 1 (none)] rmX3_shutAnew 0 0 0 := m_callB hT kc_X3_shutAnew ki_X3_shutAnew hlink (by decide +kernel) ⟨rfl, rfl, h1, h2⟩
set_option maxHeartbeats 4000000 in
set_option maxRecDepth 100000 in
theorem c_X3_shutAnew (l : Launch) (w : WD) (sz : Nat) (g : Nat) (hg : g ≤ 10) (M : Mem) (r : Unit) (M9 : Mem) (hf : f_X3_shutAnew g M = some (r, M9)) : mMet l yX3_shutAnew cX3_shutAnew 1 (none) rmX3_shutAnew w sz M [.ref (w.1 g 5)] none M9 := by
  refine m_of (by decide) (Nat.le_of_ble_eq_true rfl) ?_
  intro p e s m args below meth c hx hb hr hml hown hlk hI ls hl
  have hl : lv_has ls 1 [(0, .ref (w.1 g 5))] := hl
  unfold f_X3_shutAnew at hf
  refine lv_aload_n hx hb dX3_shutAnew_0 rfl (lv_at hl 0 rfl) ?_
  refine lv_iconst (v := 0) hx hb dX3_shutAnew_1 (by decide) ?_
  obtain ⟨M1, eM1, hf⟩ := mlet_e hf
  refine m_put (g := g) (i := 5) (ci := 2) (k := 0) (ty := .boolean) (M1 := M1) hx hb hI hown (mokS hg (by decide)) rfl rfl (by decide) lyX3 tyX3 tyX3_ok nmX3 (q98 hI.T) rfl rfl rfl rfl (Nat.le_of_ble_eq_true rfl) rfl eM1 dX3_shutAnew_2 (fun H locs hI => ?_)
  refine lv_aload_n hx hb dX3_shutAnew_5 rfl (lv_at hl 0 rfl) ?_
  refine lv_iconst (v := 0) hx hb dX3_shutAnew_6 (by decide) ?_
  obtain ⟨M2, eM2, hf⟩ := mlet_e hf
  refine m_put (g := g) (i := 5) (ci := 2) (k := 1) (ty := .int) (M1 := M2) hx hb hI hown (mokS hg (by decide)) rfl rfl (by decide) lyX3 tyX3 tyX3_ok nmX3 (q101 hI.T) rfl rfl rfl rfl (Nat.le_of_ble_eq_true rfl) rfl eM2 dX3_shutAnew_7 (fun H locs hI => ?_)
  refine lv_aload_n hx hb dX3_shutAnew_10 rfl (lv_at hl 0 rfl) ?_
  refine lv_iconst (v := 0) hx hb dX3_shutAnew_11 (by decide) ?_
  obtain ⟨M3, eM3, hf⟩ := mlet_e hf
  refine m_put (g := g) (i := 5) (ci := 2) (k := 2) (ty := .int) (M1 := M3) hx hb hI hown (mokS hg (by decide)) rfl rfl (by decide) lyX3 tyX3 tyX3_ok nmX3 (q104 hI.T) rfl rfl rfl rfl (Nat.le_of_ble_eq_true rfl) rfl eM3 dX3_shutAnew_12 (fun H locs hI => ?_)
  exact m_vretf hx hb hr hlk hI hf dX3_shutAnew_15
abbrev rmX9_trySeal : Room := { frames := 3, cells := 0, slots := 0, locals := 69 }
theorem kb_X9_trySeal {R : Room} {s : State} {args : Array Value} {own : String} {idx : Nat} (hT : mT s) (hlink : (Cond.methodLink own idx yX9_trySeal).before args s = true) (h1 : rmX9_trySeal.frames + 1 ≤ R.frames) (h2 : 8 + (5 + 11) + rmX9_trySeal.locals ≤ R.locals) : CallB R s args own idx yX9_trySeal cX9_trySeal 5 (some .int) [Cond.code yX9_trySeal cX9_trySeal 5 (some .int)] rmX9_trySeal 0 0 4 := m_callB hT kc_X9_trySeal ki_X9_trySeal hlink (by decide +kernel) ⟨rfl, rfl, h1, h2⟩
set_option maxHeartbeats 4000000 in
set_option maxRecDepth 100000 in
theorem c_X9_trySeal (l : Launch) (w : WD) (sz : Nat) (g : Nat) (hg : g ≤ 10) (a1 : Int32) (a2 : Int32) (a3 : Int32) (a4 : Int32) (M : Mem) (r : Int32) (M9 : Mem) (hf : f_X9_trySeal g a1 a2 a3 a4 M = some (r, M9)) : mMet l yX9_trySeal cX9_trySeal 5 (some .int) rmX9_trySeal w sz M [.ref (w.1 g 0), .int a1, .int a2, .int a3, .int a4] (some (.int r)) M9 := by
  refine m_of (by decide) (Nat.le_of_ble_eq_true rfl) ?_
  intro p e s m args below meth c hx hb hr hml hown hlk hI ls hl
  have hl : lv_has ls 5 [(0, .ref (w.1 g 0)), (1, .int a1), (2, .int a2), (3, .int a3), (4, .int a4)] := hl
  unfold f_X9_trySeal at hf
  refine lv_iload_n hx hb dX9_trySeal_0 rfl (lv_at hl 1 rfl) ?_
  obtain ⟨r1, hc, hf⟩ := mbp_e hf
  refine m_callS (As := [.int a1]) (rest := []) hx hb hml hown hI (c_X6_isResidue l w s.heap.size a1 M _ hc) (kb_X6_isResidue hI.T (q805 hI.T) (Nat.le_of_ble_eq_true rfl) (Nat.le_of_ble_eq_true rfl)) (q806 hI.T) rfl hl.1 (Nat.le_of_ble_eq_true rfl) dX9_trySeal_1 ⟨Nat.le_of_ble_eq_true rfl, Nat.le_of_ble_eq_true rfl⟩ (fun H locs hI => ?_)
  refine lv_if_eq (tgt := 33) hx hb dX9_trySeal_4 (by decide) (fun c2 => ?_) (fun c2 => ?_)
  · have hf := (if_pos c2).symm.trans hf
    refine lv_bipush (v := (-2)) hx hb dX9_trySeal_33 (by decide) ?_
    exact m_iretf hx hb hr hlk hI hf dX9_trySeal_35
  · have hf := (if_neg c2).symm.trans hf
    refine lv_iload_n hx hb dX9_trySeal_7 rfl (lv_at hl 2 rfl) ?_
    obtain ⟨r3, hc, hf⟩ := mbp_e hf
    refine m_callS (As := [.int a2]) (rest := []) hx hb hml hown hI (c_X6_isResidue l w H.size a2 M _ hc) (kb_X6_isResidue hI.T (q805 hI.T) (Nat.le_of_ble_eq_true rfl) (Nat.le_of_ble_eq_true rfl)) (q806 hI.T) rfl hl.1 (Nat.le_of_ble_eq_true rfl) dX9_trySeal_8 ⟨Nat.le_of_ble_eq_true rfl, Nat.le_of_ble_eq_true rfl⟩ (fun H locs hI => ?_)
    refine lv_if_eq (tgt := 33) hx hb dX9_trySeal_11 (by decide) (fun c4 => ?_) (fun c4 => ?_)
    · have hf := (if_pos c4).symm.trans hf
      refine lv_bipush (v := (-2)) hx hb dX9_trySeal_33 (by decide) ?_
      exact m_iretf hx hb hr hlk hI hf dX9_trySeal_35
    · have hf := (if_neg c4).symm.trans hf
      refine lv_iload_n hx hb dX9_trySeal_14 rfl (lv_at hl 3 rfl) ?_
      obtain ⟨r5, hc, hf⟩ := mbp_e hf
      refine m_callS (As := [.int a3]) (rest := []) hx hb hml hown hI (c_X6_isResidue l w H.size a3 M _ hc) (kb_X6_isResidue hI.T (q805 hI.T) (Nat.le_of_ble_eq_true rfl) (Nat.le_of_ble_eq_true rfl)) (q806 hI.T) rfl hl.1 (Nat.le_of_ble_eq_true rfl) dX9_trySeal_15 ⟨Nat.le_of_ble_eq_true rfl, Nat.le_of_ble_eq_true rfl⟩ (fun H locs hI => ?_)
      refine lv_if_eq (tgt := 33) hx hb dX9_trySeal_18 (by decide) (fun c6 => ?_) (fun c6 => ?_)
      · have hf := (if_pos c6).symm.trans hf
        refine lv_bipush (v := (-2)) hx hb dX9_trySeal_33 (by decide) ?_
        exact m_iretf hx hb hr hlk hI hf dX9_trySeal_35
      · have hf := (if_neg c6).symm.trans hf
        refine lv_iload hx hb dX9_trySeal_21 (lv_at hl 4 rfl) ?_
        refine lv_iconst (v := 1) hx hb dX9_trySeal_23 (by decide) ?_
        refine lv_icmp_lt (tgt := 33) hx hb dX9_trySeal_24 (by decide) (fun c7 => ?_) (fun c7 => ?_)
        · have hf := (if_pos c7).symm.trans hf
          refine lv_bipush (v := (-2)) hx hb dX9_trySeal_33 (by decide) ?_
          exact m_iretf hx hb hr hlk hI hf dX9_trySeal_35
        · have hf := (if_neg c7).symm.trans hf
          refine lv_iload hx hb dX9_trySeal_27 (lv_at hl 4 rfl) ?_
          refine lv_iconst (v := 3) hx hb dX9_trySeal_29 (by decide) ?_
          refine lv_icmp_le (tgt := 36) hx hb dX9_trySeal_30 (by decide) (fun c8 => ?_) (fun c8 => ?_)
          · have hf := (if_pos c8).symm.trans hf
            refine lv_aload_n hx hb dX9_trySeal_36 rfl (lv_at hl 0 rfl) ?_
            refine m_get (g := g) (i := 0) (ci := 8) (k := 0) (v := .ref (w.1 g 1)) hx hb hI hown (mokS hg (by decide)) rfl rfl (by decide) lyX9 (q186 hI.T) rfl dX9_trySeal_37 ?_
            refine m_get (g := g) (i := 1) (ci := 5) (k := 0) (v := .int (M g 1 0)) hx hb hI hown (mokS hg (by decide)) rfl rfl (by decide) lyX6 (q55 hI.T) rfl dX9_trySeal_40 ?_
            refine lv_iload hx hb dX9_trySeal_43 (lv_at hl 4 rfl) ?_
            refine lv_icmp_ge (tgt := 50) hx hb dX9_trySeal_45 (by decide) (fun c9 => ?_) (fun c9 => ?_)
            · have hf := (if_pos c9).symm.trans hf
              refine lv_aload_n hx hb dX9_trySeal_50 rfl (lv_at hl 0 rfl) ?_
              refine m_get (g := g) (i := 0) (ci := 8) (k := 0) (v := .ref (w.1 g 1)) hx hb hI hown (mokS hg (by decide)) rfl rfl (by decide) lyX9 (q186 hI.T) rfl dX9_trySeal_51 ?_
              refine lv_iload_n hx hb dX9_trySeal_54 rfl (lv_at hl 1 rfl) ?_
              refine lv_iload_n hx hb dX9_trySeal_55 rfl (lv_at hl 2 rfl) ?_
              refine lv_iload_n hx hb dX9_trySeal_56 rfl (lv_at hl 3 rfl) ?_
              refine lv_iload hx hb dX9_trySeal_57 (lv_at hl 4 rfl) ?_
              obtain ⟨r10, M11, hc, hf⟩ := mbnd_e hf
              refine m_callV (As := [.int a1, .int a2, .int a3, .int a4]) (rest := []) hx hb hml hown hI (c_X6_sealWith l w H.size g hg a1 a2 a3 a4 M _ _ hc) (kb_X6_sealWith hI.T (q808 hI.T) (Nat.le_of_ble_eq_true rfl) (Nat.le_of_ble_eq_true rfl)) (q809 hI.T) (q810 hI.T) (m_recv (g := g) (i := 1) hI (mokS hg (by decide)) rfl rfl) rfl hl.1 (Nat.le_of_ble_eq_true rfl) dX9_trySeal_59 ⟨Nat.le_of_ble_eq_true rfl, Nat.le_of_ble_eq_true rfl⟩ (fun H locs hI => ?_)
              refine lv_aload_n hx hb dX9_trySeal_62 rfl (lv_at hl 0 rfl) ?_
              refine m_get (g := g) (i := 0) (ci := 8) (k := 1) (v := .ref (w.1 g 5)) hx hb hI hown (mokS hg (by decide)) rfl rfl (by decide) lyX9 (q188 hI.T) rfl dX9_trySeal_63 ?_
              obtain ⟨r12, M13, hc, hf⟩ := mbnd_e hf
              refine m_callV (As := []) (rest := []) hx hb hml hown hI (c_X3_shutAnew l w H.size g hg M11 _ _ hc) (kb_X3_shutAnew hI.T (q812 hI.T) (Nat.le_of_ble_eq_true rfl) (Nat.le_of_ble_eq_true rfl)) (q813 hI.T) (q814 hI.T) (m_recv (g := g) (i := 5) hI (mokS hg (by decide)) rfl rfl) rfl hl.1 (Nat.le_of_ble_eq_true rfl) dX9_trySeal_66 ⟨Nat.le_of_ble_eq_true rfl, Nat.le_of_ble_eq_true rfl⟩ (fun H locs hI => ?_)
              refine lv_aload_n hx hb dX9_trySeal_69 rfl (lv_at hl 0 rfl) ?_
              refine lv_aload_n hx hb dX9_trySeal_70 rfl (lv_at hl 0 rfl) ?_
              refine m_get (g := g) (i := 0) (ci := 8) (k := 0) (v := .ref (w.1 g 1)) hx hb hI hown (mokS hg (by decide)) rfl rfl (by decide) lyX9 (q186 hI.T) rfl dX9_trySeal_71 ?_
              refine m_get (g := g) (i := 1) (ci := 5) (k := 0) (v := .int (M13 g 1 0)) hx hb hI hown (mokS hg (by decide)) rfl rfl (by decide) lyX6 (q55 hI.T) rfl dX9_trySeal_74 ?_
              obtain ⟨M14, eM14, hf⟩ := mlet_e hf
              refine m_put (g := g) (i := 0) (ci := 8) (k := 4) (ty := .int) (M1 := M14) hx hb hI hown (mokS hg (by decide)) rfl rfl (by decide) lyX9 tyX9 tyX9_ok nmX9 (q194 hI.T) rfl rfl rfl rfl (Nat.le_of_ble_eq_true rfl) rfl eM14 dX9_trySeal_77 (fun H locs hI => ?_)
              refine lv_iconst (v := 0) hx hb dX9_trySeal_80 (by decide) ?_
              exact m_iretf hx hb hr hlk hI hf dX9_trySeal_81
            · have hf := (if_neg c9).symm.trans hf
              refine lv_iconst (v := 2) hx hb dX9_trySeal_48 (by decide) ?_
              exact m_iretf hx hb hr hlk hI hf dX9_trySeal_49
          · have hf := (if_neg c8).symm.trans hf
            refine lv_bipush (v := (-2)) hx hb dX9_trySeal_33 (by decide) ?_
            exact m_iretf hx hb hr hlk hI hf dX9_trySeal_35
abbrev rmX11_seal : Room := { frames := 9, cells := 1, slots := 6, locals := 162 }
theorem kb_X11_seal {R : Room} {s : State} {args : Array Value} {own : String} {idx : Nat} (hT : mT s) (hlink : (Cond.methodLink own idx yX11_seal).before args s = true) (h1 : rmX11_seal.frames + 1 ≤ R.frames) (h2 : 8 + (5 + 11) + rmX11_seal.locals ≤ R.locals) : CallB R s args own idx yX11_seal cX11_seal 5 (some .int) [Cond.code yX11_seal cX11_seal 5 (some .int)] rmX11_seal 1 6 4 := m_callB hT kc_X11_seal ki_X11_seal hlink (by decide +kernel) ⟨rfl, rfl, h1, h2⟩
set_option maxHeartbeats 4000000 in
set_option maxRecDepth 100000 in
theorem c_X11_seal (l : Launch) (w : WD) (hsf : l.stackTraces = false) (sz : Nat) (a1 : Int32) (a2 : Int32) (a3 : Int32) (a4 : Int32) (M : Mem) (r : (Nat ⊕ Int32)) (M9 : Mem) (hf : f_X11_seal a1 a2 a3 a4 M = some (r, M9)) : mMetx l yX11_seal cX11_seal 5 (some .int) rmX11_seal w sz M [.ref (w.1 12 16), .int a1, .int a2, .int a3, .int a4] (moI r) M9 1 6 := by
  refine m_ofx (by decide) (Nat.le_of_ble_eq_true rfl) ?_
  intro p e s m args below meth c hx hb hr hml hown hlk hxt hI ls hl
  have hl : lv_has ls 5 [(0, .ref (w.1 12 16)), (1, .int a1), (2, .int a2), (3, .int a3), (4, .int a4)] := hl
  unfold f_X11_seal at hf
  refine lv_aload_n hx hb dX11_seal_0 rfl (lv_at hl 0 rfl) ?_
  refine m_get (g := 12) (i := 16) (ci := 9) (k := 1) (v := .ref (w.1 12 17)) hx hb hI hown (mokX (by decide) (by decide)) rfl rfl (by decide) lyX11 (q295 hI.T) rfl dX11_seal_1 ?_
  refine lv_aload_n hx hb dX11_seal_4 rfl (lv_at hl 0 rfl) ?_
  refine m_get (g := 12) (i := 16) (ci := 9) (k := 0) (v := .ref (w.1 0 0)) hx hb hI hown (mokX (by decide) (by decide)) rfl rfl (by decide) lyX11 (q294 hI.T) rfl dX11_seal_5 ?_
  obtain ⟨r1, M2, hc, hf⟩ := mbnd_e hf
  refine m_callV (As := [.ref (w.1 0 0)]) (rest := []) hx hb hml hown hI (c_X4_prepare l w s.heap.size 0 (by decide) M _ _ hc) (kb_X4_prepare hI.T (q724 hI.T) (Nat.le_of_ble_eq_true rfl) (Nat.le_of_ble_eq_true rfl)) (q725 hI.T) (q726 hI.T) (m_recv (g := 12) (i := 17) hI (mokX (by decide) (by decide)) rfl rfl) rfl hl.1 (Nat.le_of_ble_eq_true rfl) dX11_seal_8 ⟨Nat.le_of_ble_eq_true rfl, Nat.le_of_ble_eq_true rfl⟩ (fun H locs hI => ?_)
  refine lv_aload_n hx hb dX11_seal_11 rfl (lv_at hl 0 rfl) ?_
  refine lv_aload_n hx hb dX11_seal_12 rfl (lv_at hl 0 rfl) ?_
  refine m_get (g := 12) (i := 16) (ci := 9) (k := 0) (v := .ref (w.1 0 0)) hx hb hI hown (mokX (by decide) (by decide)) rfl rfl (by decide) lyX11 (q294 hI.T) rfl dX11_seal_13 ?_
  refine lv_iload_n hx hb dX11_seal_16 rfl (lv_at hl 1 rfl) ?_
  refine lv_iload_n hx hb dX11_seal_17 rfl (lv_at hl 2 rfl) ?_
  refine lv_iload_n hx hb dX11_seal_18 rfl (lv_at hl 3 rfl) ?_
  refine lv_iload hx hb dX11_seal_19 (lv_at hl 4 rfl) ?_
  obtain ⟨r3, M4, hc, hf⟩ := mbnd_e hf
  refine m_callV (As := [.int a1, .int a2, .int a3, .int a4]) (rest := [.ref (w.1 12 16)]) hx hb hml hown hI (c_X9_trySeal l w H.size 0 (by decide) a1 a2 a3 a4 M2 _ _ hc) (kb_X9_trySeal hI.T (q801 hI.T) (Nat.le_of_ble_eq_true rfl) (Nat.le_of_ble_eq_true rfl)) (q802 hI.T) (q803 hI.T) (m_recv (g := 0) (i := 0) hI (mokS (by decide) (by decide)) rfl rfl) rfl hl.1 (Nat.le_of_ble_eq_true rfl) dX11_seal_21 ⟨Nat.le_of_ble_eq_true rfl, Nat.le_of_ble_eq_true rfl⟩ (fun H locs hI => ?_)
  refine lv_iconst (v := 0) hx hb dX11_seal_24 (by decide) ?_
  rcases mbndx_e hf with ⟨n6, M7, hc, hf⟩ | ⟨r5, M7, hc, hf⟩
  · exact m_callxTV (As := [.int r3, .int (0 : Int32)]) (rest := []) hx hb hml hown hI (c_X11_settle l w hsf H.size r3 (0 : Int32) M4 _ _ hc) (kb_X11_settle hI.T (q756 hI.T) (Nat.le_of_ble_eq_true rfl) (Nat.le_of_ble_eq_true rfl)) (q758 hI.T) (sel_X11_settle hI.T) (m_recv (g := 12) (i := 16) hI (mokX (by decide) (by decide)) rfl rfl) rfl hl.1 (Nat.le_of_ble_eq_true rfl) dX11_seal_25 ⟨Nat.le_of_ble_eq_true rfl, Nat.le_of_ble_eq_true rfl⟩ hxt hlk hf (Nat.le_of_ble_eq_true rfl) (Nat.le_of_ble_eq_true rfl)
  refine m_callxRV (As := [.int r3, .int (0 : Int32)]) (rest := []) hx hb hml hown hI (c_X11_settle l w hsf H.size r3 (0 : Int32) M4 _ _ hc) (kb_X11_settle hI.T (q756 hI.T) (Nat.le_of_ble_eq_true rfl) (Nat.le_of_ble_eq_true rfl)) (q758 hI.T) (sel_X11_settle hI.T) (m_recv (g := 12) (i := 16) hI (mokX (by decide) (by decide)) rfl rfl) rfl hl.1 (Nat.le_of_ble_eq_true rfl) dX11_seal_25 ⟨Nat.le_of_ble_eq_true rfl, Nat.le_of_ble_eq_true rfl⟩ (fun H locs hI => ?_)
  exact m_iretx hx hb hr hlk hI hf dX11_seal_28 (Nat.le_of_ble_eq_true rfl) (Nat.le_of_ble_eq_true rfl)
abbrev rmX6_hasHolder : Room := { frames := 0, cells := 0, slots := 0, locals := 0 }
theorem kb_X6_hasHolder {R : Room} {s : State} {args : Array Value} {own : String} {idx : Nat} (hT : mT s) (hlink : (Cond.methodLink own idx yX6_hasHolder).before args s = true) (h1 : rmX6_hasHolder.frames + 1 ≤ R.frames) (h2 : 8 + (2 + 11) + rmX6_hasHolder.locals ≤ R.locals) : CallB R s args own idx yX6_hasHolder cX6_hasHolder 2 (some .boolean) [Cond.code yX6_hasHolder cX6_hasHolder 2 (some .boolean)] rmX6_hasHolder 0 0 1 := m_callB hT kc_X6_hasHolder ki_X6_hasHolder hlink (by decide +kernel) ⟨rfl, rfl, h1, h2⟩
set_option maxHeartbeats 4000000 in
set_option maxRecDepth 100000 in
theorem c_X6_hasHolder (l : Launch) (w : WD) (sz : Nat) (g : Nat) (hg : g ≤ 10) (a1 : Int32) (M : Mem) (r : Int32) (hf : f_X6_hasHolder g a1 M = some r) : mMet l yX6_hasHolder cX6_hasHolder 2 (some .boolean) rmX6_hasHolder w sz M [.ref (w.1 g 1), .int a1] (some (.int r)) M := by
  refine m_of (by decide) (Nat.le_of_ble_eq_true rfl) ?_
  intro p e s m args below meth c hx hb hr hml hown hlk hI ls hl
  have hl : lv_has ls 2 [(0, .ref (w.1 g 1)), (1, .int a1)] := hl
  unfold f_X6_hasHolder at hf
  refine lv_iload_n hx hb dX6_hasHolder_0 rfl (lv_at hl 1 rfl) ?_
  refine lv_if_lt (tgt := 16) hx hb dX6_hasHolder_1 (by decide) (fun c1 => ?_) (fun c1 => ?_)
  · have hf := (if_pos c1).symm.trans hf
    refine lv_iconst (v := 0) hx hb dX6_hasHolder_16 (by decide) ?_
    exact m_zretp hx hb hr hlk hI rfl hf dX6_hasHolder_17
  · have hf := (if_neg c1).symm.trans hf
    refine lv_iload_n hx hb dX6_hasHolder_4 rfl (lv_at hl 1 rfl) ?_
    refine lv_aload_n hx hb dX6_hasHolder_5 rfl (lv_at hl 0 rfl) ?_
    refine m_get (g := g) (i := 1) (ci := 5) (k := 0) (v := .int (M g 1 0)) hx hb hI hown (mokS hg (by decide)) rfl rfl (by decide) lyX6 (q54 hI.T) rfl dX6_hasHolder_6 ?_
    refine lv_icmp_ge (tgt := 16) hx hb dX6_hasHolder_9 (by decide) (fun c2 => ?_) (fun c2 => ?_)
    · have hf := (if_pos c2).symm.trans hf
      refine lv_iconst (v := 0) hx hb dX6_hasHolder_16 (by decide) ?_
      exact m_zretp hx hb hr hlk hI rfl hf dX6_hasHolder_17
    · have hf := (if_neg c2).symm.trans hf
      refine lv_iconst (v := 1) hx hb dX6_hasHolder_12 (by decide) ?_
      refine lv_goto (tgt := 17) hx hb dX6_hasHolder_13 (by decide) ?_
      exact m_zretp hx hb hr hlk hI rfl hf dX6_hasHolder_17
abbrev rmX9_tryShare : Room := { frames := 1, cells := 0, slots := 0, locals := 21 }
theorem kb_X9_tryShare {R : Room} {s : State} {args : Array Value} {own : String} {idx : Nat} (hT : mT s) (hlink : (Cond.methodLink own idx yX9_tryShare).before args s = true) (h1 : rmX9_tryShare.frames + 1 ≤ R.frames) (h2 : 8 + (3 + 11) + rmX9_tryShare.locals ≤ R.locals) : CallB R s args own idx yX9_tryShare cX9_tryShare 3 (some .int) [Cond.code yX9_tryShare cX9_tryShare 3 (some .int)] rmX9_tryShare 0 0 2 := m_callB hT kc_X9_tryShare ki_X9_tryShare hlink (by decide +kernel) ⟨rfl, rfl, h1, h2⟩
set_option maxHeartbeats 4000000 in
set_option maxRecDepth 100000 in
theorem c_X9_tryShare (l : Launch) (w : WD) (sz : Nat) (g : Nat) (hg : g ≤ 10) (a1 : Int32) (a2 : Int32) (M : Mem) (r : Int32) (M9 : Mem) (hf : f_X9_tryShare g a1 a2 M = some (r, M9)) : mMet l yX9_tryShare cX9_tryShare 3 (some .int) rmX9_tryShare w sz M [.ref (w.1 g 0), .int a1, .int a2] (some (.int r)) M9 := by
  refine m_of (by decide) (Nat.le_of_ble_eq_true rfl) ?_
  intro p e s m args below meth c hx hb hr hml hown hlk hI ls hl
  have hl : lv_has ls 3 [(0, .ref (w.1 g 0)), (1, .int a1), (2, .int a2)] := hl
  unfold f_X9_tryShare at hf
  refine lv_aload_n hx hb dX9_tryShare_0 rfl (lv_at hl 0 rfl) ?_
  refine m_get (g := g) (i := 0) (ci := 8) (k := 0) (v := .ref (w.1 g 1)) hx hb hI hown (mokS hg (by decide)) rfl rfl (by decide) lyX9 (q186 hI.T) rfl dX9_tryShare_1 ?_
  refine lv_iload_n hx hb dX9_tryShare_4 rfl (lv_at hl 1 rfl) ?_
  obtain ⟨r1, hc, hf⟩ := mbp_e hf
  refine m_callV (As := [.int a1]) (rest := []) hx hb hml hown hI (c_X6_hasHolder l w s.heap.size g hg a1 M _ hc) (kb_X6_hasHolder hI.T (q827 hI.T) (Nat.le_of_ble_eq_true rfl) (Nat.le_of_ble_eq_true rfl)) (q498 hI.T) (q499 hI.T) (m_recv (g := g) (i := 1) hI (mokS hg (by decide)) rfl rfl) rfl hl.1 (Nat.le_of_ble_eq_true rfl) dX9_tryShare_5 ⟨Nat.le_of_ble_eq_true rfl, Nat.le_of_ble_eq_true rfl⟩ (fun H locs hI => ?_)
  refine lv_if_ne (tgt := 13) hx hb dX9_tryShare_8 (by decide) (fun c2 => ?_) (fun c2 => ?_)
  · have hf := (if_neg c2).symm.trans hf
    refine lv_iload_n hx hb dX9_tryShare_13 rfl (lv_at hl 2 rfl) ?_
    obtain ⟨r3, hc, hf⟩ := mbp_e hf
    refine m_callS (As := [.int a2]) (rest := []) hx hb hml hown hI (c_X6_isResidue l w H.size a2 M _ hc) (kb_X6_isResidue hI.T (q805 hI.T) (Nat.le_of_ble_eq_true rfl) (Nat.le_of_ble_eq_true rfl)) (q806 hI.T) rfl hl.1 (Nat.le_of_ble_eq_true rfl) dX9_tryShare_14 ⟨Nat.le_of_ble_eq_true rfl, Nat.le_of_ble_eq_true rfl⟩ (fun H locs hI => ?_)
    refine lv_if_ne (tgt := 23) hx hb dX9_tryShare_17 (by decide) (fun c4 => ?_) (fun c4 => ?_)
    · have hf := (if_neg c4).symm.trans hf
      refine lv_aload_n hx hb dX9_tryShare_23 rfl (lv_at hl 0 rfl) ?_
      refine m_get (g := g) (i := 0) (ci := 8) (k := 0) (v := .ref (w.1 g 1)) hx hb hI hown (mokS hg (by decide)) rfl rfl (by decide) lyX9 (q186 hI.T) rfl dX9_tryShare_24 ?_
      refine m_get (g := g) (i := 1) (ci := 5) (k := 2) (v := .int (M g 1 2)) hx hb hI hown (mokS hg (by decide)) rfl rfl (by decide) lyX6 (q62 hI.T) rfl dX9_tryShare_27 ?_
      refine lv_if_ne (tgt := 35) hx hb dX9_tryShare_30 (by decide) (fun c5 => ?_) (fun c5 => ?_)
      · have hf := (if_neg c5).symm.trans hf
        refine lv_aload_n hx hb dX9_tryShare_35 rfl (lv_at hl 0 rfl) ?_
        refine lv_aload_n hx hb dX9_tryShare_36 rfl (lv_at hl 0 rfl) ?_
        refine m_get (g := g) (i := 0) (ci := 8) (k := 0) (v := .ref (w.1 g 1)) hx hb hI hown (mokS hg (by decide)) rfl rfl (by decide) lyX9 (q186 hI.T) rfl dX9_tryShare_37 ?_
        refine m_get (g := g) (i := 1) (ci := 5) (k := 1) (v := .ref (w.1 g 2)) hx hb hI hown (mokS hg (by decide)) rfl rfl (by decide) lyX6 (q59 hI.T) rfl dX9_tryShare_40 ?_
        refine lv_iload_n hx hb dX9_tryShare_43 rfl (lv_at hl 1 rfl) ?_
        obtain ⟨hi, hf⟩ := mix_e hf
        refine m_iald (g := g) (i := 2) hx hb hI (mokS hg (by decide)) rfl hi dX9_tryShare_44 ?_
        obtain ⟨M6, eM6, hf⟩ := mlet_e hf
        refine m_put (g := g) (i := 0) (ci := 8) (k := 4) (ty := .int) (M1 := M6) hx hb hI hown (mokS hg (by decide)) rfl rfl (by decide) lyX9 tyX9 tyX9_ok nmX9 (q194 hI.T) rfl rfl rfl rfl (Nat.le_of_ble_eq_true rfl) rfl eM6 dX9_tryShare_45 (fun H locs hI => ?_)
        refine lv_aload_n hx hb dX9_tryShare_48 rfl (lv_at hl 0 rfl) ?_
        refine m_get (g := g) (i := 0) (ci := 8) (k := 0) (v := .ref (w.1 g 1)) hx hb hI hown (mokS hg (by decide)) rfl rfl (by decide) lyX9 (q186 hI.T) rfl dX9_tryShare_49 ?_
        refine m_get (g := g) (i := 1) (ci := 5) (k := 1) (v := .ref (w.1 g 2)) hx hb hI hown (mokS hg (by decide)) rfl rfl (by decide) lyX6 (q59 hI.T) rfl dX9_tryShare_52 ?_
        refine lv_iload_n hx hb dX9_tryShare_55 rfl (lv_at hl 1 rfl) ?_
        refine lv_iload_n hx hb dX9_tryShare_56 rfl (lv_at hl 2 rfl) ?_
        obtain ⟨hi, hf⟩ := mix_e hf
        obtain ⟨M7, eM7, hf⟩ := mlet_e hf
        refine m_iast (g := g) (i := 2) (M1 := M7) hx hb hI (mokS hg (by decide)) rfl hi eM7 dX9_tryShare_57 (fun H locs hI => ?_)
        refine lv_iconst (v := 0) hx hb dX9_tryShare_58 (by decide) ?_
        exact m_iretf hx hb hr hlk hI hf dX9_tryShare_59
      · have hf := (if_pos c5).symm.trans hf
        refine lv_iconst (v := 3) hx hb dX9_tryShare_33 (by decide) ?_
        exact m_iretf hx hb hr hlk hI hf dX9_tryShare_34
    · have hf := (if_pos c4).symm.trans hf
      refine lv_bipush (v := (-2)) hx hb dX9_tryShare_20 (by decide) ?_
      exact m_iretf hx hb hr hlk hI hf dX9_tryShare_22
  · have hf := (if_pos c2).symm.trans hf
    refine lv_iconst (v := (-1)) hx hb dX9_tryShare_11 (by decide) ?_
    exact m_iretf hx hb hr hlk hI hf dX9_tryShare_12
abbrev rmX11_setShare : Room := { frames := 9, cells := 1, slots := 6, locals := 162 }
theorem kb_X11_setShare {R : Room} {s : State} {args : Array Value} {own : String} {idx : Nat} (hT : mT s) (hlink : (Cond.methodLink own idx yX11_setShare).before args s = true) (h1 : rmX11_setShare.frames + 1 ≤ R.frames) (h2 : 8 + (3 + 11) + rmX11_setShare.locals ≤ R.locals) : CallB R s args own idx yX11_setShare cX11_setShare 3 (some .int) [Cond.code yX11_setShare cX11_setShare 3 (some .int)] rmX11_setShare 1 6 2 := m_callB hT kc_X11_setShare ki_X11_setShare hlink (by decide +kernel) ⟨rfl, rfl, h1, h2⟩
set_option maxHeartbeats 4000000 in
set_option maxRecDepth 100000 in
theorem c_X11_setShare (l : Launch) (w : WD) (hsf : l.stackTraces = false) (sz : Nat) (a1 : Int32) (a2 : Int32) (M : Mem) (r : (Nat ⊕ Int32)) (M9 : Mem) (hf : f_X11_setShare a1 a2 M = some (r, M9)) : mMetx l yX11_setShare cX11_setShare 3 (some .int) rmX11_setShare w sz M [.ref (w.1 12 16), .int a1, .int a2] (moI r) M9 1 6 := by
  refine m_ofx (by decide) (Nat.le_of_ble_eq_true rfl) ?_
  intro p e s m args below meth c hx hb hr hml hown hlk hxt hI ls hl
  have hl : lv_has ls 3 [(0, .ref (w.1 12 16)), (1, .int a1), (2, .int a2)] := hl
  unfold f_X11_setShare at hf
  refine lv_aload_n hx hb dX11_setShare_0 rfl (lv_at hl 0 rfl) ?_
  refine m_get (g := 12) (i := 16) (ci := 9) (k := 1) (v := .ref (w.1 12 17)) hx hb hI hown (mokX (by decide) (by decide)) rfl rfl (by decide) lyX11 (q295 hI.T) rfl dX11_setShare_1 ?_
  refine lv_aload_n hx hb dX11_setShare_4 rfl (lv_at hl 0 rfl) ?_
  refine m_get (g := 12) (i := 16) (ci := 9) (k := 0) (v := .ref (w.1 0 0)) hx hb hI hown (mokX (by decide) (by decide)) rfl rfl (by decide) lyX11 (q294 hI.T) rfl dX11_setShare_5 ?_
  obtain ⟨r1, M2, hc, hf⟩ := mbnd_e hf
  refine m_callV (As := [.ref (w.1 0 0)]) (rest := []) hx hb hml hown hI (c_X4_prepare l w s.heap.size 0 (by decide) M _ _ hc) (kb_X4_prepare hI.T (q724 hI.T) (Nat.le_of_ble_eq_true rfl) (Nat.le_of_ble_eq_true rfl)) (q725 hI.T) (q726 hI.T) (m_recv (g := 12) (i := 17) hI (mokX (by decide) (by decide)) rfl rfl) rfl hl.1 (Nat.le_of_ble_eq_true rfl) dX11_setShare_8 ⟨Nat.le_of_ble_eq_true rfl, Nat.le_of_ble_eq_true rfl⟩ (fun H locs hI => ?_)
  refine lv_aload_n hx hb dX11_setShare_11 rfl (lv_at hl 0 rfl) ?_
  refine lv_aload_n hx hb dX11_setShare_12 rfl (lv_at hl 0 rfl) ?_
  refine m_get (g := 12) (i := 16) (ci := 9) (k := 0) (v := .ref (w.1 0 0)) hx hb hI hown (mokX (by decide) (by decide)) rfl rfl (by decide) lyX11 (q294 hI.T) rfl dX11_setShare_13 ?_
  refine lv_iload_n hx hb dX11_setShare_16 rfl (lv_at hl 1 rfl) ?_
  refine lv_iload_n hx hb dX11_setShare_17 rfl (lv_at hl 2 rfl) ?_
  obtain ⟨r3, M4, hc, hf⟩ := mbnd_e hf
  refine m_callV (As := [.int a1, .int a2]) (rest := [.ref (w.1 12 16)]) hx hb hml hown hI (c_X9_tryShare l w H.size 0 (by decide) a1 a2 M2 _ _ hc) (kb_X9_tryShare hI.T (q823 hI.T) (Nat.le_of_ble_eq_true rfl) (Nat.le_of_ble_eq_true rfl)) (q824 hI.T) (q825 hI.T) (m_recv (g := 0) (i := 0) hI (mokS (by decide) (by decide)) rfl rfl) rfl hl.1 (Nat.le_of_ble_eq_true rfl) dX11_setShare_18 ⟨Nat.le_of_ble_eq_true rfl, Nat.le_of_ble_eq_true rfl⟩ (fun H locs hI => ?_)
  refine lv_iload_n hx hb dX11_setShare_21 rfl (lv_at hl 1 rfl) ?_
  rcases mbndx_e hf with ⟨n6, M7, hc, hf⟩ | ⟨r5, M7, hc, hf⟩
  · exact m_callxTV (As := [.int r3, .int a1]) (rest := []) hx hb hml hown hI (c_X11_settle l w hsf H.size r3 a1 M4 _ _ hc) (kb_X11_settle hI.T (q756 hI.T) (Nat.le_of_ble_eq_true rfl) (Nat.le_of_ble_eq_true rfl)) (q758 hI.T) (sel_X11_settle hI.T) (m_recv (g := 12) (i := 16) hI (mokX (by decide) (by decide)) rfl rfl) rfl hl.1 (Nat.le_of_ble_eq_true rfl) dX11_setShare_22 ⟨Nat.le_of_ble_eq_true rfl, Nat.le_of_ble_eq_true rfl⟩ hxt hlk hf (Nat.le_of_ble_eq_true rfl) (Nat.le_of_ble_eq_true rfl)
  refine m_callxRV (As := [.int r3, .int a1]) (rest := []) hx hb hml hown hI (c_X11_settle l w hsf H.size r3 a1 M4 _ _ hc) (kb_X11_settle hI.T (q756 hI.T) (Nat.le_of_ble_eq_true rfl) (Nat.le_of_ble_eq_true rfl)) (q758 hI.T) (sel_X11_settle hI.T) (m_recv (g := 12) (i := 16) hI (mokX (by decide) (by decide)) rfl rfl) rfl hl.1 (Nat.le_of_ble_eq_true rfl) dX11_setShare_22 ⟨Nat.le_of_ble_eq_true rfl, Nat.le_of_ble_eq_true rfl⟩ (fun H locs hI => ?_)
  exact m_iretx hx hb hr hlk hI hf dX11_setShare_25 (Nat.le_of_ble_eq_true rfl) (Nat.le_of_ble_eq_true rfl)
abbrev rmX6_show : Room := { frames := 0, cells := 0, slots := 0, locals := 0 }
theorem kb_X6_show {R : Room} {s : State} {args : Array Value} {own : String} {idx : Nat} (hT : mT s) (hlink : (Cond.methodLink own idx yX6_show).before args s = true) (h1 : rmX6_show.frames + 1 ≤ R.frames) (h2 : 8 + (2 + 11) + rmX6_show.locals ≤ R.locals) : CallB R s args own idx yX6_show cX6_show 2 (some .int) [Cond.code yX6_show cX6_show 2 (some .int)] rmX6_show 0 0 1 := m_callB hT kc_X6_show ki_X6_show hlink (by decide +kernel) ⟨rfl, rfl, h1, h2⟩
set_option maxHeartbeats 4000000 in
set_option maxRecDepth 100000 in
theorem c_X6_show (l : Launch) (w : WD) (sz : Nat) (g : Nat) (hg : g ≤ 10) (a1 : Int32) (M : Mem) (r : Int32) (M9 : Mem) (hf : f_X6_show g a1 M = some (r, M9)) : mMet l yX6_show cX6_show 2 (some .int) rmX6_show w sz M [.ref (w.1 g 1), .int a1] (some (.int r)) M9 := by
  refine m_of (by decide) (Nat.le_of_ble_eq_true rfl) ?_
  intro p e s m args below meth c hx hb hr hml hown hlk hI ls hl
  have hl : lv_has ls 2 [(0, .ref (w.1 g 1)), (1, .int a1)] := hl
  unfold f_X6_show at hf
  refine lv_aload_n hx hb dX6_show_0 rfl (lv_at hl 0 rfl) ?_
  refine m_get (g := g) (i := 1) (ci := 5) (k := 6) (v := .ref (w.1 g 4)) hx hb hI hown (mokS hg (by decide)) rfl rfl (by decide) lyX6 (q73 hI.T) rfl dX6_show_1 ?_
  refine lv_aload_n hx hb dX6_show_4 rfl (lv_at hl 0 rfl) ?_
  refine m_get (g := g) (i := 1) (ci := 5) (k := 5) (v := .int (M g 1 5)) hx hb hI hown (mokS hg (by decide)) rfl rfl (by decide) lyX6 (q69 hI.T) rfl dX6_show_5 ?_
  refine lv_iload_n hx hb dX6_show_8 rfl (lv_at hl 1 rfl) ?_
  obtain ⟨hi, hf⟩ := mix_e hf
  obtain ⟨M1, eM1, hf⟩ := mlet_e hf
  refine m_iast (g := g) (i := 4) (M1 := M1) hx hb hI (mokS hg (by decide)) rfl hi eM1 dX6_show_9 (fun H locs hI => ?_)
  refine lv_aload_n hx hb dX6_show_10 rfl (lv_at hl 0 rfl) ?_
  refine lv_dup hx hb dX6_show_11 rfl ?_
  refine m_get (g := g) (i := 1) (ci := 5) (k := 5) (v := .int (M1 g 1 5)) hx hb hI hown (mokS hg (by decide)) rfl rfl (by decide) lyX6 (q69 hI.T) rfl dX6_show_12 ?_
  refine lv_iconst (v := 1) hx hb dX6_show_15 (by decide) ?_
  refine lv_iadd hx hb dX6_show_16 ?_
  obtain ⟨M2, eM2, hf⟩ := mlet_e hf
  refine m_put (g := g) (i := 1) (ci := 5) (k := 5) (ty := .int) (M1 := M2) hx hb hI hown (mokS hg (by decide)) rfl rfl (by decide) lyX6 tyX6 tyX6_ok nmX6 (q69 hI.T) rfl rfl rfl rfl (Nat.le_of_ble_eq_true rfl) rfl eM2 dX6_show_17 (fun H locs hI => ?_)
  refine lv_aload_n hx hb dX6_show_20 rfl (lv_at hl 0 rfl) ?_
  refine m_get (g := g) (i := 1) (ci := 5) (k := 5) (v := .int (M2 g 1 5)) hx hb hI hown (mokS hg (by decide)) rfl rfl (by decide) lyX6 (q69 hI.T) rfl dX6_show_21 ?_
  exact m_iretf hx hb hr hlk hI hf dX6_show_24
abbrev rmX9_tryPresent : Room := { frames := 1, cells := 0, slots := 0, locals := 22 }
theorem kb_X9_tryPresent {R : Room} {s : State} {args : Array Value} {own : String} {idx : Nat} (hT : mT s) (hlink : (Cond.methodLink own idx yX9_tryPresent).before args s = true) (h1 : rmX9_tryPresent.frames + 1 ≤ R.frames) (h2 : 8 + (2 + 11) + rmX9_tryPresent.locals ≤ R.locals) : CallB R s args own idx yX9_tryPresent cX9_tryPresent 2 (some .int) [Cond.code yX9_tryPresent cX9_tryPresent 2 (some .int)] rmX9_tryPresent 0 0 1 := m_callB hT kc_X9_tryPresent ki_X9_tryPresent hlink (by decide +kernel) ⟨rfl, rfl, h1, h2⟩
set_option maxHeartbeats 4000000 in
set_option maxRecDepth 100000 in
theorem c_X9_tryPresent (l : Launch) (w : WD) (sz : Nat) (g : Nat) (hg : g ≤ 10) (a1 : Int32) (M : Mem) (r : Int32) (M9 : Mem) (hf : f_X9_tryPresent g a1 M = some (r, M9)) : mMet l yX9_tryPresent cX9_tryPresent 2 (some .int) rmX9_tryPresent w sz M [.ref (w.1 g 0), .int a1] (some (.int r)) M9 := by
  refine m_of (by decide) (Nat.le_of_ble_eq_true rfl) ?_
  intro p e s m args below meth c hx hb hr hml hown hlk hI ls hl
  have hl : lv_has ls 2 [(0, .ref (w.1 g 0)), (1, .int a1)] := hl
  unfold f_X9_tryPresent at hf
  refine lv_aload_n hx hb dX9_tryPresent_0 rfl (lv_at hl 0 rfl) ?_
  refine m_get (g := g) (i := 0) (ci := 8) (k := 0) (v := .ref (w.1 g 1)) hx hb hI hown (mokS hg (by decide)) rfl rfl (by decide) lyX9 (q186 hI.T) rfl dX9_tryPresent_1 ?_
  refine lv_iload_n hx hb dX9_tryPresent_4 rfl (lv_at hl 1 rfl) ?_
  obtain ⟨r1, hc, hf⟩ := mbp_e hf
  refine m_callV (As := [.int a1]) (rest := []) hx hb hml hown hI (c_X6_hasHolder l w s.heap.size g hg a1 M _ hc) (kb_X6_hasHolder hI.T (q827 hI.T) (Nat.le_of_ble_eq_true rfl) (Nat.le_of_ble_eq_true rfl)) (q498 hI.T) (q499 hI.T) (m_recv (g := g) (i := 1) hI (mokS hg (by decide)) rfl rfl) rfl hl.1 (Nat.le_of_ble_eq_true rfl) dX9_tryPresent_5 ⟨Nat.le_of_ble_eq_true rfl, Nat.le_of_ble_eq_true rfl⟩ (fun H locs hI => ?_)
  refine lv_if_ne (tgt := 13) hx hb dX9_tryPresent_8 (by decide) (fun c2 => ?_) (fun c2 => ?_)
  · have hf := (if_neg c2).symm.trans hf
    refine lv_aload_n hx hb dX9_tryPresent_13 rfl (lv_at hl 0 rfl) ?_
    refine m_get (g := g) (i := 0) (ci := 8) (k := 0) (v := .ref (w.1 g 1)) hx hb hI hown (mokS hg (by decide)) rfl rfl (by decide) lyX9 (q186 hI.T) rfl dX9_tryPresent_14 ?_
    refine m_get (g := g) (i := 1) (ci := 5) (k := 2) (v := .int (M g 1 2)) hx hb hI hown (mokS hg (by decide)) rfl rfl (by decide) lyX6 (q62 hI.T) rfl dX9_tryPresent_17 ?_
    refine lv_if_ne (tgt := 25) hx hb dX9_tryPresent_20 (by decide) (fun c3 => ?_) (fun c3 => ?_)
    · have hf := (if_neg c3).symm.trans hf
      refine lv_aload_n hx hb dX9_tryPresent_25 rfl (lv_at hl 0 rfl) ?_
      refine m_get (g := g) (i := 0) (ci := 8) (k := 0) (v := .ref (w.1 g 1)) hx hb hI hown (mokS hg (by decide)) rfl rfl (by decide) lyX9 (q186 hI.T) rfl dX9_tryPresent_26 ?_
      refine lv_iload_n hx hb dX9_tryPresent_29 rfl (lv_at hl 1 rfl) ?_
      obtain ⟨r4, hc, hf⟩ := mbp_e hf
      refine m_callV (As := [.int a1]) (rest := []) hx hb hml hown hI (c_X6_placeOf l w H.size g hg a1 M _ hc) (kb_X6_placeOf hI.T (q766 hI.T) (Nat.le_of_ble_eq_true rfl) (Nat.le_of_ble_eq_true rfl)) (q515 hI.T) (q516 hI.T) (m_recv (g := g) (i := 1) hI (mokS hg (by decide)) rfl rfl) rfl hl.1 (Nat.le_of_ble_eq_true rfl) dX9_tryPresent_30 ⟨Nat.le_of_ble_eq_true rfl, Nat.le_of_ble_eq_true rfl⟩ (fun H locs hI => ?_)
      refine lv_iconst (v := (-1)) hx hb dX9_tryPresent_33 (by decide) ?_
      refine lv_icmp_eq (tgt := 39) hx hb dX9_tryPresent_34 (by decide) (fun c5 => ?_) (fun c5 => ?_)
      · have hf := (if_pos c5).symm.trans hf
        refine lv_aload_n hx hb dX9_tryPresent_39 rfl (lv_at hl 0 rfl) ?_
        refine lv_aload_n hx hb dX9_tryPresent_40 rfl (lv_at hl 0 rfl) ?_
        refine m_get (g := g) (i := 0) (ci := 8) (k := 0) (v := .ref (w.1 g 1)) hx hb hI hown (mokS hg (by decide)) rfl rfl (by decide) lyX9 (q186 hI.T) rfl dX9_tryPresent_41 ?_
        refine lv_iload_n hx hb dX9_tryPresent_44 rfl (lv_at hl 1 rfl) ?_
        obtain ⟨r6, M7, hc, hf⟩ := mbnd_e hf
        refine m_callV (As := [.int a1]) (rest := [.ref (w.1 g 0)]) hx hb hml hown hI (c_X6_show l w H.size g hg a1 M _ _ hc) (kb_X6_show hI.T (q839 hI.T) (Nat.le_of_ble_eq_true rfl) (Nat.le_of_ble_eq_true rfl)) (q840 hI.T) (q841 hI.T) (m_recv (g := g) (i := 1) hI (mokS hg (by decide)) rfl rfl) rfl hl.1 (Nat.le_of_ble_eq_true rfl) dX9_tryPresent_45 ⟨Nat.le_of_ble_eq_true rfl, Nat.le_of_ble_eq_true rfl⟩ (fun H locs hI => ?_)
        obtain ⟨M8, eM8, hf⟩ := mlet_e hf
        refine m_put (g := g) (i := 0) (ci := 8) (k := 4) (ty := .int) (M1 := M8) hx hb hI hown (mokS hg (by decide)) rfl rfl (by decide) lyX9 tyX9 tyX9_ok nmX9 (q194 hI.T) rfl rfl rfl rfl (Nat.le_of_ble_eq_true rfl) rfl eM8 dX9_tryPresent_48 (fun H locs hI => ?_)
        refine lv_iconst (v := 0) hx hb dX9_tryPresent_51 (by decide) ?_
        exact m_iretf hx hb hr hlk hI hf dX9_tryPresent_52
      · have hf := (if_neg c5).symm.trans hf
        refine lv_iconst (v := 4) hx hb dX9_tryPresent_37 (by decide) ?_
        exact m_iretf hx hb hr hlk hI hf dX9_tryPresent_38
    · have hf := (if_pos c3).symm.trans hf
      refine lv_iconst (v := 3) hx hb dX9_tryPresent_23 (by decide) ?_
      exact m_iretf hx hb hr hlk hI hf dX9_tryPresent_24
  · have hf := (if_pos c2).symm.trans hf
    refine lv_iconst (v := (-1)) hx hb dX9_tryPresent_11 (by decide) ?_
    exact m_iretf hx hb hr hlk hI hf dX9_tryPresent_12
abbrev rmX11_present : Room := { frames := 9, cells := 1, slots := 6, locals := 162 }
theorem kb_X11_present {R : Room} {s : State} {args : Array Value} {own : String} {idx : Nat} (hT : mT s) (hlink : (Cond.methodLink own idx yX11_present).before args s = true) (h1 : rmX11_present.frames + 1 ≤ R.frames) (h2 : 8 + (2 + 11) + rmX11_present.locals ≤ R.locals) : CallB R s args own idx yX11_present cX11_present 2 (some .int) [Cond.code yX11_present cX11_present 2 (some .int)] rmX11_present 1 6 1 := m_callB hT kc_X11_present ki_X11_present hlink (by decide +kernel) ⟨rfl, rfl, h1, h2⟩
set_option maxHeartbeats 4000000 in
set_option maxRecDepth 100000 in
theorem c_X11_present (l : Launch) (w : WD) (hsf : l.stackTraces = false) (sz : Nat) (a1 : Int32) (M : Mem) (r : (Nat ⊕ Int32)) (M9 : Mem) (hf : f_X11_present a1 M = some (r, M9)) : mMetx l yX11_present cX11_present 2 (some .int) rmX11_present w sz M [.ref (w.1 12 16), .int a1] (moI r) M9 1 6 := by
  refine m_ofx (by decide) (Nat.le_of_ble_eq_true rfl) ?_
  intro p e s m args below meth c hx hb hr hml hown hlk hxt hI ls hl
  have hl : lv_has ls 2 [(0, .ref (w.1 12 16)), (1, .int a1)] := hl
  unfold f_X11_present at hf
  refine lv_aload_n hx hb dX11_present_0 rfl (lv_at hl 0 rfl) ?_
  refine m_get (g := 12) (i := 16) (ci := 9) (k := 1) (v := .ref (w.1 12 17)) hx hb hI hown (mokX (by decide) (by decide)) rfl rfl (by decide) lyX11 (q295 hI.T) rfl dX11_present_1 ?_
  refine lv_aload_n hx hb dX11_present_4 rfl (lv_at hl 0 rfl) ?_
  refine m_get (g := 12) (i := 16) (ci := 9) (k := 0) (v := .ref (w.1 0 0)) hx hb hI hown (mokX (by decide) (by decide)) rfl rfl (by decide) lyX11 (q294 hI.T) rfl dX11_present_5 ?_
  obtain ⟨r1, M2, hc, hf⟩ := mbnd_e hf
  refine m_callV (As := [.ref (w.1 0 0)]) (rest := []) hx hb hml hown hI (c_X4_prepare l w s.heap.size 0 (by decide) M _ _ hc) (kb_X4_prepare hI.T (q724 hI.T) (Nat.le_of_ble_eq_true rfl) (Nat.le_of_ble_eq_true rfl)) (q725 hI.T) (q726 hI.T) (m_recv (g := 12) (i := 17) hI (mokX (by decide) (by decide)) rfl rfl) rfl hl.1 (Nat.le_of_ble_eq_true rfl) dX11_present_8 ⟨Nat.le_of_ble_eq_true rfl, Nat.le_of_ble_eq_true rfl⟩ (fun H locs hI => ?_)
  refine lv_aload_n hx hb dX11_present_11 rfl (lv_at hl 0 rfl) ?_
  refine lv_aload_n hx hb dX11_present_12 rfl (lv_at hl 0 rfl) ?_
  refine m_get (g := 12) (i := 16) (ci := 9) (k := 0) (v := .ref (w.1 0 0)) hx hb hI hown (mokX (by decide) (by decide)) rfl rfl (by decide) lyX11 (q294 hI.T) rfl dX11_present_13 ?_
  refine lv_iload_n hx hb dX11_present_16 rfl (lv_at hl 1 rfl) ?_
  obtain ⟨r3, M4, hc, hf⟩ := mbnd_e hf
  refine m_callV (As := [.int a1]) (rest := [.ref (w.1 12 16)]) hx hb hml hown hI (c_X9_tryPresent l w H.size 0 (by decide) a1 M2 _ _ hc) (kb_X9_tryPresent hI.T (q835 hI.T) (Nat.le_of_ble_eq_true rfl) (Nat.le_of_ble_eq_true rfl)) (q836 hI.T) (q837 hI.T) (m_recv (g := 0) (i := 0) hI (mokS (by decide) (by decide)) rfl rfl) rfl hl.1 (Nat.le_of_ble_eq_true rfl) dX11_present_17 ⟨Nat.le_of_ble_eq_true rfl, Nat.le_of_ble_eq_true rfl⟩ (fun H locs hI => ?_)
  refine lv_iload_n hx hb dX11_present_20 rfl (lv_at hl 1 rfl) ?_
  rcases mbndx_e hf with ⟨n6, M7, hc, hf⟩ | ⟨r5, M7, hc, hf⟩
  · exact m_callxTV (As := [.int r3, .int a1]) (rest := []) hx hb hml hown hI (c_X11_settle l w hsf H.size r3 a1 M4 _ _ hc) (kb_X11_settle hI.T (q756 hI.T) (Nat.le_of_ble_eq_true rfl) (Nat.le_of_ble_eq_true rfl)) (q758 hI.T) (sel_X11_settle hI.T) (m_recv (g := 12) (i := 16) hI (mokX (by decide) (by decide)) rfl rfl) rfl hl.1 (Nat.le_of_ble_eq_true rfl) dX11_present_21 ⟨Nat.le_of_ble_eq_true rfl, Nat.le_of_ble_eq_true rfl⟩ hxt hlk hf (Nat.le_of_ble_eq_true rfl) (Nat.le_of_ble_eq_true rfl)
  refine m_callxRV (As := [.int r3, .int a1]) (rest := []) hx hb hml hown hI (c_X11_settle l w hsf H.size r3 a1 M4 _ _ hc) (kb_X11_settle hI.T (q756 hI.T) (Nat.le_of_ble_eq_true rfl) (Nat.le_of_ble_eq_true rfl)) (q758 hI.T) (sel_X11_settle hI.T) (m_recv (g := 12) (i := 16) hI (mokX (by decide) (by decide)) rfl rfl) rfl hl.1 (Nat.le_of_ble_eq_true rfl) dX11_present_21 ⟨Nat.le_of_ble_eq_true rfl, Nat.le_of_ble_eq_true rfl⟩ (fun H locs hI => ?_)
  exact m_iretx hx hb hr hlk hI hf dX11_present_24 (Nat.le_of_ble_eq_true rfl) (Nat.le_of_ble_eq_true rfl)
abbrev rmX6_hide : Room := { frames := 0, cells := 0, slots := 0, locals := 0 }
theorem kb_X6_hide {R : Room} {s : State} {args : Array Value} {own : String} {idx : Nat} (hT : mT s) (hlink : (Cond.methodLink own idx yX6_hide).before args s = true) (h1 : rmX6_hide.frames + 1 ≤ R.frames) (h2 : 8 + (3 + 11) + rmX6_hide.locals ≤ R.locals) : CallB R s args own idx yX6_hide cX6_hide 3 (some .int) [Cond.code yX6_hide cX6_hide 3 (some .int)] rmX6_hide 0 0 1 := m_callB hT kc_X6_hide ki_X6_hide hlink (by decide +kernel) ⟨rfl, rfl, h1, h2⟩
set_option maxHeartbeats 4000000 in
set_option maxRecDepth 100000 in
theorem c_X6_hide (l : Launch) (w : WD) (sz : Nat) (g : Nat) (hg : g ≤ 10) (a1 : Int32) (M : Mem) (r : Int32) (M9 : Mem) (hf : f_X6_hide g a1 M = some (r, M9)) : mMet l yX6_hide cX6_hide 3 (some .int) rmX6_hide w sz M [.ref (w.1 g 1), .int a1] (some (.int r)) M9 := by
  refine m_of (by decide) (Nat.le_of_ble_eq_true rfl) ?_
  intro p e s m args below meth c hx hb hr hml hown hlk hI ls hl
  have hl : lv_has ls 3 [(0, .ref (w.1 g 1)), (1, .int a1)] := hl
  unfold f_X6_hide at hf
  refine lv_aload_n hx hb dX6_hide_0 rfl (lv_at hl 0 rfl) ?_
  refine lv_dup hx hb dX6_hide_1 rfl ?_
  refine m_get (g := g) (i := 1) (ci := 5) (k := 5) (v := .int (M g 1 5)) hx hb hI hown (mokS hg (by decide)) rfl rfl (by decide) lyX6 (q69 hI.T) rfl dX6_hide_2 ?_
  refine lv_iconst (v := 1) hx hb dX6_hide_5 (by decide) ?_
  refine lv_isub hx hb dX6_hide_6 ?_
  obtain ⟨M1, eM1, hf⟩ := mlet_e hf
  refine m_put (g := g) (i := 1) (ci := 5) (k := 5) (ty := .int) (M1 := M1) hx hb hI hown (mokS hg (by decide)) rfl rfl (by decide) lyX6 tyX6 tyX6_ok nmX6 (q69 hI.T) rfl rfl rfl rfl (Nat.le_of_ble_eq_true rfl) rfl eM1 dX6_hide_7 (fun H locs hI => ?_)
  refine lv_iload_n hx hb dX6_hide_10 rfl (lv_at hl 1 rfl) ?_
  refine lv_istore_n (lv' := [(2, .int a1), (0, .ref (w.1 g 1)), (1, .int a1)]) hx hb dX6_hide_11 rfl hl (by decide) rfl (fun ls hl => ?_)
  have hL12 : ∀ (n : Nat) (x2 : Int32) (M3 : Mem) (kk : Mem → Option (Int32 × Mem)) (H : Heap) (locs : List Loc) (ls : Array Slot), f_X6_hide_L12 g n x2 M3 kk = some (r, M9) → mI w s (mA w s.heap.size) H locs M3 → lv_has ls 3 [(0, .ref (w.1 g 1)), (2, .int x2)] → (∀  (M3 : Mem) (H : Heap) (locs : List Loc) (ls : Array Slot), kk M3 = some (r, M9) → mI w s (mA w s.heap.size) H locs M3 → lv_has ls 3 [(0, .ref (w.1 g 1))] → W p l e rmX6_hide s m args below meth c H locs 0 0 (MQ below (mQ w s.heap.size (some (.int r)) M9) args s 0 0 (mA w s.heap.size)) (F0 m 40 ls [])) → W p l e rmX6_hide s m args below meth c H locs 0 0 (MQ below (mQ w s.heap.size (some (.int r)) M9) args s 0 0 (mA w s.heap.size)) (F0 m 12 ls []) := by
    intro n
    induction n with
    | zero => intro x2 M3 kk H locs ls hf hI hl hk; rw [f_X6_hide_L12.eq_1] at hf; cases hf
    | succ n ih12 =>
      intro x2 M3 kk H locs ls hf hI hl hk
      rw [f_X6_hide_L12.eq_2] at hf
      refine lv_iload_n hx hb dX6_hide_12 rfl (lv_at hl 1 rfl) ?_
      refine lv_aload_n hx hb dX6_hide_13 rfl (lv_at hl 0 rfl) ?_
      refine m_get (g := g) (i := 1) (ci := 5) (k := 5) (v := .int (M3 g 1 5)) hx hb hI hown (mokS hg (by decide)) rfl rfl (by decide) lyX6 (q69 hI.T) rfl dX6_hide_14 ?_
      refine lv_icmp_ge (tgt := 40) hx hb dX6_hide_17 (by decide) (fun c4 => ?_) (fun c4 => ?_)
      · have hf := (if_pos c4).symm.trans hf
        exact hk M3 H _ _ hf hI (lv_sub hl [0] rfl)
      · have hf := (if_neg c4).symm.trans hf
        refine lv_aload_n hx hb dX6_hide_20 rfl (lv_at hl 0 rfl) ?_
        refine m_get (g := g) (i := 1) (ci := 5) (k := 6) (v := .ref (w.1 g 4)) hx hb hI hown (mokS hg (by decide)) rfl rfl (by decide) lyX6 (q73 hI.T) rfl dX6_hide_21 ?_
        refine lv_iload_n hx hb dX6_hide_24 rfl (lv_at hl 1 rfl) ?_
        refine lv_aload_n hx hb dX6_hide_25 rfl (lv_at hl 0 rfl) ?_
        refine m_get (g := g) (i := 1) (ci := 5) (k := 6) (v := .ref (w.1 g 4)) hx hb hI hown (mokS hg (by decide)) rfl rfl (by decide) lyX6 (q73 hI.T) rfl dX6_hide_26 ?_
        refine lv_iload_n hx hb dX6_hide_29 rfl (lv_at hl 1 rfl) ?_
        refine lv_iconst (v := 1) hx hb dX6_hide_30 (by decide) ?_
        refine lv_iadd hx hb dX6_hide_31 ?_
        obtain ⟨hi, hf⟩ := mix_e hf
        refine m_iald (g := g) (i := 4) hx hb hI (mokS hg (by decide)) rfl hi dX6_hide_32 ?_
        obtain ⟨hi, hf⟩ := mix_e hf
        obtain ⟨M5, eM5, hf⟩ := mlet_e hf
        refine m_iast (g := g) (i := 4) (M1 := M5) hx hb hI (mokS hg (by decide)) rfl hi eM5 dX6_hide_33 (fun H locs hI => ?_)
        obtain ⟨x6, ex6, hf⟩ := mlet_e hf
        refine lv_iinc (v := x6) (lv' := [(2, .int x6), (0, .ref (w.1 g 1))]) hx hb dX6_hide_34 hl (k := 1) rfl (by rw [ex6]; rfl) (by decide) rfl (fun ls hl => ?_)
        refine lv_goto (tgt := 12) hx hb dX6_hide_37 (by decide) ?_
        exact ih12 x6 M5 kk H _ _ hf hI (lv_sub hl [1, 0] rfl) hk
  refine hL12 1000 a1 M1 _ _ _ _ hf hI (lv_sub hl [1, 0] rfl) ?_
  intro M7 H locs ls hf hI hl
  try dsimp only at hf
  refine lv_aload_n hx hb dX6_hide_40 rfl (lv_at hl 0 rfl) ?_
  refine m_get (g := g) (i := 1) (ci := 5) (k := 5) (v := .int (M7 g 1 5)) hx hb hI hown (mokS hg (by decide)) rfl rfl (by decide) lyX6 (q69 hI.T) rfl dX6_hide_41 ?_
  exact m_iretf hx hb hr hlk hI hf dX6_hide_44
abbrev rmX9_tryTakeBack : Room := { frames := 1, cells := 0, slots := 0, locals := 22 }
theorem kb_X9_tryTakeBack {R : Room} {s : State} {args : Array Value} {own : String} {idx : Nat} (hT : mT s) (hlink : (Cond.methodLink own idx yX9_tryTakeBack).before args s = true) (h1 : rmX9_tryTakeBack.frames + 1 ≤ R.frames) (h2 : 8 + (3 + 11) + rmX9_tryTakeBack.locals ≤ R.locals) : CallB R s args own idx yX9_tryTakeBack cX9_tryTakeBack 3 (some .int) [Cond.code yX9_tryTakeBack cX9_tryTakeBack 3 (some .int)] rmX9_tryTakeBack 0 0 1 := m_callB hT kc_X9_tryTakeBack ki_X9_tryTakeBack hlink (by decide +kernel) ⟨rfl, rfl, h1, h2⟩
set_option maxHeartbeats 4000000 in
set_option maxRecDepth 100000 in
theorem c_X9_tryTakeBack (l : Launch) (w : WD) (sz : Nat) (g : Nat) (hg : g ≤ 10) (a1 : Int32) (M : Mem) (r : Int32) (M9 : Mem) (hf : f_X9_tryTakeBack g a1 M = some (r, M9)) : mMet l yX9_tryTakeBack cX9_tryTakeBack 3 (some .int) rmX9_tryTakeBack w sz M [.ref (w.1 g 0), .int a1] (some (.int r)) M9 := by
  refine m_of (by decide) (Nat.le_of_ble_eq_true rfl) ?_
  intro p e s m args below meth c hx hb hr hml hown hlk hI ls hl
  have hl : lv_has ls 3 [(0, .ref (w.1 g 0)), (1, .int a1)] := hl
  unfold f_X9_tryTakeBack at hf
  refine lv_aload_n hx hb dX9_tryTakeBack_0 rfl (lv_at hl 0 rfl) ?_
  refine m_get (g := g) (i := 0) (ci := 8) (k := 0) (v := .ref (w.1 g 1)) hx hb hI hown (mokS hg (by decide)) rfl rfl (by decide) lyX9 (q186 hI.T) rfl dX9_tryTakeBack_1 ?_
  refine lv_iload_n hx hb dX9_tryTakeBack_4 rfl (lv_at hl 1 rfl) ?_
  obtain ⟨r1, hc, hf⟩ := mbp_e hf
  refine m_callV (As := [.int a1]) (rest := []) hx hb hml hown hI (c_X6_hasHolder l w s.heap.size g hg a1 M _ hc) (kb_X6_hasHolder hI.T (q827 hI.T) (Nat.le_of_ble_eq_true rfl) (Nat.le_of_ble_eq_true rfl)) (q498 hI.T) (q499 hI.T) (m_recv (g := g) (i := 1) hI (mokS hg (by decide)) rfl rfl) rfl hl.1 (Nat.le_of_ble_eq_true rfl) dX9_tryTakeBack_5 ⟨Nat.le_of_ble_eq_true rfl, Nat.le_of_ble_eq_true rfl⟩ (fun H locs hI => ?_)
  refine lv_if_ne (tgt := 13) hx hb dX9_tryTakeBack_8 (by decide) (fun c2 => ?_) (fun c2 => ?_)
  · have hf := (if_neg c2).symm.trans hf
    refine lv_aload_n hx hb dX9_tryTakeBack_13 rfl (lv_at hl 0 rfl) ?_
    refine m_get (g := g) (i := 0) (ci := 8) (k := 0) (v := .ref (w.1 g 1)) hx hb hI hown (mokS hg (by decide)) rfl rfl (by decide) lyX9 (q186 hI.T) rfl dX9_tryTakeBack_14 ?_
    refine m_get (g := g) (i := 1) (ci := 5) (k := 2) (v := .int (M g 1 2)) hx hb hI hown (mokS hg (by decide)) rfl rfl (by decide) lyX6 (q62 hI.T) rfl dX9_tryTakeBack_17 ?_
    refine lv_if_ne (tgt := 25) hx hb dX9_tryTakeBack_20 (by decide) (fun c3 => ?_) (fun c3 => ?_)
    · have hf := (if_neg c3).symm.trans hf
      refine lv_aload_n hx hb dX9_tryTakeBack_25 rfl (lv_at hl 0 rfl) ?_
      refine m_get (g := g) (i := 0) (ci := 8) (k := 0) (v := .ref (w.1 g 1)) hx hb hI hown (mokS hg (by decide)) rfl rfl (by decide) lyX9 (q186 hI.T) rfl dX9_tryTakeBack_26 ?_
      refine lv_iload_n hx hb dX9_tryTakeBack_29 rfl (lv_at hl 1 rfl) ?_
      obtain ⟨r4, hc, hf⟩ := mbp_e hf
      refine m_callV (As := [.int a1]) (rest := []) hx hb hml hown hI (c_X6_placeOf l w H.size g hg a1 M _ hc) (kb_X6_placeOf hI.T (q766 hI.T) (Nat.le_of_ble_eq_true rfl) (Nat.le_of_ble_eq_true rfl)) (q515 hI.T) (q516 hI.T) (m_recv (g := g) (i := 1) hI (mokS hg (by decide)) rfl rfl) rfl hl.1 (Nat.le_of_ble_eq_true rfl) dX9_tryTakeBack_30 ⟨Nat.le_of_ble_eq_true rfl, Nat.le_of_ble_eq_true rfl⟩ (fun H locs hI => ?_)
      refine lv_istore_n (lv' := [(2, .int r4), (0, .ref (w.1 g 0)), (1, .int a1)]) hx hb dX9_tryTakeBack_33 rfl hl (by decide) rfl (fun ls hl => ?_)
      refine lv_iload_n hx hb dX9_tryTakeBack_34 rfl (lv_at hl 0 rfl) ?_
      refine lv_iconst (v := (-1)) hx hb dX9_tryTakeBack_35 (by decide) ?_
      refine lv_icmp_ne (tgt := 41) hx hb dX9_tryTakeBack_36 (by decide) (fun c5 => ?_) (fun c5 => ?_)
      · have hf := (if_neg c5).symm.trans hf
        refine lv_aload_n hx hb dX9_tryTakeBack_41 rfl (lv_at hl 1 rfl) ?_
        refine lv_aload_n hx hb dX9_tryTakeBack_42 rfl (lv_at hl 1 rfl) ?_
        refine m_get (g := g) (i := 0) (ci := 8) (k := 0) (v := .ref (w.1 g 1)) hx hb hI hown (mokS hg (by decide)) rfl rfl (by decide) lyX9 (q186 hI.T) rfl dX9_tryTakeBack_43 ?_
        refine lv_iload_n hx hb dX9_tryTakeBack_46 rfl (lv_at hl 0 rfl) ?_
        obtain ⟨r6, M7, hc, hf⟩ := mbnd_e hf
        refine m_callV (As := [.int r4]) (rest := [.ref (w.1 g 0)]) hx hb hml hown hI (c_X6_hide l w H.size g hg r4 M _ _ hc) (kb_X6_hide hI.T (q854 hI.T) (Nat.le_of_ble_eq_true rfl) (Nat.le_of_ble_eq_true rfl)) (q855 hI.T) (q856 hI.T) (m_recv (g := g) (i := 1) hI (mokS hg (by decide)) rfl rfl) rfl hl.1 (Nat.le_of_ble_eq_true rfl) dX9_tryTakeBack_47 ⟨Nat.le_of_ble_eq_true rfl, Nat.le_of_ble_eq_true rfl⟩ (fun H locs hI => ?_)
        obtain ⟨M8, eM8, hf⟩ := mlet_e hf
        refine m_put (g := g) (i := 0) (ci := 8) (k := 4) (ty := .int) (M1 := M8) hx hb hI hown (mokS hg (by decide)) rfl rfl (by decide) lyX9 tyX9 tyX9_ok nmX9 (q194 hI.T) rfl rfl rfl rfl (Nat.le_of_ble_eq_true rfl) rfl eM8 dX9_tryTakeBack_50 (fun H locs hI => ?_)
        refine lv_iconst (v := 0) hx hb dX9_tryTakeBack_53 (by decide) ?_
        exact m_iretf hx hb hr hlk hI hf dX9_tryTakeBack_54
      · have hf := (if_pos c5).symm.trans hf
        refine lv_iconst (v := 5) hx hb dX9_tryTakeBack_39 (by decide) ?_
        exact m_iretf hx hb hr hlk hI hf dX9_tryTakeBack_40
    · have hf := (if_pos c3).symm.trans hf
      refine lv_iconst (v := 3) hx hb dX9_tryTakeBack_23 (by decide) ?_
      exact m_iretf hx hb hr hlk hI hf dX9_tryTakeBack_24
  · have hf := (if_pos c2).symm.trans hf
    refine lv_iconst (v := (-1)) hx hb dX9_tryTakeBack_11 (by decide) ?_
    exact m_iretf hx hb hr hlk hI hf dX9_tryTakeBack_12
abbrev rmX11_takeBack : Room := { frames := 9, cells := 1, slots := 6, locals := 162 }
theorem kb_X11_takeBack {R : Room} {s : State} {args : Array Value} {own : String} {idx : Nat} (hT : mT s) (hlink : (Cond.methodLink own idx yX11_takeBack).before args s = true) (h1 : rmX11_takeBack.frames + 1 ≤ R.frames) (h2 : 8 + (2 + 11) + rmX11_takeBack.locals ≤ R.locals) : CallB R s args own idx yX11_takeBack cX11_takeBack 2 (some .int) [Cond.code yX11_takeBack cX11_takeBack 2 (some .int)] rmX11_takeBack 1 6 1 := m_callB hT kc_X11_takeBack ki_X11_takeBack hlink (by decide +kernel) ⟨rfl, rfl, h1, h2⟩
set_option maxHeartbeats 4000000 in
set_option maxRecDepth 100000 in
theorem c_X11_takeBack (l : Launch) (w : WD) (hsf : l.stackTraces = false) (sz : Nat) (a1 : Int32) (M : Mem) (r : (Nat ⊕ Int32)) (M9 : Mem) (hf : f_X11_takeBack a1 M = some (r, M9)) : mMetx l yX11_takeBack cX11_takeBack 2 (some .int) rmX11_takeBack w sz M [.ref (w.1 12 16), .int a1] (moI r) M9 1 6 := by
  refine m_ofx (by decide) (Nat.le_of_ble_eq_true rfl) ?_
  intro p e s m args below meth c hx hb hr hml hown hlk hxt hI ls hl
  have hl : lv_has ls 2 [(0, .ref (w.1 12 16)), (1, .int a1)] := hl
  unfold f_X11_takeBack at hf
  refine lv_aload_n hx hb dX11_takeBack_0 rfl (lv_at hl 0 rfl) ?_
  refine m_get (g := 12) (i := 16) (ci := 9) (k := 1) (v := .ref (w.1 12 17)) hx hb hI hown (mokX (by decide) (by decide)) rfl rfl (by decide) lyX11 (q295 hI.T) rfl dX11_takeBack_1 ?_
  refine lv_aload_n hx hb dX11_takeBack_4 rfl (lv_at hl 0 rfl) ?_
  refine m_get (g := 12) (i := 16) (ci := 9) (k := 0) (v := .ref (w.1 0 0)) hx hb hI hown (mokX (by decide) (by decide)) rfl rfl (by decide) lyX11 (q294 hI.T) rfl dX11_takeBack_5 ?_
  obtain ⟨r1, M2, hc, hf⟩ := mbnd_e hf
  refine m_callV (As := [.ref (w.1 0 0)]) (rest := []) hx hb hml hown hI (c_X4_prepare l w s.heap.size 0 (by decide) M _ _ hc) (kb_X4_prepare hI.T (q724 hI.T) (Nat.le_of_ble_eq_true rfl) (Nat.le_of_ble_eq_true rfl)) (q725 hI.T) (q726 hI.T) (m_recv (g := 12) (i := 17) hI (mokX (by decide) (by decide)) rfl rfl) rfl hl.1 (Nat.le_of_ble_eq_true rfl) dX11_takeBack_8 ⟨Nat.le_of_ble_eq_true rfl, Nat.le_of_ble_eq_true rfl⟩ (fun H locs hI => ?_)
  refine lv_aload_n hx hb dX11_takeBack_11 rfl (lv_at hl 0 rfl) ?_
  refine lv_aload_n hx hb dX11_takeBack_12 rfl (lv_at hl 0 rfl) ?_
  refine m_get (g := 12) (i := 16) (ci := 9) (k := 0) (v := .ref (w.1 0 0)) hx hb hI hown (mokX (by decide) (by decide)) rfl rfl (by decide) lyX11 (q294 hI.T) rfl dX11_takeBack_13 ?_
  refine lv_iload_n hx hb dX11_takeBack_16 rfl (lv_at hl 1 rfl) ?_
  obtain ⟨r3, M4, hc, hf⟩ := mbnd_e hf
  refine m_callV (As := [.int a1]) (rest := [.ref (w.1 12 16)]) hx hb hml hown hI (c_X9_tryTakeBack l w H.size 0 (by decide) a1 M2 _ _ hc) (kb_X9_tryTakeBack hI.T (q850 hI.T) (Nat.le_of_ble_eq_true rfl) (Nat.le_of_ble_eq_true rfl)) (q851 hI.T) (q852 hI.T) (m_recv (g := 0) (i := 0) hI (mokS (by decide) (by decide)) rfl rfl) rfl hl.1 (Nat.le_of_ble_eq_true rfl) dX11_takeBack_17 ⟨Nat.le_of_ble_eq_true rfl, Nat.le_of_ble_eq_true rfl⟩ (fun H locs hI => ?_)
  refine lv_iload_n hx hb dX11_takeBack_20 rfl (lv_at hl 1 rfl) ?_
  rcases mbndx_e hf with ⟨n6, M7, hc, hf⟩ | ⟨r5, M7, hc, hf⟩
  · exact m_callxTV (As := [.int r3, .int a1]) (rest := []) hx hb hml hown hI (c_X11_settle l w hsf H.size r3 a1 M4 _ _ hc) (kb_X11_settle hI.T (q756 hI.T) (Nat.le_of_ble_eq_true rfl) (Nat.le_of_ble_eq_true rfl)) (q758 hI.T) (sel_X11_settle hI.T) (m_recv (g := 12) (i := 16) hI (mokX (by decide) (by decide)) rfl rfl) rfl hl.1 (Nat.le_of_ble_eq_true rfl) dX11_takeBack_21 ⟨Nat.le_of_ble_eq_true rfl, Nat.le_of_ble_eq_true rfl⟩ hxt hlk hf (Nat.le_of_ble_eq_true rfl) (Nat.le_of_ble_eq_true rfl)
  refine m_callxRV (As := [.int r3, .int a1]) (rest := []) hx hb hml hown hI (c_X11_settle l w hsf H.size r3 a1 M4 _ _ hc) (kb_X11_settle hI.T (q756 hI.T) (Nat.le_of_ble_eq_true rfl) (Nat.le_of_ble_eq_true rfl)) (q758 hI.T) (sel_X11_settle hI.T) (m_recv (g := 12) (i := 16) hI (mokX (by decide) (by decide)) rfl rfl) rfl hl.1 (Nat.le_of_ble_eq_true rfl) dX11_takeBack_21 ⟨Nat.le_of_ble_eq_true rfl, Nat.le_of_ble_eq_true rfl⟩ (fun H locs hI => ?_)
  exact m_iretx hx hb hr hlk hI hf dX11_takeBack_24 (Nat.le_of_ble_eq_true rfl) (Nat.le_of_ble_eq_true rfl)
abbrev rmX6_areEnough : Room := { frames := 0, cells := 0, slots := 0, locals := 0 }
theorem kb_X6_areEnough {R : Room} {s : State} {args : Array Value} {own : String} {idx : Nat} (hT : mT s) (hlink : (Cond.methodLink own idx yX6_areEnough).before args s = true) (h1 : rmX6_areEnough.frames + 1 ≤ R.frames) (h2 : 8 + (1 + 11) + rmX6_areEnough.locals ≤ R.locals) : CallB R s args own idx yX6_areEnough cX6_areEnough 1 (some .boolean) [Cond.code yX6_areEnough cX6_areEnough 1 (some .boolean)] rmX6_areEnough 0 0 0 := m_callB hT kc_X6_areEnough ki_X6_areEnough hlink (by decide +kernel) ⟨rfl, rfl, h1, h2⟩
set_option maxHeartbeats 4000000 in
set_option maxRecDepth 100000 in
theorem c_X6_areEnough (l : Launch) (w : WD) (sz : Nat) (g : Nat) (hg : g ≤ 10) (M : Mem) (r : Int32) (hf : f_X6_areEnough g M = some r) : mMet l yX6_areEnough cX6_areEnough 1 (some .boolean) rmX6_areEnough w sz M [.ref (w.1 g 1)] (some (.int r)) M := by
  refine m_of (by decide) (Nat.le_of_ble_eq_true rfl) ?_
  intro p e s m args below meth c hx hb hr hml hown hlk hI ls hl
  have hl : lv_has ls 1 [(0, .ref (w.1 g 1))] := hl
  unfold f_X6_areEnough at hf
  refine lv_aload_n hx hb dX6_areEnough_0 rfl (lv_at hl 0 rfl) ?_
  refine m_get (g := g) (i := 1) (ci := 5) (k := 2) (v := .int (M g 1 2)) hx hb hI hown (mokS hg (by decide)) rfl rfl (by decide) lyX6 (q61 hI.T) rfl dX6_areEnough_1 ?_
  refine lv_if_eq (tgt := 22) hx hb dX6_areEnough_4 (by decide) (fun c1 => ?_) (fun c1 => ?_)
  · have hf := (if_pos c1).symm.trans hf
    refine lv_iconst (v := 0) hx hb dX6_areEnough_22 (by decide) ?_
    exact m_zretp hx hb hr hlk hI rfl hf dX6_areEnough_23
  · have hf := (if_neg c1).symm.trans hf
    refine lv_aload_n hx hb dX6_areEnough_7 rfl (lv_at hl 0 rfl) ?_
    refine m_get (g := g) (i := 1) (ci := 5) (k := 5) (v := .int (M g 1 5)) hx hb hI hown (mokS hg (by decide)) rfl rfl (by decide) lyX6 (q69 hI.T) rfl dX6_areEnough_8 ?_
    refine lv_aload_n hx hb dX6_areEnough_11 rfl (lv_at hl 0 rfl) ?_
    refine m_get (g := g) (i := 1) (ci := 5) (k := 3) (v := .int (M g 1 3)) hx hb hI hown (mokS hg (by decide)) rfl rfl (by decide) lyX6 (q64 hI.T) rfl dX6_areEnough_12 ?_
    refine lv_icmp_lt (tgt := 22) hx hb dX6_areEnough_15 (by decide) (fun c2 => ?_) (fun c2 => ?_)
    · have hf := (if_pos c2).symm.trans hf
      refine lv_iconst (v := 0) hx hb dX6_areEnough_22 (by decide) ?_
      exact m_zretp hx hb hr hlk hI rfl hf dX6_areEnough_23
    · have hf := (if_neg c2).symm.trans hf
      refine lv_iconst (v := 1) hx hb dX6_areEnough_18 (by decide) ?_
      refine lv_goto (tgt := 23) hx hb dX6_areEnough_19 (by decide) ?_
      exact m_zretp hx hb hr hlk hI rfl hf dX6_areEnough_23
abbrev rmX1_hasGuardIn : Room := { frames := 0, cells := 0, slots := 0, locals := 0 }
theorem kb_X1_hasGuardIn {R : Room} {s : State} {args : Array Value} {own : String} {idx : Nat} (hT : mT s) (hlink : (Cond.methodLink own idx yX1_hasGuardIn).before args s = true) (h1 : rmX1_hasGuardIn.frames + 1 ≤ R.frames) (h2 : 8 + (3 + 11) + rmX1_hasGuardIn.locals ≤ R.locals) : CallB R s args own idx yX1_hasGuardIn cX1_hasGuardIn 3 (some .boolean) [Cond.code yX1_hasGuardIn cX1_hasGuardIn 3 (some .boolean)] rmX1_hasGuardIn 0 0 1 := m_callB hT kc_X1_hasGuardIn ki_X1_hasGuardIn hlink (by decide +kernel) ⟨rfl, rfl, h1, h2⟩
set_option maxHeartbeats 4000000 in
set_option maxRecDepth 100000 in
theorem c_X1_hasGuardIn (l : Launch) (w : WD) (sz : Nat) (g : Nat) (hg : g ≤ 11) (a1 : Int32) (M : Mem) (r : Int32) (hf : f_X1_hasGuardIn g a1 M = some r) : mMet l yX1_hasGuardIn cX1_hasGuardIn 3 (some .boolean) rmX1_hasGuardIn w sz M [.ref (w.1 g 6), .int a1] (some (.int r)) M := by
  refine m_of (by decide) (Nat.le_of_ble_eq_true rfl) ?_
  intro p e s m args below meth c hx hb hr hml hown hlk hI ls hl
  have hl : lv_has ls 3 [(0, .ref (w.1 g 6)), (1, .int a1)] := hl
  unfold f_X1_hasGuardIn at hf
  refine lv_iconst (v := 0) hx hb dX1_hasGuardIn_0 (by decide) ?_
  refine lv_istore_n (lv' := [(2, .int (0 : Int32)), (0, .ref (w.1 g 6)), (1, .int a1)]) hx hb dX1_hasGuardIn_1 rfl hl (by decide) rfl (fun ls hl => ?_)
  have hL2 : ∀ (n : Nat) (x1 : Int32) (kk : Unit → Option Int32) (H : Heap) (locs : List Loc) (ls : Array Slot), f_X1_hasGuardIn_L2 g a1 M n x1 kk = some r → mI w s (mA w s.heap.size) H locs M → lv_has ls 3 [(0, .ref (w.1 g 6)), (1, .int a1), (2, .int x1)] → (∀ (_u : Unit) (H : Heap) (locs : List Loc) (ls : Array Slot), kk () = some r → mI w s (mA w s.heap.size) H locs M → lv_has ls 3 [] → W p l e rmX1_hasGuardIn s m args below meth c H locs 0 0 (MQ below (mQ w s.heap.size (some (.int r)) M) args s 0 0 (mA w s.heap.size)) (F0 m 28 ls [])) → W p l e rmX1_hasGuardIn s m args below meth c H locs 0 0 (MQ below (mQ w s.heap.size (some (.int r)) M) args s 0 0 (mA w s.heap.size)) (F0 m 2 ls []) := by
    intro n
    induction n with
    | zero => intro x1 kk H locs ls hf hI hl hk; rw [f_X1_hasGuardIn_L2.eq_1] at hf; cases hf
    | succ n ih2 =>
      intro x1 kk H locs ls hf hI hl hk
      rw [f_X1_hasGuardIn_L2.eq_2] at hf
      refine lv_iload_n hx hb dX1_hasGuardIn_2 rfl (lv_at hl 2 rfl) ?_
      refine lv_aload_n hx hb dX1_hasGuardIn_3 rfl (lv_at hl 0 rfl) ?_
      refine m_get (g := g) (i := 6) (ci := 0) (k := 4) (v := .int (M g 6 4)) hx hb hI hown (mokB hg (by decide) (by decide)) rfl rfl (by decide) lyX1 (q135 hI.T) rfl dX1_hasGuardIn_4 ?_
      refine lv_icmp_ge (tgt := 28) hx hb dX1_hasGuardIn_7 (by decide) (fun c2 => ?_) (fun c2 => ?_)
      · have hf := (if_pos c2).symm.trans hf
        exact hk () H _ _ hf hI (lv_sub hl [] rfl)
      · have hf := (if_neg c2).symm.trans hf
        refine lv_aload_n hx hb dX1_hasGuardIn_10 rfl (lv_at hl 0 rfl) ?_
        refine m_get (g := g) (i := 6) (ci := 0) (k := 5) (v := .ref (w.1 g 9)) hx hb hI hown (mokB hg (by decide) (by decide)) rfl rfl (by decide) lyX1 (q138 hI.T) rfl dX1_hasGuardIn_11 ?_
        refine lv_iload_n hx hb dX1_hasGuardIn_14 rfl (lv_at hl 2 rfl) ?_
        obtain ⟨hi, hf⟩ := mix_e hf
        refine m_iald (g := g) (i := 9) hx hb hI (mokB hg (by decide) (by decide)) rfl hi dX1_hasGuardIn_15 ?_
        refine lv_iload_n hx hb dX1_hasGuardIn_16 rfl (lv_at hl 1 rfl) ?_
        refine lv_icmp_ne (tgt := 22) hx hb dX1_hasGuardIn_17 (by decide) (fun c3 => ?_) (fun c3 => ?_)
        · have hf := (if_neg c3).symm.trans hf
          obtain ⟨x4, ex4, hf⟩ := mlet_e hf
          refine lv_iinc (v := x4) (lv' := [(2, .int x4), (0, .ref (w.1 g 6)), (1, .int a1)]) hx hb dX1_hasGuardIn_22 hl (k := 2) rfl (by rw [ex4]; rfl) (by decide) rfl (fun ls hl => ?_)
          refine lv_goto (tgt := 2) hx hb dX1_hasGuardIn_25 (by decide) ?_
          exact ih2 x4 kk H _ _ hf hI (lv_sub hl [1, 2, 0] rfl) hk
        · have hf := (if_pos c3).symm.trans hf
          refine lv_iconst (v := 1) hx hb dX1_hasGuardIn_20 (by decide) ?_
          exact m_zretp hx hb hr hlk hI rfl hf dX1_hasGuardIn_21
  refine hL2 1000 (0 : Int32) _ _ _ _ hf hI (lv_sub hl [1, 2, 0] rfl) ?_
  intro _u H locs ls hf hI hl
  try dsimp only at hf
  refine lv_iconst (v := 0) hx hb dX1_hasGuardIn_28 (by decide) ?_
  exact m_zretp hx hb hr hlk hI rfl hf dX1_hasGuardIn_29
abbrev rmX9_verdictOnAttempt : Room := { frames := 1, cells := 0, slots := 0, locals := 22 }
theorem kb_X9_verdictOnAttempt {R : Room} {s : State} {args : Array Value} {own : String} {idx : Nat} (hT : mT s) (hlink : (Cond.methodLink own idx yX9_verdictOnAttempt).before args s = true) (h1 : rmX9_verdictOnAttempt.frames + 1 ≤ R.frames) (h2 : 8 + (1 + 11) + rmX9_verdictOnAttempt.locals ≤ R.locals) : CallB R s args own idx yX9_verdictOnAttempt cX9_verdictOnAttempt 1 (some .int) [Cond.code yX9_verdictOnAttempt cX9_verdictOnAttempt 1 (some .int)] rmX9_verdictOnAttempt 0 0 0 := m_callB hT kc_X9_verdictOnAttempt ki_X9_verdictOnAttempt hlink (by decide +kernel) ⟨rfl, rfl, h1, h2⟩
set_option maxHeartbeats 4000000 in
set_option maxRecDepth 100000 in
theorem c_X9_verdictOnAttempt (l : Launch) (w : WD) (sz : Nat) (g : Nat) (hg : g ≤ 10) (M : Mem) (r : Int32) (hf : f_X9_verdictOnAttempt g M = some r) : mMet l yX9_verdictOnAttempt cX9_verdictOnAttempt 1 (some .int) rmX9_verdictOnAttempt w sz M [.ref (w.1 g 0)] (some (.int r)) M := by
  refine m_of (by decide) (Nat.le_of_ble_eq_true rfl) ?_
  intro p e s m args below meth c hx hb hr hml hown hlk hI ls hl
  have hl : lv_has ls 1 [(0, .ref (w.1 g 0))] := hl
  unfold f_X9_verdictOnAttempt at hf
  refine lv_aload_n hx hb dX9_verdictOnAttempt_0 rfl (lv_at hl 0 rfl) ?_
  refine m_get (g := g) (i := 0) (ci := 8) (k := 0) (v := .ref (w.1 g 1)) hx hb hI hown (mokS hg (by decide)) rfl rfl (by decide) lyX9 (q186 hI.T) rfl dX9_verdictOnAttempt_1 ?_
  refine m_get (g := g) (i := 1) (ci := 5) (k := 2) (v := .int (M g 1 2)) hx hb hI hown (mokS hg (by decide)) rfl rfl (by decide) lyX6 (q62 hI.T) rfl dX9_verdictOnAttempt_4 ?_
  refine lv_if_ne (tgt := 12) hx hb dX9_verdictOnAttempt_7 (by decide) (fun c1 => ?_) (fun c1 => ?_)
  · have hf := (if_neg c1).symm.trans hf
    refine lv_aload_n hx hb dX9_verdictOnAttempt_12 rfl (lv_at hl 0 rfl) ?_
    refine m_get (g := g) (i := 0) (ci := 8) (k := 1) (v := .ref (w.1 g 5)) hx hb hI hown (mokS hg (by decide)) rfl rfl (by decide) lyX9 (q188 hI.T) rfl dX9_verdictOnAttempt_13 ?_
    refine m_get (g := g) (i := 5) (ci := 2) (k := 0) (v := .int (M g 5 0)) hx hb hI hown (mokS hg (by decide)) rfl rfl (by decide) lyX3 (q99 hI.T) rfl dX9_verdictOnAttempt_16 ?_
    refine lv_if_eq (tgt := 25) hx hb dX9_verdictOnAttempt_19 (by decide) (fun c2 => ?_) (fun c2 => ?_)
    · have hf := (if_pos c2).symm.trans hf
      refine lv_aload_n hx hb dX9_verdictOnAttempt_25 rfl (lv_at hl 0 rfl) ?_
      refine m_get (g := g) (i := 0) (ci := 8) (k := 1) (v := .ref (w.1 g 5)) hx hb hI hown (mokS hg (by decide)) rfl rfl (by decide) lyX9 (q188 hI.T) rfl dX9_verdictOnAttempt_26 ?_
      refine m_get (g := g) (i := 5) (ci := 2) (k := 1) (v := .int (M g 5 1)) hx hb hI hown (mokS hg (by decide)) rfl rfl (by decide) lyX3 (q102 hI.T) rfl dX9_verdictOnAttempt_29 ?_
      refine lv_if_le (tgt := 38) hx hb dX9_verdictOnAttempt_32 (by decide) (fun c3 => ?_) (fun c3 => ?_)
      · have hf := (if_pos c3).symm.trans hf
        refine lv_aload_n hx hb dX9_verdictOnAttempt_38 rfl (lv_at hl 0 rfl) ?_
        refine m_get (g := g) (i := 0) (ci := 8) (k := 0) (v := .ref (w.1 g 1)) hx hb hI hown (mokS hg (by decide)) rfl rfl (by decide) lyX9 (q186 hI.T) rfl dX9_verdictOnAttempt_39 ?_
        obtain ⟨r4, hc, hf⟩ := mbp_e hf
        refine m_callV (As := []) (rest := []) hx hb hml hown hI (c_X6_areEnough l w s.heap.size g hg M _ hc) (kb_X6_areEnough hI.T (q873 hI.T) (Nat.le_of_ble_eq_true rfl) (Nat.le_of_ble_eq_true rfl)) (q538 hI.T) (q539 hI.T) (m_recv (g := g) (i := 1) hI (mokS hg (by decide)) rfl rfl) rfl hl.1 (Nat.le_of_ble_eq_true rfl) dX9_verdictOnAttempt_42 ⟨Nat.le_of_ble_eq_true rfl, Nat.le_of_ble_eq_true rfl⟩ (fun H locs hI => ?_)
        refine lv_if_ne (tgt := 51) hx hb dX9_verdictOnAttempt_45 (by decide) (fun c5 => ?_) (fun c5 => ?_)
        · have hf := (if_neg c5).symm.trans hf
          refine lv_aload_n hx hb dX9_verdictOnAttempt_51 rfl (lv_at hl 0 rfl) ?_
          refine m_get (g := g) (i := 0) (ci := 8) (k := 2) (v := .ref (w.1 g 6)) hx hb hI hown (mokS hg (by decide)) rfl rfl (by decide) lyX9 (q190 hI.T) rfl dX9_verdictOnAttempt_52 ?_
          refine lv_iconst (v := 0) hx hb dX9_verdictOnAttempt_55 (by decide) ?_
          obtain ⟨r6, hc, hf⟩ := mbp_e hf
          refine m_callV (As := [.int (0 : Int32)]) (rest := []) hx hb hml hown hI (c_X1_hasGuardIn l w H.size g (Nat.le_trans hg (by decide)) (0 : Int32) M _ hc) (kb_X1_hasGuardIn hI.T (q874 hI.T) (Nat.le_of_ble_eq_true rfl) (Nat.le_of_ble_eq_true rfl)) (q622 hI.T) (q623 hI.T) (m_recv (g := g) (i := 6) hI (mokS hg (by decide)) rfl rfl) rfl hl.1 (Nat.le_of_ble_eq_true rfl) dX9_verdictOnAttempt_56 ⟨Nat.le_of_ble_eq_true rfl, Nat.le_of_ble_eq_true rfl⟩ (fun H locs hI => ?_)
          refine lv_if_eq (tgt := 66) hx hb dX9_verdictOnAttempt_59 (by decide) (fun c7 => ?_) (fun c7 => ?_)
          · have hf := (if_pos c7).symm.trans hf
            refine lv_bipush (v := 9) hx hb dX9_verdictOnAttempt_66 (by decide) ?_
            exact m_iretp hx hb hr hlk hI hf dX9_verdictOnAttempt_68
          · have hf := (if_neg c7).symm.trans hf
            refine lv_iconst (v := 0) hx hb dX9_verdictOnAttempt_62 (by decide) ?_
            refine lv_goto (tgt := 68) hx hb dX9_verdictOnAttempt_63 (by decide) ?_
            exact m_iretp hx hb hr hlk hI hf dX9_verdictOnAttempt_68
        · have hf := (if_pos c5).symm.trans hf
          refine lv_bipush (v := 8) hx hb dX9_verdictOnAttempt_48 (by decide) ?_
          exact m_iretp hx hb hr hlk hI hf dX9_verdictOnAttempt_50
      · have hf := (if_neg c3).symm.trans hf
        refine lv_bipush (v := 7) hx hb dX9_verdictOnAttempt_35 (by decide) ?_
        exact m_iretp hx hb hr hlk hI hf dX9_verdictOnAttempt_37
    · have hf := (if_neg c2).symm.trans hf
      refine lv_bipush (v := 6) hx hb dX9_verdictOnAttempt_22 (by decide) ?_
      exact m_iretp hx hb hr hlk hI hf dX9_verdictOnAttempt_24
  · have hf := (if_pos c1).symm.trans hf
    refine lv_iconst (v := 3) hx hb dX9_verdictOnAttempt_10 (by decide) ?_
    exact m_iretp hx hb hr hlk hI hf dX9_verdictOnAttempt_11
abbrev rmX6_quotientsOf : Room := { frames := 0, cells := 0, slots := 0, locals := 0 }
theorem kb_X6_quotientsOf {R : Room} {s : State} {args : Array Value} {own : String} {idx : Nat} (hT : mT s) (hlink : (Cond.methodLink own idx yX6_quotientsOf).before args s = true) (h1 : rmX6_quotientsOf.frames + 1 ≤ R.frames) (h2 : 8 + (8 + 11) + rmX6_quotientsOf.locals ≤ R.locals) : CallB R s args own idx yX6_quotientsOf cX6_quotientsOf 8 (some .int) [Cond.code yX6_quotientsOf cX6_quotientsOf 8 (some .int)] rmX6_quotientsOf 0 0 3 := m_callB hT kc_X6_quotientsOf ki_X6_quotientsOf hlink (by decide +kernel) ⟨rfl, rfl, h1, h2⟩
set_option maxHeartbeats 4000000 in
set_option maxRecDepth 100000 in
theorem c_X6_quotientsOf (l : Launch) (w : WD) (sz : Nat) (g : Nat) (hg : g ≤ 10) (ga1 ia1 : Nat) (ho1 : mok ga1 ia1) (hn1 : mil ia1 = some 8) (a2 : Int32) (a3 : Int32) (M : Mem) (r : Int32) (hf : f_X6_quotientsOf g ga1 ia1 a2 a3 M = some r) : mMet l yX6_quotientsOf cX6_quotientsOf 8 (some .int) rmX6_quotientsOf w sz M [.ref (w.1 g 1), .ref (w.1 ga1 ia1), .int a2, .int a3] (some (.int r)) M := by
  refine m_of (by decide) (Nat.le_of_ble_eq_true rfl) ?_
  intro p e s m args below meth c hx hb hr hml hown hlk hI ls hl
  have hl : lv_has ls 8 [(0, .ref (w.1 g 1)), (1, .ref (w.1 ga1 ia1)), (2, .int a2), (3, .int a3)] := hl
  unfold f_X6_quotientsOf at hf
  refine lv_iload_n hx hb dX6_quotientsOf_0 rfl (lv_at hl 3 rfl) ?_
  refine lv_iconst (v := 1) hx hb dX6_quotientsOf_1 (by decide) ?_
  refine lv_isub hx hb dX6_quotientsOf_2 ?_
  refine lv_topi (fun x1 ex1 => ?_)
  have hf := mlet_s ex1 hf
  refine lv_istore (lv' := [(4, .int x1), (0, .ref (w.1 g 1)), (1, .ref (w.1 ga1 ia1)), (2, .int a2), (3, .int a3)]) hx hb dX6_quotientsOf_3 hl (by decide) rfl (fun ls hl => ?_)
  refine lv_iconst (v := 1) hx hb dX6_quotientsOf_5 (by decide) ?_
  refine lv_istore (lv' := [(5, .int (1 : Int32)), (4, .int x1), (0, .ref (w.1 g 1)), (1, .ref (w.1 ga1 ia1)), (2, .int a2), (3, .int a3)]) hx hb dX6_quotientsOf_6 hl (by decide) rfl (fun ls hl => ?_)
  refine lv_iconst (v := 1) hx hb dX6_quotientsOf_8 (by decide) ?_
  refine lv_istore (lv' := [(6, .int (1 : Int32)), (5, .int (1 : Int32)), (4, .int x1), (0, .ref (w.1 g 1)), (1, .ref (w.1 ga1 ia1)), (2, .int a2), (3, .int a3)]) hx hb dX6_quotientsOf_9 hl (by decide) rfl (fun ls hl => ?_)
  refine lv_iconst (v := 0) hx hb dX6_quotientsOf_11 (by decide) ?_
  refine lv_istore (lv' := [(7, .int (0 : Int32)), (6, .int (1 : Int32)), (5, .int (1 : Int32)), (4, .int x1), (0, .ref (w.1 g 1)), (1, .ref (w.1 ga1 ia1)), (2, .int a2), (3, .int a3)]) hx hb dX6_quotientsOf_12 hl (by decide) rfl (fun ls hl => ?_)
  have hL14 : ∀ (n : Nat) (x2 : Int32) (x3 : Int32) (x4 : Int32) (kk : Int32 → Int32 → Option Int32) (H : Heap) (locs : List Loc) (ls : Array Slot), f_X6_quotientsOf_L14 g ga1 ia1 a2 M x1 n x2 x3 x4 kk = some r → mI w s (mA w s.heap.size) H locs M → lv_has ls 8 [(0, .ref (w.1 g 1)), (1, .ref (w.1 ga1 ia1)), (2, .int a2), (4, .int x1), (5, .int x2), (6, .int x3), (7, .int x4)] → (∀ (x2 : Int32) (x3 : Int32) (H : Heap) (locs : List Loc) (ls : Array Slot), kk x2 x3 = some r → mI w s (mA w s.heap.size) H locs M → lv_has ls 8 [(5, .int x2), (6, .int x3)] → W p l e rmX6_quotientsOf s m args below meth c H locs 0 0 (MQ below (mQ w s.heap.size (some (.int r)) M) args s 0 0 (mA w s.heap.size)) (F0 m 72 ls [])) → W p l e rmX6_quotientsOf s m args below meth c H locs 0 0 (MQ below (mQ w s.heap.size (some (.int r)) M) args s 0 0 (mA w s.heap.size)) (F0 m 14 ls []) := by
    intro n
    induction n with
    | zero => intro x2 x3 x4 kk H locs ls hf hI hl hk; rw [f_X6_quotientsOf_L14.eq_1] at hf; cases hf
    | succ n ih14 =>
      intro x2 x3 x4 kk H locs ls hf hI hl hk
      rw [f_X6_quotientsOf_L14.eq_2] at hf
      refine lv_iload hx hb dX6_quotientsOf_14 (lv_at hl 6 rfl) ?_
      refine lv_aload_n hx hb dX6_quotientsOf_16 rfl (lv_at hl 0 rfl) ?_
      refine m_get (g := g) (i := 1) (ci := 5) (k := 3) (v := .int (M g 1 3)) hx hb hI hown (mokS hg (by decide)) rfl rfl (by decide) lyX6 (q64 hI.T) rfl dX6_quotientsOf_17 ?_
      refine lv_icmp_ge (tgt := 72) hx hb dX6_quotientsOf_20 (by decide) (fun c5 => ?_) (fun c5 => ?_)
      · have hf := (if_pos c5).symm.trans hf
        exact hk x2 x3 H _ _ hf hI (lv_sub hl [4, 5] rfl)
      · have hf := (if_neg c5).symm.trans hf
        refine lv_iload hx hb dX6_quotientsOf_23 (lv_at hl 6 rfl) ?_
        refine lv_iload_n hx hb dX6_quotientsOf_25 rfl (lv_at hl 2 rfl) ?_
        obtain ⟨k66_11, ek66_11, hf⟩ := mlet_e hf
        have hj66_11 : ∀ (x9 : Int32) (x10 : Int32) (H : Heap) (locs : List Loc) (ls : Array Slot), k66_11 x9 x10 = some r → mI w s (mA w s.heap.size) H locs M → lv_has ls 8 [(0, .ref (w.1 g 1)), (1, .ref (w.1 ga1 ia1)), (2, .int a2), (4, .int x1), (5, .int x9), (6, .int x10), (7, .int x4)] → W p l e rmX6_quotientsOf s m args below meth c H locs 0 0 (MQ below (mQ w s.heap.size (some (.int r)) M) args s 0 0 (mA w s.heap.size)) (F0 m 66 ls []) := by
          intro x9 x10 H locs ls hf hI hl
          rw [ek66_11] at hf
          try dsimp only at hf
          obtain ⟨x12, ex12, hf⟩ := mlet_e hf
          refine lv_iinc (v := x12) (lv' := [(7, .int x12), (0, .ref (w.1 g 1)), (1, .ref (w.1 ga1 ia1)), (2, .int a2), (4, .int x1), (5, .int x9), (6, .int x10)]) hx hb dX6_quotientsOf_66 hl (k := 6) rfl (by rw [ex12]; rfl) (by decide) rfl (fun ls hl => ?_)
          refine lv_goto (tgt := 14) hx hb dX6_quotientsOf_69 (by decide) ?_
          exact ih14 x9 x10 x12 kk H _ _ hf hI (lv_sub hl [1, 2, 3, 4, 5, 6, 0] rfl) hk
        refine lv_icmp_eq (tgt := 66) hx hb dX6_quotientsOf_26 (by decide) (fun c6 => ?_) (fun c6 => ?_)
        · have hf := (if_pos c6).symm.trans hf
          exact hj66_11 x2 x3 H _ _ hf hI (lv_sub hl [0, 1, 2, 3, 4, 5, 6] rfl)
        · have hf := (if_neg c6).symm.trans hf
          refine lv_iload hx hb dX6_quotientsOf_29 (lv_at hl 4 rfl) ?_
          refine lv_iload hx hb dX6_quotientsOf_31 (lv_at hl 3 rfl) ?_
          refine lv_aload_n hx hb dX6_quotientsOf_33 rfl (lv_at hl 1 rfl) ?_
          refine lv_iload hx hb dX6_quotientsOf_34 (lv_at hl 6 rfl) ?_
          obtain ⟨hi, hf⟩ := mix_e hf
          refine m_iald (g := ga1) (i := ia1) hx hb hI ho1 hn1 hi dX6_quotientsOf_36 ?_
          refine lv_isub hx hb dX6_quotientsOf_37 ?_
          refine lv_bipush (v := 97) hx hb dX6_quotientsOf_38 (by decide) ?_
          refine lv_iadd hx hb dX6_quotientsOf_40 ?_
          refine lv_imul hx hb dX6_quotientsOf_41 ?_
          refine lv_bipush (v := 97) hx hb dX6_quotientsOf_42 (by decide) ?_
          refine lv_irem hx hb dX6_quotientsOf_44 (by decide) ?_
          refine lv_topi (fun x7 ex7 => ?_)
          have hf := mlet_s ex7 hf
          refine lv_istore (lv' := [(5, .int x7), (0, .ref (w.1 g 1)), (1, .ref (w.1 ga1 ia1)), (2, .int a2), (4, .int x1), (6, .int x3), (7, .int x4)]) hx hb dX6_quotientsOf_45 hl (by decide) rfl (fun ls hl => ?_)
          refine lv_iload hx hb dX6_quotientsOf_47 (lv_at hl 5 rfl) ?_
          refine lv_aload_n hx hb dX6_quotientsOf_49 rfl (lv_at hl 2 rfl) ?_
          refine lv_iload_n hx hb dX6_quotientsOf_50 rfl (lv_at hl 3 rfl) ?_
          obtain ⟨hi, hf⟩ := mix_e hf
          refine m_iald (g := ga1) (i := ia1) hx hb hI ho1 hn1 hi dX6_quotientsOf_51 ?_
          refine lv_aload_n hx hb dX6_quotientsOf_52 rfl (lv_at hl 2 rfl) ?_
          refine lv_iload hx hb dX6_quotientsOf_53 (lv_at hl 6 rfl) ?_
          obtain ⟨hi, hf⟩ := mix_e hf
          refine m_iald (g := ga1) (i := ia1) hx hb hI ho1 hn1 hi dX6_quotientsOf_55 ?_
          refine lv_isub hx hb dX6_quotientsOf_56 ?_
          refine lv_bipush (v := 97) hx hb dX6_quotientsOf_57 (by decide) ?_
          refine lv_iadd hx hb dX6_quotientsOf_59 ?_
          refine lv_imul hx hb dX6_quotientsOf_60 ?_
          refine lv_bipush (v := 97) hx hb dX6_quotientsOf_61 (by decide) ?_
          refine lv_irem hx hb dX6_quotientsOf_63 (by decide) ?_
          refine lv_topi (fun x8 ex8 => ?_)
          have hf := mlet_s ex8 hf
          refine lv_istore (lv' := [(6, .int x8), (5, .int x7), (0, .ref (w.1 g 1)), (1, .ref (w.1 ga1 ia1)), (2, .int a2), (4, .int x1), (7, .int x4)]) hx hb dX6_quotientsOf_64 hl (by decide) rfl (fun ls hl => ?_)
          exact hj66_11 x7 x8 H _ _ hf hI (lv_sub hl [2, 3, 4, 5, 1, 0, 6] rfl)
  refine hL14 1000 (1 : Int32) (1 : Int32) (0 : Int32) _ _ _ _ hf hI (lv_sub hl [4, 5, 6, 3, 2, 1, 0] rfl) ?_
  intro x13 x14 H locs ls hf hI hl
  try dsimp only at hf
  refine lv_iload hx hb dX6_quotientsOf_72 (lv_at hl 0 rfl) ?_
  refine va_getsN hx hb hI.Zinv hI.S hown (q554 hI.T) (fun _ h => h) dX6_quotientsOf_74 ?_
  refine lv_iload hx hb dX6_quotientsOf_77 (lv_at hl 1 rfl) ?_
  obtain ⟨hi, hf⟩ := mix_e hf
  refine va_ti hx hb hI.Tinv hI.S hi rfl dX6_quotientsOf_79 ?_
  refine lv_imul hx hb dX6_quotientsOf_80 ?_
  refine lv_bipush (v := 97) hx hb dX6_quotientsOf_81 (by decide) ?_
  refine lv_irem hx hb dX6_quotientsOf_83 (by decide) ?_
  exact m_iretp hx hb hr hlk hI hf dX6_quotientsOf_84
abbrev rmX6_valueThrough : Room := { frames := 1, cells := 0, slots := 0, locals := 27 }
theorem kb_X6_valueThrough {R : Room} {s : State} {args : Array Value} {own : String} {idx : Nat} (hT : mT s) (hlink : (Cond.methodLink own idx yX6_valueThrough).before args s = true) (h1 : rmX6_valueThrough.frames + 1 ≤ R.frames) (h2 : 8 + (5 + 11) + rmX6_valueThrough.locals ≤ R.locals) : CallB R s args own idx yX6_valueThrough cX6_valueThrough 5 (some .int) [Cond.code yX6_valueThrough cX6_valueThrough 5 (some .int)] rmX6_valueThrough 0 0 2 := m_callB hT kc_X6_valueThrough ki_X6_valueThrough hlink (by decide +kernel) ⟨rfl, rfl, h1, h2⟩
set_option maxHeartbeats 4000000 in
set_option maxRecDepth 100000 in
theorem c_X6_valueThrough (l : Launch) (w : WD) (sz : Nat) (g : Nat) (hg : g ≤ 10) (ga1 ia1 : Nat) (ho1 : mok ga1 ia1) (hn1 : mil ia1 = some 8) (a2 : Int32) (M : Mem) (r : Int32) (hf : f_X6_valueThrough g ga1 ia1 a2 M = some r) : mMet l yX6_valueThrough cX6_valueThrough 5 (some .int) rmX6_valueThrough w sz M [.ref (w.1 g 1), .ref (w.1 ga1 ia1), .int a2] (some (.int r)) M := by
  refine m_of (by decide) (Nat.le_of_ble_eq_true rfl) ?_
  intro p e s m args below meth c hx hb hr hml hown hlk hI ls hl
  have hl : lv_has ls 5 [(0, .ref (w.1 g 1)), (1, .ref (w.1 ga1 ia1)), (2, .int a2)] := hl
  unfold f_X6_valueThrough at hf
  refine lv_iconst (v := 0) hx hb dX6_valueThrough_0 (by decide) ?_
  refine lv_istore_n (lv' := [(3, .int (0 : Int32)), (0, .ref (w.1 g 1)), (1, .ref (w.1 ga1 ia1)), (2, .int a2)]) hx hb dX6_valueThrough_1 rfl hl (by decide) rfl (fun ls hl => ?_)
  refine lv_iconst (v := 0) hx hb dX6_valueThrough_2 (by decide) ?_
  refine lv_istore (lv' := [(4, .int (0 : Int32)), (3, .int (0 : Int32)), (0, .ref (w.1 g 1)), (1, .ref (w.1 ga1 ia1)), (2, .int a2)]) hx hb dX6_valueThrough_3 hl (by decide) rfl (fun ls hl => ?_)
  have hL5 : ∀ (n : Nat) (x1 : Int32) (x2 : Int32) (kk : Int32 → Option Int32) (H : Heap) (locs : List Loc) (ls : Array Slot), f_X6_valueThrough_L5 g ga1 ia1 a2 M n x1 x2 kk = some r → mI w s (mA w s.heap.size) H locs M → lv_has ls 5 [(0, .ref (w.1 g 1)), (1, .ref (w.1 ga1 ia1)), (2, .int a2), (3, .int x1), (4, .int x2)] → (∀ (x1 : Int32) (H : Heap) (locs : List Loc) (ls : Array Slot), kk x1 = some r → mI w s (mA w s.heap.size) H locs M → lv_has ls 5 [(3, .int x1)] → W p l e rmX6_valueThrough s m args below meth c H locs 0 0 (MQ below (mQ w s.heap.size (some (.int r)) M) args s 0 0 (mA w s.heap.size)) (F0 m 41 ls [])) → W p l e rmX6_valueThrough s m args below meth c H locs 0 0 (MQ below (mQ w s.heap.size (some (.int r)) M) args s 0 0 (mA w s.heap.size)) (F0 m 5 ls []) := by
    intro n
    induction n with
    | zero => intro x1 x2 kk H locs ls hf hI hl hk; rw [f_X6_valueThrough_L5.eq_1] at hf; cases hf
    | succ n ih5 =>
      intro x1 x2 kk H locs ls hf hI hl hk
      rw [f_X6_valueThrough_L5.eq_2] at hf
      refine lv_iload hx hb dX6_valueThrough_5 (lv_at hl 4 rfl) ?_
      refine lv_aload_n hx hb dX6_valueThrough_7 rfl (lv_at hl 0 rfl) ?_
      refine m_get (g := g) (i := 1) (ci := 5) (k := 3) (v := .int (M g 1 3)) hx hb hI hown (mokS hg (by decide)) rfl rfl (by decide) lyX6 (q64 hI.T) rfl dX6_valueThrough_8 ?_
      refine lv_icmp_ge (tgt := 41) hx hb dX6_valueThrough_11 (by decide) (fun c3 => ?_) (fun c3 => ?_)
      · have hf := (if_pos c3).symm.trans hf
        exact hk x1 H _ _ hf hI (lv_sub hl [3] rfl)
      · have hf := (if_neg c3).symm.trans hf
        refine lv_iload_n hx hb dX6_valueThrough_14 rfl (lv_at hl 3 rfl) ?_
        refine lv_aload_n hx hb dX6_valueThrough_15 rfl (lv_at hl 0 rfl) ?_
        refine m_get (g := g) (i := 1) (ci := 5) (k := 1) (v := .ref (w.1 g 2)) hx hb hI hown (mokS hg (by decide)) rfl rfl (by decide) lyX6 (q57 hI.T) rfl dX6_valueThrough_16 ?_
        refine lv_aload_n hx hb dX6_valueThrough_19 rfl (lv_at hl 1 rfl) ?_
        refine lv_iload hx hb dX6_valueThrough_20 (lv_at hl 4 rfl) ?_
        obtain ⟨hi, hf⟩ := mix_e hf
        refine m_iald (g := ga1) (i := ia1) hx hb hI ho1 hn1 hi dX6_valueThrough_22 ?_
        obtain ⟨hi, hf⟩ := mix_e hf
        refine m_iald (g := g) (i := 2) hx hb hI (mokS hg (by decide)) rfl hi dX6_valueThrough_23 ?_
        refine lv_aload_n hx hb dX6_valueThrough_24 rfl (lv_at hl 0 rfl) ?_
        refine lv_aload_n hx hb dX6_valueThrough_25 rfl (lv_at hl 1 rfl) ?_
        refine lv_iload hx hb dX6_valueThrough_26 (lv_at hl 4 rfl) ?_
        refine lv_iload_n hx hb dX6_valueThrough_28 rfl (lv_at hl 2 rfl) ?_
        obtain ⟨r4, hc, hf⟩ := mbp_e hf
        refine m_callV (As := [.ref (w.1 ga1 ia1), .int x2, .int a2]) (rest := [.int (M g 2 (M ga1 ia1 x2.toNatClampNeg).toNatClampNeg), .int x1]) hx hb hml hown hI (c_X6_quotientsOf l w H.size g hg ga1 ia1 ho1 hn1 x2 a2 M _ hc) (kb_X6_quotientsOf hI.T (q550 hI.T) (Nat.le_of_ble_eq_true rfl) (Nat.le_of_ble_eq_true rfl)) (q552 hI.T) (sel_X6_quotientsOf hI.T) (m_recv (g := g) (i := 1) hI (mokS hg (by decide)) rfl rfl) rfl hl.1 (Nat.le_of_ble_eq_true rfl) dX6_valueThrough_29 ⟨Nat.le_of_ble_eq_true rfl, Nat.le_of_ble_eq_true rfl⟩ (fun H locs hI => ?_)
        refine lv_imul hx hb dX6_valueThrough_32 ?_
        refine lv_iadd hx hb dX6_valueThrough_33 ?_
        refine lv_topi (fun x5 ex5 => ?_)
        have hf := mlet_s ex5 hf
        refine lv_istore_n (lv' := [(3, .int x5), (0, .ref (w.1 g 1)), (1, .ref (w.1 ga1 ia1)), (2, .int a2), (4, .int x2)]) hx hb dX6_valueThrough_34 rfl hl (by decide) rfl (fun ls hl => ?_)
        obtain ⟨x6, ex6, hf⟩ := mlet_e hf
        refine lv_iinc (v := x6) (lv' := [(4, .int x6), (3, .int x5), (0, .ref (w.1 g 1)), (1, .ref (w.1 ga1 ia1)), (2, .int a2)]) hx hb dX6_valueThrough_35 hl (k := 4) rfl (by rw [ex6]; rfl) (by decide) rfl (fun ls hl => ?_)
        refine lv_goto (tgt := 5) hx hb dX6_valueThrough_38 (by decide) ?_
        exact ih5 x5 x6 kk H _ _ hf hI (lv_sub hl [2, 3, 4, 1, 0] rfl) hk
  refine hL5 1000 (0 : Int32) (0 : Int32) _ _ _ _ hf hI (lv_sub hl [2, 3, 4, 1, 0] rfl) ?_
  intro x7 H locs ls hf hI hl
  try dsimp only at hf
  refine lv_iload_n hx hb dX6_valueThrough_41 rfl (lv_at hl 0 rfl) ?_
  refine lv_bipush (v := 97) hx hb dX6_valueThrough_42 (by decide) ?_
  refine lv_irem hx hb dX6_valueThrough_44 (by decide) ?_
  exact m_iretp hx hb hr hlk hI hf dX6_valueThrough_45
abbrev rmX6_isOneCurve : Room := { frames := 2, cells := 0, slots := 0, locals := 51 }
theorem kb_X6_isOneCurve {R : Room} {s : State} {args : Array Value} {own : String} {idx : Nat} (hT : mT s) (hlink : (Cond.methodLink own idx yX6_isOneCurve).before args s = true) (h1 : rmX6_isOneCurve.frames + 1 ≤ R.frames) (h2 : 8 + (5 + 11) + rmX6_isOneCurve.locals ≤ R.locals) : CallB R s args own idx yX6_isOneCurve cX6_isOneCurve 5 (some .boolean) [Cond.code yX6_isOneCurve cX6_isOneCurve 5 (some .boolean)] rmX6_isOneCurve 0 0 2 := m_callB hT kc_X6_isOneCurve ki_X6_isOneCurve hlink (by decide +kernel) ⟨rfl, rfl, h1, h2⟩
set_option maxHeartbeats 4000000 in
set_option maxRecDepth 100000 in
theorem c_X6_isOneCurve (l : Launch) (w : WD) (sz : Nat) (g : Nat) (hg : g ≤ 10) (ga1 ia1 : Nat) (ho1 : mok ga1 ia1) (hn1 : mil ia1 = some 8) (a2 : Int32) (M : Mem) (r : Int32) (hf : f_X6_isOneCurve g ga1 ia1 a2 M = some r) : mMet l yX6_isOneCurve cX6_isOneCurve 5 (some .boolean) rmX6_isOneCurve w sz M [.ref (w.1 g 1), .ref (w.1 ga1 ia1), .int a2] (some (.int r)) M := by
  refine m_of (by decide) (Nat.le_of_ble_eq_true rfl) ?_
  intro p e s m args below meth c hx hb hr hml hown hlk hI ls hl
  have hl : lv_has ls 5 [(0, .ref (w.1 g 1)), (1, .ref (w.1 ga1 ia1)), (2, .int a2)] := hl
  unfold f_X6_isOneCurve at hf
  refine lv_aload_n hx hb dX6_isOneCurve_0 rfl (lv_at hl 0 rfl) ?_
  refine m_get (g := g) (i := 1) (ci := 5) (k := 3) (v := .int (M g 1 3)) hx hb hI hown (mokS hg (by decide)) rfl rfl (by decide) lyX6 (q64 hI.T) rfl dX6_isOneCurve_1 ?_
  refine lv_topi (fun x1 ex1 => ?_)
  have hf := mlet_s ex1 hf
  refine lv_istore_n (lv' := [(3, .int x1), (0, .ref (w.1 g 1)), (1, .ref (w.1 ga1 ia1)), (2, .int a2)]) hx hb dX6_isOneCurve_4 rfl hl (by decide) rfl (fun ls hl => ?_)
  have hL5 : ∀ (n : Nat) (x2 : Int32) (kk : Unit → Option Int32) (H : Heap) (locs : List Loc) (ls : Array Slot), f_X6_isOneCurve_L5 g ga1 ia1 a2 M n x2 kk = some r → mI w s (mA w s.heap.size) H locs M → lv_has ls 5 [(0, .ref (w.1 g 1)), (1, .ref (w.1 ga1 ia1)), (2, .int a2), (3, .int x2)] → (∀ (_u : Unit) (H : Heap) (locs : List Loc) (ls : Array Slot), kk () = some r → mI w s (mA w s.heap.size) H locs M → lv_has ls 5 [] → W p l e rmX6_isOneCurve s m args below meth c H locs 0 0 (MQ below (mQ w s.heap.size (some (.int r)) M) args s 0 0 (mA w s.heap.size)) (F0 m 43 ls [])) → W p l e rmX6_isOneCurve s m args below meth c H locs 0 0 (MQ below (mQ w s.heap.size (some (.int r)) M) args s 0 0 (mA w s.heap.size)) (F0 m 5 ls []) := by
    intro n
    induction n with
    | zero => intro x2 kk H locs ls hf hI hl hk; rw [f_X6_isOneCurve_L5.eq_1] at hf; cases hf
    | succ n ih5 =>
      intro x2 kk H locs ls hf hI hl hk
      rw [f_X6_isOneCurve_L5.eq_2] at hf
      refine lv_iload_n hx hb dX6_isOneCurve_5 rfl (lv_at hl 3 rfl) ?_
      refine lv_iload_n hx hb dX6_isOneCurve_6 rfl (lv_at hl 2 rfl) ?_
      refine lv_icmp_ge (tgt := 43) hx hb dX6_isOneCurve_7 (by decide) (fun c3 => ?_) (fun c3 => ?_)
      · have hf := (if_pos c3).symm.trans hf
        exact hk () H _ _ hf hI (lv_sub hl [] rfl)
      · have hf := (if_neg c3).symm.trans hf
        refine lv_aload_n hx hb dX6_isOneCurve_10 rfl (lv_at hl 1 rfl) ?_
        refine lv_iload_n hx hb dX6_isOneCurve_11 rfl (lv_at hl 3 rfl) ?_
        obtain ⟨hi, hf⟩ := mix_e hf
        refine m_iald (g := ga1) (i := ia1) hx hb hI ho1 hn1 hi dX6_isOneCurve_12 ?_
        refine lv_topi (fun x4 ex4 => ?_)
        have hf := mlet_s ex4 hf
        refine lv_istore (lv' := [(4, .int x4), (0, .ref (w.1 g 1)), (1, .ref (w.1 ga1 ia1)), (2, .int a2), (3, .int x2)]) hx hb dX6_isOneCurve_13 hl (by decide) rfl (fun ls hl => ?_)
        refine lv_aload_n hx hb dX6_isOneCurve_15 rfl (lv_at hl 1 rfl) ?_
        refine m_get (g := g) (i := 1) (ci := 5) (k := 1) (v := .ref (w.1 g 2)) hx hb hI hown (mokS hg (by decide)) rfl rfl (by decide) lyX6 (q57 hI.T) rfl dX6_isOneCurve_16 ?_
        refine lv_iload hx hb dX6_isOneCurve_19 (lv_at hl 0 rfl) ?_
        obtain ⟨hi, hf⟩ := mix_e hf
        refine m_iald (g := g) (i := 2) hx hb hI (mokS hg (by decide)) rfl hi dX6_isOneCurve_21 ?_
        refine lv_aload_n hx hb dX6_isOneCurve_22 rfl (lv_at hl 1 rfl) ?_
        refine lv_aload_n hx hb dX6_isOneCurve_23 rfl (lv_at hl 2 rfl) ?_
        refine lv_iload hx hb dX6_isOneCurve_24 (lv_at hl 0 rfl) ?_
        obtain ⟨r5, hc, hf⟩ := mbp_e hf
        refine m_callS (As := [.int x4]) (rest := [.ref (w.1 ga1 ia1), .ref (w.1 g 1), .int (M g 2 x4.toNatClampNeg)]) hx hb hml hown hI (c_X6_positionOf l w H.size x4 M _ hc) (kb_X6_positionOf hI.T (q571 hI.T) (Nat.le_of_ble_eq_true rfl) (Nat.le_of_ble_eq_true rfl)) (q572 hI.T) rfl hl.1 (Nat.le_of_ble_eq_true rfl) dX6_isOneCurve_26 ⟨Nat.le_of_ble_eq_true rfl, Nat.le_of_ble_eq_true rfl⟩ (fun H locs hI => ?_)
        obtain ⟨r6, hc, hf⟩ := mbp_e hf
        refine m_callV (As := [.ref (w.1 ga1 ia1), .int r5]) (rest := [.int (M g 2 x4.toNatClampNeg)]) hx hb hml hown hI (c_X6_valueThrough l w H.size g hg ga1 ia1 ho1 hn1 r5 M _ hc) (kb_X6_valueThrough hI.T (q546 hI.T) (Nat.le_of_ble_eq_true rfl) (Nat.le_of_ble_eq_true rfl)) (q548 hI.T) (sel_X6_valueThrough hI.T) (m_recv (g := g) (i := 1) hI (mokS hg (by decide)) rfl rfl) rfl hl.1 (Nat.le_of_ble_eq_true rfl) dX6_isOneCurve_29 ⟨Nat.le_of_ble_eq_true rfl, Nat.le_of_ble_eq_true rfl⟩ (fun H locs hI => ?_)
        refine lv_icmp_eq (tgt := 37) hx hb dX6_isOneCurve_32 (by decide) (fun c7 => ?_) (fun c7 => ?_)
        · have hf := (if_pos c7).symm.trans hf
          obtain ⟨x8, ex8, hf⟩ := mlet_e hf
          refine lv_iinc (v := x8) (lv' := [(3, .int x8), (4, .int x4), (0, .ref (w.1 g 1)), (1, .ref (w.1 ga1 ia1)), (2, .int a2)]) hx hb dX6_isOneCurve_37 hl (k := 4) rfl (by rw [ex8]; rfl) (by decide) rfl (fun ls hl => ?_)
          refine lv_goto (tgt := 5) hx hb dX6_isOneCurve_40 (by decide) ?_
          exact ih5 x8 kk H _ _ hf hI (lv_sub hl [2, 3, 4, 0] rfl) hk
        · have hf := (if_neg c7).symm.trans hf
          refine lv_iconst (v := 0) hx hb dX6_isOneCurve_35 (by decide) ?_
          exact m_zretp hx hb hr hlk hI rfl hf dX6_isOneCurve_36
  refine hL5 1000 x1 _ _ _ _ hf hI (lv_sub hl [1, 2, 3, 0] rfl) ?_
  intro _u H locs ls hf hI hl
  try dsimp only at hf
  refine lv_iconst (v := 1) hx hb dX6_isOneCurve_43 (by decide) ?_
  exact m_zretp hx hb hr hlk hI rfl hf dX6_isOneCurve_44
abbrev rmX6_toldAt : Room := { frames := 2, cells := 0, slots := 0, locals := 51 }
theorem kb_X6_toldAt {R : Room} {s : State} {args : Array Value} {own : String} {idx : Nat} (hT : mT s) (hlink : (Cond.methodLink own idx yX6_toldAt).before args s = true) (h1 : rmX6_toldAt.frames + 1 ≤ R.frames) (h2 : 8 + (2 + 11) + rmX6_toldAt.locals ≤ R.locals) : CallB R s args own idx yX6_toldAt cX6_toldAt 2 (some .int) [Cond.code yX6_toldAt cX6_toldAt 2 (some .int)] rmX6_toldAt 0 0 1 := m_callB hT kc_X6_toldAt ki_X6_toldAt hlink (by decide +kernel) ⟨rfl, rfl, h1, h2⟩
set_option maxHeartbeats 4000000 in
set_option maxRecDepth 100000 in
theorem c_X6_toldAt (l : Launch) (w : WD) (sz : Nat) (g : Nat) (hg : g ≤ 10) (a1 : Int32) (M : Mem) (r : Int32) (hf : f_X6_toldAt g a1 M = some r) : mMet l yX6_toldAt cX6_toldAt 2 (some .int) rmX6_toldAt w sz M [.ref (w.1 g 1), .int a1] (some (.int r)) M := by
  refine m_of (by decide) (Nat.le_of_ble_eq_true rfl) ?_
  intro p e s m args below meth c hx hb hr hml hown hlk hI ls hl
  have hl : lv_has ls 2 [(0, .ref (w.1 g 1)), (1, .int a1)] := hl
  unfold f_X6_toldAt at hf
  refine lv_aload_n hx hb dX6_toldAt_0 rfl (lv_at hl 0 rfl) ?_
  refine lv_aload_n hx hb dX6_toldAt_1 rfl (lv_at hl 0 rfl) ?_
  refine m_get (g := g) (i := 1) (ci := 5) (k := 6) (v := .ref (w.1 g 4)) hx hb hI hown (mokS hg (by decide)) rfl rfl (by decide) lyX6 (q73 hI.T) rfl dX6_toldAt_2 ?_
  refine lv_iload_n hx hb dX6_toldAt_5 rfl (lv_at hl 1 rfl) ?_
  obtain ⟨r1, hc, hf⟩ := mbp_e hf
  refine m_callV (As := [.ref (w.1 g 4), .int a1]) (rest := []) hx hb hml hown hI (c_X6_valueThrough l w s.heap.size g hg g 4 (mokS hg (by decide)) rfl a1 M _ hc) (kb_X6_valueThrough hI.T (q546 hI.T) (Nat.le_of_ble_eq_true rfl) (Nat.le_of_ble_eq_true rfl)) (q548 hI.T) (sel_X6_valueThrough hI.T) (m_recv (g := g) (i := 1) hI (mokS hg (by decide)) rfl rfl) rfl hl.1 (Nat.le_of_ble_eq_true rfl) dX6_toldAt_6 ⟨Nat.le_of_ble_eq_true rfl, Nat.le_of_ble_eq_true rfl⟩ (fun H locs hI => ?_)
  exact m_iretp hx hb hr hlk hI hf dX6_toldAt_9
abbrev rmX6_tellTheSecret : Room := { frames := 3, cells := 0, slots := 0, locals := 75 }
theorem kb_X6_tellTheSecret {R : Room} {s : State} {args : Array Value} {own : String} {idx : Nat} (hT : mT s) (hlink : (Cond.methodLink own idx yX6_tellTheSecret).before args s = true) (h1 : rmX6_tellTheSecret.frames + 1 ≤ R.frames) (h2 : 8 + (1 + 11) + rmX6_tellTheSecret.locals ≤ R.locals) : CallB R s args own idx yX6_tellTheSecret cX6_tellTheSecret 1 (some .boolean) [Cond.code yX6_tellTheSecret cX6_tellTheSecret 1 (some .boolean)] rmX6_tellTheSecret 0 0 0 := m_callB hT kc_X6_tellTheSecret ki_X6_tellTheSecret hlink (by decide +kernel) ⟨rfl, rfl, h1, h2⟩
set_option maxHeartbeats 4000000 in
set_option maxRecDepth 100000 in
theorem c_X6_tellTheSecret (l : Launch) (w : WD) (sz : Nat) (g : Nat) (hg : g ≤ 10) (M : Mem) (r : Int32) (hf : f_X6_tellTheSecret g M = some r) : mMet l yX6_tellTheSecret cX6_tellTheSecret 1 (some .boolean) rmX6_tellTheSecret w sz M [.ref (w.1 g 1)] (some (.int r)) M := by
  refine m_of (by decide) (Nat.le_of_ble_eq_true rfl) ?_
  intro p e s m args below meth c hx hb hr hml hown hlk hI ls hl
  have hl : lv_has ls 1 [(0, .ref (w.1 g 1))] := hl
  unfold f_X6_tellTheSecret at hf
  refine lv_aload_n hx hb dX6_tellTheSecret_0 rfl (lv_at hl 0 rfl) ?_
  refine lv_aload_n hx hb dX6_tellTheSecret_1 rfl (lv_at hl 0 rfl) ?_
  refine m_get (g := g) (i := 1) (ci := 5) (k := 6) (v := .ref (w.1 g 4)) hx hb hI hown (mokS hg (by decide)) rfl rfl (by decide) lyX6 (q73 hI.T) rfl dX6_tellTheSecret_2 ?_
  refine lv_aload_n hx hb dX6_tellTheSecret_5 rfl (lv_at hl 0 rfl) ?_
  refine m_get (g := g) (i := 1) (ci := 5) (k := 5) (v := .int (M g 1 5)) hx hb hI hown (mokS hg (by decide)) rfl rfl (by decide) lyX6 (q69 hI.T) rfl dX6_tellTheSecret_6 ?_
  obtain ⟨r1, hc, hf⟩ := mbp_e hf
  refine m_callV (As := [.ref (w.1 g 4), .int (M g 1 5)]) (rest := []) hx hb hml hown hI (c_X6_isOneCurve l w s.heap.size g hg g 4 (mokS hg (by decide)) rfl (M g 1 5) M _ hc) (kb_X6_isOneCurve hI.T (q567 hI.T) (Nat.le_of_ble_eq_true rfl) (Nat.le_of_ble_eq_true rfl)) (q568 hI.T) (q569 hI.T) (m_recv (g := g) (i := 1) hI (mokS hg (by decide)) rfl rfl) rfl hl.1 (Nat.le_of_ble_eq_true rfl) dX6_tellTheSecret_9 ⟨Nat.le_of_ble_eq_true rfl, Nat.le_of_ble_eq_true rfl⟩ (fun H locs hI => ?_)
  refine lv_if_eq (tgt := 33) hx hb dX6_tellTheSecret_12 (by decide) (fun c2 => ?_) (fun c2 => ?_)
  · have hf := (if_pos c2).symm.trans hf
    refine lv_iconst (v := 0) hx hb dX6_tellTheSecret_33 (by decide) ?_
    exact m_zretp hx hb hr hlk hI rfl hf dX6_tellTheSecret_34
  · have hf := (if_neg c2).symm.trans hf
    refine lv_aload_n hx hb dX6_tellTheSecret_15 rfl (lv_at hl 0 rfl) ?_
    refine lv_iconst (v := 0) hx hb dX6_tellTheSecret_16 (by decide) ?_
    obtain ⟨r3, hc, hf⟩ := mbp_e hf
    refine m_callV (As := [.int (0 : Int32)]) (rest := []) hx hb hml hown hI (c_X6_toldAt l w H.size g hg (0 : Int32) M _ hc) (kb_X6_toldAt hI.T (q879 hI.T) (Nat.le_of_ble_eq_true rfl) (Nat.le_of_ble_eq_true rfl)) (q543 hI.T) (q544 hI.T) (m_recv (g := g) (i := 1) hI (mokS hg (by decide)) rfl rfl) rfl hl.1 (Nat.le_of_ble_eq_true rfl) dX6_tellTheSecret_17 ⟨Nat.le_of_ble_eq_true rfl, Nat.le_of_ble_eq_true rfl⟩ (fun H locs hI => ?_)
    refine lv_aload_n hx hb dX6_tellTheSecret_20 rfl (lv_at hl 0 rfl) ?_
    refine m_get (g := g) (i := 1) (ci := 5) (k := 4) (v := .ref (w.1 g 3)) hx hb hI hown (mokS hg (by decide)) rfl rfl (by decide) lyX6 (q68 hI.T) rfl dX6_tellTheSecret_21 ?_
    refine lv_iconst (v := 0) hx hb dX6_tellTheSecret_24 (by decide) ?_
    obtain ⟨hi, hf⟩ := mix_e hf
    refine m_iald (g := g) (i := 3) hx hb hI (mokS hg (by decide)) rfl hi dX6_tellTheSecret_25 ?_
    refine lv_icmp_ne (tgt := 33) hx hb dX6_tellTheSecret_26 (by decide) (fun c4 => ?_) (fun c4 => ?_)
    · have hf := (if_neg c4).symm.trans hf
      refine lv_iconst (v := 0) hx hb dX6_tellTheSecret_33 (by decide) ?_
      exact m_zretp hx hb hr hlk hI rfl hf dX6_tellTheSecret_34
    · have hf := (if_pos c4).symm.trans hf
      refine lv_iconst (v := 1) hx hb dX6_tellTheSecret_29 (by decide) ?_
      refine lv_goto (tgt := 34) hx hb dX6_tellTheSecret_30 (by decide) ?_
      exact m_zretp hx hb hr hlk hI rfl hf dX6_tellTheSecret_34
abbrev rmX3_swingOpen : Room := { frames := 0, cells := 0, slots := 0, locals := 0 }
theorem kb_X3_swingOpen {R : Room} {s : State} {args : Array Value} {own : String} {idx : Nat} (hT : mT s) (hlink : (Cond.methodLink own idx yX3_swingOpen).before args s = true) (h1 : rmX3_swingOpen.frames + 1 ≤ R.frames) (h2 : 8 + (1 + 11) + rmX3_swingOpen.locals ≤ R.locals) : CallB R s args own idx yX3_swingOpen cX3_swingOpen 1 (none) [Cond.code yX3_swingOpen cX3_swingOpen 1 (none)] rmX3_swingOpen 0 0 0 := m_callB hT kc_X3_swingOpen ki_X3_swingOpen hlink (by decide +kernel) ⟨rfl, rfl, h1, h2⟩
set_option maxHeartbeats 4000000 in
set_option maxRecDepth 100000 in
theorem c_X3_swingOpen (l : Launch) (w : WD) (sz : Nat) (g : Nat) (hg : g ≤ 10) (M : Mem) (r : Unit) (M9 : Mem) (hf : f_X3_swingOpen g M = some (r, M9)) : mMet l yX3_swingOpen cX3_swingOpen 1 (none) rmX3_swingOpen w sz M [.ref (w.1 g 5)] none M9 := by
  refine m_of (by decide) (Nat.le_of_ble_eq_true rfl) ?_
  intro p e s m args below meth c hx hb hr hml hown hlk hI ls hl
  have hl : lv_has ls 1 [(0, .ref (w.1 g 5))] := hl
  unfold f_X3_swingOpen at hf
  refine lv_aload_n hx hb dX3_swingOpen_0 rfl (lv_at hl 0 rfl) ?_
  refine lv_iconst (v := 1) hx hb dX3_swingOpen_1 (by decide) ?_
  obtain ⟨M1, eM1, hf⟩ := mlet_e hf
  refine m_put (g := g) (i := 5) (ci := 2) (k := 0) (ty := .boolean) (M1 := M1) hx hb hI hown (mokS hg (by decide)) rfl rfl (by decide) lyX3 tyX3 tyX3_ok nmX3 (q98 hI.T) rfl rfl rfl rfl (Nat.le_of_ble_eq_true rfl) rfl eM1 dX3_swingOpen_2 (fun H locs hI => ?_)
  refine lv_aload_n hx hb dX3_swingOpen_5 rfl (lv_at hl 0 rfl) ?_
  refine lv_iconst (v := 0) hx hb dX3_swingOpen_6 (by decide) ?_
  obtain ⟨M2, eM2, hf⟩ := mlet_e hf
  refine m_put (g := g) (i := 5) (ci := 2) (k := 2) (ty := .int) (M1 := M2) hx hb hI hown (mokS hg (by decide)) rfl rfl (by decide) lyX3 tyX3 tyX3_ok nmX3 (q104 hI.T) rfl rfl rfl rfl (Nat.le_of_ble_eq_true rfl) rfl eM2 dX3_swingOpen_7 (fun H locs hI => ?_)
  refine lv_aload_n hx hb dX3_swingOpen_10 rfl (lv_at hl 0 rfl) ?_
  refine lv_dup hx hb dX3_swingOpen_11 rfl ?_
  refine m_get (g := g) (i := 5) (ci := 2) (k := 3) (v := .int (M2 g 5 3)) hx hb hI hown (mokS hg (by decide)) rfl rfl (by decide) lyX3 (q107 hI.T) rfl dX3_swingOpen_12 ?_
  refine lv_iconst (v := 1) hx hb dX3_swingOpen_15 (by decide) ?_
  refine lv_iadd hx hb dX3_swingOpen_16 ?_
  obtain ⟨M3, eM3, hf⟩ := mlet_e hf
  refine m_put (g := g) (i := 5) (ci := 2) (k := 3) (ty := .int) (M1 := M3) hx hb hI hown (mokS hg (by decide)) rfl rfl (by decide) lyX3 tyX3 tyX3_ok nmX3 (q107 hI.T) rfl rfl rfl rfl (Nat.le_of_ble_eq_true rfl) rfl eM3 dX3_swingOpen_17 (fun H locs hI => ?_)
  exact m_vretf hx hb hr hlk hI hf dX3_swingOpen_20
abbrev rmX3_countFailure : Room := { frames := 0, cells := 0, slots := 0, locals := 0 }
theorem kb_X3_countFailure {R : Room} {s : State} {args : Array Value} {own : String} {idx : Nat} (hT : mT s) (hlink : (Cond.methodLink own idx yX3_countFailure).before args s = true) (h1 : rmX3_countFailure.frames + 1 ≤ R.frames) (h2 : 8 + (1 + 11) + rmX3_countFailure.locals ≤ R.locals) : CallB R s args own idx yX3_countFailure cX3_countFailure 1 (none) [Cond.code yX3_countFailure cX3_countFailure 1 (none)] rmX3_countFailure 0 0 0 := m_callB hT kc_X3_countFailure ki_X3_countFailure hlink (by decide +kernel) ⟨rfl, rfl, h1, h2⟩
set_option maxHeartbeats 4000000 in
set_option maxRecDepth 100000 in
theorem c_X3_countFailure (l : Launch) (w : WD) (sz : Nat) (g : Nat) (hg : g ≤ 10) (M : Mem) (r : Unit) (M9 : Mem) (hf : f_X3_countFailure g M = some (r, M9)) : mMet l yX3_countFailure cX3_countFailure 1 (none) rmX3_countFailure w sz M [.ref (w.1 g 5)] none M9 := by
  refine m_of (by decide) (Nat.le_of_ble_eq_true rfl) ?_
  intro p e s m args below meth c hx hb hr hml hown hlk hI ls hl
  have hl : lv_has ls 1 [(0, .ref (w.1 g 5))] := hl
  unfold f_X3_countFailure at hf
  refine lv_aload_n hx hb dX3_countFailure_0 rfl (lv_at hl 0 rfl) ?_
  refine lv_dup hx hb dX3_countFailure_1 rfl ?_
  refine m_get (g := g) (i := 5) (ci := 2) (k := 2) (v := .int (M g 5 2)) hx hb hI hown (mokS hg (by decide)) rfl rfl (by decide) lyX3 (q104 hI.T) rfl dX3_countFailure_2 ?_
  refine lv_iconst (v := 1) hx hb dX3_countFailure_5 (by decide) ?_
  refine lv_iadd hx hb dX3_countFailure_6 ?_
  obtain ⟨M1, eM1, hf⟩ := mlet_e hf
  refine m_put (g := g) (i := 5) (ci := 2) (k := 2) (ty := .int) (M1 := M1) hx hb hI hown (mokS hg (by decide)) rfl rfl (by decide) lyX3 tyX3 tyX3_ok nmX3 (q104 hI.T) rfl rfl rfl rfl (Nat.le_of_ble_eq_true rfl) rfl eM1 dX3_countFailure_7 (fun H locs hI => ?_)
  refine lv_aload_n hx hb dX3_countFailure_10 rfl (lv_at hl 0 rfl) ?_
  refine m_get (g := g) (i := 5) (ci := 2) (k := 2) (v := .int (M1 g 5 2)) hx hb hI hown (mokS hg (by decide)) rfl rfl (by decide) lyX3 (q104 hI.T) rfl dX3_countFailure_11 ?_
  refine lv_iconst (v := 3) hx hb dX3_countFailure_14 (by decide) ?_
  refine lv_icmp_ne (tgt := 29) hx hb dX3_countFailure_15 (by decide) (fun c2 => ?_) (fun c2 => ?_)
  · have hf := (if_neg c2).symm.trans hf
    exact m_vretf hx hb hr hlk hI hf dX3_countFailure_29
  · have hf := (if_pos c2).symm.trans hf
    refine lv_aload_n hx hb dX3_countFailure_18 rfl (lv_at hl 0 rfl) ?_
    refine lv_iconst (v := 0) hx hb dX3_countFailure_19 (by decide) ?_
    obtain ⟨M3, eM3, hf⟩ := mlet_e hf
    refine m_put (g := g) (i := 5) (ci := 2) (k := 2) (ty := .int) (M1 := M3) hx hb hI hown (mokS hg (by decide)) rfl rfl (by decide) lyX3 tyX3 tyX3_ok nmX3 (q104 hI.T) rfl rfl rfl rfl (Nat.le_of_ble_eq_true rfl) rfl eM3 dX3_countFailure_20 (fun H locs hI => ?_)
    refine lv_aload_n hx hb dX3_countFailure_23 rfl (lv_at hl 0 rfl) ?_
    refine lv_bipush (v := 6) hx hb dX3_countFailure_24 (by decide) ?_
    obtain ⟨M4, eM4, hf⟩ := mlet_e hf
    refine m_put (g := g) (i := 5) (ci := 2) (k := 1) (ty := .int) (M1 := M4) hx hb hI hown (mokS hg (by decide)) rfl rfl (by decide) lyX3 tyX3 tyX3_ok nmX3 (q101 hI.T) rfl rfl rfl rfl (Nat.le_of_ble_eq_true rfl) rfl eM4 dX3_countFailure_26 (fun H locs hI => ?_)
    exact m_vretf hx hb hr hlk hI hf dX3_countFailure_29
abbrev rmX5_dropOldest : Room := { frames := 1, cells := 0, slots := 0, locals := 40 }
theorem kb_X5_dropOldest {R : Room} {s : State} {args : Array Value} {own : String} {idx : Nat} (hT : mT s) (hlink : (Cond.methodLink own idx yX5_dropOldest).before args s = true) (h1 : rmX5_dropOldest.frames + 1 ≤ R.frames) (h2 : 8 + (1 + 11) + rmX5_dropOldest.locals ≤ R.locals) : CallB R s args own idx yX5_dropOldest cX5_dropOldest 1 (none) [Cond.code yX5_dropOldest cX5_dropOldest 1 (none)] rmX5_dropOldest 0 0 0 := m_callB hT kc_X5_dropOldest ki_X5_dropOldest hlink (by decide +kernel) ⟨rfl, rfl, h1, h2⟩
set_option maxHeartbeats 4000000 in
set_option maxRecDepth 100000 in
theorem c_X5_dropOldest (l : Launch) (w : WD) (sz : Nat) (g : Nat) (hg : g ≤ 10) (M : Mem) (r : Unit) (M9 : Mem) (hf : f_X5_dropOldest g M = some (r, M9)) : mMet l yX5_dropOldest cX5_dropOldest 1 (none) rmX5_dropOldest w sz M [.ref (w.1 g 12)] none M9 := by
  refine m_of (by decide) (Nat.le_of_ble_eq_true rfl) ?_
  intro p e s m args below meth c hx hb hr hml hown hlk hI ls hl
  have hl : lv_has ls 1 [(0, .ref (w.1 g 12))] := hl
  unfold f_X5_dropOldest at hf
  refine lv_aload_n hx hb dX5_dropOldest_0 rfl (lv_at hl 0 rfl) ?_
  refine lv_dup hx hb dX5_dropOldest_1 rfl ?_
  refine m_get (g := g) (i := 12) (ci := 4) (k := 0) (v := .int (M g 12 0)) hx hb hI hown (mokS hg (by decide)) rfl rfl (by decide) lyX5 (q168 hI.T) rfl dX5_dropOldest_2 ?_
  refine lv_iconst (v := 1) hx hb dX5_dropOldest_5 (by decide) ?_
  refine lv_isub hx hb dX5_dropOldest_6 ?_
  obtain ⟨M1, eM1, hf⟩ := mlet_e hf
  refine m_put (g := g) (i := 12) (ci := 4) (k := 0) (ty := .int) (M1 := M1) hx hb hI hown (mokS hg (by decide)) rfl rfl (by decide) lyX5 tyX5 tyX5_ok nmX5 (q168 hI.T) rfl rfl rfl rfl (Nat.le_of_ble_eq_true rfl) rfl eM1 dX5_dropOldest_7 (fun H locs hI => ?_)
  refine lv_aload_n hx hb dX5_dropOldest_10 rfl (lv_at hl 0 rfl) ?_
  refine m_get (g := g) (i := 12) (ci := 4) (k := 1) (v := .ref (w.1 g 13)) hx hb hI hown (mokS hg (by decide)) rfl rfl (by decide) lyX5 (q170 hI.T) rfl dX5_dropOldest_11 ?_
  refine lv_iconst (v := 1) hx hb dX5_dropOldest_14 (by decide) ?_
  refine lv_aload_n hx hb dX5_dropOldest_15 rfl (lv_at hl 0 rfl) ?_
  refine m_get (g := g) (i := 12) (ci := 4) (k := 1) (v := .ref (w.1 g 13)) hx hb hI hown (mokS hg (by decide)) rfl rfl (by decide) lyX5 (q170 hI.T) rfl dX5_dropOldest_16 ?_
  refine lv_iconst (v := 0) hx hb dX5_dropOldest_19 (by decide) ?_
  refine lv_aload_n hx hb dX5_dropOldest_20 rfl (lv_at hl 0 rfl) ?_
  refine m_get (g := g) (i := 12) (ci := 4) (k := 0) (v := .int (M1 g 12 0)) hx hb hI hown (mokS hg (by decide)) rfl rfl (by decide) lyX5 (q168 hI.T) rfl dX5_dropOldest_21 ?_
  obtain ⟨hcp, M2, eM2, hf⟩ := mcpy_e hf
  refine m_copy (t0 := 0) (ty := .int) (M1 := M2) hx hb (hml.trans hl.1.symm) hI hown (q746 hI.T) (q620 hI.T) (q619 hI.T) (q19 hI.T) (mokS hg (by decide)) (fun _ => menc_i rfl) (mokS hg (by decide)) (fun _ => menc_i rfl) rfl rfl hcp eM2 (Nat.le_of_ble_eq_true rfl) (Nat.le_of_ble_eq_true rfl) dX5_dropOldest_24 (fun H locs hI => ?_)
  refine lv_aload_n hx hb dX5_dropOldest_27 rfl (lv_at hl 0 rfl) ?_
  refine m_get (g := g) (i := 12) (ci := 4) (k := 2) (v := .ref (w.1 g 14)) hx hb hI hown (mokS hg (by decide)) rfl rfl (by decide) lyX5 (q172 hI.T) rfl dX5_dropOldest_28 ?_
  refine lv_iconst (v := 1) hx hb dX5_dropOldest_31 (by decide) ?_
  refine lv_aload_n hx hb dX5_dropOldest_32 rfl (lv_at hl 0 rfl) ?_
  refine m_get (g := g) (i := 12) (ci := 4) (k := 2) (v := .ref (w.1 g 14)) hx hb hI hown (mokS hg (by decide)) rfl rfl (by decide) lyX5 (q172 hI.T) rfl dX5_dropOldest_33 ?_
  refine lv_iconst (v := 0) hx hb dX5_dropOldest_36 (by decide) ?_
  refine lv_aload_n hx hb dX5_dropOldest_37 rfl (lv_at hl 0 rfl) ?_
  refine m_get (g := g) (i := 12) (ci := 4) (k := 0) (v := .int (M2 g 12 0)) hx hb hI hown (mokS hg (by decide)) rfl rfl (by decide) lyX5 (q168 hI.T) rfl dX5_dropOldest_38 ?_
  obtain ⟨hcp, M3, eM3, hf⟩ := mcpy_e hf
  refine m_copy (t0 := 2) (ty := .char) (M1 := M3) hx hb (hml.trans hl.1.symm) hI hown (q746 hI.T) (q620 hI.T) (q619 hI.T) (q19 hI.T) (mokS hg (by decide)) (fun _ => menc_c rfl) (mokS hg (by decide)) (fun _ => menc_c rfl) rfl rfl hcp eM3 (Nat.le_of_ble_eq_true rfl) (Nat.le_of_ble_eq_true rfl) dX5_dropOldest_41 (fun H locs hI => ?_)
  refine lv_aload_n hx hb dX5_dropOldest_44 rfl (lv_at hl 0 rfl) ?_
  refine m_get (g := g) (i := 12) (ci := 4) (k := 3) (v := .ref (w.1 g 15)) hx hb hI hown (mokS hg (by decide)) rfl rfl (by decide) lyX5 (q174 hI.T) rfl dX5_dropOldest_45 ?_
  refine lv_iconst (v := 1) hx hb dX5_dropOldest_48 (by decide) ?_
  refine lv_aload_n hx hb dX5_dropOldest_49 rfl (lv_at hl 0 rfl) ?_
  refine m_get (g := g) (i := 12) (ci := 4) (k := 3) (v := .ref (w.1 g 15)) hx hb hI hown (mokS hg (by decide)) rfl rfl (by decide) lyX5 (q174 hI.T) rfl dX5_dropOldest_50 ?_
  refine lv_iconst (v := 0) hx hb dX5_dropOldest_53 (by decide) ?_
  refine lv_aload_n hx hb dX5_dropOldest_54 rfl (lv_at hl 0 rfl) ?_
  refine m_get (g := g) (i := 12) (ci := 4) (k := 0) (v := .int (M3 g 12 0)) hx hb hI hown (mokS hg (by decide)) rfl rfl (by decide) lyX5 (q168 hI.T) rfl dX5_dropOldest_55 ?_
  obtain ⟨hcp, M4, eM4, hf⟩ := mcpy_e hf
  refine m_copy (t0 := 0) (ty := .int) (M1 := M4) hx hb (hml.trans hl.1.symm) hI hown (q746 hI.T) (q620 hI.T) (q619 hI.T) (q19 hI.T) (mokS hg (by decide)) (fun _ => menc_i rfl) (mokS hg (by decide)) (fun _ => menc_i rfl) rfl rfl hcp eM4 (Nat.le_of_ble_eq_true rfl) (Nat.le_of_ble_eq_true rfl) dX5_dropOldest_58 (fun H locs hI => ?_)
  exact m_vretf hx hb hr hlk hI hf dX5_dropOldest_61
abbrev rmX5_enter : Room := { frames := 2, cells := 0, slots := 0, locals := 60 }
theorem kb_X5_enter {R : Room} {s : State} {args : Array Value} {own : String} {idx : Nat} (hT : mT s) (hlink : (Cond.methodLink own idx yX5_enter).before args s = true) (h1 : rmX5_enter.frames + 1 ≤ R.frames) (h2 : 8 + (4 + 11) + rmX5_enter.locals ≤ R.locals) : CallB R s args own idx yX5_enter cX5_enter 4 (none) [Cond.code yX5_enter cX5_enter 4 (none)] rmX5_enter 0 0 3 := m_callB hT kc_X5_enter ki_X5_enter hlink (by decide +kernel) ⟨rfl, rfl, h1, h2⟩
set_option maxHeartbeats 4000000 in
set_option maxRecDepth 100000 in
theorem c_X5_enter (l : Launch) (w : WD) (sz : Nat) (g : Nat) (hg : g ≤ 10) (a1 : Int32) (a2 : Int32) (a3 : Int32) (M : Mem) (r : Unit) (M9 : Mem) (hf : f_X5_enter g a1 a2 a3 M = some (r, M9)) : mMet l yX5_enter cX5_enter 4 (none) rmX5_enter w sz M [.ref (w.1 g 12), .int a1, .int a2, .int a3] none M9 := by
  refine m_of (by decide) (Nat.le_of_ble_eq_true rfl) ?_
  intro p e s m args below meth c hx hb hr hml hown hlk hI ls hl
  have hl : lv_has ls 4 [(0, .ref (w.1 g 12)), (1, .int a1), (2, .int a2), (3, .int a3)] := hl
  unfold f_X5_enter at hf
  refine lv_aload_n hx hb dX5_enter_0 rfl (lv_at hl 0 rfl) ?_
  refine m_get (g := g) (i := 12) (ci := 4) (k := 0) (v := .int (M g 12 0)) hx hb hI hown (mokS hg (by decide)) rfl rfl (by decide) lyX5 (q168 hI.T) rfl dX5_enter_1 ?_
  refine lv_bipush (v := 12) hx hb dX5_enter_4 (by decide) ?_
  obtain ⟨k13_5, ek13_5, hf⟩ := mlet_e hf
  have hj13_5 : ∀ (M4 : Mem) (H : Heap) (locs : List Loc) (ls : Array Slot), k13_5 M4 = some (r, M9) → mI w s (mA w s.heap.size) H locs M4 → lv_has ls 4 [(0, .ref (w.1 g 12)), (1, .int a1), (2, .int a2), (3, .int a3)] → W p l e rmX5_enter s m args below meth c H locs 0 0 (MQ below (mQ w s.heap.size none M9) args s 0 0 (mA w s.heap.size)) (F0 m 13 ls []) := by
    intro M4 H locs ls hf hI hl
    rw [ek13_5] at hf
    try dsimp only at hf
    refine lv_aload_n hx hb dX5_enter_13 rfl (lv_at hl 0 rfl) ?_
    refine m_get (g := g) (i := 12) (ci := 4) (k := 1) (v := .ref (w.1 g 13)) hx hb hI hown (mokS hg (by decide)) rfl rfl (by decide) lyX5 (q170 hI.T) rfl dX5_enter_14 ?_
    refine lv_aload_n hx hb dX5_enter_17 rfl (lv_at hl 0 rfl) ?_
    refine m_get (g := g) (i := 12) (ci := 4) (k := 0) (v := .int (M4 g 12 0)) hx hb hI hown (mokS hg (by decide)) rfl rfl (by decide) lyX5 (q168 hI.T) rfl dX5_enter_18 ?_
    refine lv_iload_n hx hb dX5_enter_21 rfl (lv_at hl 1 rfl) ?_
    obtain ⟨hi, hf⟩ := mix_e hf
    obtain ⟨M6, eM6, hf⟩ := mlet_e hf
    refine m_iast (g := g) (i := 13) (M1 := M6) hx hb hI (mokS hg (by decide)) rfl hi eM6 dX5_enter_22 (fun H locs hI => ?_)
    refine lv_aload_n hx hb dX5_enter_23 rfl (lv_at hl 0 rfl) ?_
    refine m_get (g := g) (i := 12) (ci := 4) (k := 2) (v := .ref (w.1 g 14)) hx hb hI hown (mokS hg (by decide)) rfl rfl (by decide) lyX5 (q172 hI.T) rfl dX5_enter_24 ?_
    refine lv_aload_n hx hb dX5_enter_27 rfl (lv_at hl 0 rfl) ?_
    refine m_get (g := g) (i := 12) (ci := 4) (k := 0) (v := .int (M6 g 12 0)) hx hb hI hown (mokS hg (by decide)) rfl rfl (by decide) lyX5 (q168 hI.T) rfl dX5_enter_28 ?_
    refine lv_iload_n hx hb dX5_enter_31 rfl (lv_at hl 2 rfl) ?_
    obtain ⟨hi, hf⟩ := mix_e hf
    obtain ⟨M7, eM7, hf⟩ := mlet_e hf
    refine m_cast (g := g) (i := 14) (M1 := M7) hx hb hI (mokS hg (by decide)) rfl hi eM7 dX5_enter_32 (fun H locs hI => ?_)
    refine lv_aload_n hx hb dX5_enter_33 rfl (lv_at hl 0 rfl) ?_
    refine m_get (g := g) (i := 12) (ci := 4) (k := 3) (v := .ref (w.1 g 15)) hx hb hI hown (mokS hg (by decide)) rfl rfl (by decide) lyX5 (q174 hI.T) rfl dX5_enter_34 ?_
    refine lv_aload_n hx hb dX5_enter_37 rfl (lv_at hl 0 rfl) ?_
    refine m_get (g := g) (i := 12) (ci := 4) (k := 0) (v := .int (M7 g 12 0)) hx hb hI hown (mokS hg (by decide)) rfl rfl (by decide) lyX5 (q168 hI.T) rfl dX5_enter_38 ?_
    refine lv_iload_n hx hb dX5_enter_41 rfl (lv_at hl 3 rfl) ?_
    obtain ⟨hi, hf⟩ := mix_e hf
    obtain ⟨M8, eM8, hf⟩ := mlet_e hf
    refine m_iast (g := g) (i := 15) (M1 := M8) hx hb hI (mokS hg (by decide)) rfl hi eM8 dX5_enter_42 (fun H locs hI => ?_)
    refine lv_aload_n hx hb dX5_enter_43 rfl (lv_at hl 0 rfl) ?_
    refine lv_dup hx hb dX5_enter_44 rfl ?_
    refine m_get (g := g) (i := 12) (ci := 4) (k := 0) (v := .int (M8 g 12 0)) hx hb hI hown (mokS hg (by decide)) rfl rfl (by decide) lyX5 (q168 hI.T) rfl dX5_enter_45 ?_
    refine lv_iconst (v := 1) hx hb dX5_enter_48 (by decide) ?_
    refine lv_iadd hx hb dX5_enter_49 ?_
    obtain ⟨M10, eM10, hf⟩ := mlet_e hf
    refine m_put (g := g) (i := 12) (ci := 4) (k := 0) (ty := .int) (M1 := M10) hx hb hI hown (mokS hg (by decide)) rfl rfl (by decide) lyX5 tyX5 tyX5_ok nmX5 (q168 hI.T) rfl rfl rfl rfl (Nat.le_of_ble_eq_true rfl) rfl eM10 dX5_enter_50 (fun H locs hI => ?_)
    exact m_vretf hx hb hr hlk hI hf dX5_enter_53
  refine lv_icmp_ne (tgt := 13) hx hb dX5_enter_6 (by decide) (fun c1 => ?_) (fun c1 => ?_)
  · have hf := (if_neg c1).symm.trans hf
    exact hj13_5 M s.heap _ _ hf hI (lv_sub hl [0, 1, 2, 3] rfl)
  · have hf := (if_pos c1).symm.trans hf
    refine lv_aload_n hx hb dX5_enter_9 rfl (lv_at hl 0 rfl) ?_
    obtain ⟨r2, M3, hc, hf⟩ := mbnd_e hf
    refine m_callV (As := []) (rest := []) hx hb hml hown hI (c_X5_dropOldest l w s.heap.size g hg M _ _ hc) (kb_X5_dropOldest hI.T (q892 hI.T) (Nat.le_of_ble_eq_true rfl) (Nat.le_of_ble_eq_true rfl)) (q894 hI.T) (sel_X5_dropOldest hI.T) (m_recv (g := g) (i := 12) hI (mokS hg (by decide)) rfl rfl) rfl hl.1 (Nat.le_of_ble_eq_true rfl) dX5_enter_10 ⟨Nat.le_of_ble_eq_true rfl, Nat.le_of_ble_eq_true rfl⟩ (fun H locs hI => ?_)
    exact hj13_5 M3 H _ _ hf hI (lv_sub hl [0, 1, 2, 3] rfl)
abbrev rmX9_tryOpen : Room := { frames := 4, cells := 0, slots := 0, locals := 95 }
theorem kb_X9_tryOpen {R : Room} {s : State} {args : Array Value} {own : String} {idx : Nat} (hT : mT s) (hlink : (Cond.methodLink own idx yX9_tryOpen).before args s = true) (h1 : rmX9_tryOpen.frames + 1 ≤ R.frames) (h2 : 8 + (3 + 11) + rmX9_tryOpen.locals ≤ R.locals) : CallB R s args own idx yX9_tryOpen cX9_tryOpen 3 (some .int) [Cond.code yX9_tryOpen cX9_tryOpen 3 (some .int)] rmX9_tryOpen 0 0 0 := m_callB hT kc_X9_tryOpen ki_X9_tryOpen hlink (by decide +kernel) ⟨rfl, rfl, h1, h2⟩
set_option maxHeartbeats 4000000 in
set_option maxRecDepth 100000 in
theorem c_X9_tryOpen (l : Launch) (w : WD) (sz : Nat) (g : Nat) (hg : g ≤ 10) (M : Mem) (r : Int32) (M9 : Mem) (hf : f_X9_tryOpen g M = some (r, M9)) : mMet l yX9_tryOpen cX9_tryOpen 3 (some .int) rmX9_tryOpen w sz M [.ref (w.1 g 0)] (some (.int r)) M9 := by
  refine m_of (by decide) (Nat.le_of_ble_eq_true rfl) ?_
  intro p e s m args below meth c hx hb hr hml hown hlk hI ls hl
  have hl : lv_has ls 3 [(0, .ref (w.1 g 0))] := hl
  unfold f_X9_tryOpen at hf
  refine lv_aload_n hx hb dX9_tryOpen_0 rfl (lv_at hl 0 rfl) ?_
  obtain ⟨r1, hc, hf⟩ := mbp_e hf
  refine m_callV (As := []) (rest := []) hx hb hml hown hI (c_X9_verdictOnAttempt l w s.heap.size g hg M _ hc) (kb_X9_verdictOnAttempt hI.T (q869 hI.T) (Nat.le_of_ble_eq_true rfl) (Nat.le_of_ble_eq_true rfl)) (q871 hI.T) (sel_X9_verdictOnAttempt hI.T) (m_recv (g := g) (i := 0) hI (mokS hg (by decide)) rfl rfl) rfl hl.1 (Nat.le_of_ble_eq_true rfl) dX9_tryOpen_1 ⟨Nat.le_of_ble_eq_true rfl, Nat.le_of_ble_eq_true rfl⟩ (fun H locs hI => ?_)
  refine lv_istore_n (lv' := [(1, .int r1), (0, .ref (w.1 g 0))]) hx hb dX9_tryOpen_4 rfl hl (by decide) rfl (fun ls hl => ?_)
  refine lv_iload_n hx hb dX9_tryOpen_5 rfl (lv_at hl 0 rfl) ?_
  refine lv_if_eq (tgt := 11) hx hb dX9_tryOpen_6 (by decide) (fun c2 => ?_) (fun c2 => ?_)
  · have hf := (if_pos c2).symm.trans hf
    refine lv_aload_n hx hb dX9_tryOpen_11 rfl (lv_at hl 1 rfl) ?_
    refine m_get (g := g) (i := 0) (ci := 8) (k := 0) (v := .ref (w.1 g 1)) hx hb hI hown (mokS hg (by decide)) rfl rfl (by decide) lyX9 (q186 hI.T) rfl dX9_tryOpen_12 ?_
    obtain ⟨r3, hc, hf⟩ := mbp_e hf
    refine m_callV (As := []) (rest := []) hx hb hml hown hI (c_X6_tellTheSecret l w H.size g hg M _ hc) (kb_X6_tellTheSecret hI.T (q875 hI.T) (Nat.le_of_ble_eq_true rfl) (Nat.le_of_ble_eq_true rfl)) (q876 hI.T) (q877 hI.T) (m_recv (g := g) (i := 1) hI (mokS hg (by decide)) rfl rfl) rfl hl.1 (Nat.le_of_ble_eq_true rfl) dX9_tryOpen_15 ⟨Nat.le_of_ble_eq_true rfl, Nat.le_of_ble_eq_true rfl⟩ (fun H locs hI => ?_)
    refine lv_istore_n (lv' := [(2, .int r3), (1, .int r1), (0, .ref (w.1 g 0))]) hx hb dX9_tryOpen_18 rfl hl (by decide) rfl (fun ls hl => ?_)
    refine lv_iload_n hx hb dX9_tryOpen_19 rfl (lv_at hl 0 rfl) ?_
    obtain ⟨k40_11, ek40_11, hf⟩ := mlet_e hf
    have hj40_11 : ∀ (M10 : Mem) (H : Heap) (locs : List Loc) (ls : Array Slot), k40_11 M10 = some (r, M9) → mI w s (mA w s.heap.size) H locs M10 → lv_has ls 3 [(0, .ref (w.1 g 0)), (2, .int r3)] → W p l e rmX9_tryOpen s m args below meth c H locs 0 0 (MQ below (mQ w s.heap.size (some (.int r)) M9) args s 0 0 (mA w s.heap.size)) (F0 m 40 ls []) := by
      intro M10 H locs ls hf hI hl
      rw [ek40_11] at hf
      try dsimp only at hf
      refine lv_aload_n hx hb dX9_tryOpen_40 rfl (lv_at hl 0 rfl) ?_
      refine m_get (g := g) (i := 0) (ci := 8) (k := 3) (v := .ref (w.1 g 12)) hx hb hI hown (mokS hg (by decide)) rfl rfl (by decide) lyX9 (q192 hI.T) rfl dX9_tryOpen_41 ?_
      refine lv_aload_n hx hb dX9_tryOpen_44 rfl (lv_at hl 0 rfl) ?_
      refine m_get (g := g) (i := 0) (ci := 8) (k := 2) (v := .ref (w.1 g 6)) hx hb hI hown (mokS hg (by decide)) rfl rfl (by decide) lyX9 (q190 hI.T) rfl dX9_tryOpen_45 ?_
      refine m_get (g := g) (i := 6) (ci := 0) (k := 0) (v := .int (M10 g 6 0)) hx hb hI hown (mokS hg (by decide)) rfl rfl (by decide) lyX1 (q125 hI.T) rfl dX9_tryOpen_48 ?_
      refine lv_iload_n hx hb dX9_tryOpen_51 rfl (lv_at hl 1 rfl) ?_
      obtain ⟨k62_14, ek62_14, hf⟩ := mlet_e hf
      have hj62_14 : ∀ (x13 : Int32) (H : Heap) (locs : List Loc) (ls : Array Slot), k62_14 x13 = some (r, M9) → mI w s (mA w s.heap.size) H locs M10 → lv_has ls 3 [(0, .ref (w.1 g 0)), (2, .int r3)] → W p l e rmX9_tryOpen s m args below meth c H locs 0 0 (MQ below (mQ w s.heap.size (some (.int r)) M9) args s 0 0 (mA w s.heap.size)) (F0 m 62 ls [.int x13, .int (M10 g 6 0), .ref (w.1 g 12)]) := by
        intro x13 H locs ls hf hI hl
        rw [ek62_14] at hf
        try dsimp only at hf
        refine lv_aload_n hx hb dX9_tryOpen_62 rfl (lv_at hl 0 rfl) ?_
        refine m_get (g := g) (i := 0) (ci := 8) (k := 0) (v := .ref (w.1 g 1)) hx hb hI hown (mokS hg (by decide)) rfl rfl (by decide) lyX9 (q186 hI.T) rfl dX9_tryOpen_63 ?_
        refine m_get (g := g) (i := 1) (ci := 5) (k := 5) (v := .int (M10 g 1 5)) hx hb hI hown (mokS hg (by decide)) rfl rfl (by decide) lyX6 (q71 hI.T) rfl dX9_tryOpen_66 ?_
        obtain ⟨r15, M16, hc, hf⟩ := mbnd_e hf
        refine m_callV (As := [.int (M10 g 6 0), .int x13, .int (M10 g 1 5)]) (rest := []) hx hb hml hown hI (c_X5_enter l w H.size g hg (M10 g 6 0) x13 (M10 g 1 5) M10 _ _ hc) (kb_X5_enter hI.T (q888 hI.T) (Nat.le_of_ble_eq_true rfl) (Nat.le_of_ble_eq_true rfl)) (q889 hI.T) (q890 hI.T) (m_recv (g := g) (i := 12) hI (mokS hg (by decide)) rfl rfl) rfl hl.1 (Nat.le_of_ble_eq_true rfl) dX9_tryOpen_69 ⟨Nat.le_of_ble_eq_true rfl, Nat.le_of_ble_eq_true rfl⟩ (fun H locs hI => ?_)
        refine lv_aload_n hx hb dX9_tryOpen_72 rfl (lv_at hl 0 rfl) ?_
        refine lv_iload_n hx hb dX9_tryOpen_73 rfl (lv_at hl 1 rfl) ?_
        obtain ⟨k82_19, ek82_19, hf⟩ := mlet_e hf
        have hj82_19 : ∀ (x18 : Int32) (H : Heap) (locs : List Loc) (ls : Array Slot), k82_19 x18 = some (r, M9) → mI w s (mA w s.heap.size) H locs M16 → lv_has ls 3 [] → W p l e rmX9_tryOpen s m args below meth c H locs 0 0 (MQ below (mQ w s.heap.size (some (.int r)) M9) args s 0 0 (mA w s.heap.size)) (F0 m 82 ls [.int x18, .ref (w.1 g 0)]) := by
          intro x18 H locs ls hf hI hl
          rw [ek82_19] at hf
          try dsimp only at hf
          obtain ⟨M20, eM20, hf⟩ := mlet_e hf
          refine m_put (g := g) (i := 0) (ci := 8) (k := 4) (ty := .int) (M1 := M20) hx hb hI hown (mokS hg (by decide)) rfl rfl (by decide) lyX9 tyX9 tyX9_ok nmX9 (q194 hI.T) rfl rfl rfl rfl (Nat.le_of_ble_eq_true rfl) rfl eM20 dX9_tryOpen_82 (fun H locs hI => ?_)
          refine lv_iconst (v := 0) hx hb dX9_tryOpen_85 (by decide) ?_
          exact m_iretf hx hb hr hlk hI hf dX9_tryOpen_86
        refine lv_if_eq (tgt := 81) hx hb dX9_tryOpen_74 (by decide) (fun c17 => ?_) (fun c17 => ?_)
        · have hf := (if_pos c17).symm.trans hf
          refine lv_iconst (v := 0) hx hb dX9_tryOpen_81 (by decide) ?_
          exact hj82_19 (0 : Int32) H _ _ hf hI (lv_sub hl [] rfl)
        · have hf := (if_neg c17).symm.trans hf
          refine lv_iconst (v := 1) hx hb dX9_tryOpen_77 (by decide) ?_
          refine lv_goto (tgt := 82) hx hb dX9_tryOpen_78 (by decide) ?_
          exact hj82_19 (1 : Int32) H _ _ hf hI (lv_sub hl [] rfl)
      refine lv_if_eq (tgt := 60) hx hb dX9_tryOpen_52 (by decide) (fun c12 => ?_) (fun c12 => ?_)
      · have hf := (if_pos c12).symm.trans hf
        refine lv_bipush (v := 102) hx hb dX9_tryOpen_60 (by decide) ?_
        exact hj62_14 (102 : Int32) H _ _ hf hI (lv_sub hl [0, 1] rfl)
      · have hf := (if_neg c12).symm.trans hf
        refine lv_bipush (v := 111) hx hb dX9_tryOpen_55 (by decide) ?_
        refine lv_goto (tgt := 62) hx hb dX9_tryOpen_57 (by decide) ?_
        exact hj62_14 (111 : Int32) H _ _ hf hI (lv_sub hl [0, 1] rfl)
    refine lv_if_eq (tgt := 33) hx hb dX9_tryOpen_20 (by decide) (fun c4 => ?_) (fun c4 => ?_)
    · have hf := (if_pos c4).symm.trans hf
      refine lv_aload_n hx hb dX9_tryOpen_33 rfl (lv_at hl 2 rfl) ?_
      refine m_get (g := g) (i := 0) (ci := 8) (k := 1) (v := .ref (w.1 g 5)) hx hb hI hown (mokS hg (by decide)) rfl rfl (by decide) lyX9 (q188 hI.T) rfl dX9_tryOpen_34 ?_
      obtain ⟨r5, M6, hc, hf⟩ := mbnd_e hf
      refine m_callV (As := []) (rest := []) hx hb hml hown hI (c_X3_countFailure l w H.size g hg M _ _ hc) (kb_X3_countFailure hI.T (q884 hI.T) (Nat.le_of_ble_eq_true rfl) (Nat.le_of_ble_eq_true rfl)) (q885 hI.T) (q886 hI.T) (m_recv (g := g) (i := 5) hI (mokS hg (by decide)) rfl rfl) rfl hl.1 (Nat.le_of_ble_eq_true rfl) dX9_tryOpen_37 ⟨Nat.le_of_ble_eq_true rfl, Nat.le_of_ble_eq_true rfl⟩ (fun H locs hI => ?_)
      exact hj40_11 M6 H _ _ hf hI (lv_sub hl [2, 0] rfl)
    · have hf := (if_neg c4).symm.trans hf
      refine lv_aload_n hx hb dX9_tryOpen_23 rfl (lv_at hl 2 rfl) ?_
      refine m_get (g := g) (i := 0) (ci := 8) (k := 1) (v := .ref (w.1 g 5)) hx hb hI hown (mokS hg (by decide)) rfl rfl (by decide) lyX9 (q188 hI.T) rfl dX9_tryOpen_24 ?_
      obtain ⟨r7, M8, hc, hf⟩ := mbnd_e hf
      refine m_callV (As := []) (rest := []) hx hb hml hown hI (c_X3_swingOpen l w H.size g hg M _ _ hc) (kb_X3_swingOpen hI.T (q880 hI.T) (Nat.le_of_ble_eq_true rfl) (Nat.le_of_ble_eq_true rfl)) (q881 hI.T) (q882 hI.T) (m_recv (g := g) (i := 5) hI (mokS hg (by decide)) rfl rfl) rfl hl.1 (Nat.le_of_ble_eq_true rfl) dX9_tryOpen_27 ⟨Nat.le_of_ble_eq_true rfl, Nat.le_of_ble_eq_true rfl⟩ (fun H locs hI => ?_)
      refine lv_goto (tgt := 40) hx hb dX9_tryOpen_30 (by decide) ?_
      exact hj40_11 M8 H _ _ hf hI (lv_sub hl [2, 0] rfl)
  · have hf := (if_neg c2).symm.trans hf
    refine lv_iload_n hx hb dX9_tryOpen_9 rfl (lv_at hl 0 rfl) ?_
    exact m_iretf hx hb hr hlk hI hf dX9_tryOpen_10
abbrev rmX11_openVault : Room := { frames := 9, cells := 1, slots := 6, locals := 162 }
theorem kb_X11_openVault {R : Room} {s : State} {args : Array Value} {own : String} {idx : Nat} (hT : mT s) (hlink : (Cond.methodLink own idx yX11_openVault).before args s = true) (h1 : rmX11_openVault.frames + 1 ≤ R.frames) (h2 : 8 + (1 + 11) + rmX11_openVault.locals ≤ R.locals) : CallB R s args own idx yX11_openVault cX11_openVault 1 (some .boolean) [Cond.code yX11_openVault cX11_openVault 1 (some .boolean)] rmX11_openVault 1 6 0 := m_callB hT kc_X11_openVault ki_X11_openVault hlink (by decide +kernel) ⟨rfl, rfl, h1, h2⟩
set_option maxHeartbeats 4000000 in
set_option maxRecDepth 100000 in
theorem c_X11_openVault (l : Launch) (w : WD) (hsf : l.stackTraces = false) (sz : Nat)  (M : Mem) (r : (Nat ⊕ Int32)) (M9 : Mem) (hf : f_X11_openVault  M = some (r, M9)) : mMetx l yX11_openVault cX11_openVault 1 (some .boolean) rmX11_openVault w sz M [.ref (w.1 12 16)] (moI r) M9 1 6 := by
  refine m_ofx (by decide) (Nat.le_of_ble_eq_true rfl) ?_
  intro p e s m args below meth c hx hb hr hml hown hlk hxt hI ls hl
  have hl : lv_has ls 1 [(0, .ref (w.1 12 16))] := hl
  unfold f_X11_openVault at hf
  refine lv_aload_n hx hb dX11_openVault_0 rfl (lv_at hl 0 rfl) ?_
  refine m_get (g := 12) (i := 16) (ci := 9) (k := 1) (v := .ref (w.1 12 17)) hx hb hI hown (mokX (by decide) (by decide)) rfl rfl (by decide) lyX11 (q295 hI.T) rfl dX11_openVault_1 ?_
  refine lv_aload_n hx hb dX11_openVault_4 rfl (lv_at hl 0 rfl) ?_
  refine m_get (g := 12) (i := 16) (ci := 9) (k := 0) (v := .ref (w.1 0 0)) hx hb hI hown (mokX (by decide) (by decide)) rfl rfl (by decide) lyX11 (q294 hI.T) rfl dX11_openVault_5 ?_
  obtain ⟨r1, M2, hc, hf⟩ := mbnd_e hf
  refine m_callV (As := [.ref (w.1 0 0)]) (rest := []) hx hb hml hown hI (c_X4_prepare l w s.heap.size 0 (by decide) M _ _ hc) (kb_X4_prepare hI.T (q724 hI.T) (Nat.le_of_ble_eq_true rfl) (Nat.le_of_ble_eq_true rfl)) (q725 hI.T) (q726 hI.T) (m_recv (g := 12) (i := 17) hI (mokX (by decide) (by decide)) rfl rfl) rfl hl.1 (Nat.le_of_ble_eq_true rfl) dX11_openVault_8 ⟨Nat.le_of_ble_eq_true rfl, Nat.le_of_ble_eq_true rfl⟩ (fun H locs hI => ?_)
  refine lv_aload_n hx hb dX11_openVault_11 rfl (lv_at hl 0 rfl) ?_
  refine lv_aload_n hx hb dX11_openVault_12 rfl (lv_at hl 0 rfl) ?_
  refine m_get (g := 12) (i := 16) (ci := 9) (k := 0) (v := .ref (w.1 0 0)) hx hb hI hown (mokX (by decide) (by decide)) rfl rfl (by decide) lyX11 (q294 hI.T) rfl dX11_openVault_13 ?_
  obtain ⟨r3, M4, hc, hf⟩ := mbnd_e hf
  refine m_callV (As := []) (rest := [.ref (w.1 12 16)]) hx hb hml hown hI (c_X9_tryOpen l w H.size 0 (by decide) M2 _ _ hc) (kb_X9_tryOpen hI.T (q865 hI.T) (Nat.le_of_ble_eq_true rfl) (Nat.le_of_ble_eq_true rfl)) (q866 hI.T) (q867 hI.T) (m_recv (g := 0) (i := 0) hI (mokS (by decide) (by decide)) rfl rfl) rfl hl.1 (Nat.le_of_ble_eq_true rfl) dX11_openVault_16 ⟨Nat.le_of_ble_eq_true rfl, Nat.le_of_ble_eq_true rfl⟩ (fun H locs hI => ?_)
  refine lv_iconst (v := 0) hx hb dX11_openVault_19 (by decide) ?_
  rcases mbndx_e hf with ⟨n6, M7, hc, hf⟩ | ⟨r5, M7, hc, hf⟩
  · exact m_callxTV (As := [.int r3, .int (0 : Int32)]) (rest := []) hx hb hml hown hI (c_X11_settle l w hsf H.size r3 (0 : Int32) M4 _ _ hc) (kb_X11_settle hI.T (q756 hI.T) (Nat.le_of_ble_eq_true rfl) (Nat.le_of_ble_eq_true rfl)) (q758 hI.T) (sel_X11_settle hI.T) (m_recv (g := 12) (i := 16) hI (mokX (by decide) (by decide)) rfl rfl) rfl hl.1 (Nat.le_of_ble_eq_true rfl) dX11_openVault_20 ⟨Nat.le_of_ble_eq_true rfl, Nat.le_of_ble_eq_true rfl⟩ hxt hlk hf (Nat.le_of_ble_eq_true rfl) (Nat.le_of_ble_eq_true rfl)
  refine m_callxRV (As := [.int r3, .int (0 : Int32)]) (rest := []) hx hb hml hown hI (c_X11_settle l w hsf H.size r3 (0 : Int32) M4 _ _ hc) (kb_X11_settle hI.T (q756 hI.T) (Nat.le_of_ble_eq_true rfl) (Nat.le_of_ble_eq_true rfl)) (q758 hI.T) (sel_X11_settle hI.T) (m_recv (g := 12) (i := 16) hI (mokX (by decide) (by decide)) rfl rfl) rfl hl.1 (Nat.le_of_ble_eq_true rfl) dX11_openVault_20 ⟨Nat.le_of_ble_eq_true rfl, Nat.le_of_ble_eq_true rfl⟩ (fun H locs hI => ?_)
  refine lv_iconst (v := 1) hx hb dX11_openVault_23 (by decide) ?_
  refine lv_icmp_ne (tgt := 31) hx hb dX11_openVault_24 (by decide) (fun c8 => ?_) (fun c8 => ?_)
  · have hf := (if_neg c8).symm.trans hf
    refine lv_iconst (v := 0) hx hb dX11_openVault_31 (by decide) ?_
    exact m_zretx hx hb hr hlk hI rfl hf dX11_openVault_32 (Nat.le_of_ble_eq_true rfl) (Nat.le_of_ble_eq_true rfl)
  · have hf := (if_pos c8).symm.trans hf
    refine lv_iconst (v := 1) hx hb dX11_openVault_27 (by decide) ?_
    refine lv_goto (tgt := 32) hx hb dX11_openVault_28 (by decide) ?_
    exact m_zretx hx hb hr hlk hI rfl hf dX11_openVault_32 (Nat.le_of_ble_eq_true rfl) (Nat.le_of_ble_eq_true rfl)
abbrev rmX9_tryClose : Room := { frames := 3, cells := 0, slots := 0, locals := 83 }
theorem kb_X9_tryClose {R : Room} {s : State} {args : Array Value} {own : String} {idx : Nat} (hT : mT s) (hlink : (Cond.methodLink own idx yX9_tryClose).before args s = true) (h1 : rmX9_tryClose.frames + 1 ≤ R.frames) (h2 : 8 + (1 + 11) + rmX9_tryClose.locals ≤ R.locals) : CallB R s args own idx yX9_tryClose cX9_tryClose 1 (some .int) [Cond.code yX9_tryClose cX9_tryClose 1 (some .int)] rmX9_tryClose 0 0 0 := m_callB hT kc_X9_tryClose ki_X9_tryClose hlink (by decide +kernel) ⟨rfl, rfl, h1, h2⟩
set_option maxHeartbeats 4000000 in
set_option maxRecDepth 100000 in
theorem c_X9_tryClose (l : Launch) (w : WD) (sz : Nat) (g : Nat) (hg : g ≤ 10) (M : Mem) (r : Int32) (M9 : Mem) (hf : f_X9_tryClose g M = some (r, M9)) : mMet l yX9_tryClose cX9_tryClose 1 (some .int) rmX9_tryClose w sz M [.ref (w.1 g 0)] (some (.int r)) M9 := by
  refine m_of (by decide) (Nat.le_of_ble_eq_true rfl) ?_
  intro p e s m args below meth c hx hb hr hml hown hlk hI ls hl
  have hl : lv_has ls 1 [(0, .ref (w.1 g 0))] := hl
  unfold f_X9_tryClose at hf
  refine lv_aload_n hx hb dX9_tryClose_0 rfl (lv_at hl 0 rfl) ?_
  refine m_get (g := g) (i := 0) (ci := 8) (k := 0) (v := .ref (w.1 g 1)) hx hb hI hown (mokS hg (by decide)) rfl rfl (by decide) lyX9 (q186 hI.T) rfl dX9_tryClose_1 ?_
  refine m_get (g := g) (i := 1) (ci := 5) (k := 2) (v := .int (M g 1 2)) hx hb hI hown (mokS hg (by decide)) rfl rfl (by decide) lyX6 (q62 hI.T) rfl dX9_tryClose_4 ?_
  refine lv_if_ne (tgt := 12) hx hb dX9_tryClose_7 (by decide) (fun c1 => ?_) (fun c1 => ?_)
  · have hf := (if_neg c1).symm.trans hf
    refine lv_aload_n hx hb dX9_tryClose_12 rfl (lv_at hl 0 rfl) ?_
    refine m_get (g := g) (i := 0) (ci := 8) (k := 1) (v := .ref (w.1 g 5)) hx hb hI hown (mokS hg (by decide)) rfl rfl (by decide) lyX9 (q188 hI.T) rfl dX9_tryClose_13 ?_
    refine m_get (g := g) (i := 5) (ci := 2) (k := 0) (v := .int (M g 5 0)) hx hb hI hown (mokS hg (by decide)) rfl rfl (by decide) lyX3 (q99 hI.T) rfl dX9_tryClose_16 ?_
    refine lv_if_ne (tgt := 25) hx hb dX9_tryClose_19 (by decide) (fun c2 => ?_) (fun c2 => ?_)
    · have hf := (if_neg c2).symm.trans hf
      refine lv_aload_n hx hb dX9_tryClose_25 rfl (lv_at hl 0 rfl) ?_
      refine lv_aload_n hx hb dX9_tryClose_26 rfl (lv_at hl 0 rfl) ?_
      refine m_get (g := g) (i := 0) (ci := 8) (k := 0) (v := .ref (w.1 g 1)) hx hb hI hown (mokS hg (by decide)) rfl rfl (by decide) lyX9 (q186 hI.T) rfl dX9_tryClose_27 ?_
      refine m_get (g := g) (i := 1) (ci := 5) (k := 5) (v := .int (M g 1 5)) hx hb hI hown (mokS hg (by decide)) rfl rfl (by decide) lyX6 (q71 hI.T) rfl dX9_tryClose_30 ?_
      obtain ⟨M3, eM3, hf⟩ := mlet_e hf
      refine m_put (g := g) (i := 0) (ci := 8) (k := 4) (ty := .int) (M1 := M3) hx hb hI hown (mokS hg (by decide)) rfl rfl (by decide) lyX9 tyX9 tyX9_ok nmX9 (q194 hI.T) rfl rfl rfl rfl (Nat.le_of_ble_eq_true rfl) rfl eM3 dX9_tryClose_33 (fun H locs hI => ?_)
      refine lv_aload_n hx hb dX9_tryClose_36 rfl (lv_at hl 0 rfl) ?_
      refine m_get (g := g) (i := 0) (ci := 8) (k := 0) (v := .ref (w.1 g 1)) hx hb hI hown (mokS hg (by decide)) rfl rfl (by decide) lyX9 (q186 hI.T) rfl dX9_tryClose_37 ?_
      refine lv_iconst (v := 0) hx hb dX9_tryClose_40 (by decide) ?_
      obtain ⟨M4, eM4, hf⟩ := mlet_e hf
      refine m_put (g := g) (i := 1) (ci := 5) (k := 5) (ty := .int) (M1 := M4) hx hb hI hown (mokS hg (by decide)) rfl rfl (by decide) lyX6 tyX6 tyX6_ok nmX6 (q71 hI.T) rfl rfl rfl rfl (Nat.le_of_ble_eq_true rfl) rfl eM4 dX9_tryClose_41 (fun H locs hI => ?_)
      refine lv_aload_n hx hb dX9_tryClose_44 rfl (lv_at hl 0 rfl) ?_
      refine m_get (g := g) (i := 0) (ci := 8) (k := 1) (v := .ref (w.1 g 5)) hx hb hI hown (mokS hg (by decide)) rfl rfl (by decide) lyX9 (q188 hI.T) rfl dX9_tryClose_45 ?_
      refine lv_iconst (v := 0) hx hb dX9_tryClose_48 (by decide) ?_
      obtain ⟨M5, eM5, hf⟩ := mlet_e hf
      refine m_put (g := g) (i := 5) (ci := 2) (k := 0) (ty := .boolean) (M1 := M5) hx hb hI hown (mokS hg (by decide)) rfl rfl (by decide) lyX3 tyX3 tyX3_ok nmX3 (q99 hI.T) rfl rfl rfl rfl (Nat.le_of_ble_eq_true rfl) rfl eM5 dX9_tryClose_49 (fun H locs hI => ?_)
      refine lv_aload_n hx hb dX9_tryClose_52 rfl (lv_at hl 0 rfl) ?_
      refine m_get (g := g) (i := 0) (ci := 8) (k := 3) (v := .ref (w.1 g 12)) hx hb hI hown (mokS hg (by decide)) rfl rfl (by decide) lyX9 (q192 hI.T) rfl dX9_tryClose_53 ?_
      refine lv_aload_n hx hb dX9_tryClose_56 rfl (lv_at hl 0 rfl) ?_
      refine m_get (g := g) (i := 0) (ci := 8) (k := 2) (v := .ref (w.1 g 6)) hx hb hI hown (mokS hg (by decide)) rfl rfl (by decide) lyX9 (q190 hI.T) rfl dX9_tryClose_57 ?_
      refine m_get (g := g) (i := 6) (ci := 0) (k := 0) (v := .int (M5 g 6 0)) hx hb hI hown (mokS hg (by decide)) rfl rfl (by decide) lyX1 (q125 hI.T) rfl dX9_tryClose_60 ?_
      refine lv_bipush (v := 99) hx hb dX9_tryClose_63 (by decide) ?_
      refine lv_iconst (v := 0) hx hb dX9_tryClose_65 (by decide) ?_
      obtain ⟨r6, M7, hc, hf⟩ := mbnd_e hf
      refine m_callV (As := [.int (M5 g 6 0), .int (99 : Int32), .int (0 : Int32)]) (rest := []) hx hb hml hown hI (c_X5_enter l w H.size g hg (M5 g 6 0) (99 : Int32) (0 : Int32) M5 _ _ hc) (kb_X5_enter hI.T (q888 hI.T) (Nat.le_of_ble_eq_true rfl) (Nat.le_of_ble_eq_true rfl)) (q889 hI.T) (q890 hI.T) (m_recv (g := g) (i := 12) hI (mokS hg (by decide)) rfl rfl) rfl hl.1 (Nat.le_of_ble_eq_true rfl) dX9_tryClose_66 ⟨Nat.le_of_ble_eq_true rfl, Nat.le_of_ble_eq_true rfl⟩ (fun H locs hI => ?_)
      refine lv_iconst (v := 0) hx hb dX9_tryClose_69 (by decide) ?_
      exact m_iretf hx hb hr hlk hI hf dX9_tryClose_70
    · have hf := (if_pos c2).symm.trans hf
      refine lv_bipush (v := 10) hx hb dX9_tryClose_22 (by decide) ?_
      exact m_iretf hx hb hr hlk hI hf dX9_tryClose_24
  · have hf := (if_pos c1).symm.trans hf
    refine lv_iconst (v := 3) hx hb dX9_tryClose_10 (by decide) ?_
    exact m_iretf hx hb hr hlk hI hf dX9_tryClose_11
abbrev rmX11_closeVault : Room := { frames := 9, cells := 1, slots := 6, locals := 162 }
theorem kb_X11_closeVault {R : Room} {s : State} {args : Array Value} {own : String} {idx : Nat} (hT : mT s) (hlink : (Cond.methodLink own idx yX11_closeVault).before args s = true) (h1 : rmX11_closeVault.frames + 1 ≤ R.frames) (h2 : 8 + (1 + 11) + rmX11_closeVault.locals ≤ R.locals) : CallB R s args own idx yX11_closeVault cX11_closeVault 1 (some .int) [Cond.code yX11_closeVault cX11_closeVault 1 (some .int)] rmX11_closeVault 1 6 0 := m_callB hT kc_X11_closeVault ki_X11_closeVault hlink (by decide +kernel) ⟨rfl, rfl, h1, h2⟩
set_option maxHeartbeats 4000000 in
set_option maxRecDepth 100000 in
theorem c_X11_closeVault (l : Launch) (w : WD) (hsf : l.stackTraces = false) (sz : Nat)  (M : Mem) (r : (Nat ⊕ Int32)) (M9 : Mem) (hf : f_X11_closeVault  M = some (r, M9)) : mMetx l yX11_closeVault cX11_closeVault 1 (some .int) rmX11_closeVault w sz M [.ref (w.1 12 16)] (moI r) M9 1 6 := by
  refine m_ofx (by decide) (Nat.le_of_ble_eq_true rfl) ?_
  intro p e s m args below meth c hx hb hr hml hown hlk hxt hI ls hl
  have hl : lv_has ls 1 [(0, .ref (w.1 12 16))] := hl
  unfold f_X11_closeVault at hf
  refine lv_aload_n hx hb dX11_closeVault_0 rfl (lv_at hl 0 rfl) ?_
  refine m_get (g := 12) (i := 16) (ci := 9) (k := 1) (v := .ref (w.1 12 17)) hx hb hI hown (mokX (by decide) (by decide)) rfl rfl (by decide) lyX11 (q295 hI.T) rfl dX11_closeVault_1 ?_
  refine lv_aload_n hx hb dX11_closeVault_4 rfl (lv_at hl 0 rfl) ?_
  refine m_get (g := 12) (i := 16) (ci := 9) (k := 0) (v := .ref (w.1 0 0)) hx hb hI hown (mokX (by decide) (by decide)) rfl rfl (by decide) lyX11 (q294 hI.T) rfl dX11_closeVault_5 ?_
  obtain ⟨r1, M2, hc, hf⟩ := mbnd_e hf
  refine m_callV (As := [.ref (w.1 0 0)]) (rest := []) hx hb hml hown hI (c_X4_prepare l w s.heap.size 0 (by decide) M _ _ hc) (kb_X4_prepare hI.T (q724 hI.T) (Nat.le_of_ble_eq_true rfl) (Nat.le_of_ble_eq_true rfl)) (q725 hI.T) (q726 hI.T) (m_recv (g := 12) (i := 17) hI (mokX (by decide) (by decide)) rfl rfl) rfl hl.1 (Nat.le_of_ble_eq_true rfl) dX11_closeVault_8 ⟨Nat.le_of_ble_eq_true rfl, Nat.le_of_ble_eq_true rfl⟩ (fun H locs hI => ?_)
  refine lv_aload_n hx hb dX11_closeVault_11 rfl (lv_at hl 0 rfl) ?_
  refine lv_aload_n hx hb dX11_closeVault_12 rfl (lv_at hl 0 rfl) ?_
  refine m_get (g := 12) (i := 16) (ci := 9) (k := 0) (v := .ref (w.1 0 0)) hx hb hI hown (mokX (by decide) (by decide)) rfl rfl (by decide) lyX11 (q294 hI.T) rfl dX11_closeVault_13 ?_
  obtain ⟨r3, M4, hc, hf⟩ := mbnd_e hf
  refine m_callV (As := []) (rest := [.ref (w.1 12 16)]) hx hb hml hown hI (c_X9_tryClose l w H.size 0 (by decide) M2 _ _ hc) (kb_X9_tryClose hI.T (q903 hI.T) (Nat.le_of_ble_eq_true rfl) (Nat.le_of_ble_eq_true rfl)) (q904 hI.T) (q905 hI.T) (m_recv (g := 0) (i := 0) hI (mokS (by decide) (by decide)) rfl rfl) rfl hl.1 (Nat.le_of_ble_eq_true rfl) dX11_closeVault_16 ⟨Nat.le_of_ble_eq_true rfl, Nat.le_of_ble_eq_true rfl⟩ (fun H locs hI => ?_)
  refine lv_iconst (v := 0) hx hb dX11_closeVault_19 (by decide) ?_
  rcases mbndx_e hf with ⟨n6, M7, hc, hf⟩ | ⟨r5, M7, hc, hf⟩
  · exact m_callxTV (As := [.int r3, .int (0 : Int32)]) (rest := []) hx hb hml hown hI (c_X11_settle l w hsf H.size r3 (0 : Int32) M4 _ _ hc) (kb_X11_settle hI.T (q756 hI.T) (Nat.le_of_ble_eq_true rfl) (Nat.le_of_ble_eq_true rfl)) (q758 hI.T) (sel_X11_settle hI.T) (m_recv (g := 12) (i := 16) hI (mokX (by decide) (by decide)) rfl rfl) rfl hl.1 (Nat.le_of_ble_eq_true rfl) dX11_closeVault_20 ⟨Nat.le_of_ble_eq_true rfl, Nat.le_of_ble_eq_true rfl⟩ hxt hlk hf (Nat.le_of_ble_eq_true rfl) (Nat.le_of_ble_eq_true rfl)
  refine m_callxRV (As := [.int r3, .int (0 : Int32)]) (rest := []) hx hb hml hown hI (c_X11_settle l w hsf H.size r3 (0 : Int32) M4 _ _ hc) (kb_X11_settle hI.T (q756 hI.T) (Nat.le_of_ble_eq_true rfl) (Nat.le_of_ble_eq_true rfl)) (q758 hI.T) (sel_X11_settle hI.T) (m_recv (g := 12) (i := 16) hI (mokX (by decide) (by decide)) rfl rfl) rfl hl.1 (Nat.le_of_ble_eq_true rfl) dX11_closeVault_20 ⟨Nat.le_of_ble_eq_true rfl, Nat.le_of_ble_eq_true rfl⟩ (fun H locs hI => ?_)
  exact m_iretx hx hb hr hlk hI hf dX11_closeVault_23 (Nat.le_of_ble_eq_true rfl) (Nat.le_of_ble_eq_true rfl)
abbrev rmX1_hasZone : Room := { frames := 0, cells := 0, slots := 0, locals := 0 }
theorem kb_X1_hasZone {R : Room} {s : State} {args : Array Value} {own : String} {idx : Nat} (hT : mT s) (hlink : (Cond.methodLink own idx yX1_hasZone).before args s = true) (h1 : rmX1_hasZone.frames + 1 ≤ R.frames) (h2 : 8 + (1 + 11) + rmX1_hasZone.locals ≤ R.locals) : CallB R s args own idx yX1_hasZone cX1_hasZone 1 (some .boolean) [Cond.code yX1_hasZone cX1_hasZone 1 (some .boolean)] rmX1_hasZone 0 0 1 := m_callB hT kc_X1_hasZone ki_X1_hasZone hlink (by decide +kernel) ⟨rfl, rfl, h1, h2⟩
set_option maxHeartbeats 4000000 in
set_option maxRecDepth 100000 in
theorem c_X1_hasZone (l : Launch) (w : WD) (sz : Nat) (a1 : Int32) (M : Mem) (r : Int32) (hf : f_X1_hasZone a1 M = some r) : mMet l yX1_hasZone cX1_hasZone 1 (some .boolean) rmX1_hasZone w sz M [.int a1] (some (.int r)) M := by
  refine m_of (by decide) (Nat.le_of_ble_eq_true rfl) ?_
  intro p e s m args below meth c hx hb hr hml hown hlk hI ls hl
  have hl : lv_has ls 1 [(0, .int a1)] := hl
  unfold f_X1_hasZone at hf
  refine lv_iload_n hx hb dX1_hasZone_0 rfl (lv_at hl 0 rfl) ?_
  refine lv_if_lt (tgt := 14) hx hb dX1_hasZone_1 (by decide) (fun c1 => ?_) (fun c1 => ?_)
  · have hf := (if_pos c1).symm.trans hf
    refine lv_iconst (v := 0) hx hb dX1_hasZone_14 (by decide) ?_
    exact m_zretp hx hb hr hlk hI rfl hf dX1_hasZone_15
  · have hf := (if_neg c1).symm.trans hf
    refine lv_iload_n hx hb dX1_hasZone_4 rfl (lv_at hl 0 rfl) ?_
    refine lv_bipush (v := 8) hx hb dX1_hasZone_5 (by decide) ?_
    refine lv_icmp_ge (tgt := 14) hx hb dX1_hasZone_7 (by decide) (fun c2 => ?_) (fun c2 => ?_)
    · have hf := (if_pos c2).symm.trans hf
      refine lv_iconst (v := 0) hx hb dX1_hasZone_14 (by decide) ?_
      exact m_zretp hx hb hr hlk hI rfl hf dX1_hasZone_15
    · have hf := (if_neg c2).symm.trans hf
      refine lv_iconst (v := 1) hx hb dX1_hasZone_10 (by decide) ?_
      refine lv_goto (tgt := 15) hx hb dX1_hasZone_11 (by decide) ?_
      exact m_zretp hx hb hr hlk hI rfl hf dX1_hasZone_15
abbrev rmX1_placeGuard : Room := { frames := 0, cells := 0, slots := 0, locals := 0 }
theorem kb_X1_placeGuard {R : Room} {s : State} {args : Array Value} {own : String} {idx : Nat} (hT : mT s) (hlink : (Cond.methodLink own idx yX1_placeGuard).before args s = true) (h1 : rmX1_placeGuard.frames + 1 ≤ R.frames) (h2 : 8 + (5 + 11) + rmX1_placeGuard.locals ≤ R.locals) : CallB R s args own idx yX1_placeGuard cX1_placeGuard 5 (some .int) [Cond.code yX1_placeGuard cX1_placeGuard 5 (some .int)] rmX1_placeGuard 0 0 3 := m_callB hT kc_X1_placeGuard ki_X1_placeGuard hlink (by decide +kernel) ⟨rfl, rfl, h1, h2⟩
set_option maxHeartbeats 4000000 in
set_option maxRecDepth 100000 in
theorem c_X1_placeGuard (l : Launch) (w : WD) (sz : Nat) (g : Nat) (hg : g ≤ 11) (a1 : Int32) (a2 : Int32) (a3 : Int32) (M : Mem) (r : Int32) (M9 : Mem) (hf : f_X1_placeGuard g a1 a2 a3 M = some (r, M9)) : mMet l yX1_placeGuard cX1_placeGuard 5 (some .int) rmX1_placeGuard w sz M [.ref (w.1 g 6), .int a1, .int a2, .int a3] (some (.int r)) M9 := by
  refine m_of (by decide) (Nat.le_of_ble_eq_true rfl) ?_
  intro p e s m args below meth c hx hb hr hml hown hlk hI ls hl
  have hl : lv_has ls 5 [(0, .ref (w.1 g 6)), (1, .int a1), (2, .int a2), (3, .int a3)] := hl
  unfold f_X1_placeGuard at hf
  refine lv_aload_n hx hb dX1_placeGuard_0 rfl (lv_at hl 0 rfl) ?_
  refine m_get (g := g) (i := 6) (ci := 0) (k := 4) (v := .int (M g 6 4)) hx hb hI hown (mokB hg (by decide) (by decide)) rfl rfl (by decide) lyX1 (q135 hI.T) rfl dX1_placeGuard_1 ?_
  refine lv_topi (fun x1 ex1 => ?_)
  have hf := mlet_s ex1 hf
  refine lv_istore (lv' := [(4, .int x1), (0, .ref (w.1 g 6)), (1, .int a1), (2, .int a2), (3, .int a3)]) hx hb dX1_placeGuard_4 hl (by decide) rfl (fun ls hl => ?_)
  refine lv_aload_n hx hb dX1_placeGuard_6 rfl (lv_at hl 1 rfl) ?_
  refine lv_dup hx hb dX1_placeGuard_7 rfl ?_
  refine m_get (g := g) (i := 6) (ci := 0) (k := 4) (v := .int (M g 6 4)) hx hb hI hown (mokB hg (by decide) (by decide)) rfl rfl (by decide) lyX1 (q135 hI.T) rfl dX1_placeGuard_8 ?_
  refine lv_iconst (v := 1) hx hb dX1_placeGuard_11 (by decide) ?_
  refine lv_iadd hx hb dX1_placeGuard_12 ?_
  obtain ⟨M2, eM2, hf⟩ := mlet_e hf
  refine m_put (g := g) (i := 6) (ci := 0) (k := 4) (ty := .int) (M1 := M2) hx hb hI hown (mokB hg (by decide) (by decide)) rfl rfl (by decide) lyX1 tyX1 tyX1_ok nmX1 (q135 hI.T) rfl rfl rfl rfl (Nat.le_of_ble_eq_true rfl) rfl eM2 dX1_placeGuard_13 (fun H locs hI => ?_)
  refine lv_aload_n hx hb dX1_placeGuard_16 rfl (lv_at hl 1 rfl) ?_
  refine m_get (g := g) (i := 6) (ci := 0) (k := 5) (v := .ref (w.1 g 9)) hx hb hI hown (mokB hg (by decide) (by decide)) rfl rfl (by decide) lyX1 (q138 hI.T) rfl dX1_placeGuard_17 ?_
  refine lv_iload hx hb dX1_placeGuard_20 (lv_at hl 0 rfl) ?_
  refine lv_iload_n hx hb dX1_placeGuard_22 rfl (lv_at hl 2 rfl) ?_
  obtain ⟨hi, hf⟩ := mix_e hf
  obtain ⟨M3, eM3, hf⟩ := mlet_e hf
  refine m_iast (g := g) (i := 9) (M1 := M3) hx hb hI (mokB hg (by decide) (by decide)) rfl hi eM3 dX1_placeGuard_23 (fun H locs hI => ?_)
  refine lv_aload_n hx hb dX1_placeGuard_24 rfl (lv_at hl 1 rfl) ?_
  refine m_get (g := g) (i := 6) (ci := 0) (k := 6) (v := .ref (w.1 g 10)) hx hb hI hown (mokB hg (by decide) (by decide)) rfl rfl (by decide) lyX1 (q140 hI.T) rfl dX1_placeGuard_25 ?_
  refine lv_iload hx hb dX1_placeGuard_28 (lv_at hl 0 rfl) ?_
  refine lv_iload_n hx hb dX1_placeGuard_30 rfl (lv_at hl 3 rfl) ?_
  obtain ⟨hi, hf⟩ := mix_e hf
  obtain ⟨M4, eM4, hf⟩ := mlet_e hf
  refine m_zast (g := g) (M1 := M4) hx hb hI (mokB hg (by decide) (by decide)) hi eM4 dX1_placeGuard_31 (fun H locs hI => ?_)
  refine lv_aload_n hx hb dX1_placeGuard_32 rfl (lv_at hl 1 rfl) ?_
  refine m_get (g := g) (i := 6) (ci := 0) (k := 7) (v := .ref (w.1 g 11)) hx hb hI hown (mokB hg (by decide) (by decide)) rfl rfl (by decide) lyX1 (q143 hI.T) rfl dX1_placeGuard_33 ?_
  refine lv_iload hx hb dX1_placeGuard_36 (lv_at hl 0 rfl) ?_
  refine lv_iload_n hx hb dX1_placeGuard_38 rfl (lv_at hl 4 rfl) ?_
  obtain ⟨hi, hf⟩ := mix_e hf
  obtain ⟨M5, eM5, hf⟩ := mlet_e hf
  refine m_iast (g := g) (i := 11) (M1 := M5) hx hb hI (mokB hg (by decide) (by decide)) rfl hi eM5 dX1_placeGuard_39 (fun H locs hI => ?_)
  refine lv_iload hx hb dX1_placeGuard_40 (lv_at hl 0 rfl) ?_
  exact m_iretf hx hb hr hlk hI hf dX1_placeGuard_42
abbrev rmX9_tryGuard : Room := { frames := 1, cells := 0, slots := 0, locals := 24 }
theorem kb_X9_tryGuard {R : Room} {s : State} {args : Array Value} {own : String} {idx : Nat} (hT : mT s) (hlink : (Cond.methodLink own idx yX9_tryGuard).before args s = true) (h1 : rmX9_tryGuard.frames + 1 ≤ R.frames) (h2 : 8 + (4 + 11) + rmX9_tryGuard.locals ≤ R.locals) : CallB R s args own idx yX9_tryGuard cX9_tryGuard 4 (some .int) [Cond.code yX9_tryGuard cX9_tryGuard 4 (some .int)] rmX9_tryGuard 0 0 3 := m_callB hT kc_X9_tryGuard ki_X9_tryGuard hlink (by decide +kernel) ⟨rfl, rfl, h1, h2⟩
set_option maxHeartbeats 4000000 in
set_option maxRecDepth 100000 in
theorem c_X9_tryGuard (l : Launch) (w : WD) (sz : Nat) (g : Nat) (hg : g ≤ 10) (a1 : Int32) (a2 : Int32) (a3 : Int32) (M : Mem) (r : Int32) (M9 : Mem) (hf : f_X9_tryGuard g a1 a2 a3 M = some (r, M9)) : mMet l yX9_tryGuard cX9_tryGuard 4 (some .int) rmX9_tryGuard w sz M [.ref (w.1 g 0), .int a1, .int a2, .int a3] (some (.int r)) M9 := by
  refine m_of (by decide) (Nat.le_of_ble_eq_true rfl) ?_
  intro p e s m args below meth c hx hb hr hml hown hlk hI ls hl
  have hl : lv_has ls 4 [(0, .ref (w.1 g 0)), (1, .int a1), (2, .int a2), (3, .int a3)] := hl
  unfold f_X9_tryGuard at hf
  refine lv_iload_n hx hb dX9_tryGuard_0 rfl (lv_at hl 1 rfl) ?_
  obtain ⟨r1, hc, hf⟩ := mbp_e hf
  refine m_callS (As := [.int a1]) (rest := []) hx hb hml hown hI (c_X1_hasZone l w s.heap.size a1 M _ hc) (kb_X1_hasZone hI.T (q918 hI.T) (Nat.le_of_ble_eq_true rfl) (Nat.le_of_ble_eq_true rfl)) (q587 hI.T) rfl hl.1 (Nat.le_of_ble_eq_true rfl) dX9_tryGuard_1 ⟨Nat.le_of_ble_eq_true rfl, Nat.le_of_ble_eq_true rfl⟩ (fun H locs hI => ?_)
  refine lv_if_eq (tgt := 17) hx hb dX9_tryGuard_4 (by decide) (fun c2 => ?_) (fun c2 => ?_)
  · have hf := (if_pos c2).symm.trans hf
    refine lv_bipush (v := (-2)) hx hb dX9_tryGuard_17 (by decide) ?_
    exact m_iretf hx hb hr hlk hI hf dX9_tryGuard_19
  · have hf := (if_neg c2).symm.trans hf
    refine lv_iload_n hx hb dX9_tryGuard_7 rfl (lv_at hl 3 rfl) ?_
    refine lv_iconst (v := 1) hx hb dX9_tryGuard_8 (by decide) ?_
    refine lv_icmp_lt (tgt := 17) hx hb dX9_tryGuard_9 (by decide) (fun c3 => ?_) (fun c3 => ?_)
    · have hf := (if_pos c3).symm.trans hf
      refine lv_bipush (v := (-2)) hx hb dX9_tryGuard_17 (by decide) ?_
      exact m_iretf hx hb hr hlk hI hf dX9_tryGuard_19
    · have hf := (if_neg c3).symm.trans hf
      refine lv_iload_n hx hb dX9_tryGuard_12 rfl (lv_at hl 3 rfl) ?_
      refine lv_iconst (v := 4) hx hb dX9_tryGuard_13 (by decide) ?_
      refine lv_icmp_le (tgt := 20) hx hb dX9_tryGuard_14 (by decide) (fun c4 => ?_) (fun c4 => ?_)
      · have hf := (if_pos c4).symm.trans hf
        refine lv_aload_n hx hb dX9_tryGuard_20 rfl (lv_at hl 0 rfl) ?_
        refine m_get (g := g) (i := 0) (ci := 8) (k := 2) (v := .ref (w.1 g 6)) hx hb hI hown (mokS hg (by decide)) rfl rfl (by decide) lyX9 (q190 hI.T) rfl dX9_tryGuard_21 ?_
        refine m_get (g := g) (i := 6) (ci := 0) (k := 4) (v := .int (M g 6 4)) hx hb hI hown (mokS hg (by decide)) rfl rfl (by decide) lyX1 (q136 hI.T) rfl dX9_tryGuard_24 ?_
        refine lv_iconst (v := 3) hx hb dX9_tryGuard_27 (by decide) ?_
        refine lv_icmp_lt (tgt := 33) hx hb dX9_tryGuard_28 (by decide) (fun c5 => ?_) (fun c5 => ?_)
        · have hf := (if_pos c5).symm.trans hf
          refine lv_aload_n hx hb dX9_tryGuard_33 rfl (lv_at hl 0 rfl) ?_
          refine lv_aload_n hx hb dX9_tryGuard_34 rfl (lv_at hl 0 rfl) ?_
          refine m_get (g := g) (i := 0) (ci := 8) (k := 2) (v := .ref (w.1 g 6)) hx hb hI hown (mokS hg (by decide)) rfl rfl (by decide) lyX9 (q190 hI.T) rfl dX9_tryGuard_35 ?_
          refine lv_iload_n hx hb dX9_tryGuard_38 rfl (lv_at hl 1 rfl) ?_
          refine lv_iload_n hx hb dX9_tryGuard_39 rfl (lv_at hl 2 rfl) ?_
          refine lv_iload_n hx hb dX9_tryGuard_40 rfl (lv_at hl 3 rfl) ?_
          obtain ⟨r6, M7, hc, hf⟩ := mbnd_e hf
          refine m_callV (As := [.int a1, .int a2, .int a3]) (rest := [.ref (w.1 g 0)]) hx hb hml hown hI (c_X1_placeGuard l w H.size g (Nat.le_trans hg (by decide)) a1 a2 a3 M _ _ hc) (kb_X1_placeGuard hI.T (q919 hI.T) (Nat.le_of_ble_eq_true rfl) (Nat.le_of_ble_eq_true rfl)) (q920 hI.T) (q921 hI.T) (m_recv (g := g) (i := 6) hI (mokS hg (by decide)) rfl rfl) rfl hl.1 (Nat.le_of_ble_eq_true rfl) dX9_tryGuard_41 ⟨Nat.le_of_ble_eq_true rfl, Nat.le_of_ble_eq_true rfl⟩ (fun H locs hI => ?_)
          obtain ⟨M8, eM8, hf⟩ := mlet_e hf
          refine m_put (g := g) (i := 0) (ci := 8) (k := 4) (ty := .int) (M1 := M8) hx hb hI hown (mokS hg (by decide)) rfl rfl (by decide) lyX9 tyX9 tyX9_ok nmX9 (q194 hI.T) rfl rfl rfl rfl (Nat.le_of_ble_eq_true rfl) rfl eM8 dX9_tryGuard_44 (fun H locs hI => ?_)
          refine lv_iconst (v := 0) hx hb dX9_tryGuard_47 (by decide) ?_
          exact m_iretf hx hb hr hlk hI hf dX9_tryGuard_48
        · have hf := (if_neg c5).symm.trans hf
          refine lv_iconst (v := 1) hx hb dX9_tryGuard_31 (by decide) ?_
          exact m_iretf hx hb hr hlk hI hf dX9_tryGuard_32
      · have hf := (if_neg c4).symm.trans hf
        refine lv_bipush (v := (-2)) hx hb dX9_tryGuard_17 (by decide) ?_
        exact m_iretf hx hb hr hlk hI hf dX9_tryGuard_19
abbrev rmX11_addGuard : Room := { frames := 9, cells := 1, slots := 6, locals := 162 }
theorem kb_X11_addGuard {R : Room} {s : State} {args : Array Value} {own : String} {idx : Nat} (hT : mT s) (hlink : (Cond.methodLink own idx yX11_addGuard).before args s = true) (h1 : rmX11_addGuard.frames + 1 ≤ R.frames) (h2 : 8 + (4 + 11) + rmX11_addGuard.locals ≤ R.locals) : CallB R s args own idx yX11_addGuard cX11_addGuard 4 (some .int) [Cond.code yX11_addGuard cX11_addGuard 4 (some .int)] rmX11_addGuard 1 6 3 := m_callB hT kc_X11_addGuard ki_X11_addGuard hlink (by decide +kernel) ⟨rfl, rfl, h1, h2⟩
set_option maxHeartbeats 4000000 in
set_option maxRecDepth 100000 in
theorem c_X11_addGuard (l : Launch) (w : WD) (hsf : l.stackTraces = false) (sz : Nat) (a1 : Int32) (a2 : Int32) (a3 : Int32) (M : Mem) (r : (Nat ⊕ Int32)) (M9 : Mem) (hf : f_X11_addGuard a1 a2 a3 M = some (r, M9)) : mMetx l yX11_addGuard cX11_addGuard 4 (some .int) rmX11_addGuard w sz M [.ref (w.1 12 16), .int a1, .int a2, .int a3] (moI r) M9 1 6 := by
  refine m_ofx (by decide) (Nat.le_of_ble_eq_true rfl) ?_
  intro p e s m args below meth c hx hb hr hml hown hlk hxt hI ls hl
  have hl : lv_has ls 4 [(0, .ref (w.1 12 16)), (1, .int a1), (2, .int a2), (3, .int a3)] := hl
  unfold f_X11_addGuard at hf
  refine lv_aload_n hx hb dX11_addGuard_0 rfl (lv_at hl 0 rfl) ?_
  refine m_get (g := 12) (i := 16) (ci := 9) (k := 1) (v := .ref (w.1 12 17)) hx hb hI hown (mokX (by decide) (by decide)) rfl rfl (by decide) lyX11 (q295 hI.T) rfl dX11_addGuard_1 ?_
  refine lv_aload_n hx hb dX11_addGuard_4 rfl (lv_at hl 0 rfl) ?_
  refine m_get (g := 12) (i := 16) (ci := 9) (k := 0) (v := .ref (w.1 0 0)) hx hb hI hown (mokX (by decide) (by decide)) rfl rfl (by decide) lyX11 (q294 hI.T) rfl dX11_addGuard_5 ?_
  obtain ⟨r1, M2, hc, hf⟩ := mbnd_e hf
  refine m_callV (As := [.ref (w.1 0 0)]) (rest := []) hx hb hml hown hI (c_X4_prepare l w s.heap.size 0 (by decide) M _ _ hc) (kb_X4_prepare hI.T (q724 hI.T) (Nat.le_of_ble_eq_true rfl) (Nat.le_of_ble_eq_true rfl)) (q725 hI.T) (q726 hI.T) (m_recv (g := 12) (i := 17) hI (mokX (by decide) (by decide)) rfl rfl) rfl hl.1 (Nat.le_of_ble_eq_true rfl) dX11_addGuard_8 ⟨Nat.le_of_ble_eq_true rfl, Nat.le_of_ble_eq_true rfl⟩ (fun H locs hI => ?_)
  refine lv_aload_n hx hb dX11_addGuard_11 rfl (lv_at hl 0 rfl) ?_
  refine lv_aload_n hx hb dX11_addGuard_12 rfl (lv_at hl 0 rfl) ?_
  refine m_get (g := 12) (i := 16) (ci := 9) (k := 0) (v := .ref (w.1 0 0)) hx hb hI hown (mokX (by decide) (by decide)) rfl rfl (by decide) lyX11 (q294 hI.T) rfl dX11_addGuard_13 ?_
  refine lv_iload_n hx hb dX11_addGuard_16 rfl (lv_at hl 1 rfl) ?_
  refine lv_iload_n hx hb dX11_addGuard_17 rfl (lv_at hl 2 rfl) ?_
  refine lv_iload_n hx hb dX11_addGuard_18 rfl (lv_at hl 3 rfl) ?_
  obtain ⟨r3, M4, hc, hf⟩ := mbnd_e hf
  refine m_callV (As := [.int a1, .int a2, .int a3]) (rest := [.ref (w.1 12 16)]) hx hb hml hown hI (c_X9_tryGuard l w H.size 0 (by decide) a1 a2 a3 M2 _ _ hc) (kb_X9_tryGuard hI.T (q914 hI.T) (Nat.le_of_ble_eq_true rfl) (Nat.le_of_ble_eq_true rfl)) (q915 hI.T) (q916 hI.T) (m_recv (g := 0) (i := 0) hI (mokS (by decide) (by decide)) rfl rfl) rfl hl.1 (Nat.le_of_ble_eq_true rfl) dX11_addGuard_19 ⟨Nat.le_of_ble_eq_true rfl, Nat.le_of_ble_eq_true rfl⟩ (fun H locs hI => ?_)
  refine lv_iconst (v := 3) hx hb dX11_addGuard_22 (by decide) ?_
  rcases mbndx_e hf with ⟨n6, M7, hc, hf⟩ | ⟨r5, M7, hc, hf⟩
  · exact m_callxTV (As := [.int r3, .int (3 : Int32)]) (rest := []) hx hb hml hown hI (c_X11_settle l w hsf H.size r3 (3 : Int32) M4 _ _ hc) (kb_X11_settle hI.T (q756 hI.T) (Nat.le_of_ble_eq_true rfl) (Nat.le_of_ble_eq_true rfl)) (q758 hI.T) (sel_X11_settle hI.T) (m_recv (g := 12) (i := 16) hI (mokX (by decide) (by decide)) rfl rfl) rfl hl.1 (Nat.le_of_ble_eq_true rfl) dX11_addGuard_23 ⟨Nat.le_of_ble_eq_true rfl, Nat.le_of_ble_eq_true rfl⟩ hxt hlk hf (Nat.le_of_ble_eq_true rfl) (Nat.le_of_ble_eq_true rfl)
  refine m_callxRV (As := [.int r3, .int (3 : Int32)]) (rest := []) hx hb hml hown hI (c_X11_settle l w hsf H.size r3 (3 : Int32) M4 _ _ hc) (kb_X11_settle hI.T (q756 hI.T) (Nat.le_of_ble_eq_true rfl) (Nat.le_of_ble_eq_true rfl)) (q758 hI.T) (sel_X11_settle hI.T) (m_recv (g := 12) (i := 16) hI (mokX (by decide) (by decide)) rfl rfl) rfl hl.1 (Nat.le_of_ble_eq_true rfl) dX11_addGuard_23 ⟨Nat.le_of_ble_eq_true rfl, Nat.le_of_ble_eq_true rfl⟩ (fun H locs hI => ?_)
  exact m_iretx hx hb hr hlk hI hf dX11_addGuard_26 (Nat.le_of_ble_eq_true rfl) (Nat.le_of_ble_eq_true rfl)
abbrev rmX1_hasGuard : Room := { frames := 0, cells := 0, slots := 0, locals := 0 }
theorem kb_X1_hasGuard {R : Room} {s : State} {args : Array Value} {own : String} {idx : Nat} (hT : mT s) (hlink : (Cond.methodLink own idx yX1_hasGuard).before args s = true) (h1 : rmX1_hasGuard.frames + 1 ≤ R.frames) (h2 : 8 + (2 + 11) + rmX1_hasGuard.locals ≤ R.locals) : CallB R s args own idx yX1_hasGuard cX1_hasGuard 2 (some .boolean) [Cond.code yX1_hasGuard cX1_hasGuard 2 (some .boolean)] rmX1_hasGuard 0 0 1 := m_callB hT kc_X1_hasGuard ki_X1_hasGuard hlink (by decide +kernel) ⟨rfl, rfl, h1, h2⟩
set_option maxHeartbeats 4000000 in
set_option maxRecDepth 100000 in
theorem c_X1_hasGuard (l : Launch) (w : WD) (sz : Nat) (g : Nat) (hg : g ≤ 11) (a1 : Int32) (M : Mem) (r : Int32) (hf : f_X1_hasGuard g a1 M = some r) : mMet l yX1_hasGuard cX1_hasGuard 2 (some .boolean) rmX1_hasGuard w sz M [.ref (w.1 g 6), .int a1] (some (.int r)) M := by
  refine m_of (by decide) (Nat.le_of_ble_eq_true rfl) ?_
  intro p e s m args below meth c hx hb hr hml hown hlk hI ls hl
  have hl : lv_has ls 2 [(0, .ref (w.1 g 6)), (1, .int a1)] := hl
  unfold f_X1_hasGuard at hf
  refine lv_iload_n hx hb dX1_hasGuard_0 rfl (lv_at hl 1 rfl) ?_
  refine lv_if_lt (tgt := 16) hx hb dX1_hasGuard_1 (by decide) (fun c1 => ?_) (fun c1 => ?_)
  · have hf := (if_pos c1).symm.trans hf
    refine lv_iconst (v := 0) hx hb dX1_hasGuard_16 (by decide) ?_
    exact m_zretp hx hb hr hlk hI rfl hf dX1_hasGuard_17
  · have hf := (if_neg c1).symm.trans hf
    refine lv_iload_n hx hb dX1_hasGuard_4 rfl (lv_at hl 1 rfl) ?_
    refine lv_aload_n hx hb dX1_hasGuard_5 rfl (lv_at hl 0 rfl) ?_
    refine m_get (g := g) (i := 6) (ci := 0) (k := 4) (v := .int (M g 6 4)) hx hb hI hown (mokB hg (by decide) (by decide)) rfl rfl (by decide) lyX1 (q135 hI.T) rfl dX1_hasGuard_6 ?_
    refine lv_icmp_ge (tgt := 16) hx hb dX1_hasGuard_9 (by decide) (fun c2 => ?_) (fun c2 => ?_)
    · have hf := (if_pos c2).symm.trans hf
      refine lv_iconst (v := 0) hx hb dX1_hasGuard_16 (by decide) ?_
      exact m_zretp hx hb hr hlk hI rfl hf dX1_hasGuard_17
    · have hf := (if_neg c2).symm.trans hf
      refine lv_iconst (v := 1) hx hb dX1_hasGuard_12 (by decide) ?_
      refine lv_goto (tgt := 17) hx hb dX1_hasGuard_13 (by decide) ?_
      exact m_zretp hx hb hr hlk hI rfl hf dX1_hasGuard_17
abbrev rmX9_tryTurn : Room := { frames := 1, cells := 0, slots := 0, locals := 21 }
theorem kb_X9_tryTurn {R : Room} {s : State} {args : Array Value} {own : String} {idx : Nat} (hT : mT s) (hlink : (Cond.methodLink own idx yX9_tryTurn).before args s = true) (h1 : rmX9_tryTurn.frames + 1 ≤ R.frames) (h2 : 8 + (2 + 11) + rmX9_tryTurn.locals ≤ R.locals) : CallB R s args own idx yX9_tryTurn cX9_tryTurn 2 (some .int) [Cond.code yX9_tryTurn cX9_tryTurn 2 (some .int)] rmX9_tryTurn 0 0 1 := m_callB hT kc_X9_tryTurn ki_X9_tryTurn hlink (by decide +kernel) ⟨rfl, rfl, h1, h2⟩
set_option maxHeartbeats 4000000 in
set_option maxRecDepth 100000 in
theorem c_X9_tryTurn (l : Launch) (w : WD) (sz : Nat) (g : Nat) (hg : g ≤ 10) (a1 : Int32) (M : Mem) (r : Int32) (M9 : Mem) (hf : f_X9_tryTurn g a1 M = some (r, M9)) : mMet l yX9_tryTurn cX9_tryTurn 2 (some .int) rmX9_tryTurn w sz M [.ref (w.1 g 0), .int a1] (some (.int r)) M9 := by
  refine m_of (by decide) (Nat.le_of_ble_eq_true rfl) ?_
  intro p e s m args below meth c hx hb hr hml hown hlk hI ls hl
  have hl : lv_has ls 2 [(0, .ref (w.1 g 0)), (1, .int a1)] := hl
  unfold f_X9_tryTurn at hf
  refine lv_aload_n hx hb dX9_tryTurn_0 rfl (lv_at hl 0 rfl) ?_
  refine m_get (g := g) (i := 0) (ci := 8) (k := 2) (v := .ref (w.1 g 6)) hx hb hI hown (mokS hg (by decide)) rfl rfl (by decide) lyX9 (q190 hI.T) rfl dX9_tryTurn_1 ?_
  refine lv_iload_n hx hb dX9_tryTurn_4 rfl (lv_at hl 1 rfl) ?_
  obtain ⟨r1, hc, hf⟩ := mbp_e hf
  refine m_callV (As := [.int a1]) (rest := []) hx hb hml hown hI (c_X1_hasGuard l w s.heap.size g (Nat.le_trans hg (by decide)) a1 M _ hc) (kb_X1_hasGuard hI.T (q934 hI.T) (Nat.le_of_ble_eq_true rfl) (Nat.le_of_ble_eq_true rfl)) (q692 hI.T) (q693 hI.T) (m_recv (g := g) (i := 6) hI (mokS hg (by decide)) rfl rfl) rfl hl.1 (Nat.le_of_ble_eq_true rfl) dX9_tryTurn_5 ⟨Nat.le_of_ble_eq_true rfl, Nat.le_of_ble_eq_true rfl⟩ (fun H locs hI => ?_)
  refine lv_if_ne (tgt := 13) hx hb dX9_tryTurn_8 (by decide) (fun c2 => ?_) (fun c2 => ?_)
  · have hf := (if_neg c2).symm.trans hf
    refine lv_aload_n hx hb dX9_tryTurn_13 rfl (lv_at hl 0 rfl) ?_
    refine m_get (g := g) (i := 0) (ci := 8) (k := 2) (v := .ref (w.1 g 6)) hx hb hI hown (mokS hg (by decide)) rfl rfl (by decide) lyX9 (q190 hI.T) rfl dX9_tryTurn_14 ?_
    refine m_get (g := g) (i := 6) (ci := 0) (k := 6) (v := .ref (w.1 g 10)) hx hb hI hown (mokS hg (by decide)) rfl rfl (by decide) lyX1 (q141 hI.T) rfl dX9_tryTurn_17 ?_
    refine lv_iload_n hx hb dX9_tryTurn_20 rfl (lv_at hl 1 rfl) ?_
    refine lv_aload_n hx hb dX9_tryTurn_21 rfl (lv_at hl 0 rfl) ?_
    refine m_get (g := g) (i := 0) (ci := 8) (k := 2) (v := .ref (w.1 g 6)) hx hb hI hown (mokS hg (by decide)) rfl rfl (by decide) lyX9 (q190 hI.T) rfl dX9_tryTurn_22 ?_
    refine m_get (g := g) (i := 6) (ci := 0) (k := 6) (v := .ref (w.1 g 10)) hx hb hI hown (mokS hg (by decide)) rfl rfl (by decide) lyX1 (q141 hI.T) rfl dX9_tryTurn_25 ?_
    refine lv_iload_n hx hb dX9_tryTurn_28 rfl (lv_at hl 1 rfl) ?_
    obtain ⟨hi, hf⟩ := mix_e hf
    refine m_zald (g := g) hx hb hI (mokS hg (by decide)) hi dX9_tryTurn_29 ?_
    obtain ⟨k38_5, ek38_5, hf⟩ := mlet_e hf
    have hj38_5 : ∀ (x4 : Int32) (H : Heap) (locs : List Loc) (ls : Array Slot), k38_5 x4 = some (r, M9) → mI w s (mA w s.heap.size) H locs M → lv_has ls 2 [(0, .ref (w.1 g 0)), (1, .int a1)] → W p l e rmX9_tryTurn s m args below meth c H locs 0 0 (MQ below (mQ w s.heap.size (some (.int r)) M9) args s 0 0 (mA w s.heap.size)) (F0 m 38 ls [.int x4, .int a1, .ref (w.1 g 10)]) := by
      intro x4 H locs ls hf hI hl
      rw [ek38_5] at hf
      try dsimp only at hf
      obtain ⟨hi, hf⟩ := mix_e hf
      obtain ⟨M6, eM6, hf⟩ := mlet_e hf
      refine m_zast (g := g) (M1 := M6) hx hb hI (mokS hg (by decide)) hi eM6 dX9_tryTurn_38 (fun H locs hI => ?_)
      refine lv_aload_n hx hb dX9_tryTurn_39 rfl (lv_at hl 0 rfl) ?_
      refine lv_aload_n hx hb dX9_tryTurn_40 rfl (lv_at hl 0 rfl) ?_
      refine m_get (g := g) (i := 0) (ci := 8) (k := 2) (v := .ref (w.1 g 6)) hx hb hI hown (mokS hg (by decide)) rfl rfl (by decide) lyX9 (q190 hI.T) rfl dX9_tryTurn_41 ?_
      refine m_get (g := g) (i := 6) (ci := 0) (k := 6) (v := .ref (w.1 g 10)) hx hb hI hown (mokS hg (by decide)) rfl rfl (by decide) lyX1 (q141 hI.T) rfl dX9_tryTurn_44 ?_
      refine lv_iload_n hx hb dX9_tryTurn_47 rfl (lv_at hl 1 rfl) ?_
      obtain ⟨hi, hf⟩ := mix_e hf
      refine m_zald (g := g) hx hb hI (mokS hg (by decide)) hi dX9_tryTurn_48 ?_
      obtain ⟨k57_9, ek57_9, hf⟩ := mlet_e hf
      have hj57_9 : ∀ (x8 : Int32) (H : Heap) (locs : List Loc) (ls : Array Slot), k57_9 x8 = some (r, M9) → mI w s (mA w s.heap.size) H locs M6 → lv_has ls 2 [] → W p l e rmX9_tryTurn s m args below meth c H locs 0 0 (MQ below (mQ w s.heap.size (some (.int r)) M9) args s 0 0 (mA w s.heap.size)) (F0 m 57 ls [.int x8, .ref (w.1 g 0)]) := by
        intro x8 H locs ls hf hI hl
        rw [ek57_9] at hf
        try dsimp only at hf
        obtain ⟨M10, eM10, hf⟩ := mlet_e hf
        refine m_put (g := g) (i := 0) (ci := 8) (k := 4) (ty := .int) (M1 := M10) hx hb hI hown (mokS hg (by decide)) rfl rfl (by decide) lyX9 tyX9 tyX9_ok nmX9 (q194 hI.T) rfl rfl rfl rfl (Nat.le_of_ble_eq_true rfl) rfl eM10 dX9_tryTurn_57 (fun H locs hI => ?_)
        refine lv_iconst (v := 0) hx hb dX9_tryTurn_60 (by decide) ?_
        exact m_iretf hx hb hr hlk hI hf dX9_tryTurn_61
      refine lv_if_eq (tgt := 56) hx hb dX9_tryTurn_49 (by decide) (fun c7 => ?_) (fun c7 => ?_)
      · have hf := (if_pos c7).symm.trans hf
        refine lv_iconst (v := 0) hx hb dX9_tryTurn_56 (by decide) ?_
        exact hj57_9 (0 : Int32) H _ _ hf hI (lv_sub hl [] rfl)
      · have hf := (if_neg c7).symm.trans hf
        refine lv_iconst (v := 1) hx hb dX9_tryTurn_52 (by decide) ?_
        refine lv_goto (tgt := 57) hx hb dX9_tryTurn_53 (by decide) ?_
        exact hj57_9 (1 : Int32) H _ _ hf hI (lv_sub hl [] rfl)
    refine lv_if_ne (tgt := 37) hx hb dX9_tryTurn_30 (by decide) (fun c3 => ?_) (fun c3 => ?_)
    · have hf := (if_neg c3).symm.trans hf
      refine lv_iconst (v := 0) hx hb dX9_tryTurn_37 (by decide) ?_
      exact hj38_5 (0 : Int32) H _ _ hf hI (lv_sub hl [0, 1] rfl)
    · have hf := (if_pos c3).symm.trans hf
      refine lv_iconst (v := 1) hx hb dX9_tryTurn_33 (by decide) ?_
      refine lv_goto (tgt := 38) hx hb dX9_tryTurn_34 (by decide) ?_
      exact hj38_5 (1 : Int32) H _ _ hf hI (lv_sub hl [0, 1] rfl)
  · have hf := (if_pos c2).symm.trans hf
    refine lv_iconst (v := (-1)) hx hb dX9_tryTurn_11 (by decide) ?_
    exact m_iretf hx hb hr hlk hI hf dX9_tryTurn_12
abbrev rmX11_turnGuard : Room := { frames := 9, cells := 1, slots := 6, locals := 162 }
theorem kb_X11_turnGuard {R : Room} {s : State} {args : Array Value} {own : String} {idx : Nat} (hT : mT s) (hlink : (Cond.methodLink own idx yX11_turnGuard).before args s = true) (h1 : rmX11_turnGuard.frames + 1 ≤ R.frames) (h2 : 8 + (2 + 11) + rmX11_turnGuard.locals ≤ R.locals) : CallB R s args own idx yX11_turnGuard cX11_turnGuard 2 (some .boolean) [Cond.code yX11_turnGuard cX11_turnGuard 2 (some .boolean)] rmX11_turnGuard 1 6 1 := m_callB hT kc_X11_turnGuard ki_X11_turnGuard hlink (by decide +kernel) ⟨rfl, rfl, h1, h2⟩
set_option maxHeartbeats 4000000 in
set_option maxRecDepth 100000 in
theorem c_X11_turnGuard (l : Launch) (w : WD) (hsf : l.stackTraces = false) (sz : Nat) (a1 : Int32) (M : Mem) (r : (Nat ⊕ Int32)) (M9 : Mem) (hf : f_X11_turnGuard a1 M = some (r, M9)) : mMetx l yX11_turnGuard cX11_turnGuard 2 (some .boolean) rmX11_turnGuard w sz M [.ref (w.1 12 16), .int a1] (moI r) M9 1 6 := by
  refine m_ofx (by decide) (Nat.le_of_ble_eq_true rfl) ?_
  intro p e s m args below meth c hx hb hr hml hown hlk hxt hI ls hl
  have hl : lv_has ls 2 [(0, .ref (w.1 12 16)), (1, .int a1)] := hl
  unfold f_X11_turnGuard at hf
  refine lv_aload_n hx hb dX11_turnGuard_0 rfl (lv_at hl 0 rfl) ?_
  refine m_get (g := 12) (i := 16) (ci := 9) (k := 1) (v := .ref (w.1 12 17)) hx hb hI hown (mokX (by decide) (by decide)) rfl rfl (by decide) lyX11 (q295 hI.T) rfl dX11_turnGuard_1 ?_
  refine lv_aload_n hx hb dX11_turnGuard_4 rfl (lv_at hl 0 rfl) ?_
  refine m_get (g := 12) (i := 16) (ci := 9) (k := 0) (v := .ref (w.1 0 0)) hx hb hI hown (mokX (by decide) (by decide)) rfl rfl (by decide) lyX11 (q294 hI.T) rfl dX11_turnGuard_5 ?_
  obtain ⟨r1, M2, hc, hf⟩ := mbnd_e hf
  refine m_callV (As := [.ref (w.1 0 0)]) (rest := []) hx hb hml hown hI (c_X4_prepare l w s.heap.size 0 (by decide) M _ _ hc) (kb_X4_prepare hI.T (q724 hI.T) (Nat.le_of_ble_eq_true rfl) (Nat.le_of_ble_eq_true rfl)) (q725 hI.T) (q726 hI.T) (m_recv (g := 12) (i := 17) hI (mokX (by decide) (by decide)) rfl rfl) rfl hl.1 (Nat.le_of_ble_eq_true rfl) dX11_turnGuard_8 ⟨Nat.le_of_ble_eq_true rfl, Nat.le_of_ble_eq_true rfl⟩ (fun H locs hI => ?_)
  refine lv_aload_n hx hb dX11_turnGuard_11 rfl (lv_at hl 0 rfl) ?_
  refine lv_aload_n hx hb dX11_turnGuard_12 rfl (lv_at hl 0 rfl) ?_
  refine m_get (g := 12) (i := 16) (ci := 9) (k := 0) (v := .ref (w.1 0 0)) hx hb hI hown (mokX (by decide) (by decide)) rfl rfl (by decide) lyX11 (q294 hI.T) rfl dX11_turnGuard_13 ?_
  refine lv_iload_n hx hb dX11_turnGuard_16 rfl (lv_at hl 1 rfl) ?_
  obtain ⟨r3, M4, hc, hf⟩ := mbnd_e hf
  refine m_callV (As := [.int a1]) (rest := [.ref (w.1 12 16)]) hx hb hml hown hI (c_X9_tryTurn l w H.size 0 (by decide) a1 M2 _ _ hc) (kb_X9_tryTurn hI.T (q930 hI.T) (Nat.le_of_ble_eq_true rfl) (Nat.le_of_ble_eq_true rfl)) (q931 hI.T) (q932 hI.T) (m_recv (g := 0) (i := 0) hI (mokS (by decide) (by decide)) rfl rfl) rfl hl.1 (Nat.le_of_ble_eq_true rfl) dX11_turnGuard_17 ⟨Nat.le_of_ble_eq_true rfl, Nat.le_of_ble_eq_true rfl⟩ (fun H locs hI => ?_)
  refine lv_iconst (v := 0) hx hb dX11_turnGuard_20 (by decide) ?_
  rcases mbndx_e hf with ⟨n6, M7, hc, hf⟩ | ⟨r5, M7, hc, hf⟩
  · exact m_callxTV (As := [.int r3, .int (0 : Int32)]) (rest := []) hx hb hml hown hI (c_X11_settle l w hsf H.size r3 (0 : Int32) M4 _ _ hc) (kb_X11_settle hI.T (q756 hI.T) (Nat.le_of_ble_eq_true rfl) (Nat.le_of_ble_eq_true rfl)) (q758 hI.T) (sel_X11_settle hI.T) (m_recv (g := 12) (i := 16) hI (mokX (by decide) (by decide)) rfl rfl) rfl hl.1 (Nat.le_of_ble_eq_true rfl) dX11_turnGuard_21 ⟨Nat.le_of_ble_eq_true rfl, Nat.le_of_ble_eq_true rfl⟩ hxt hlk hf (Nat.le_of_ble_eq_true rfl) (Nat.le_of_ble_eq_true rfl)
  refine m_callxRV (As := [.int r3, .int (0 : Int32)]) (rest := []) hx hb hml hown hI (c_X11_settle l w hsf H.size r3 (0 : Int32) M4 _ _ hc) (kb_X11_settle hI.T (q756 hI.T) (Nat.le_of_ble_eq_true rfl) (Nat.le_of_ble_eq_true rfl)) (q758 hI.T) (sel_X11_settle hI.T) (m_recv (g := 12) (i := 16) hI (mokX (by decide) (by decide)) rfl rfl) rfl hl.1 (Nat.le_of_ble_eq_true rfl) dX11_turnGuard_21 ⟨Nat.le_of_ble_eq_true rfl, Nat.le_of_ble_eq_true rfl⟩ (fun H locs hI => ?_)
  refine lv_iconst (v := 1) hx hb dX11_turnGuard_24 (by decide) ?_
  refine lv_icmp_ne (tgt := 32) hx hb dX11_turnGuard_25 (by decide) (fun c8 => ?_) (fun c8 => ?_)
  · have hf := (if_neg c8).symm.trans hf
    refine lv_iconst (v := 0) hx hb dX11_turnGuard_32 (by decide) ?_
    exact m_zretx hx hb hr hlk hI rfl hf dX11_turnGuard_33 (Nat.le_of_ble_eq_true rfl) (Nat.le_of_ble_eq_true rfl)
  · have hf := (if_pos c8).symm.trans hf
    refine lv_iconst (v := 1) hx hb dX11_turnGuard_28 (by decide) ?_
    refine lv_goto (tgt := 33) hx hb dX11_turnGuard_29 (by decide) ?_
    exact m_zretx hx hb hr hlk hI rfl hf dX11_turnGuard_33 (Nat.le_of_ble_eq_true rfl) (Nat.le_of_ble_eq_true rfl)
