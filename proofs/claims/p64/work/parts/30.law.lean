abbrev rmL_cell : Room := { frames := 0, cells := 0, slots := 0, locals := 0 }
theorem kb_L_cell {R : Room} {s : State} {args : Array Value} {own : String} {idx : Nat} (hT : mT s) (hlink : (Cond.methodLink own idx yL_cell).before args s = true) (h1 : rmL_cell.frames + 1 ≤ R.frames) (h2 : 8 + (2 + 11) + rmL_cell.locals ≤ R.locals) : CallB R s args own idx yL_cell cL_cell 2 (some .int) [Cond.code yL_cell cL_cell 2 (some .int)] rmL_cell 0 0 2 := m_callB hT kc_L_cell ki_L_cell hlink (by decide +kernel) ⟨rfl, rfl, h1, h2⟩
set_option maxHeartbeats 4000000 in
set_option maxRecDepth 100000 in
theorem c_L_cell (l : Launch) (w : WD) (hsf : l.stackTraces = false) (sz : Nat) (xa xl : Nat) (xs : Nat → Int32) (hX : ∀ A U H, mSt w A U H → va_T .int xa xl (fun k => .int (xs k)) A U H) (a2 : Int32) (M : Mem) (r : Int32) (hf : f_L_cell xl xs a2 M = some r) : kMet l yL_cell [Cond.code yL_cell cL_cell 2 (some .int)] rmL_cell w sz M [.ref xa, .int a2] (some (.int r)) M 0 0 := by
  refine k_of (by decide) (Nat.le_of_ble_eq_true rfl) ?_
  intro p e s m args below meth c hx hb hr hml hown hlk hI ls hl
  have hl : lv_has ls 2 [(0, .ref xa), (1, .int a2)] := hl
  unfold f_L_cell at hf
  refine lv_iload_n hx hb dL_cell_0 rfl (lv_at hl 1 rfl) ?_
  refine lv_aload_n hx hb dL_cell_1 rfl (lv_at hl 0 rfl) ?_
  refine va_tlen (v := Int32.ofNat xl) hx hb (hX _ _ _ hI.St) hI.S rfl dL_cell_2 ?_
  refine lv_icmp_ge (tgt := 12) hx hb dL_cell_3 (by decide) (fun c1 => ?_) (fun c1 => ?_)
  · have hf := (if_pos c1).symm.trans hf
    refine lv_ldc hx hb hown (q377 hI.T) dL_cell_12 ?_
    refine lv_iload_n hx hb dL_cell_14 rfl (lv_at hl 1 rfl) ?_
    refine lv_imul hx hb dL_cell_15 ?_
    exact k_iretp hx hb hr hlk hI hf dL_cell_16 (Nat.le_of_ble_eq_true rfl) (Nat.le_of_ble_eq_true rfl)
  · have hf := (if_neg c1).symm.trans hf
    refine lv_aload_n hx hb dL_cell_6 rfl (lv_at hl 0 rfl) ?_
    refine lv_iload_n hx hb dL_cell_7 rfl (lv_at hl 1 rfl) ?_
    obtain ⟨hi, hf⟩ := mix_e hf
    refine va_ti hx hb (hX _ _ _ hI.St) hI.S hi rfl dL_cell_8 ?_
    refine lv_goto (tgt := 16) hx hb dL_cell_9 (by decide) ?_
    exact k_iretp hx hb hr hlk hI hf dL_cell_16 (Nat.le_of_ble_eq_true rfl) (Nat.le_of_ble_eq_true rfl)
abbrev rmL_pick : Room := { frames := 1, cells := 0, slots := 0, locals := 21 }
theorem kb_L_pick {R : Room} {s : State} {args : Array Value} {own : String} {idx : Nat} (hT : mT s) (hlink : (Cond.methodLink own idx yL_pick).before args s = true) (h1 : rmL_pick.frames + 1 ≤ R.frames) (h2 : 8 + (3 + 11) + rmL_pick.locals ≤ R.locals) : CallB R s args own idx yL_pick cL_pick 3 (some .int) [Cond.code yL_pick cL_pick 3 (some .int)] rmL_pick 0 0 3 := m_callB hT kc_L_pick ki_L_pick hlink (by decide +kernel) ⟨rfl, rfl, h1, h2⟩
set_option maxHeartbeats 4000000 in
set_option maxRecDepth 100000 in
theorem c_L_pick (l : Launch) (w : WD) (hsf : l.stackTraces = false) (sz : Nat) (xa xl : Nat) (xs : Nat → Int32) (hX : ∀ A U H, mSt w A U H → va_T .int xa xl (fun k => .int (xs k)) A U H) (a2 : Int32) (a3 : Int32) (M : Mem) (r : Int32) (hf : f_L_pick xl xs a2 a3 M = some r) : kMet l yL_pick [Cond.code yL_pick cL_pick 3 (some .int)] rmL_pick w sz M [.ref xa, .int a2, .int a3] (some (.int r)) M 0 0 := by
  refine k_of (by decide) (Nat.le_of_ble_eq_true rfl) ?_
  intro p e s m args below meth c hx hb hr hml hown hlk hI ls hl
  have hl : lv_has ls 3 [(0, .ref xa), (1, .int a2), (2, .int a3)] := hl
  unfold f_L_pick at hf
  refine lv_aload_n hx hb dL_pick_0 rfl (lv_at hl 0 rfl) ?_
  refine lv_iload_n hx hb dL_pick_1 rfl (lv_at hl 1 rfl) ?_
  obtain ⟨r1, hc, hf⟩ := mbp_e hf
  refine k_callS (As := [.ref xa, .int a2]) (rest := []) hx hb hml hown hI (c_L_cell l w hsf s.heap.size xa xl xs hX a2 M _ hc) (kb_L_cell hI.T (q374 hI.T) (Nat.le_of_ble_eq_true rfl) (Nat.le_of_ble_eq_true rfl)) (q375 hI.T) rfl hl.1 (Nat.le_of_ble_eq_true rfl) dL_pick_2 ⟨Nat.le_of_ble_eq_true rfl, Nat.le_of_ble_eq_true rfl⟩ (fun H locs hI => ?_)
  refine lv_iconst (v := 1) hx hb dL_pick_5 (by decide) ?_
  refine lv_iushr hx hb dL_pick_6 rfl ?_
  refine lv_iload_n hx hb dL_pick_7 rfl (lv_at hl 2 rfl) ?_
  obtain ⟨hd, hf⟩ := mdiv_e hf
  refine lv_irem hx hb dL_pick_8 hd ?_
  exact k_iretp hx hb hr hlk hI hf dL_pick_9 (Nat.le_of_ble_eq_true rfl) (Nat.le_of_ble_eq_true rfl)
abbrev rmL_addHolder : Room := { frames := 10, cells := 1, slots := 6, locals := 182 }
set_option maxHeartbeats 4000000 in
set_option maxRecDepth 100000 in
theorem c_L_addHolder (l : Launch) (w : WD) (hsf : l.stackTraces = false) (sz : Nat)  (M : Mem) (r : Int32) (M9 : Mem) (hf : f_L_addHolder  M = some (r, M9)) : kMet l yL_addHolder [Cond.codeWith yL_addHolder cL_addHolder 2 (some .int) [(0, 4, 5, 20)]] rmL_addHolder w sz M [.ref (w.1 12 16)] (some (.int r)) M9 1 6 := by
  refine k_ofH (by decide) (Nat.le_of_ble_eq_true rfl) ?_
  intro p e s m args below meth c hx hb hr hml hxt hown hlk hI ls hl
  have hl : lv_has ls 2 [(0, .ref (w.1 12 16))] := hl
  unfold f_L_addHolder at hf
  refine lv_aload_n hx hb dL_addHolder_0 rfl (lv_at hl 0 rfl) ?_
  rcases mcat_e hf with ⟨n1, M3, hc, hf⟩ | ⟨r2, M3, hc, hf⟩
  · refine k_callX (As := []) (rest := []) hx hb hml hown hI (c_X11_addHolder l w hsf s.heap.size M _ _ hc) (kb_X11_addHolder hI.T (q720 hI.T) (Nat.le_of_ble_eq_true rfl) (Nat.le_of_ble_eq_true rfl)) (q721 hI.T) (q722 hI.T) (m_recv (g := 12) (i := 16) hI (mokX (by decide) (by decide)) rfl rfl) rfl hl.1 (Nat.le_of_ble_eq_true rfl) dL_addHolder_1 ⟨Nat.le_of_ble_eq_true rfl, Nat.le_of_ble_eq_true rfl⟩ (fun ce q H locs hI hc1 hc2 hc3 => ?_)
    by_cases c4 : n1 = 3
    · subst c4
      have hf := (if_pos rfl).symm.trans hf
      refine vx_catch hown [] ⟨0, 4, 5, 20⟩ [] hxt (fun z hz => nomatch hz) (by decide) (by decide) (q719 hI.T) (q773 hI.T) hc1 hc2 hc3 ?_
      refine lv_astore_n hx hb dL_addHolder_5 rfl hl (by decide) rfl (fun ls hl => ?_)
      refine lv_bipush (v := (-76)) hx hb dL_addHolder_6 (by decide) ?_
      exact k_iretf hx hb hr hlk hI hf dL_addHolder_8 (Nat.le_of_ble_eq_true rfl) (Nat.le_of_ble_eq_true rfl)
    have hf := (if_neg c4).symm.trans hf
    exact nomatch hf
  refine m_callxRV (As := []) (rest := []) hx hb hml hown hI (c_X11_addHolder l w hsf s.heap.size M _ _ hc) (kb_X11_addHolder hI.T (q720 hI.T) (Nat.le_of_ble_eq_true rfl) (Nat.le_of_ble_eq_true rfl)) (q721 hI.T) (q722 hI.T) (m_recv (g := 12) (i := 16) hI (mokX (by decide) (by decide)) rfl rfl) rfl hl.1 (Nat.le_of_ble_eq_true rfl) dL_addHolder_1 ⟨Nat.le_of_ble_eq_true rfl, Nat.le_of_ble_eq_true rfl⟩ (fun H locs hI => ?_)
  exact k_iretf hx hb hr hlk hI hf dL_addHolder_4 (Nat.le_of_ble_eq_true rfl) (Nat.le_of_ble_eq_true rfl)
abbrev rmL_seal : Room := { frames := 10, cells := 1, slots := 6, locals := 186 }
set_option maxHeartbeats 4000000 in
set_option maxRecDepth 100000 in
theorem c_L_seal (l : Launch) (w : WD) (hsf : l.stackTraces = false) (sz : Nat) (a2 : Int32) (a3 : Int32) (a4 : Int32) (a5 : Int32) (M : Mem) (r : Int32) (M9 : Mem) (hf : f_L_seal a2 a3 a4 a5 M = some (r, M9)) : kMet l yL_seal [Cond.codeWith yL_seal cL_seal 6 (some .int) [(0, 9, 10, 26), (0, 9, 15, 20)]] rmL_seal w sz M [.ref (w.1 12 16), .int a2, .int a3, .int a4, .int a5] (some (.int r)) M9 1 6 := by
  refine k_ofH (by decide) (Nat.le_of_ble_eq_true rfl) ?_
  intro p e s m args below meth c hx hb hr hml hxt hown hlk hI ls hl
  have hl : lv_has ls 6 [(0, .ref (w.1 12 16)), (1, .int a2), (2, .int a3), (3, .int a4), (4, .int a5)] := hl
  unfold f_L_seal at hf
  refine lv_aload_n hx hb dL_seal_0 rfl (lv_at hl 0 rfl) ?_
  refine lv_iload_n hx hb dL_seal_1 rfl (lv_at hl 1 rfl) ?_
  refine lv_iload_n hx hb dL_seal_2 rfl (lv_at hl 2 rfl) ?_
  refine lv_iload_n hx hb dL_seal_3 rfl (lv_at hl 3 rfl) ?_
  refine lv_iload hx hb dL_seal_4 (lv_at hl 4 rfl) ?_
  rcases mcat_e hf with ⟨n1, M3, hc, hf⟩ | ⟨r2, M3, hc, hf⟩
  · refine k_callX (As := [.int a2, .int a3, .int a4, .int a5]) (rest := []) hx hb hml hown hI (c_X11_seal l w hsf s.heap.size a2 a3 a4 a5 M _ _ hc) (kb_X11_seal hI.T (q797 hI.T) (Nat.le_of_ble_eq_true rfl) (Nat.le_of_ble_eq_true rfl)) (q798 hI.T) (q799 hI.T) (m_recv (g := 12) (i := 16) hI (mokX (by decide) (by decide)) rfl rfl) rfl hl.1 (Nat.le_of_ble_eq_true rfl) dL_seal_6 ⟨Nat.le_of_ble_eq_true rfl, Nat.le_of_ble_eq_true rfl⟩ (fun ce q H locs hI hc1 hc2 hc3 => ?_)
    by_cases c4 : n1 = 2
    · subst c4
      have hf := (if_pos rfl).symm.trans hf
      refine vx_catch hown [] ⟨0, 9, 10, 26⟩ [⟨0, 9, 15, 20⟩] hxt (fun z hz => nomatch hz) (by decide) (by decide) (q577 hI.T) (q591 hI.T) hc1 hc2 hc3 ?_
      refine lv_astore hx hb dL_seal_10 hl (by decide) rfl (fun ls hl => ?_)
      refine lv_bipush (v := (-78)) hx hb dL_seal_12 (by decide) ?_
      exact k_iretf hx hb hr hlk hI hf dL_seal_14 (Nat.le_of_ble_eq_true rfl) (Nat.le_of_ble_eq_true rfl)
    have hf := (if_neg c4).symm.trans hf
    by_cases c5 : n1 = 3
    · subst c5
      have hf := (if_pos rfl).symm.trans hf
      refine vx_catch hown [⟨0, 9, 10, 26⟩] ⟨0, 9, 15, 20⟩ [] hxt (fun z hz => by rcases List.mem_cons.mp hz with rfl | hz; exact Or.inr ⟨by decide, _, (q577 hI.T), hI.nc (i := 3) (j := 2) (by decide) (by decide) (by decide) (by decide) (by decide)⟩; exact nomatch hz) (by decide) (by decide) (q719 hI.T) (q773 hI.T) hc1 hc2 hc3 ?_
      refine lv_astore hx hb dL_seal_15 hl (by decide) rfl (fun ls hl => ?_)
      refine lv_bipush (v := (-76)) hx hb dL_seal_17 (by decide) ?_
      exact k_iretf hx hb hr hlk hI hf dL_seal_19 (Nat.le_of_ble_eq_true rfl) (Nat.le_of_ble_eq_true rfl)
    have hf := (if_neg c5).symm.trans hf
    exact nomatch hf
  refine m_callxRV (As := [.int a2, .int a3, .int a4, .int a5]) (rest := []) hx hb hml hown hI (c_X11_seal l w hsf s.heap.size a2 a3 a4 a5 M _ _ hc) (kb_X11_seal hI.T (q797 hI.T) (Nat.le_of_ble_eq_true rfl) (Nat.le_of_ble_eq_true rfl)) (q798 hI.T) (q799 hI.T) (m_recv (g := 12) (i := 16) hI (mokX (by decide) (by decide)) rfl rfl) rfl hl.1 (Nat.le_of_ble_eq_true rfl) dL_seal_6 ⟨Nat.le_of_ble_eq_true rfl, Nat.le_of_ble_eq_true rfl⟩ (fun H locs hI => ?_)
  exact k_iretf hx hb hr hlk hI hf dL_seal_9 (Nat.le_of_ble_eq_true rfl) (Nat.le_of_ble_eq_true rfl)
abbrev rmL_setShare : Room := { frames := 10, cells := 1, slots := 6, locals := 184 }
set_option maxHeartbeats 4000000 in
set_option maxRecDepth 100000 in
theorem c_L_setShare (l : Launch) (w : WD) (hsf : l.stackTraces = false) (sz : Nat) (a2 : Int32) (a3 : Int32) (M : Mem) (r : Int32) (M9 : Mem) (hf : f_L_setShare a2 a3 M = some (r, M9)) : kMet l yL_setShare [Cond.codeWith yL_setShare cL_setShare 4 (some .int) [(0, 6, 7, 32), (0, 6, 11, 26), (0, 6, 15, 20)]] rmL_setShare w sz M [.ref (w.1 12 16), .int a2, .int a3] (some (.int r)) M9 1 6 := by
  refine k_ofH (by decide) (Nat.le_of_ble_eq_true rfl) ?_
  intro p e s m args below meth c hx hb hr hml hxt hown hlk hI ls hl
  have hl : lv_has ls 4 [(0, .ref (w.1 12 16)), (1, .int a2), (2, .int a3)] := hl
  unfold f_L_setShare at hf
  refine lv_aload_n hx hb dL_setShare_0 rfl (lv_at hl 0 rfl) ?_
  refine lv_iload_n hx hb dL_setShare_1 rfl (lv_at hl 1 rfl) ?_
  refine lv_iload_n hx hb dL_setShare_2 rfl (lv_at hl 2 rfl) ?_
  rcases mcat_e hf with ⟨n1, M3, hc, hf⟩ | ⟨r2, M3, hc, hf⟩
  · refine k_callX (As := [.int a2, .int a3]) (rest := []) hx hb hml hown hI (c_X11_setShare l w hsf s.heap.size a2 a3 M _ _ hc) (kb_X11_setShare hI.T (q819 hI.T) (Nat.le_of_ble_eq_true rfl) (Nat.le_of_ble_eq_true rfl)) (q820 hI.T) (q821 hI.T) (m_recv (g := 12) (i := 16) hI (mokX (by decide) (by decide)) rfl rfl) rfl hl.1 (Nat.le_of_ble_eq_true rfl) dL_setShare_3 ⟨Nat.le_of_ble_eq_true rfl, Nat.le_of_ble_eq_true rfl⟩ (fun ce q H locs hI hc1 hc2 hc3 => ?_)
    by_cases c4 : n1 = 1
    · subst c4
      have hf := (if_pos rfl).symm.trans hf
      refine vx_catch hown [] ⟨0, 6, 7, 32⟩ [⟨0, 6, 11, 26⟩, ⟨0, 6, 15, 20⟩] hxt (fun z hz => nomatch hz) (by decide) (by decide) (q465 hI.T) (q503 hI.T) hc1 hc2 hc3 ?_
      refine lv_astore_n hx hb dL_setShare_7 rfl hl (by decide) rfl (fun ls hl => ?_)
      refine lv_bipush (v := (-77)) hx hb dL_setShare_8 (by decide) ?_
      exact k_iretf hx hb hr hlk hI hf dL_setShare_10 (Nat.le_of_ble_eq_true rfl) (Nat.le_of_ble_eq_true rfl)
    have hf := (if_neg c4).symm.trans hf
    by_cases c5 : n1 = 2
    · subst c5
      have hf := (if_pos rfl).symm.trans hf
      refine vx_catch hown [⟨0, 6, 7, 32⟩] ⟨0, 6, 11, 26⟩ [⟨0, 6, 15, 20⟩] hxt (fun z hz => by rcases List.mem_cons.mp hz with rfl | hz; exact Or.inr ⟨by decide, _, (q465 hI.T), hI.nc (i := 2) (j := 1) (by decide) (by decide) (by decide) (by decide) (by decide)⟩; exact nomatch hz) (by decide) (by decide) (q577 hI.T) (q591 hI.T) hc1 hc2 hc3 ?_
      refine lv_astore_n hx hb dL_setShare_11 rfl hl (by decide) rfl (fun ls hl => ?_)
      refine lv_bipush (v := (-78)) hx hb dL_setShare_12 (by decide) ?_
      exact k_iretf hx hb hr hlk hI hf dL_setShare_14 (Nat.le_of_ble_eq_true rfl) (Nat.le_of_ble_eq_true rfl)
    have hf := (if_neg c5).symm.trans hf
    by_cases c6 : n1 = 3
    · subst c6
      have hf := (if_pos rfl).symm.trans hf
      refine vx_catch hown [⟨0, 6, 7, 32⟩, ⟨0, 6, 11, 26⟩] ⟨0, 6, 15, 20⟩ [] hxt (fun z hz => by rcases List.mem_cons.mp hz with rfl | hz; exact Or.inr ⟨by decide, _, (q465 hI.T), hI.nc (i := 3) (j := 1) (by decide) (by decide) (by decide) (by decide) (by decide)⟩; rcases List.mem_cons.mp hz with rfl | hz; exact Or.inr ⟨by decide, _, (q577 hI.T), hI.nc (i := 3) (j := 2) (by decide) (by decide) (by decide) (by decide) (by decide)⟩; exact nomatch hz) (by decide) (by decide) (q719 hI.T) (q773 hI.T) hc1 hc2 hc3 ?_
      refine lv_astore_n hx hb dL_setShare_15 rfl hl (by decide) rfl (fun ls hl => ?_)
      refine lv_bipush (v := (-76)) hx hb dL_setShare_16 (by decide) ?_
      exact k_iretf hx hb hr hlk hI hf dL_setShare_18 (Nat.le_of_ble_eq_true rfl) (Nat.le_of_ble_eq_true rfl)
    have hf := (if_neg c6).symm.trans hf
    exact nomatch hf
  refine m_callxRV (As := [.int a2, .int a3]) (rest := []) hx hb hml hown hI (c_X11_setShare l w hsf s.heap.size a2 a3 M _ _ hc) (kb_X11_setShare hI.T (q819 hI.T) (Nat.le_of_ble_eq_true rfl) (Nat.le_of_ble_eq_true rfl)) (q820 hI.T) (q821 hI.T) (m_recv (g := 12) (i := 16) hI (mokX (by decide) (by decide)) rfl rfl) rfl hl.1 (Nat.le_of_ble_eq_true rfl) dL_setShare_3 ⟨Nat.le_of_ble_eq_true rfl, Nat.le_of_ble_eq_true rfl⟩ (fun H locs hI => ?_)
  exact k_iretf hx hb hr hlk hI hf dL_setShare_6 (Nat.le_of_ble_eq_true rfl) (Nat.le_of_ble_eq_true rfl)
abbrev rmL_present : Room := { frames := 10, cells := 1, slots := 6, locals := 183 }
set_option maxHeartbeats 4000000 in
set_option maxRecDepth 100000 in
theorem c_L_present (l : Launch) (w : WD) (hsf : l.stackTraces = false) (sz : Nat) (a2 : Int32) (M : Mem) (r : Int32) (M9 : Mem) (hf : f_L_present a2 M = some (r, M9)) : kMet l yL_present [Cond.codeWith yL_present cL_present 3 (some .int) [(0, 5, 6, 32), (0, 5, 10, 20)]] rmL_present w sz M [.ref (w.1 12 16), .int a2] (some (.int r)) M9 1 6 := by
  refine k_ofH (by decide) (Nat.le_of_ble_eq_true rfl) ?_
  intro p e s m args below meth c hx hb hr hml hxt hown hlk hI ls hl
  have hl : lv_has ls 3 [(0, .ref (w.1 12 16)), (1, .int a2)] := hl
  unfold f_L_present at hf
  refine lv_aload_n hx hb dL_present_0 rfl (lv_at hl 0 rfl) ?_
  refine lv_iload_n hx hb dL_present_1 rfl (lv_at hl 1 rfl) ?_
  rcases mcat_e hf with ⟨n1, M3, hc, hf⟩ | ⟨r2, M3, hc, hf⟩
  · refine k_callX (As := [.int a2]) (rest := []) hx hb hml hown hI (c_X11_present l w hsf s.heap.size a2 M _ _ hc) (kb_X11_present hI.T (q831 hI.T) (Nat.le_of_ble_eq_true rfl) (Nat.le_of_ble_eq_true rfl)) (q832 hI.T) (q833 hI.T) (m_recv (g := 12) (i := 16) hI (mokX (by decide) (by decide)) rfl rfl) rfl hl.1 (Nat.le_of_ble_eq_true rfl) dL_present_2 ⟨Nat.le_of_ble_eq_true rfl, Nat.le_of_ble_eq_true rfl⟩ (fun ce q H locs hI hc1 hc2 hc3 => ?_)
    by_cases c4 : n1 = 1
    · subst c4
      have hf := (if_pos rfl).symm.trans hf
      refine vx_catch hown [] ⟨0, 5, 6, 32⟩ [⟨0, 5, 10, 20⟩] hxt (fun z hz => nomatch hz) (by decide) (by decide) (q465 hI.T) (q503 hI.T) hc1 hc2 hc3 ?_
      refine lv_astore_n hx hb dL_present_6 rfl hl (by decide) rfl (fun ls hl => ?_)
      refine lv_bipush (v := (-77)) hx hb dL_present_7 (by decide) ?_
      exact k_iretf hx hb hr hlk hI hf dL_present_9 (Nat.le_of_ble_eq_true rfl) (Nat.le_of_ble_eq_true rfl)
    have hf := (if_neg c4).symm.trans hf
    by_cases c5 : n1 = 3
    · subst c5
      have hf := (if_pos rfl).symm.trans hf
      refine vx_catch hown [⟨0, 5, 6, 32⟩] ⟨0, 5, 10, 20⟩ [] hxt (fun z hz => by rcases List.mem_cons.mp hz with rfl | hz; exact Or.inr ⟨by decide, _, (q465 hI.T), hI.nc (i := 3) (j := 1) (by decide) (by decide) (by decide) (by decide) (by decide)⟩; exact nomatch hz) (by decide) (by decide) (q719 hI.T) (q773 hI.T) hc1 hc2 hc3 ?_
      refine lv_astore_n hx hb dL_present_10 rfl hl (by decide) rfl (fun ls hl => ?_)
      refine lv_bipush (v := (-76)) hx hb dL_present_11 (by decide) ?_
      exact k_iretf hx hb hr hlk hI hf dL_present_13 (Nat.le_of_ble_eq_true rfl) (Nat.le_of_ble_eq_true rfl)
    have hf := (if_neg c5).symm.trans hf
    exact nomatch hf
  refine m_callxRV (As := [.int a2]) (rest := []) hx hb hml hown hI (c_X11_present l w hsf s.heap.size a2 M _ _ hc) (kb_X11_present hI.T (q831 hI.T) (Nat.le_of_ble_eq_true rfl) (Nat.le_of_ble_eq_true rfl)) (q832 hI.T) (q833 hI.T) (m_recv (g := 12) (i := 16) hI (mokX (by decide) (by decide)) rfl rfl) rfl hl.1 (Nat.le_of_ble_eq_true rfl) dL_present_2 ⟨Nat.le_of_ble_eq_true rfl, Nat.le_of_ble_eq_true rfl⟩ (fun H locs hI => ?_)
  exact k_iretf hx hb hr hlk hI hf dL_present_5 (Nat.le_of_ble_eq_true rfl) (Nat.le_of_ble_eq_true rfl)
abbrev rmL_takeBack : Room := { frames := 10, cells := 1, slots := 6, locals := 183 }
set_option maxHeartbeats 4000000 in
set_option maxRecDepth 100000 in
theorem c_L_takeBack (l : Launch) (w : WD) (hsf : l.stackTraces = false) (sz : Nat) (a2 : Int32) (M : Mem) (r : Int32) (M9 : Mem) (hf : f_L_takeBack a2 M = some (r, M9)) : kMet l yL_takeBack [Cond.codeWith yL_takeBack cL_takeBack 3 (some .int) [(0, 5, 6, 32), (0, 5, 10, 20)]] rmL_takeBack w sz M [.ref (w.1 12 16), .int a2] (some (.int r)) M9 1 6 := by
  refine k_ofH (by decide) (Nat.le_of_ble_eq_true rfl) ?_
  intro p e s m args below meth c hx hb hr hml hxt hown hlk hI ls hl
  have hl : lv_has ls 3 [(0, .ref (w.1 12 16)), (1, .int a2)] := hl
  unfold f_L_takeBack at hf
  refine lv_aload_n hx hb dL_takeBack_0 rfl (lv_at hl 0 rfl) ?_
  refine lv_iload_n hx hb dL_takeBack_1 rfl (lv_at hl 1 rfl) ?_
  rcases mcat_e hf with ⟨n1, M3, hc, hf⟩ | ⟨r2, M3, hc, hf⟩
  · refine k_callX (As := [.int a2]) (rest := []) hx hb hml hown hI (c_X11_takeBack l w hsf s.heap.size a2 M _ _ hc) (kb_X11_takeBack hI.T (q846 hI.T) (Nat.le_of_ble_eq_true rfl) (Nat.le_of_ble_eq_true rfl)) (q847 hI.T) (q848 hI.T) (m_recv (g := 12) (i := 16) hI (mokX (by decide) (by decide)) rfl rfl) rfl hl.1 (Nat.le_of_ble_eq_true rfl) dL_takeBack_2 ⟨Nat.le_of_ble_eq_true rfl, Nat.le_of_ble_eq_true rfl⟩ (fun ce q H locs hI hc1 hc2 hc3 => ?_)
    by_cases c4 : n1 = 1
    · subst c4
      have hf := (if_pos rfl).symm.trans hf
      refine vx_catch hown [] ⟨0, 5, 6, 32⟩ [⟨0, 5, 10, 20⟩] hxt (fun z hz => nomatch hz) (by decide) (by decide) (q465 hI.T) (q503 hI.T) hc1 hc2 hc3 ?_
      refine lv_astore_n hx hb dL_takeBack_6 rfl hl (by decide) rfl (fun ls hl => ?_)
      refine lv_bipush (v := (-77)) hx hb dL_takeBack_7 (by decide) ?_
      exact k_iretf hx hb hr hlk hI hf dL_takeBack_9 (Nat.le_of_ble_eq_true rfl) (Nat.le_of_ble_eq_true rfl)
    have hf := (if_neg c4).symm.trans hf
    by_cases c5 : n1 = 3
    · subst c5
      have hf := (if_pos rfl).symm.trans hf
      refine vx_catch hown [⟨0, 5, 6, 32⟩] ⟨0, 5, 10, 20⟩ [] hxt (fun z hz => by rcases List.mem_cons.mp hz with rfl | hz; exact Or.inr ⟨by decide, _, (q465 hI.T), hI.nc (i := 3) (j := 1) (by decide) (by decide) (by decide) (by decide) (by decide)⟩; exact nomatch hz) (by decide) (by decide) (q719 hI.T) (q773 hI.T) hc1 hc2 hc3 ?_
      refine lv_astore_n hx hb dL_takeBack_10 rfl hl (by decide) rfl (fun ls hl => ?_)
      refine lv_bipush (v := (-76)) hx hb dL_takeBack_11 (by decide) ?_
      exact k_iretf hx hb hr hlk hI hf dL_takeBack_13 (Nat.le_of_ble_eq_true rfl) (Nat.le_of_ble_eq_true rfl)
    have hf := (if_neg c5).symm.trans hf
    exact nomatch hf
  refine m_callxRV (As := [.int a2]) (rest := []) hx hb hml hown hI (c_X11_takeBack l w hsf s.heap.size a2 M _ _ hc) (kb_X11_takeBack hI.T (q846 hI.T) (Nat.le_of_ble_eq_true rfl) (Nat.le_of_ble_eq_true rfl)) (q847 hI.T) (q848 hI.T) (m_recv (g := 12) (i := 16) hI (mokX (by decide) (by decide)) rfl rfl) rfl hl.1 (Nat.le_of_ble_eq_true rfl) dL_takeBack_2 ⟨Nat.le_of_ble_eq_true rfl, Nat.le_of_ble_eq_true rfl⟩ (fun H locs hI => ?_)
  exact k_iretf hx hb hr hlk hI hf dL_takeBack_5 (Nat.le_of_ble_eq_true rfl) (Nat.le_of_ble_eq_true rfl)
abbrev rmL_openVault : Room := { frames := 10, cells := 1, slots := 6, locals := 182 }
set_option maxHeartbeats 4000000 in
set_option maxRecDepth 100000 in
theorem c_L_openVault (l : Launch) (w : WD) (hsf : l.stackTraces = false) (sz : Nat)  (M : Mem) (r : Int32) (M9 : Mem) (hf : f_L_openVault  M = some (r, M9)) : kMet l yL_openVault [Cond.codeWith yL_openVault cL_openVault 2 (some .int) [(0, 12, 13, 20)]] rmL_openVault w sz M [.ref (w.1 12 16)] (some (.int r)) M9 1 6 := by
  refine k_ofH (by decide) (Nat.le_of_ble_eq_true rfl) ?_
  intro p e s m args below meth c hx hb hr hml hxt hown hlk hI ls hl
  have hl : lv_has ls 2 [(0, .ref (w.1 12 16))] := hl
  unfold f_L_openVault at hf
  refine lv_aload_n hx hb dL_openVault_0 rfl (lv_at hl 0 rfl) ?_
  rcases mcat_e hf with ⟨n1, M3, hc, hf⟩ | ⟨r2, M3, hc, hf⟩
  · refine k_callX (As := []) (rest := []) hx hb hml hown hI (c_X11_openVault l w hsf s.heap.size M _ _ hc) (kb_X11_openVault hI.T (q861 hI.T) (Nat.le_of_ble_eq_true rfl) (Nat.le_of_ble_eq_true rfl)) (q862 hI.T) (q863 hI.T) (m_recv (g := 12) (i := 16) hI (mokX (by decide) (by decide)) rfl rfl) rfl hl.1 (Nat.le_of_ble_eq_true rfl) dL_openVault_1 ⟨Nat.le_of_ble_eq_true rfl, Nat.le_of_ble_eq_true rfl⟩ (fun ce q H locs hI hc1 hc2 hc3 => ?_)
    by_cases c4 : n1 = 3
    · subst c4
      have hf := (if_pos rfl).symm.trans hf
      refine vx_catch hown [] ⟨0, 12, 13, 20⟩ [] hxt (fun z hz => nomatch hz) (by decide) (by decide) (q719 hI.T) (q773 hI.T) hc1 hc2 hc3 ?_
      refine lv_astore_n hx hb dL_openVault_13 rfl hl (by decide) rfl (fun ls hl => ?_)
      refine lv_bipush (v := (-76)) hx hb dL_openVault_14 (by decide) ?_
      exact k_iretf hx hb hr hlk hI hf dL_openVault_16 (Nat.le_of_ble_eq_true rfl) (Nat.le_of_ble_eq_true rfl)
    have hf := (if_neg c4).symm.trans hf
    exact nomatch hf
  refine m_callxRV (As := []) (rest := []) hx hb hml hown hI (c_X11_openVault l w hsf s.heap.size M _ _ hc) (kb_X11_openVault hI.T (q861 hI.T) (Nat.le_of_ble_eq_true rfl) (Nat.le_of_ble_eq_true rfl)) (q862 hI.T) (q863 hI.T) (m_recv (g := 12) (i := 16) hI (mokX (by decide) (by decide)) rfl rfl) rfl hl.1 (Nat.le_of_ble_eq_true rfl) dL_openVault_1 ⟨Nat.le_of_ble_eq_true rfl, Nat.le_of_ble_eq_true rfl⟩ (fun H locs hI => ?_)
  refine lv_if_eq (tgt := 11) hx hb dL_openVault_4 (by decide) (fun c5 => ?_) (fun c5 => ?_)
  · have hf := (if_pos c5).symm.trans hf
    refine lv_iconst (v := 0) hx hb dL_openVault_11 (by decide) ?_
    exact k_iretf hx hb hr hlk hI hf dL_openVault_12 (Nat.le_of_ble_eq_true rfl) (Nat.le_of_ble_eq_true rfl)
  · have hf := (if_neg c5).symm.trans hf
    refine lv_iconst (v := 1) hx hb dL_openVault_7 (by decide) ?_
    refine lv_goto (tgt := 12) hx hb dL_openVault_8 (by decide) ?_
    exact k_iretf hx hb hr hlk hI hf dL_openVault_12 (Nat.le_of_ble_eq_true rfl) (Nat.le_of_ble_eq_true rfl)
abbrev rmL_closeVault : Room := { frames := 10, cells := 1, slots := 6, locals := 182 }
set_option maxHeartbeats 4000000 in
set_option maxRecDepth 100000 in
theorem c_L_closeVault (l : Launch) (w : WD) (hsf : l.stackTraces = false) (sz : Nat)  (M : Mem) (r : Int32) (M9 : Mem) (hf : f_L_closeVault  M = some (r, M9)) : kMet l yL_closeVault [Cond.codeWith yL_closeVault cL_closeVault 2 (some .int) [(0, 4, 5, 20)]] rmL_closeVault w sz M [.ref (w.1 12 16)] (some (.int r)) M9 1 6 := by
  refine k_ofH (by decide) (Nat.le_of_ble_eq_true rfl) ?_
  intro p e s m args below meth c hx hb hr hml hxt hown hlk hI ls hl
  have hl : lv_has ls 2 [(0, .ref (w.1 12 16))] := hl
  unfold f_L_closeVault at hf
  refine lv_aload_n hx hb dL_closeVault_0 rfl (lv_at hl 0 rfl) ?_
  rcases mcat_e hf with ⟨n1, M3, hc, hf⟩ | ⟨r2, M3, hc, hf⟩
  · refine k_callX (As := []) (rest := []) hx hb hml hown hI (c_X11_closeVault l w hsf s.heap.size M _ _ hc) (kb_X11_closeVault hI.T (q899 hI.T) (Nat.le_of_ble_eq_true rfl) (Nat.le_of_ble_eq_true rfl)) (q900 hI.T) (q901 hI.T) (m_recv (g := 12) (i := 16) hI (mokX (by decide) (by decide)) rfl rfl) rfl hl.1 (Nat.le_of_ble_eq_true rfl) dL_closeVault_1 ⟨Nat.le_of_ble_eq_true rfl, Nat.le_of_ble_eq_true rfl⟩ (fun ce q H locs hI hc1 hc2 hc3 => ?_)
    by_cases c4 : n1 = 3
    · subst c4
      have hf := (if_pos rfl).symm.trans hf
      refine vx_catch hown [] ⟨0, 4, 5, 20⟩ [] hxt (fun z hz => nomatch hz) (by decide) (by decide) (q719 hI.T) (q773 hI.T) hc1 hc2 hc3 ?_
      refine lv_astore_n hx hb dL_closeVault_5 rfl hl (by decide) rfl (fun ls hl => ?_)
      refine lv_bipush (v := (-76)) hx hb dL_closeVault_6 (by decide) ?_
      exact k_iretf hx hb hr hlk hI hf dL_closeVault_8 (Nat.le_of_ble_eq_true rfl) (Nat.le_of_ble_eq_true rfl)
    have hf := (if_neg c4).symm.trans hf
    exact nomatch hf
  refine m_callxRV (As := []) (rest := []) hx hb hml hown hI (c_X11_closeVault l w hsf s.heap.size M _ _ hc) (kb_X11_closeVault hI.T (q899 hI.T) (Nat.le_of_ble_eq_true rfl) (Nat.le_of_ble_eq_true rfl)) (q900 hI.T) (q901 hI.T) (m_recv (g := 12) (i := 16) hI (mokX (by decide) (by decide)) rfl rfl) rfl hl.1 (Nat.le_of_ble_eq_true rfl) dL_closeVault_1 ⟨Nat.le_of_ble_eq_true rfl, Nat.le_of_ble_eq_true rfl⟩ (fun H locs hI => ?_)
  exact k_iretf hx hb hr hlk hI hf dL_closeVault_4 (Nat.le_of_ble_eq_true rfl) (Nat.le_of_ble_eq_true rfl)
abbrev rmL_addGuard : Room := { frames := 10, cells := 1, slots := 6, locals := 185 }
set_option maxHeartbeats 4000000 in
set_option maxRecDepth 100000 in
theorem c_L_addGuard (l : Launch) (w : WD) (hsf : l.stackTraces = false) (sz : Nat) (a2 : Int32) (a3 : Int32) (a4 : Int32) (M : Mem) (r : Int32) (M9 : Mem) (hf : f_L_addGuard a2 a3 a4 M = some (r, M9)) : kMet l yL_addGuard [Cond.codeWith yL_addGuard cL_addGuard 5 (some .int) [(0, 7, 8, 26), (0, 7, 13, 20)]] rmL_addGuard w sz M [.ref (w.1 12 16), .int a2, .int a3, .int a4] (some (.int r)) M9 1 6 := by
  refine k_ofH (by decide) (Nat.le_of_ble_eq_true rfl) ?_
  intro p e s m args below meth c hx hb hr hml hxt hown hlk hI ls hl
  have hl : lv_has ls 5 [(0, .ref (w.1 12 16)), (1, .int a2), (2, .int a3), (3, .int a4)] := hl
  unfold f_L_addGuard at hf
  refine lv_aload_n hx hb dL_addGuard_0 rfl (lv_at hl 0 rfl) ?_
  refine lv_iload_n hx hb dL_addGuard_1 rfl (lv_at hl 1 rfl) ?_
  refine lv_iload_n hx hb dL_addGuard_2 rfl (lv_at hl 2 rfl) ?_
  refine lv_iload_n hx hb dL_addGuard_3 rfl (lv_at hl 3 rfl) ?_
  rcases mcat_e hf with ⟨n1, M3, hc, hf⟩ | ⟨r2, M3, hc, hf⟩
  · refine k_callX (As := [.int a2, .int a3, .int a4]) (rest := []) hx hb hml hown hI (c_X11_addGuard l w hsf s.heap.size a2 a3 a4 M _ _ hc) (kb_X11_addGuard hI.T (q910 hI.T) (Nat.le_of_ble_eq_true rfl) (Nat.le_of_ble_eq_true rfl)) (q911 hI.T) (q912 hI.T) (m_recv (g := 12) (i := 16) hI (mokX (by decide) (by decide)) rfl rfl) rfl hl.1 (Nat.le_of_ble_eq_true rfl) dL_addGuard_4 ⟨Nat.le_of_ble_eq_true rfl, Nat.le_of_ble_eq_true rfl⟩ (fun ce q H locs hI hc1 hc2 hc3 => ?_)
    by_cases c4 : n1 = 2
    · subst c4
      have hf := (if_pos rfl).symm.trans hf
      refine vx_catch hown [] ⟨0, 7, 8, 26⟩ [⟨0, 7, 13, 20⟩] hxt (fun z hz => nomatch hz) (by decide) (by decide) (q577 hI.T) (q591 hI.T) hc1 hc2 hc3 ?_
      refine lv_astore hx hb dL_addGuard_8 hl (by decide) rfl (fun ls hl => ?_)
      refine lv_bipush (v := (-78)) hx hb dL_addGuard_10 (by decide) ?_
      exact k_iretf hx hb hr hlk hI hf dL_addGuard_12 (Nat.le_of_ble_eq_true rfl) (Nat.le_of_ble_eq_true rfl)
    have hf := (if_neg c4).symm.trans hf
    by_cases c5 : n1 = 3
    · subst c5
      have hf := (if_pos rfl).symm.trans hf
      refine vx_catch hown [⟨0, 7, 8, 26⟩] ⟨0, 7, 13, 20⟩ [] hxt (fun z hz => by rcases List.mem_cons.mp hz with rfl | hz; exact Or.inr ⟨by decide, _, (q577 hI.T), hI.nc (i := 3) (j := 2) (by decide) (by decide) (by decide) (by decide) (by decide)⟩; exact nomatch hz) (by decide) (by decide) (q719 hI.T) (q773 hI.T) hc1 hc2 hc3 ?_
      refine lv_astore hx hb dL_addGuard_13 hl (by decide) rfl (fun ls hl => ?_)
      refine lv_bipush (v := (-76)) hx hb dL_addGuard_15 (by decide) ?_
      exact k_iretf hx hb hr hlk hI hf dL_addGuard_17 (Nat.le_of_ble_eq_true rfl) (Nat.le_of_ble_eq_true rfl)
    have hf := (if_neg c5).symm.trans hf
    exact nomatch hf
  refine m_callxRV (As := [.int a2, .int a3, .int a4]) (rest := []) hx hb hml hown hI (c_X11_addGuard l w hsf s.heap.size a2 a3 a4 M _ _ hc) (kb_X11_addGuard hI.T (q910 hI.T) (Nat.le_of_ble_eq_true rfl) (Nat.le_of_ble_eq_true rfl)) (q911 hI.T) (q912 hI.T) (m_recv (g := 12) (i := 16) hI (mokX (by decide) (by decide)) rfl rfl) rfl hl.1 (Nat.le_of_ble_eq_true rfl) dL_addGuard_4 ⟨Nat.le_of_ble_eq_true rfl, Nat.le_of_ble_eq_true rfl⟩ (fun H locs hI => ?_)
  exact k_iretf hx hb hr hlk hI hf dL_addGuard_7 (Nat.le_of_ble_eq_true rfl) (Nat.le_of_ble_eq_true rfl)
abbrev rmL_turnGuard : Room := { frames := 10, cells := 1, slots := 6, locals := 183 }
set_option maxHeartbeats 4000000 in
set_option maxRecDepth 100000 in
theorem c_L_turnGuard (l : Launch) (w : WD) (hsf : l.stackTraces = false) (sz : Nat) (a2 : Int32) (M : Mem) (r : Int32) (M9 : Mem) (hf : f_L_turnGuard a2 M = some (r, M9)) : kMet l yL_turnGuard [Cond.codeWith yL_turnGuard cL_turnGuard 3 (some .int) [(0, 13, 14, 32)]] rmL_turnGuard w sz M [.ref (w.1 12 16), .int a2] (some (.int r)) M9 1 6 := by
  refine k_ofH (by decide) (Nat.le_of_ble_eq_true rfl) ?_
  intro p e s m args below meth c hx hb hr hml hxt hown hlk hI ls hl
  have hl : lv_has ls 3 [(0, .ref (w.1 12 16)), (1, .int a2)] := hl
  unfold f_L_turnGuard at hf
  refine lv_aload_n hx hb dL_turnGuard_0 rfl (lv_at hl 0 rfl) ?_
  refine lv_iload_n hx hb dL_turnGuard_1 rfl (lv_at hl 1 rfl) ?_
  rcases mcat_e hf with ⟨n1, M3, hc, hf⟩ | ⟨r2, M3, hc, hf⟩
  · refine k_callX (As := [.int a2]) (rest := []) hx hb hml hown hI (c_X11_turnGuard l w hsf s.heap.size a2 M _ _ hc) (kb_X11_turnGuard hI.T (q926 hI.T) (Nat.le_of_ble_eq_true rfl) (Nat.le_of_ble_eq_true rfl)) (q927 hI.T) (q928 hI.T) (m_recv (g := 12) (i := 16) hI (mokX (by decide) (by decide)) rfl rfl) rfl hl.1 (Nat.le_of_ble_eq_true rfl) dL_turnGuard_2 ⟨Nat.le_of_ble_eq_true rfl, Nat.le_of_ble_eq_true rfl⟩ (fun ce q H locs hI hc1 hc2 hc3 => ?_)
    by_cases c4 : n1 = 1
    · subst c4
      have hf := (if_pos rfl).symm.trans hf
      refine vx_catch hown [] ⟨0, 13, 14, 32⟩ [] hxt (fun z hz => nomatch hz) (by decide) (by decide) (q465 hI.T) (q503 hI.T) hc1 hc2 hc3 ?_
      refine lv_astore_n hx hb dL_turnGuard_14 rfl hl (by decide) rfl (fun ls hl => ?_)
      refine lv_bipush (v := (-77)) hx hb dL_turnGuard_15 (by decide) ?_
      exact k_iretf hx hb hr hlk hI hf dL_turnGuard_17 (Nat.le_of_ble_eq_true rfl) (Nat.le_of_ble_eq_true rfl)
    have hf := (if_neg c4).symm.trans hf
    exact nomatch hf
  refine m_callxRV (As := [.int a2]) (rest := []) hx hb hml hown hI (c_X11_turnGuard l w hsf s.heap.size a2 M _ _ hc) (kb_X11_turnGuard hI.T (q926 hI.T) (Nat.le_of_ble_eq_true rfl) (Nat.le_of_ble_eq_true rfl)) (q927 hI.T) (q928 hI.T) (m_recv (g := 12) (i := 16) hI (mokX (by decide) (by decide)) rfl rfl) rfl hl.1 (Nat.le_of_ble_eq_true rfl) dL_turnGuard_2 ⟨Nat.le_of_ble_eq_true rfl, Nat.le_of_ble_eq_true rfl⟩ (fun H locs hI => ?_)
  refine lv_if_eq (tgt := 12) hx hb dL_turnGuard_5 (by decide) (fun c5 => ?_) (fun c5 => ?_)
  · have hf := (if_pos c5).symm.trans hf
    refine lv_iconst (v := 0) hx hb dL_turnGuard_12 (by decide) ?_
    exact k_iretf hx hb hr hlk hI hf dL_turnGuard_13 (Nat.le_of_ble_eq_true rfl) (Nat.le_of_ble_eq_true rfl)
  · have hf := (if_neg c5).symm.trans hf
    refine lv_iconst (v := 1) hx hb dL_turnGuard_8 (by decide) ?_
    refine lv_goto (tgt := 13) hx hb dL_turnGuard_9 (by decide) ?_
    exact k_iretf hx hb hr hlk hI hf dL_turnGuard_13 (Nat.le_of_ble_eq_true rfl) (Nat.le_of_ble_eq_true rfl)
abbrev rmL_hum : Room := { frames := 10, cells := 1, slots := 6, locals := 184 }
set_option maxHeartbeats 4000000 in
set_option maxRecDepth 100000 in
theorem c_L_hum (l : Launch) (w : WD) (hsf : l.stackTraces = false) (sz : Nat) (a2 : Int32) (a3 : Int32) (M : Mem) (r : Int32) (M9 : Mem) (hf : f_L_hum a2 a3 M = some (r, M9)) : kMet l yL_hum [Cond.codeWith yL_hum cL_hum 4 (some .int) [(0, 6, 7, 26)]] rmL_hum w sz M [.ref (w.1 12 16), .int a2, .int a3] (some (.int r)) M9 1 6 := by
  refine k_ofH (by decide) (Nat.le_of_ble_eq_true rfl) ?_
  intro p e s m args below meth c hx hb hr hml hxt hown hlk hI ls hl
  have hl : lv_has ls 4 [(0, .ref (w.1 12 16)), (1, .int a2), (2, .int a3)] := hl
  unfold f_L_hum at hf
  refine lv_aload_n hx hb dL_hum_0 rfl (lv_at hl 0 rfl) ?_
  refine lv_iload_n hx hb dL_hum_1 rfl (lv_at hl 1 rfl) ?_
  refine lv_iload_n hx hb dL_hum_2 rfl (lv_at hl 2 rfl) ?_
  rcases mcat_e hf with ⟨n1, M3, hc, hf⟩ | ⟨r2, M3, hc, hf⟩
  · refine k_callX (As := [.int a2, .int a3]) (rest := []) hx hb hml hown hI (c_X11_hum l w hsf s.heap.size a2 a3 M _ _ hc) (kb_X11_hum hI.T (q938 hI.T) (Nat.le_of_ble_eq_true rfl) (Nat.le_of_ble_eq_true rfl)) (q939 hI.T) (q940 hI.T) (m_recv (g := 12) (i := 16) hI (mokX (by decide) (by decide)) rfl rfl) rfl hl.1 (Nat.le_of_ble_eq_true rfl) dL_hum_3 ⟨Nat.le_of_ble_eq_true rfl, Nat.le_of_ble_eq_true rfl⟩ (fun ce q H locs hI hc1 hc2 hc3 => ?_)
    by_cases c4 : n1 = 2
    · subst c4
      have hf := (if_pos rfl).symm.trans hf
      refine vx_catch hown [] ⟨0, 6, 7, 26⟩ [] hxt (fun z hz => nomatch hz) (by decide) (by decide) (q577 hI.T) (q591 hI.T) hc1 hc2 hc3 ?_
      refine lv_astore_n hx hb dL_hum_7 rfl hl (by decide) rfl (fun ls hl => ?_)
      refine lv_bipush (v := (-78)) hx hb dL_hum_8 (by decide) ?_
      exact k_iretf hx hb hr hlk hI hf dL_hum_10 (Nat.le_of_ble_eq_true rfl) (Nat.le_of_ble_eq_true rfl)
    have hf := (if_neg c4).symm.trans hf
    exact nomatch hf
  refine m_callxRV (As := [.int a2, .int a3]) (rest := []) hx hb hml hown hI (c_X11_hum l w hsf s.heap.size a2 a3 M _ _ hc) (kb_X11_hum hI.T (q938 hI.T) (Nat.le_of_ble_eq_true rfl) (Nat.le_of_ble_eq_true rfl)) (q939 hI.T) (q940 hI.T) (m_recv (g := 12) (i := 16) hI (mokX (by decide) (by decide)) rfl rfl) rfl hl.1 (Nat.le_of_ble_eq_true rfl) dL_hum_3 ⟨Nat.le_of_ble_eq_true rfl, Nat.le_of_ble_eq_true rfl⟩ (fun H locs hI => ?_)
  exact k_iretf hx hb hr hlk hI hf dL_hum_6 (Nat.le_of_ble_eq_true rfl) (Nat.le_of_ble_eq_true rfl)
abbrev rmL_passHours : Room := { frames := 10, cells := 1, slots := 6, locals := 183 }
set_option maxHeartbeats 4000000 in
set_option maxRecDepth 100000 in
theorem c_L_passHours (l : Launch) (w : WD) (hsf : l.stackTraces = false) (sz : Nat) (a2 : Int32) (M : Mem) (r : Int32) (M9 : Mem) (hf : f_L_passHours a2 M = some (r, M9)) : kMet l yL_passHours [Cond.codeWith yL_passHours cL_passHours 3 (some .int) [(0, 5, 6, 26)]] rmL_passHours w sz M [.ref (w.1 12 16), .int a2] (some (.int r)) M9 1 6 := by
  refine k_ofH (by decide) (Nat.le_of_ble_eq_true rfl) ?_
  intro p e s m args below meth c hx hb hr hml hxt hown hlk hI ls hl
  have hl : lv_has ls 3 [(0, .ref (w.1 12 16)), (1, .int a2)] := hl
  unfold f_L_passHours at hf
  refine lv_aload_n hx hb dL_passHours_0 rfl (lv_at hl 0 rfl) ?_
  refine lv_iload_n hx hb dL_passHours_1 rfl (lv_at hl 1 rfl) ?_
  rcases mcat_e hf with ⟨n1, M3, hc, hf⟩ | ⟨r2, M3, hc, hf⟩
  · refine k_callX (As := [.int a2]) (rest := []) hx hb hml hown hI (c_X11_passHours l w hsf s.heap.size a2 M _ _ hc) (kb_X11_passHours hI.T (q950 hI.T) (Nat.le_of_ble_eq_true rfl) (Nat.le_of_ble_eq_true rfl)) (q951 hI.T) (q952 hI.T) (m_recv (g := 12) (i := 16) hI (mokX (by decide) (by decide)) rfl rfl) rfl hl.1 (Nat.le_of_ble_eq_true rfl) dL_passHours_2 ⟨Nat.le_of_ble_eq_true rfl, Nat.le_of_ble_eq_true rfl⟩ (fun ce q H locs hI hc1 hc2 hc3 => ?_)
    by_cases c4 : n1 = 2
    · subst c4
      have hf := (if_pos rfl).symm.trans hf
      refine vx_catch hown [] ⟨0, 5, 6, 26⟩ [] hxt (fun z hz => nomatch hz) (by decide) (by decide) (q577 hI.T) (q591 hI.T) hc1 hc2 hc3 ?_
      refine lv_astore_n hx hb dL_passHours_6 rfl hl (by decide) rfl (fun ls hl => ?_)
      refine lv_bipush (v := (-78)) hx hb dL_passHours_7 (by decide) ?_
      exact k_iretf hx hb hr hlk hI hf dL_passHours_9 (Nat.le_of_ble_eq_true rfl) (Nat.le_of_ble_eq_true rfl)
    have hf := (if_neg c4).symm.trans hf
    exact nomatch hf
  refine m_callxRV (As := [.int a2]) (rest := []) hx hb hml hown hI (c_X11_passHours l w hsf s.heap.size a2 M _ _ hc) (kb_X11_passHours hI.T (q950 hI.T) (Nat.le_of_ble_eq_true rfl) (Nat.le_of_ble_eq_true rfl)) (q951 hI.T) (q952 hI.T) (m_recv (g := 12) (i := 16) hI (mokX (by decide) (by decide)) rfl rfl) rfl hl.1 (Nat.le_of_ble_eq_true rfl) dL_passHours_2 ⟨Nat.le_of_ble_eq_true rfl, Nat.le_of_ble_eq_true rfl⟩ (fun H locs hI => ?_)
  exact k_iretf hx hb hr hlk hI hf dL_passHours_5 (Nat.le_of_ble_eq_true rfl) (Nat.le_of_ble_eq_true rfl)
abbrev rmL_threshold : Room := { frames := 10, cells := 1, slots := 6, locals := 180 }
set_option maxHeartbeats 4000000 in
set_option maxRecDepth 100000 in
theorem c_L_threshold (l : Launch) (w : WD) (hsf : l.stackTraces = false) (sz : Nat)  (M : Mem) (r : Int32) (hf : f_L_threshold  M = some r) : kMet l yL_threshold [Cond.codeWith yL_threshold cL_threshold 2 (some .int) [(0, 4, 5, 65)]] rmL_threshold w sz M [.ref (w.1 12 16)] (some (.int r)) M 1 6 := by
  refine k_ofH (by decide) (Nat.le_of_ble_eq_true rfl) ?_
  intro p e s m args below meth c hx hb hr hml hxt hown hlk hI ls hl
  have hl : lv_has ls 2 [(0, .ref (w.1 12 16))] := hl
  unfold f_L_threshold at hf
  refine lv_aload_n hx hb dL_threshold_0 rfl (lv_at hl 0 rfl) ?_
  rcases mcatp_e hf with ⟨n1, hc, hf⟩ | ⟨r2, hc, hf⟩
  · refine k_callX (As := []) (rest := []) hx hb hml hown hI (c_X11_threshold l w hsf s.heap.size M _ hc) (kb_X11_threshold hI.T (q382 hI.T) (Nat.le_of_ble_eq_true rfl) (Nat.le_of_ble_eq_true rfl)) (q383 hI.T) (q384 hI.T) (m_recv (g := 12) (i := 16) hI (mokX (by decide) (by decide)) rfl rfl) rfl hl.1 (Nat.le_of_ble_eq_true rfl) dL_threshold_1 ⟨Nat.le_of_ble_eq_true rfl, Nat.le_of_ble_eq_true rfl⟩ (fun ce q H locs hI hc1 hc2 hc3 => ?_)
    by_cases c3 : n1 = 4
    · subst c3
      have hf := (if_pos rfl).symm.trans hf
      refine vx_catch hown [] ⟨0, 4, 5, 65⟩ [] hxt (fun z hz => nomatch hz) (by decide) (by decide) (q381 hI.T) (q392 hI.T) hc1 hc2 hc3 ?_
      refine lv_astore_n hx hb dL_threshold_5 rfl hl (by decide) rfl (fun ls hl => ?_)
      refine lv_bipush (v := (-75)) hx hb dL_threshold_6 (by decide) ?_
      exact k_iretp hx hb hr hlk hI hf dL_threshold_8 (Nat.le_of_ble_eq_true rfl) (Nat.le_of_ble_eq_true rfl)
    have hf := (if_neg c3).symm.trans hf
    exact nomatch hf
  refine m_callxRV (As := []) (rest := []) hx hb hml hown hI (c_X11_threshold l w hsf s.heap.size M _ hc) (kb_X11_threshold hI.T (q382 hI.T) (Nat.le_of_ble_eq_true rfl) (Nat.le_of_ble_eq_true rfl)) (q383 hI.T) (q384 hI.T) (m_recv (g := 12) (i := 16) hI (mokX (by decide) (by decide)) rfl rfl) rfl hl.1 (Nat.le_of_ble_eq_true rfl) dL_threshold_1 ⟨Nat.le_of_ble_eq_true rfl, Nat.le_of_ble_eq_true rfl⟩ (fun H locs hI => ?_)
  exact k_iretp hx hb hr hlk hI hf dL_threshold_4 (Nat.le_of_ble_eq_true rfl) (Nat.le_of_ble_eq_true rfl)
abbrev rmL_share : Room := { frames := 10, cells := 2, slots := 12, locals := 182 }
set_option maxHeartbeats 4000000 in
set_option maxRecDepth 100000 in
theorem c_L_share (l : Launch) (w : WD) (hsf : l.stackTraces = false) (sz : Nat) (a2 : Int32) (M : Mem) (r : Int32) (hf : f_L_share a2 M = some r) : kMet l yL_share [Cond.codeWith yL_share cL_share 3 (some .int) [(0, 5, 6, 32), (0, 5, 10, 65)]] rmL_share w sz M [.ref (w.1 12 16), .int a2] (some (.int r)) M 2 12 := by
  refine k_ofH (by decide) (Nat.le_of_ble_eq_true rfl) ?_
  intro p e s m args below meth c hx hb hr hml hxt hown hlk hI ls hl
  have hl : lv_has ls 3 [(0, .ref (w.1 12 16)), (1, .int a2)] := hl
  unfold f_L_share at hf
  refine lv_aload_n hx hb dL_share_0 rfl (lv_at hl 0 rfl) ?_
  refine lv_iload_n hx hb dL_share_1 rfl (lv_at hl 1 rfl) ?_
  rcases mcatp_e hf with ⟨n1, hc, hf⟩ | ⟨r2, hc, hf⟩
  · refine k_callX (As := [.int a2]) (rest := []) hx hb hml hown hI (c_X11_share l w hsf s.heap.size a2 M _ hc) (kb_X11_share hI.T (q1368 hI.T) (Nat.le_of_ble_eq_true rfl) (Nat.le_of_ble_eq_true rfl)) (q1369 hI.T) (q1370 hI.T) (m_recv (g := 12) (i := 16) hI (mokX (by decide) (by decide)) rfl rfl) rfl hl.1 (Nat.le_of_ble_eq_true rfl) dL_share_2 ⟨Nat.le_of_ble_eq_true rfl, Nat.le_of_ble_eq_true rfl⟩ (fun ce q H locs hI hc1 hc2 hc3 => ?_)
    by_cases c3 : n1 = 1
    · subst c3
      have hf := (if_pos rfl).symm.trans hf
      refine vx_catch hown [] ⟨0, 5, 6, 32⟩ [⟨0, 5, 10, 65⟩] hxt (fun z hz => nomatch hz) (by decide) (by decide) (q465 hI.T) (q503 hI.T) hc1 hc2 hc3 ?_
      refine lv_astore_n hx hb dL_share_6 rfl hl (by decide) rfl (fun ls hl => ?_)
      refine lv_bipush (v := (-77)) hx hb dL_share_7 (by decide) ?_
      exact k_iretp hx hb hr hlk hI hf dL_share_9 (Nat.le_of_ble_eq_true rfl) (Nat.le_of_ble_eq_true rfl)
    have hf := (if_neg c3).symm.trans hf
    by_cases c4 : n1 = 4
    · subst c4
      have hf := (if_pos rfl).symm.trans hf
      refine vx_catch hown [⟨0, 5, 6, 32⟩] ⟨0, 5, 10, 65⟩ [] hxt (fun z hz => by rcases List.mem_cons.mp hz with rfl | hz; exact Or.inr ⟨by decide, _, (q465 hI.T), hI.nc (i := 4) (j := 1) (by decide) (by decide) (by decide) (by decide) (by decide)⟩; exact nomatch hz) (by decide) (by decide) (q381 hI.T) (q392 hI.T) hc1 hc2 hc3 ?_
      refine lv_astore_n hx hb dL_share_10 rfl hl (by decide) rfl (fun ls hl => ?_)
      refine lv_bipush (v := (-75)) hx hb dL_share_11 (by decide) ?_
      exact k_iretp hx hb hr hlk hI hf dL_share_13 (Nat.le_of_ble_eq_true rfl) (Nat.le_of_ble_eq_true rfl)
    have hf := (if_neg c4).symm.trans hf
    exact nomatch hf
  refine m_callxRV (As := [.int a2]) (rest := []) hx hb hml hown hI (c_X11_share l w hsf s.heap.size a2 M _ hc) (kb_X11_share hI.T (q1368 hI.T) (Nat.le_of_ble_eq_true rfl) (Nat.le_of_ble_eq_true rfl)) (q1369 hI.T) (q1370 hI.T) (m_recv (g := 12) (i := 16) hI (mokX (by decide) (by decide)) rfl rfl) rfl hl.1 (Nat.le_of_ble_eq_true rfl) dL_share_2 ⟨Nat.le_of_ble_eq_true rfl, Nat.le_of_ble_eq_true rfl⟩ (fun H locs hI => ?_)
  exact k_iretp hx hb hr hlk hI hf dL_share_5 (Nat.le_of_ble_eq_true rfl) (Nat.le_of_ble_eq_true rfl)
abbrev rmL_isCorrect : Room := { frames := 10, cells := 2, slots := 12, locals := 182 }
set_option maxHeartbeats 4000000 in
set_option maxRecDepth 100000 in
theorem c_L_isCorrect (l : Launch) (w : WD) (hsf : l.stackTraces = false) (sz : Nat) (a2 : Int32) (M : Mem) (r : Int32) (hf : f_L_isCorrect a2 M = some r) : kMet l yL_isCorrect [Cond.codeWith yL_isCorrect cL_isCorrect 3 (some .int) [(0, 13, 14, 32), (0, 13, 18, 65)]] rmL_isCorrect w sz M [.ref (w.1 12 16), .int a2] (some (.int r)) M 2 12 := by
  refine k_ofH (by decide) (Nat.le_of_ble_eq_true rfl) ?_
  intro p e s m args below meth c hx hb hr hml hxt hown hlk hI ls hl
  have hl : lv_has ls 3 [(0, .ref (w.1 12 16)), (1, .int a2)] := hl
  unfold f_L_isCorrect at hf
  refine lv_aload_n hx hb dL_isCorrect_0 rfl (lv_at hl 0 rfl) ?_
  refine lv_iload_n hx hb dL_isCorrect_1 rfl (lv_at hl 1 rfl) ?_
  rcases mcatp_e hf with ⟨n1, hc, hf⟩ | ⟨r2, hc, hf⟩
  · refine k_callX (As := [.int a2]) (rest := []) hx hb hml hown hI (c_X11_isCorrect l w hsf s.heap.size a2 M _ hc) (kb_X11_isCorrect hI.T (q702 hI.T) (Nat.le_of_ble_eq_true rfl) (Nat.le_of_ble_eq_true rfl)) (q703 hI.T) (q704 hI.T) (m_recv (g := 12) (i := 16) hI (mokX (by decide) (by decide)) rfl rfl) rfl hl.1 (Nat.le_of_ble_eq_true rfl) dL_isCorrect_2 ⟨Nat.le_of_ble_eq_true rfl, Nat.le_of_ble_eq_true rfl⟩ (fun ce q H locs hI hc1 hc2 hc3 => ?_)
    by_cases c3 : n1 = 1
    · subst c3
      have hf := (if_pos rfl).symm.trans hf
      refine vx_catch hown [] ⟨0, 13, 14, 32⟩ [⟨0, 13, 18, 65⟩] hxt (fun z hz => nomatch hz) (by decide) (by decide) (q465 hI.T) (q503 hI.T) hc1 hc2 hc3 ?_
      refine lv_astore_n hx hb dL_isCorrect_14 rfl hl (by decide) rfl (fun ls hl => ?_)
      refine lv_bipush (v := (-77)) hx hb dL_isCorrect_15 (by decide) ?_
      exact k_iretp hx hb hr hlk hI hf dL_isCorrect_17 (Nat.le_of_ble_eq_true rfl) (Nat.le_of_ble_eq_true rfl)
    have hf := (if_neg c3).symm.trans hf
    by_cases c4 : n1 = 4
    · subst c4
      have hf := (if_pos rfl).symm.trans hf
      refine vx_catch hown [⟨0, 13, 14, 32⟩] ⟨0, 13, 18, 65⟩ [] hxt (fun z hz => by rcases List.mem_cons.mp hz with rfl | hz; exact Or.inr ⟨by decide, _, (q465 hI.T), hI.nc (i := 4) (j := 1) (by decide) (by decide) (by decide) (by decide) (by decide)⟩; exact nomatch hz) (by decide) (by decide) (q381 hI.T) (q392 hI.T) hc1 hc2 hc3 ?_
      refine lv_astore_n hx hb dL_isCorrect_18 rfl hl (by decide) rfl (fun ls hl => ?_)
      refine lv_bipush (v := (-75)) hx hb dL_isCorrect_19 (by decide) ?_
      exact k_iretp hx hb hr hlk hI hf dL_isCorrect_21 (Nat.le_of_ble_eq_true rfl) (Nat.le_of_ble_eq_true rfl)
    have hf := (if_neg c4).symm.trans hf
    exact nomatch hf
  refine m_callxRV (As := [.int a2]) (rest := []) hx hb hml hown hI (c_X11_isCorrect l w hsf s.heap.size a2 M _ hc) (kb_X11_isCorrect hI.T (q702 hI.T) (Nat.le_of_ble_eq_true rfl) (Nat.le_of_ble_eq_true rfl)) (q703 hI.T) (q704 hI.T) (m_recv (g := 12) (i := 16) hI (mokX (by decide) (by decide)) rfl rfl) rfl hl.1 (Nat.le_of_ble_eq_true rfl) dL_isCorrect_2 ⟨Nat.le_of_ble_eq_true rfl, Nat.le_of_ble_eq_true rfl⟩ (fun H locs hI => ?_)
  refine lv_if_eq (tgt := 12) hx hb dL_isCorrect_5 (by decide) (fun c5 => ?_) (fun c5 => ?_)
  · have hf := (if_pos c5).symm.trans hf
    refine lv_iconst (v := 0) hx hb dL_isCorrect_12 (by decide) ?_
    exact k_iretp hx hb hr hlk hI hf dL_isCorrect_13 (Nat.le_of_ble_eq_true rfl) (Nat.le_of_ble_eq_true rfl)
  · have hf := (if_neg c5).symm.trans hf
    refine lv_iconst (v := 1) hx hb dL_isCorrect_8 (by decide) ?_
    refine lv_goto (tgt := 13) hx hb dL_isCorrect_9 (by decide) ?_
    exact k_iretp hx hb hr hlk hI hf dL_isCorrect_13 (Nat.le_of_ble_eq_true rfl) (Nat.le_of_ble_eq_true rfl)
abbrev rmL_isPresented : Room := { frames := 10, cells := 1, slots := 6, locals := 182 }
set_option maxHeartbeats 4000000 in
set_option maxRecDepth 100000 in
theorem c_L_isPresented (l : Launch) (w : WD) (hsf : l.stackTraces = false) (sz : Nat) (a2 : Int32) (M : Mem) (r : Int32) (hf : f_L_isPresented a2 M = some r) : kMet l yL_isPresented [Cond.codeWith yL_isPresented cL_isPresented 3 (some .int) [(0, 13, 14, 32)]] rmL_isPresented w sz M [.ref (w.1 12 16), .int a2] (some (.int r)) M 1 6 := by
  refine k_ofH (by decide) (Nat.le_of_ble_eq_true rfl) ?_
  intro p e s m args below meth c hx hb hr hml hxt hown hlk hI ls hl
  have hl : lv_has ls 3 [(0, .ref (w.1 12 16)), (1, .int a2)] := hl
  unfold f_L_isPresented at hf
  refine lv_aload_n hx hb dL_isPresented_0 rfl (lv_at hl 0 rfl) ?_
  refine lv_iload_n hx hb dL_isPresented_1 rfl (lv_at hl 1 rfl) ?_
  rcases mcatp_e hf with ⟨n1, hc, hf⟩ | ⟨r2, hc, hf⟩
  · refine k_callX (As := [.int a2]) (rest := []) hx hb hml hown hI (c_X11_isPresented l w hsf s.heap.size a2 M _ hc) (kb_X11_isPresented hI.T (q489 hI.T) (Nat.le_of_ble_eq_true rfl) (Nat.le_of_ble_eq_true rfl)) (q490 hI.T) (q491 hI.T) (m_recv (g := 12) (i := 16) hI (mokX (by decide) (by decide)) rfl rfl) rfl hl.1 (Nat.le_of_ble_eq_true rfl) dL_isPresented_2 ⟨Nat.le_of_ble_eq_true rfl, Nat.le_of_ble_eq_true rfl⟩ (fun ce q H locs hI hc1 hc2 hc3 => ?_)
    by_cases c3 : n1 = 1
    · subst c3
      have hf := (if_pos rfl).symm.trans hf
      refine vx_catch hown [] ⟨0, 13, 14, 32⟩ [] hxt (fun z hz => nomatch hz) (by decide) (by decide) (q465 hI.T) (q503 hI.T) hc1 hc2 hc3 ?_
      refine lv_astore_n hx hb dL_isPresented_14 rfl hl (by decide) rfl (fun ls hl => ?_)
      refine lv_bipush (v := (-77)) hx hb dL_isPresented_15 (by decide) ?_
      exact k_iretp hx hb hr hlk hI hf dL_isPresented_17 (Nat.le_of_ble_eq_true rfl) (Nat.le_of_ble_eq_true rfl)
    have hf := (if_neg c3).symm.trans hf
    exact nomatch hf
  refine m_callxRV (As := [.int a2]) (rest := []) hx hb hml hown hI (c_X11_isPresented l w hsf s.heap.size a2 M _ hc) (kb_X11_isPresented hI.T (q489 hI.T) (Nat.le_of_ble_eq_true rfl) (Nat.le_of_ble_eq_true rfl)) (q490 hI.T) (q491 hI.T) (m_recv (g := 12) (i := 16) hI (mokX (by decide) (by decide)) rfl rfl) rfl hl.1 (Nat.le_of_ble_eq_true rfl) dL_isPresented_2 ⟨Nat.le_of_ble_eq_true rfl, Nat.le_of_ble_eq_true rfl⟩ (fun H locs hI => ?_)
  refine lv_if_eq (tgt := 12) hx hb dL_isPresented_5 (by decide) (fun c4 => ?_) (fun c4 => ?_)
  · have hf := (if_pos c4).symm.trans hf
    refine lv_iconst (v := 0) hx hb dL_isPresented_12 (by decide) ?_
    exact k_iretp hx hb hr hlk hI hf dL_isPresented_13 (Nat.le_of_ble_eq_true rfl) (Nat.le_of_ble_eq_true rfl)
  · have hf := (if_neg c4).symm.trans hf
    refine lv_iconst (v := 1) hx hb dL_isPresented_8 (by decide) ?_
    refine lv_goto (tgt := 13) hx hb dL_isPresented_9 (by decide) ?_
    exact k_iretp hx hb hr hlk hI hf dL_isPresented_13 (Nat.le_of_ble_eq_true rfl) (Nat.le_of_ble_eq_true rfl)
abbrev rmL_presentedAt : Room := { frames := 9, cells := 1, slots := 6, locals := 161 }
set_option maxHeartbeats 4000000 in
set_option maxRecDepth 100000 in
theorem c_L_presentedAt (l : Launch) (w : WD) (hsf : l.stackTraces = false) (sz : Nat) (a2 : Int32) (M : Mem) (r : Int32) (hf : f_L_presentedAt a2 M = some r) : kMet l yL_presentedAt [Cond.codeWith yL_presentedAt cL_presentedAt 3 (some .int) [(0, 5, 6, 65)]] rmL_presentedAt w sz M [.ref (w.1 12 16), .int a2] (some (.int r)) M 1 6 := by
  refine k_ofH (by decide) (Nat.le_of_ble_eq_true rfl) ?_
  intro p e s m args below meth c hx hb hr hml hxt hown hlk hI ls hl
  have hl : lv_has ls 3 [(0, .ref (w.1 12 16)), (1, .int a2)] := hl
  unfold f_L_presentedAt at hf
  refine lv_aload_n hx hb dL_presentedAt_0 rfl (lv_at hl 0 rfl) ?_
  refine lv_iload_n hx hb dL_presentedAt_1 rfl (lv_at hl 1 rfl) ?_
  rcases mcatp_e hf with ⟨n1, hc, hf⟩ | ⟨r2, hc, hf⟩
  · refine k_callX (As := [.int a2]) (rest := []) hx hb hml hown hI (c_X11_presentedAt l w hsf s.heap.size a2 M _ hc) (kb_X11_presentedAt hI.T (q521 hI.T) (Nat.le_of_ble_eq_true rfl) (Nat.le_of_ble_eq_true rfl)) (q522 hI.T) (q523 hI.T) (m_recv (g := 12) (i := 16) hI (mokX (by decide) (by decide)) rfl rfl) rfl hl.1 (Nat.le_of_ble_eq_true rfl) dL_presentedAt_2 ⟨Nat.le_of_ble_eq_true rfl, Nat.le_of_ble_eq_true rfl⟩ (fun ce q H locs hI hc1 hc2 hc3 => ?_)
    by_cases c3 : n1 = 4
    · subst c3
      have hf := (if_pos rfl).symm.trans hf
      refine vx_catch hown [] ⟨0, 5, 6, 65⟩ [] hxt (fun z hz => nomatch hz) (by decide) (by decide) (q381 hI.T) (q392 hI.T) hc1 hc2 hc3 ?_
      refine lv_astore_n hx hb dL_presentedAt_6 rfl hl (by decide) rfl (fun ls hl => ?_)
      refine lv_bipush (v := (-75)) hx hb dL_presentedAt_7 (by decide) ?_
      exact k_iretp hx hb hr hlk hI hf dL_presentedAt_9 (Nat.le_of_ble_eq_true rfl) (Nat.le_of_ble_eq_true rfl)
    have hf := (if_neg c3).symm.trans hf
    exact nomatch hf
  refine m_callxRV (As := [.int a2]) (rest := []) hx hb hml hown hI (c_X11_presentedAt l w hsf s.heap.size a2 M _ hc) (kb_X11_presentedAt hI.T (q521 hI.T) (Nat.le_of_ble_eq_true rfl) (Nat.le_of_ble_eq_true rfl)) (q522 hI.T) (q523 hI.T) (m_recv (g := 12) (i := 16) hI (mokX (by decide) (by decide)) rfl rfl) rfl hl.1 (Nat.le_of_ble_eq_true rfl) dL_presentedAt_2 ⟨Nat.le_of_ble_eq_true rfl, Nat.le_of_ble_eq_true rfl⟩ (fun H locs hI => ?_)
  exact k_iretp hx hb hr hlk hI hf dL_presentedAt_5 (Nat.le_of_ble_eq_true rfl) (Nat.le_of_ble_eq_true rfl)
abbrev rmL_toldSecret : Room := { frames := 10, cells := 1, slots := 6, locals := 180 }
set_option maxHeartbeats 4000000 in
set_option maxRecDepth 100000 in
theorem c_L_toldSecret (l : Launch) (w : WD) (hsf : l.stackTraces = false) (sz : Nat)  (M : Mem) (r : Int32) (hf : f_L_toldSecret  M = some r) : kMet l yL_toldSecret [Cond.codeWith yL_toldSecret cL_toldSecret 2 (some .int) [(0, 4, 5, 65)]] rmL_toldSecret w sz M [.ref (w.1 12 16)] (some (.int r)) M 1 6 := by
  refine k_ofH (by decide) (Nat.le_of_ble_eq_true rfl) ?_
  intro p e s m args below meth c hx hb hr hml hxt hown hlk hI ls hl
  have hl : lv_has ls 2 [(0, .ref (w.1 12 16))] := hl
  unfold f_L_toldSecret at hf
  refine lv_aload_n hx hb dL_toldSecret_0 rfl (lv_at hl 0 rfl) ?_
  rcases mcatp_e hf with ⟨n1, hc, hf⟩ | ⟨r2, hc, hf⟩
  · refine k_callX (As := []) (rest := []) hx hb hml hown hI (c_X11_toldSecret l w hsf s.heap.size M _ hc) (kb_X11_toldSecret hI.T (q529 hI.T) (Nat.le_of_ble_eq_true rfl) (Nat.le_of_ble_eq_true rfl)) (q530 hI.T) (q531 hI.T) (m_recv (g := 12) (i := 16) hI (mokX (by decide) (by decide)) rfl rfl) rfl hl.1 (Nat.le_of_ble_eq_true rfl) dL_toldSecret_1 ⟨Nat.le_of_ble_eq_true rfl, Nat.le_of_ble_eq_true rfl⟩ (fun ce q H locs hI hc1 hc2 hc3 => ?_)
    by_cases c3 : n1 = 4
    · subst c3
      have hf := (if_pos rfl).symm.trans hf
      refine vx_catch hown [] ⟨0, 4, 5, 65⟩ [] hxt (fun z hz => nomatch hz) (by decide) (by decide) (q381 hI.T) (q392 hI.T) hc1 hc2 hc3 ?_
      refine lv_astore_n hx hb dL_toldSecret_5 rfl hl (by decide) rfl (fun ls hl => ?_)
      refine lv_bipush (v := (-75)) hx hb dL_toldSecret_6 (by decide) ?_
      exact k_iretp hx hb hr hlk hI hf dL_toldSecret_8 (Nat.le_of_ble_eq_true rfl) (Nat.le_of_ble_eq_true rfl)
    have hf := (if_neg c3).symm.trans hf
    exact nomatch hf
  refine m_callxRV (As := []) (rest := []) hx hb hml hown hI (c_X11_toldSecret l w hsf s.heap.size M _ hc) (kb_X11_toldSecret hI.T (q529 hI.T) (Nat.le_of_ble_eq_true rfl) (Nat.le_of_ble_eq_true rfl)) (q530 hI.T) (q531 hI.T) (m_recv (g := 12) (i := 16) hI (mokX (by decide) (by decide)) rfl rfl) rfl hl.1 (Nat.le_of_ble_eq_true rfl) dL_toldSecret_1 ⟨Nat.le_of_ble_eq_true rfl, Nat.le_of_ble_eq_true rfl⟩ (fun H locs hI => ?_)
  exact k_iretp hx hb hr hlk hI hf dL_toldSecret_4 (Nat.le_of_ble_eq_true rfl) (Nat.le_of_ble_eq_true rfl)
abbrev rmL_toldSecretByElimination : Room := { frames := 10, cells := 1, slots := 6, locals := 180 }
set_option maxHeartbeats 4000000 in
set_option maxRecDepth 100000 in
theorem c_L_toldSecretByElimination (l : Launch) (w : WD) (hsf : l.stackTraces = false) (sz : Nat)  (M : Mem) (r : Int32) (M9 : Mem) (hf : f_L_toldSecretByElimination  M = some (r, M9)) : kMet l yL_toldSecretByElimination [Cond.codeWith yL_toldSecretByElimination cL_toldSecretByElimination 2 (some .int) [(0, 4, 5, 65)]] rmL_toldSecretByElimination w sz M [.ref (w.1 12 16)] (some (.int r)) M9 1 6 := by
  refine k_ofH (by decide) (Nat.le_of_ble_eq_true rfl) ?_
  intro p e s m args below meth c hx hb hr hml hxt hown hlk hI ls hl
  have hl : lv_has ls 2 [(0, .ref (w.1 12 16))] := hl
  unfold f_L_toldSecretByElimination at hf
  refine lv_aload_n hx hb dL_toldSecretByElimination_0 rfl (lv_at hl 0 rfl) ?_
  rcases mcat_e hf with ⟨n1, M3, hc, hf⟩ | ⟨r2, M3, hc, hf⟩
  · refine k_callX (As := []) (rest := []) hx hb hml hown hI (c_X11_toldSecretByElimination l w hsf s.heap.size M _ _ hc) (kb_X11_toldSecretByElimination hI.T (q1412 hI.T) (Nat.le_of_ble_eq_true rfl) (Nat.le_of_ble_eq_true rfl)) (q1413 hI.T) (q1414 hI.T) (m_recv (g := 12) (i := 16) hI (mokX (by decide) (by decide)) rfl rfl) rfl hl.1 (Nat.le_of_ble_eq_true rfl) dL_toldSecretByElimination_1 ⟨Nat.le_of_ble_eq_true rfl, Nat.le_of_ble_eq_true rfl⟩ (fun ce q H locs hI hc1 hc2 hc3 => ?_)
    by_cases c4 : n1 = 4
    · subst c4
      have hf := (if_pos rfl).symm.trans hf
      refine vx_catch hown [] ⟨0, 4, 5, 65⟩ [] hxt (fun z hz => nomatch hz) (by decide) (by decide) (q381 hI.T) (q392 hI.T) hc1 hc2 hc3 ?_
      refine lv_astore_n hx hb dL_toldSecretByElimination_5 rfl hl (by decide) rfl (fun ls hl => ?_)
      refine lv_bipush (v := (-75)) hx hb dL_toldSecretByElimination_6 (by decide) ?_
      exact k_iretf hx hb hr hlk hI hf dL_toldSecretByElimination_8 (Nat.le_of_ble_eq_true rfl) (Nat.le_of_ble_eq_true rfl)
    have hf := (if_neg c4).symm.trans hf
    exact nomatch hf
  refine m_callxRV (As := []) (rest := []) hx hb hml hown hI (c_X11_toldSecretByElimination l w hsf s.heap.size M _ _ hc) (kb_X11_toldSecretByElimination hI.T (q1412 hI.T) (Nat.le_of_ble_eq_true rfl) (Nat.le_of_ble_eq_true rfl)) (q1413 hI.T) (q1414 hI.T) (m_recv (g := 12) (i := 16) hI (mokX (by decide) (by decide)) rfl rfl) rfl hl.1 (Nat.le_of_ble_eq_true rfl) dL_toldSecretByElimination_1 ⟨Nat.le_of_ble_eq_true rfl, Nat.le_of_ble_eq_true rfl⟩ (fun H locs hI => ?_)
  exact k_iretf hx hb hr hlk hI hf dL_toldSecretByElimination_4 (Nat.le_of_ble_eq_true rfl) (Nat.le_of_ble_eq_true rfl)
abbrev rmL_toldValue : Room := { frames := 10, cells := 1, slots := 6, locals := 181 }
set_option maxHeartbeats 4000000 in
set_option maxRecDepth 100000 in
theorem c_L_toldValue (l : Launch) (w : WD) (hsf : l.stackTraces = false) (sz : Nat) (a2 : Int32) (M : Mem) (r : Int32) (hf : f_L_toldValue a2 M = some r) : kMet l yL_toldValue [Cond.codeWith yL_toldValue cL_toldValue 3 (some .int) [(0, 5, 6, 26), (0, 5, 10, 65)]] rmL_toldValue w sz M [.ref (w.1 12 16), .int a2] (some (.int r)) M 1 6 := by
  refine k_ofH (by decide) (Nat.le_of_ble_eq_true rfl) ?_
  intro p e s m args below meth c hx hb hr hml hxt hown hlk hI ls hl
  have hl : lv_has ls 3 [(0, .ref (w.1 12 16)), (1, .int a2)] := hl
  unfold f_L_toldValue at hf
  refine lv_aload_n hx hb dL_toldValue_0 rfl (lv_at hl 0 rfl) ?_
  refine lv_iload_n hx hb dL_toldValue_1 rfl (lv_at hl 1 rfl) ?_
  rcases mcatp_e hf with ⟨n1, hc, hf⟩ | ⟨r2, hc, hf⟩
  · refine k_callX (As := [.int a2]) (rest := []) hx hb hml hown hI (c_X11_toldValue l w hsf s.heap.size a2 M _ hc) (kb_X11_toldValue hI.T (q1443 hI.T) (Nat.le_of_ble_eq_true rfl) (Nat.le_of_ble_eq_true rfl)) (q1444 hI.T) (q1445 hI.T) (m_recv (g := 12) (i := 16) hI (mokX (by decide) (by decide)) rfl rfl) rfl hl.1 (Nat.le_of_ble_eq_true rfl) dL_toldValue_2 ⟨Nat.le_of_ble_eq_true rfl, Nat.le_of_ble_eq_true rfl⟩ (fun ce q H locs hI hc1 hc2 hc3 => ?_)
    by_cases c3 : n1 = 2
    · subst c3
      have hf := (if_pos rfl).symm.trans hf
      refine vx_catch hown [] ⟨0, 5, 6, 26⟩ [⟨0, 5, 10, 65⟩] hxt (fun z hz => nomatch hz) (by decide) (by decide) (q577 hI.T) (q591 hI.T) hc1 hc2 hc3 ?_
      refine lv_astore_n hx hb dL_toldValue_6 rfl hl (by decide) rfl (fun ls hl => ?_)
      refine lv_bipush (v := (-78)) hx hb dL_toldValue_7 (by decide) ?_
      exact k_iretp hx hb hr hlk hI hf dL_toldValue_9 (Nat.le_of_ble_eq_true rfl) (Nat.le_of_ble_eq_true rfl)
    have hf := (if_neg c3).symm.trans hf
    by_cases c4 : n1 = 4
    · subst c4
      have hf := (if_pos rfl).symm.trans hf
      refine vx_catch hown [⟨0, 5, 6, 26⟩] ⟨0, 5, 10, 65⟩ [] hxt (fun z hz => by rcases List.mem_cons.mp hz with rfl | hz; exact Or.inr ⟨by decide, _, (q577 hI.T), hI.nc (i := 4) (j := 2) (by decide) (by decide) (by decide) (by decide) (by decide)⟩; exact nomatch hz) (by decide) (by decide) (q381 hI.T) (q392 hI.T) hc1 hc2 hc3 ?_
      refine lv_astore_n hx hb dL_toldValue_10 rfl hl (by decide) rfl (fun ls hl => ?_)
      refine lv_bipush (v := (-75)) hx hb dL_toldValue_11 (by decide) ?_
      exact k_iretp hx hb hr hlk hI hf dL_toldValue_13 (Nat.le_of_ble_eq_true rfl) (Nat.le_of_ble_eq_true rfl)
    have hf := (if_neg c4).symm.trans hf
    exact nomatch hf
  refine m_callxRV (As := [.int a2]) (rest := []) hx hb hml hown hI (c_X11_toldValue l w hsf s.heap.size a2 M _ hc) (kb_X11_toldValue hI.T (q1443 hI.T) (Nat.le_of_ble_eq_true rfl) (Nat.le_of_ble_eq_true rfl)) (q1444 hI.T) (q1445 hI.T) (m_recv (g := 12) (i := 16) hI (mokX (by decide) (by decide)) rfl rfl) rfl hl.1 (Nat.le_of_ble_eq_true rfl) dL_toldValue_2 ⟨Nat.le_of_ble_eq_true rfl, Nat.le_of_ble_eq_true rfl⟩ (fun H locs hI => ?_)
  exact k_iretp hx hb hr hlk hI hf dL_toldValue_5 (Nat.le_of_ble_eq_true rfl) (Nat.le_of_ble_eq_true rfl)
abbrev rmL_doAgree : Room := { frames := 10, cells := 1, slots := 6, locals := 180 }
set_option maxHeartbeats 4000000 in
set_option maxRecDepth 100000 in
theorem c_L_doAgree (l : Launch) (w : WD) (hsf : l.stackTraces = false) (sz : Nat)  (M : Mem) (r : Int32) (hf : f_L_doAgree  M = some r) : kMet l yL_doAgree [Cond.codeWith yL_doAgree cL_doAgree 2 (some .int) [(0, 12, 13, 65)]] rmL_doAgree w sz M [.ref (w.1 12 16)] (some (.int r)) M 1 6 := by
  refine k_ofH (by decide) (Nat.le_of_ble_eq_true rfl) ?_
  intro p e s m args below meth c hx hb hr hml hxt hown hlk hI ls hl
  have hl : lv_has ls 2 [(0, .ref (w.1 12 16))] := hl
  unfold f_L_doAgree at hf
  refine lv_aload_n hx hb dL_doAgree_0 rfl (lv_at hl 0 rfl) ?_
  rcases mcatp_e hf with ⟨n1, hc, hf⟩ | ⟨r2, hc, hf⟩
  · refine k_callX (As := []) (rest := []) hx hb hml hown hI (c_X11_doAgree l w hsf s.heap.size M _ hc) (kb_X11_doAgree hI.T (q559 hI.T) (Nat.le_of_ble_eq_true rfl) (Nat.le_of_ble_eq_true rfl)) (q560 hI.T) (q561 hI.T) (m_recv (g := 12) (i := 16) hI (mokX (by decide) (by decide)) rfl rfl) rfl hl.1 (Nat.le_of_ble_eq_true rfl) dL_doAgree_1 ⟨Nat.le_of_ble_eq_true rfl, Nat.le_of_ble_eq_true rfl⟩ (fun ce q H locs hI hc1 hc2 hc3 => ?_)
    by_cases c3 : n1 = 4
    · subst c3
      have hf := (if_pos rfl).symm.trans hf
      refine vx_catch hown [] ⟨0, 12, 13, 65⟩ [] hxt (fun z hz => nomatch hz) (by decide) (by decide) (q381 hI.T) (q392 hI.T) hc1 hc2 hc3 ?_
      refine lv_astore_n hx hb dL_doAgree_13 rfl hl (by decide) rfl (fun ls hl => ?_)
      refine lv_bipush (v := (-75)) hx hb dL_doAgree_14 (by decide) ?_
      exact k_iretp hx hb hr hlk hI hf dL_doAgree_16 (Nat.le_of_ble_eq_true rfl) (Nat.le_of_ble_eq_true rfl)
    have hf := (if_neg c3).symm.trans hf
    exact nomatch hf
  refine m_callxRV (As := []) (rest := []) hx hb hml hown hI (c_X11_doAgree l w hsf s.heap.size M _ hc) (kb_X11_doAgree hI.T (q559 hI.T) (Nat.le_of_ble_eq_true rfl) (Nat.le_of_ble_eq_true rfl)) (q560 hI.T) (q561 hI.T) (m_recv (g := 12) (i := 16) hI (mokX (by decide) (by decide)) rfl rfl) rfl hl.1 (Nat.le_of_ble_eq_true rfl) dL_doAgree_1 ⟨Nat.le_of_ble_eq_true rfl, Nat.le_of_ble_eq_true rfl⟩ (fun H locs hI => ?_)
  refine lv_if_eq (tgt := 11) hx hb dL_doAgree_4 (by decide) (fun c4 => ?_) (fun c4 => ?_)
  · have hf := (if_pos c4).symm.trans hf
    refine lv_iconst (v := 0) hx hb dL_doAgree_11 (by decide) ?_
    exact k_iretp hx hb hr hlk hI hf dL_doAgree_12 (Nat.le_of_ble_eq_true rfl) (Nat.le_of_ble_eq_true rfl)
  · have hf := (if_neg c4).symm.trans hf
    refine lv_iconst (v := 1) hx hb dL_doAgree_7 (by decide) ?_
    refine lv_goto (tgt := 12) hx hb dL_doAgree_8 (by decide) ?_
    exact k_iretp hx hb hr hlk hI hf dL_doAgree_12 (Nat.le_of_ble_eq_true rfl) (Nat.le_of_ble_eq_true rfl)
abbrev rmL_mostAgreeing : Room := { frames := 10, cells := 1, slots := 6, locals := 180 }
set_option maxHeartbeats 4000000 in
set_option maxRecDepth 100000 in
theorem c_L_mostAgreeing (l : Launch) (w : WD) (hsf : l.stackTraces = false) (sz : Nat)  (M : Mem) (r : Int32) (M9 : Mem) (hf : f_L_mostAgreeing  M = some (r, M9)) : kMet l yL_mostAgreeing [Cond.codeWith yL_mostAgreeing cL_mostAgreeing 2 (some .int) [(0, 4, 5, 65)]] rmL_mostAgreeing w sz M [.ref (w.1 12 16)] (some (.int r)) M9 1 6 := by
  refine k_ofH (by decide) (Nat.le_of_ble_eq_true rfl) ?_
  intro p e s m args below meth c hx hb hr hml hxt hown hlk hI ls hl
  have hl : lv_has ls 2 [(0, .ref (w.1 12 16))] := hl
  unfold f_L_mostAgreeing at hf
  refine lv_aload_n hx hb dL_mostAgreeing_0 rfl (lv_at hl 0 rfl) ?_
  rcases mcat_e hf with ⟨n1, M3, hc, hf⟩ | ⟨r2, M3, hc, hf⟩
  · refine k_callX (As := []) (rest := []) hx hb hml hown hI (c_X11_mostAgreeing l w hsf s.heap.size M _ _ hc) (kb_X11_mostAgreeing hI.T (q1451 hI.T) (Nat.le_of_ble_eq_true rfl) (Nat.le_of_ble_eq_true rfl)) (q1452 hI.T) (q1453 hI.T) (m_recv (g := 12) (i := 16) hI (mokX (by decide) (by decide)) rfl rfl) rfl hl.1 (Nat.le_of_ble_eq_true rfl) dL_mostAgreeing_1 ⟨Nat.le_of_ble_eq_true rfl, Nat.le_of_ble_eq_true rfl⟩ (fun ce q H locs hI hc1 hc2 hc3 => ?_)
    by_cases c4 : n1 = 4
    · subst c4
      have hf := (if_pos rfl).symm.trans hf
      refine vx_catch hown [] ⟨0, 4, 5, 65⟩ [] hxt (fun z hz => nomatch hz) (by decide) (by decide) (q381 hI.T) (q392 hI.T) hc1 hc2 hc3 ?_
      refine lv_astore_n hx hb dL_mostAgreeing_5 rfl hl (by decide) rfl (fun ls hl => ?_)
      refine lv_bipush (v := (-75)) hx hb dL_mostAgreeing_6 (by decide) ?_
      exact k_iretf hx hb hr hlk hI hf dL_mostAgreeing_8 (Nat.le_of_ble_eq_true rfl) (Nat.le_of_ble_eq_true rfl)
    have hf := (if_neg c4).symm.trans hf
    exact nomatch hf
  refine m_callxRV (As := []) (rest := []) hx hb hml hown hI (c_X11_mostAgreeing l w hsf s.heap.size M _ _ hc) (kb_X11_mostAgreeing hI.T (q1451 hI.T) (Nat.le_of_ble_eq_true rfl) (Nat.le_of_ble_eq_true rfl)) (q1452 hI.T) (q1453 hI.T) (m_recv (g := 12) (i := 16) hI (mokX (by decide) (by decide)) rfl rfl) rfl hl.1 (Nat.le_of_ble_eq_true rfl) dL_mostAgreeing_1 ⟨Nat.le_of_ble_eq_true rfl, Nat.le_of_ble_eq_true rfl⟩ (fun H locs hI => ?_)
  exact k_iretf hx hb hr hlk hI hf dL_mostAgreeing_4 (Nat.le_of_ble_eq_true rfl) (Nat.le_of_ble_eq_true rfl)
abbrev rmL_mostAgreeingBySets : Room := { frames := 10, cells := 1, slots := 6, locals := 180 }
set_option maxHeartbeats 4000000 in
set_option maxRecDepth 100000 in
theorem c_L_mostAgreeingBySets (l : Launch) (w : WD) (hsf : l.stackTraces = false) (sz : Nat)  (M : Mem) (r : Int32) (M9 : Mem) (hf : f_L_mostAgreeingBySets  M = some (r, M9)) : kMet l yL_mostAgreeingBySets [Cond.codeWith yL_mostAgreeingBySets cL_mostAgreeingBySets 2 (some .int) [(0, 4, 5, 65)]] rmL_mostAgreeingBySets w sz M [.ref (w.1 12 16)] (some (.int r)) M9 1 6 := by
  refine k_ofH (by decide) (Nat.le_of_ble_eq_true rfl) ?_
  intro p e s m args below meth c hx hb hr hml hxt hown hlk hI ls hl
  have hl : lv_has ls 2 [(0, .ref (w.1 12 16))] := hl
  unfold f_L_mostAgreeingBySets at hf
  refine lv_aload_n hx hb dL_mostAgreeingBySets_0 rfl (lv_at hl 0 rfl) ?_
  rcases mcat_e hf with ⟨n1, M3, hc, hf⟩ | ⟨r2, M3, hc, hf⟩
  · refine k_callX (As := []) (rest := []) hx hb hml hown hI (c_X11_mostAgreeingBySets l w hsf s.heap.size M _ _ hc) (kb_X11_mostAgreeingBySets hI.T (q1473 hI.T) (Nat.le_of_ble_eq_true rfl) (Nat.le_of_ble_eq_true rfl)) (q1474 hI.T) (q1475 hI.T) (m_recv (g := 12) (i := 16) hI (mokX (by decide) (by decide)) rfl rfl) rfl hl.1 (Nat.le_of_ble_eq_true rfl) dL_mostAgreeingBySets_1 ⟨Nat.le_of_ble_eq_true rfl, Nat.le_of_ble_eq_true rfl⟩ (fun ce q H locs hI hc1 hc2 hc3 => ?_)
    by_cases c4 : n1 = 4
    · subst c4
      have hf := (if_pos rfl).symm.trans hf
      refine vx_catch hown [] ⟨0, 4, 5, 65⟩ [] hxt (fun z hz => nomatch hz) (by decide) (by decide) (q381 hI.T) (q392 hI.T) hc1 hc2 hc3 ?_
      refine lv_astore_n hx hb dL_mostAgreeingBySets_5 rfl hl (by decide) rfl (fun ls hl => ?_)
      refine lv_bipush (v := (-75)) hx hb dL_mostAgreeingBySets_6 (by decide) ?_
      exact k_iretf hx hb hr hlk hI hf dL_mostAgreeingBySets_8 (Nat.le_of_ble_eq_true rfl) (Nat.le_of_ble_eq_true rfl)
    have hf := (if_neg c4).symm.trans hf
    exact nomatch hf
  refine m_callxRV (As := []) (rest := []) hx hb hml hown hI (c_X11_mostAgreeingBySets l w hsf s.heap.size M _ _ hc) (kb_X11_mostAgreeingBySets hI.T (q1473 hI.T) (Nat.le_of_ble_eq_true rfl) (Nat.le_of_ble_eq_true rfl)) (q1474 hI.T) (q1475 hI.T) (m_recv (g := 12) (i := 16) hI (mokX (by decide) (by decide)) rfl rfl) rfl hl.1 (Nat.le_of_ble_eq_true rfl) dL_mostAgreeingBySets_1 ⟨Nat.le_of_ble_eq_true rfl, Nat.le_of_ble_eq_true rfl⟩ (fun H locs hI => ?_)
  exact k_iretf hx hb hr hlk hI hf dL_mostAgreeingBySets_4 (Nat.le_of_ble_eq_true rfl) (Nat.le_of_ble_eq_true rfl)
abbrev rmL_zoneOf : Room := { frames := 10, cells := 1, slots := 6, locals := 182 }
set_option maxHeartbeats 4000000 in
set_option maxRecDepth 100000 in
theorem c_L_zoneOf (l : Launch) (w : WD) (hsf : l.stackTraces = false) (sz : Nat) (a2 : Int32) (M : Mem) (r : Int32) (hf : f_L_zoneOf a2 M = some r) : kMet l yL_zoneOf [Cond.codeWith yL_zoneOf cL_zoneOf 3 (some .int) [(0, 5, 6, 32)]] rmL_zoneOf w sz M [.ref (w.1 12 16), .int a2] (some (.int r)) M 1 6 := by
  refine k_ofH (by decide) (Nat.le_of_ble_eq_true rfl) ?_
  intro p e s m args below meth c hx hb hr hml hxt hown hlk hI ls hl
  have hl : lv_has ls 3 [(0, .ref (w.1 12 16)), (1, .int a2)] := hl
  unfold f_L_zoneOf at hf
  refine lv_aload_n hx hb dL_zoneOf_0 rfl (lv_at hl 0 rfl) ?_
  refine lv_iload_n hx hb dL_zoneOf_1 rfl (lv_at hl 1 rfl) ?_
  rcases mcatp_e hf with ⟨n1, hc, hf⟩ | ⟨r2, hc, hf⟩
  · refine k_callX (As := [.int a2]) (rest := []) hx hb hml hown hI (c_X11_zoneOf l w hsf s.heap.size a2 M _ hc) (kb_X11_zoneOf hI.T (q683 hI.T) (Nat.le_of_ble_eq_true rfl) (Nat.le_of_ble_eq_true rfl)) (q684 hI.T) (q685 hI.T) (m_recv (g := 12) (i := 16) hI (mokX (by decide) (by decide)) rfl rfl) rfl hl.1 (Nat.le_of_ble_eq_true rfl) dL_zoneOf_2 ⟨Nat.le_of_ble_eq_true rfl, Nat.le_of_ble_eq_true rfl⟩ (fun ce q H locs hI hc1 hc2 hc3 => ?_)
    by_cases c3 : n1 = 1
    · subst c3
      have hf := (if_pos rfl).symm.trans hf
      refine vx_catch hown [] ⟨0, 5, 6, 32⟩ [] hxt (fun z hz => nomatch hz) (by decide) (by decide) (q465 hI.T) (q503 hI.T) hc1 hc2 hc3 ?_
      refine lv_astore_n hx hb dL_zoneOf_6 rfl hl (by decide) rfl (fun ls hl => ?_)
      refine lv_bipush (v := (-77)) hx hb dL_zoneOf_7 (by decide) ?_
      exact k_iretp hx hb hr hlk hI hf dL_zoneOf_9 (Nat.le_of_ble_eq_true rfl) (Nat.le_of_ble_eq_true rfl)
    have hf := (if_neg c3).symm.trans hf
    exact nomatch hf
  refine m_callxRV (As := [.int a2]) (rest := []) hx hb hml hown hI (c_X11_zoneOf l w hsf s.heap.size a2 M _ hc) (kb_X11_zoneOf hI.T (q683 hI.T) (Nat.le_of_ble_eq_true rfl) (Nat.le_of_ble_eq_true rfl)) (q684 hI.T) (q685 hI.T) (m_recv (g := 12) (i := 16) hI (mokX (by decide) (by decide)) rfl rfl) rfl hl.1 (Nat.le_of_ble_eq_true rfl) dL_zoneOf_2 ⟨Nat.le_of_ble_eq_true rfl, Nat.le_of_ble_eq_true rfl⟩ (fun H locs hI => ?_)
  exact k_iretp hx hb hr hlk hI hf dL_zoneOf_5 (Nat.le_of_ble_eq_true rfl) (Nat.le_of_ble_eq_true rfl)
abbrev rmL_isForwards : Room := { frames := 10, cells := 1, slots := 6, locals := 182 }
set_option maxHeartbeats 4000000 in
set_option maxRecDepth 100000 in
theorem c_L_isForwards (l : Launch) (w : WD) (hsf : l.stackTraces = false) (sz : Nat) (a2 : Int32) (M : Mem) (r : Int32) (hf : f_L_isForwards a2 M = some r) : kMet l yL_isForwards [Cond.codeWith yL_isForwards cL_isForwards 3 (some .int) [(0, 13, 14, 32)]] rmL_isForwards w sz M [.ref (w.1 12 16), .int a2] (some (.int r)) M 1 6 := by
  refine k_ofH (by decide) (Nat.le_of_ble_eq_true rfl) ?_
  intro p e s m args below meth c hx hb hr hml hxt hown hlk hI ls hl
  have hl : lv_has ls 3 [(0, .ref (w.1 12 16)), (1, .int a2)] := hl
  unfold f_L_isForwards at hf
  refine lv_aload_n hx hb dL_isForwards_0 rfl (lv_at hl 0 rfl) ?_
  refine lv_iload_n hx hb dL_isForwards_1 rfl (lv_at hl 1 rfl) ?_
  rcases mcatp_e hf with ⟨n1, hc, hf⟩ | ⟨r2, hc, hf⟩
  · refine k_callX (As := [.int a2]) (rest := []) hx hb hml hown hI (c_X11_isForwards l w hsf s.heap.size a2 M _ hc) (kb_X11_isForwards hI.T (q1389 hI.T) (Nat.le_of_ble_eq_true rfl) (Nat.le_of_ble_eq_true rfl)) (q1390 hI.T) (q1391 hI.T) (m_recv (g := 12) (i := 16) hI (mokX (by decide) (by decide)) rfl rfl) rfl hl.1 (Nat.le_of_ble_eq_true rfl) dL_isForwards_2 ⟨Nat.le_of_ble_eq_true rfl, Nat.le_of_ble_eq_true rfl⟩ (fun ce q H locs hI hc1 hc2 hc3 => ?_)
    by_cases c3 : n1 = 1
    · subst c3
      have hf := (if_pos rfl).symm.trans hf
      refine vx_catch hown [] ⟨0, 13, 14, 32⟩ [] hxt (fun z hz => nomatch hz) (by decide) (by decide) (q465 hI.T) (q503 hI.T) hc1 hc2 hc3 ?_
      refine lv_astore_n hx hb dL_isForwards_14 rfl hl (by decide) rfl (fun ls hl => ?_)
      refine lv_bipush (v := (-77)) hx hb dL_isForwards_15 (by decide) ?_
      exact k_iretp hx hb hr hlk hI hf dL_isForwards_17 (Nat.le_of_ble_eq_true rfl) (Nat.le_of_ble_eq_true rfl)
    have hf := (if_neg c3).symm.trans hf
    exact nomatch hf
  refine m_callxRV (As := [.int a2]) (rest := []) hx hb hml hown hI (c_X11_isForwards l w hsf s.heap.size a2 M _ hc) (kb_X11_isForwards hI.T (q1389 hI.T) (Nat.le_of_ble_eq_true rfl) (Nat.le_of_ble_eq_true rfl)) (q1390 hI.T) (q1391 hI.T) (m_recv (g := 12) (i := 16) hI (mokX (by decide) (by decide)) rfl rfl) rfl hl.1 (Nat.le_of_ble_eq_true rfl) dL_isForwards_2 ⟨Nat.le_of_ble_eq_true rfl, Nat.le_of_ble_eq_true rfl⟩ (fun H locs hI => ?_)
  refine lv_if_eq (tgt := 12) hx hb dL_isForwards_5 (by decide) (fun c4 => ?_) (fun c4 => ?_)
  · have hf := (if_pos c4).symm.trans hf
    refine lv_iconst (v := 0) hx hb dL_isForwards_12 (by decide) ?_
    exact k_iretp hx hb hr hlk hI hf dL_isForwards_13 (Nat.le_of_ble_eq_true rfl) (Nat.le_of_ble_eq_true rfl)
  · have hf := (if_neg c4).symm.trans hf
    refine lv_iconst (v := 1) hx hb dL_isForwards_8 (by decide) ?_
    refine lv_goto (tgt := 13) hx hb dL_isForwards_9 (by decide) ?_
    exact k_iretp hx hb hr hlk hI hf dL_isForwards_13 (Nat.le_of_ble_eq_true rfl) (Nat.le_of_ble_eq_true rfl)
abbrev rmL_noise : Room := { frames := 10, cells := 1, slots := 6, locals := 182 }
set_option maxHeartbeats 4000000 in
set_option maxRecDepth 100000 in
theorem c_L_noise (l : Launch) (w : WD) (hsf : l.stackTraces = false) (sz : Nat) (a2 : Int32) (M : Mem) (r : Int32) (hf : f_L_noise a2 M = some r) : kMet l yL_noise [Cond.codeWith yL_noise cL_noise 3 (some .int) [(0, 5, 6, 26)]] rmL_noise w sz M [.ref (w.1 12 16), .int a2] (some (.int r)) M 1 6 := by
  refine k_ofH (by decide) (Nat.le_of_ble_eq_true rfl) ?_
  intro p e s m args below meth c hx hb hr hml hxt hown hlk hI ls hl
  have hl : lv_has ls 3 [(0, .ref (w.1 12 16)), (1, .int a2)] := hl
  unfold f_L_noise at hf
  refine lv_aload_n hx hb dL_noise_0 rfl (lv_at hl 0 rfl) ?_
  refine lv_iload_n hx hb dL_noise_1 rfl (lv_at hl 1 rfl) ?_
  rcases mcatp_e hf with ⟨n1, hc, hf⟩ | ⟨r2, hc, hf⟩
  · refine k_callX (As := [.int a2]) (rest := []) hx hb hml hown hI (c_X11_noise l w hsf s.heap.size a2 M _ hc) (kb_X11_noise hI.T (q1375 hI.T) (Nat.le_of_ble_eq_true rfl) (Nat.le_of_ble_eq_true rfl)) (q1376 hI.T) (q1377 hI.T) (m_recv (g := 12) (i := 16) hI (mokX (by decide) (by decide)) rfl rfl) rfl hl.1 (Nat.le_of_ble_eq_true rfl) dL_noise_2 ⟨Nat.le_of_ble_eq_true rfl, Nat.le_of_ble_eq_true rfl⟩ (fun ce q H locs hI hc1 hc2 hc3 => ?_)
    by_cases c3 : n1 = 2
    · subst c3
      have hf := (if_pos rfl).symm.trans hf
      refine vx_catch hown [] ⟨0, 5, 6, 26⟩ [] hxt (fun z hz => nomatch hz) (by decide) (by decide) (q577 hI.T) (q591 hI.T) hc1 hc2 hc3 ?_
      refine lv_astore_n hx hb dL_noise_6 rfl hl (by decide) rfl (fun ls hl => ?_)
      refine lv_bipush (v := (-78)) hx hb dL_noise_7 (by decide) ?_
      exact k_iretp hx hb hr hlk hI hf dL_noise_9 (Nat.le_of_ble_eq_true rfl) (Nat.le_of_ble_eq_true rfl)
    have hf := (if_neg c3).symm.trans hf
    exact nomatch hf
  refine m_callxRV (As := [.int a2]) (rest := []) hx hb hml hown hI (c_X11_noise l w hsf s.heap.size a2 M _ hc) (kb_X11_noise hI.T (q1375 hI.T) (Nat.le_of_ble_eq_true rfl) (Nat.le_of_ble_eq_true rfl)) (q1376 hI.T) (q1377 hI.T) (m_recv (g := 12) (i := 16) hI (mokX (by decide) (by decide)) rfl rfl) rfl hl.1 (Nat.le_of_ble_eq_true rfl) dL_noise_2 ⟨Nat.le_of_ble_eq_true rfl, Nat.le_of_ble_eq_true rfl⟩ (fun H locs hI => ?_)
  exact k_iretp hx hb hr hlk hI hf dL_noise_5 (Nat.le_of_ble_eq_true rfl) (Nat.le_of_ble_eq_true rfl)
abbrev rmL_isGuarded : Room := { frames := 10, cells := 1, slots := 6, locals := 182 }
set_option maxHeartbeats 4000000 in
set_option maxRecDepth 100000 in
theorem c_L_isGuarded (l : Launch) (w : WD) (hsf : l.stackTraces = false) (sz : Nat) (a2 : Int32) (M : Mem) (r : Int32) (hf : f_L_isGuarded a2 M = some r) : kMet l yL_isGuarded [Cond.codeWith yL_isGuarded cL_isGuarded 3 (some .int) [(0, 13, 14, 26)]] rmL_isGuarded w sz M [.ref (w.1 12 16), .int a2] (some (.int r)) M 1 6 := by
  refine k_ofH (by decide) (Nat.le_of_ble_eq_true rfl) ?_
  intro p e s m args below meth c hx hb hr hml hxt hown hlk hI ls hl
  have hl : lv_has ls 3 [(0, .ref (w.1 12 16)), (1, .int a2)] := hl
  unfold f_L_isGuarded at hf
  refine lv_aload_n hx hb dL_isGuarded_0 rfl (lv_at hl 0 rfl) ?_
  refine lv_iload_n hx hb dL_isGuarded_1 rfl (lv_at hl 1 rfl) ?_
  rcases mcatp_e hf with ⟨n1, hc, hf⟩ | ⟨r2, hc, hf⟩
  · refine k_callX (As := [.int a2]) (rest := []) hx hb hml hown hI (c_X11_isGuarded l w hsf s.heap.size a2 M _ hc) (kb_X11_isGuarded hI.T (q1508 hI.T) (Nat.le_of_ble_eq_true rfl) (Nat.le_of_ble_eq_true rfl)) (q1509 hI.T) (q1510 hI.T) (m_recv (g := 12) (i := 16) hI (mokX (by decide) (by decide)) rfl rfl) rfl hl.1 (Nat.le_of_ble_eq_true rfl) dL_isGuarded_2 ⟨Nat.le_of_ble_eq_true rfl, Nat.le_of_ble_eq_true rfl⟩ (fun ce q H locs hI hc1 hc2 hc3 => ?_)
    by_cases c3 : n1 = 2
    · subst c3
      have hf := (if_pos rfl).symm.trans hf
      refine vx_catch hown [] ⟨0, 13, 14, 26⟩ [] hxt (fun z hz => nomatch hz) (by decide) (by decide) (q577 hI.T) (q591 hI.T) hc1 hc2 hc3 ?_
      refine lv_astore_n hx hb dL_isGuarded_14 rfl hl (by decide) rfl (fun ls hl => ?_)
      refine lv_bipush (v := (-78)) hx hb dL_isGuarded_15 (by decide) ?_
      exact k_iretp hx hb hr hlk hI hf dL_isGuarded_17 (Nat.le_of_ble_eq_true rfl) (Nat.le_of_ble_eq_true rfl)
    have hf := (if_neg c3).symm.trans hf
    exact nomatch hf
  refine m_callxRV (As := [.int a2]) (rest := []) hx hb hml hown hI (c_X11_isGuarded l w hsf s.heap.size a2 M _ hc) (kb_X11_isGuarded hI.T (q1508 hI.T) (Nat.le_of_ble_eq_true rfl) (Nat.le_of_ble_eq_true rfl)) (q1509 hI.T) (q1510 hI.T) (m_recv (g := 12) (i := 16) hI (mokX (by decide) (by decide)) rfl rfl) rfl hl.1 (Nat.le_of_ble_eq_true rfl) dL_isGuarded_2 ⟨Nat.le_of_ble_eq_true rfl, Nat.le_of_ble_eq_true rfl⟩ (fun H locs hI => ?_)
  refine lv_if_eq (tgt := 12) hx hb dL_isGuarded_5 (by decide) (fun c4 => ?_) (fun c4 => ?_)
  · have hf := (if_pos c4).symm.trans hf
    refine lv_iconst (v := 0) hx hb dL_isGuarded_12 (by decide) ?_
    exact k_iretp hx hb hr hlk hI hf dL_isGuarded_13 (Nat.le_of_ble_eq_true rfl) (Nat.le_of_ble_eq_true rfl)
  · have hf := (if_neg c4).symm.trans hf
    refine lv_iconst (v := 1) hx hb dL_isGuarded_8 (by decide) ?_
    refine lv_goto (tgt := 13) hx hb dL_isGuarded_9 (by decide) ?_
    exact k_iretp hx hb hr hlk hI hf dL_isGuarded_13 (Nat.le_of_ble_eq_true rfl) (Nat.le_of_ble_eq_true rfl)
abbrev rmL_hoursUntilVisit : Room := { frames := 10, cells := 2, slots := 12, locals := 182 }
set_option maxHeartbeats 4000000 in
set_option maxRecDepth 100000 in
theorem c_L_hoursUntilVisit (l : Launch) (w : WD) (hsf : l.stackTraces = false) (sz : Nat) (a2 : Int32) (M : Mem) (r : Int32) (M9 : Mem) (hf : f_L_hoursUntilVisit a2 M = some (r, M9)) : kMet l yL_hoursUntilVisit [Cond.codeWith yL_hoursUntilVisit cL_hoursUntilVisit 3 (some .int) [(0, 5, 6, 26), (0, 5, 10, 65)]] rmL_hoursUntilVisit w sz M [.ref (w.1 12 16), .int a2] (some (.int r)) M9 2 12 := by
  refine k_ofH (by decide) (Nat.le_of_ble_eq_true rfl) ?_
  intro p e s m args below meth c hx hb hr hml hxt hown hlk hI ls hl
  have hl : lv_has ls 3 [(0, .ref (w.1 12 16)), (1, .int a2)] := hl
  unfold f_L_hoursUntilVisit at hf
  refine lv_aload_n hx hb dL_hoursUntilVisit_0 rfl (lv_at hl 0 rfl) ?_
  refine lv_iload_n hx hb dL_hoursUntilVisit_1 rfl (lv_at hl 1 rfl) ?_
  rcases mcat_e hf with ⟨n1, M3, hc, hf⟩ | ⟨r2, M3, hc, hf⟩
  · refine k_callX (As := [.int a2]) (rest := []) hx hb hml hown hI (c_X11_hoursUntilVisit l w hsf s.heap.size a2 M _ _ hc) (kb_X11_hoursUntilVisit hI.T (q578 hI.T) (Nat.le_of_ble_eq_true rfl) (Nat.le_of_ble_eq_true rfl)) (q579 hI.T) (q580 hI.T) (m_recv (g := 12) (i := 16) hI (mokX (by decide) (by decide)) rfl rfl) rfl hl.1 (Nat.le_of_ble_eq_true rfl) dL_hoursUntilVisit_2 ⟨Nat.le_of_ble_eq_true rfl, Nat.le_of_ble_eq_true rfl⟩ (fun ce q H locs hI hc1 hc2 hc3 => ?_)
    by_cases c4 : n1 = 2
    · subst c4
      have hf := (if_pos rfl).symm.trans hf
      refine vx_catch hown [] ⟨0, 5, 6, 26⟩ [⟨0, 5, 10, 65⟩] hxt (fun z hz => nomatch hz) (by decide) (by decide) (q577 hI.T) (q591 hI.T) hc1 hc2 hc3 ?_
      refine lv_astore_n hx hb dL_hoursUntilVisit_6 rfl hl (by decide) rfl (fun ls hl => ?_)
      refine lv_bipush (v := (-78)) hx hb dL_hoursUntilVisit_7 (by decide) ?_
      exact k_iretf hx hb hr hlk hI hf dL_hoursUntilVisit_9 (Nat.le_of_ble_eq_true rfl) (Nat.le_of_ble_eq_true rfl)
    have hf := (if_neg c4).symm.trans hf
    by_cases c5 : n1 = 4
    · subst c5
      have hf := (if_pos rfl).symm.trans hf
      refine vx_catch hown [⟨0, 5, 6, 26⟩] ⟨0, 5, 10, 65⟩ [] hxt (fun z hz => by rcases List.mem_cons.mp hz with rfl | hz; exact Or.inr ⟨by decide, _, (q577 hI.T), hI.nc (i := 4) (j := 2) (by decide) (by decide) (by decide) (by decide) (by decide)⟩; exact nomatch hz) (by decide) (by decide) (q381 hI.T) (q392 hI.T) hc1 hc2 hc3 ?_
      refine lv_astore_n hx hb dL_hoursUntilVisit_10 rfl hl (by decide) rfl (fun ls hl => ?_)
      refine lv_bipush (v := (-75)) hx hb dL_hoursUntilVisit_11 (by decide) ?_
      exact k_iretf hx hb hr hlk hI hf dL_hoursUntilVisit_13 (Nat.le_of_ble_eq_true rfl) (Nat.le_of_ble_eq_true rfl)
    have hf := (if_neg c5).symm.trans hf
    exact nomatch hf
  refine m_callxRV (As := [.int a2]) (rest := []) hx hb hml hown hI (c_X11_hoursUntilVisit l w hsf s.heap.size a2 M _ _ hc) (kb_X11_hoursUntilVisit hI.T (q578 hI.T) (Nat.le_of_ble_eq_true rfl) (Nat.le_of_ble_eq_true rfl)) (q579 hI.T) (q580 hI.T) (m_recv (g := 12) (i := 16) hI (mokX (by decide) (by decide)) rfl rfl) rfl hl.1 (Nat.le_of_ble_eq_true rfl) dL_hoursUntilVisit_2 ⟨Nat.le_of_ble_eq_true rfl, Nat.le_of_ble_eq_true rfl⟩ (fun H locs hI => ?_)
  exact k_iretf hx hb hr hlk hI hf dL_hoursUntilVisit_5 (Nat.le_of_ble_eq_true rfl) (Nat.le_of_ble_eq_true rfl)
abbrev rmL_hoursUntilVisitByRemainders : Room := { frames := 10, cells := 2, slots := 12, locals := 182 }
set_option maxHeartbeats 4000000 in
set_option maxRecDepth 100000 in
theorem c_L_hoursUntilVisitByRemainders (l : Launch) (w : WD) (hsf : l.stackTraces = false) (sz : Nat) (a2 : Int32) (M : Mem) (r : Int32) (hf : f_L_hoursUntilVisitByRemainders a2 M = some r) : kMet l yL_hoursUntilVisitByRemainders [Cond.codeWith yL_hoursUntilVisitByRemainders cL_hoursUntilVisitByRemainders 3 (some .int) [(0, 5, 6, 26), (0, 5, 10, 65)]] rmL_hoursUntilVisitByRemainders w sz M [.ref (w.1 12 16), .int a2] (some (.int r)) M 2 12 := by
  refine k_ofH (by decide) (Nat.le_of_ble_eq_true rfl) ?_
  intro p e s m args below meth c hx hb hr hml hxt hown hlk hI ls hl
  have hl : lv_has ls 3 [(0, .ref (w.1 12 16)), (1, .int a2)] := hl
  unfold f_L_hoursUntilVisitByRemainders at hf
  refine lv_aload_n hx hb dL_hoursUntilVisitByRemainders_0 rfl (lv_at hl 0 rfl) ?_
  refine lv_iload_n hx hb dL_hoursUntilVisitByRemainders_1 rfl (lv_at hl 1 rfl) ?_
  rcases mcatp_e hf with ⟨n1, hc, hf⟩ | ⟨r2, hc, hf⟩
  · refine k_callX (As := [.int a2]) (rest := []) hx hb hml hown hI (c_X11_hoursUntilVisitByRemainders l w hsf s.heap.size a2 M _ hc) (kb_X11_hoursUntilVisitByRemainders hI.T (q1516 hI.T) (Nat.le_of_ble_eq_true rfl) (Nat.le_of_ble_eq_true rfl)) (q1517 hI.T) (q1518 hI.T) (m_recv (g := 12) (i := 16) hI (mokX (by decide) (by decide)) rfl rfl) rfl hl.1 (Nat.le_of_ble_eq_true rfl) dL_hoursUntilVisitByRemainders_2 ⟨Nat.le_of_ble_eq_true rfl, Nat.le_of_ble_eq_true rfl⟩ (fun ce q H locs hI hc1 hc2 hc3 => ?_)
    by_cases c3 : n1 = 2
    · subst c3
      have hf := (if_pos rfl).symm.trans hf
      refine vx_catch hown [] ⟨0, 5, 6, 26⟩ [⟨0, 5, 10, 65⟩] hxt (fun z hz => nomatch hz) (by decide) (by decide) (q577 hI.T) (q591 hI.T) hc1 hc2 hc3 ?_
      refine lv_astore_n hx hb dL_hoursUntilVisitByRemainders_6 rfl hl (by decide) rfl (fun ls hl => ?_)
      refine lv_bipush (v := (-78)) hx hb dL_hoursUntilVisitByRemainders_7 (by decide) ?_
      exact k_iretp hx hb hr hlk hI hf dL_hoursUntilVisitByRemainders_9 (Nat.le_of_ble_eq_true rfl) (Nat.le_of_ble_eq_true rfl)
    have hf := (if_neg c3).symm.trans hf
    by_cases c4 : n1 = 4
    · subst c4
      have hf := (if_pos rfl).symm.trans hf
      refine vx_catch hown [⟨0, 5, 6, 26⟩] ⟨0, 5, 10, 65⟩ [] hxt (fun z hz => by rcases List.mem_cons.mp hz with rfl | hz; exact Or.inr ⟨by decide, _, (q577 hI.T), hI.nc (i := 4) (j := 2) (by decide) (by decide) (by decide) (by decide) (by decide)⟩; exact nomatch hz) (by decide) (by decide) (q381 hI.T) (q392 hI.T) hc1 hc2 hc3 ?_
      refine lv_astore_n hx hb dL_hoursUntilVisitByRemainders_10 rfl hl (by decide) rfl (fun ls hl => ?_)
      refine lv_bipush (v := (-75)) hx hb dL_hoursUntilVisitByRemainders_11 (by decide) ?_
      exact k_iretp hx hb hr hlk hI hf dL_hoursUntilVisitByRemainders_13 (Nat.le_of_ble_eq_true rfl) (Nat.le_of_ble_eq_true rfl)
    have hf := (if_neg c4).symm.trans hf
    exact nomatch hf
  refine m_callxRV (As := [.int a2]) (rest := []) hx hb hml hown hI (c_X11_hoursUntilVisitByRemainders l w hsf s.heap.size a2 M _ hc) (kb_X11_hoursUntilVisitByRemainders hI.T (q1516 hI.T) (Nat.le_of_ble_eq_true rfl) (Nat.le_of_ble_eq_true rfl)) (q1517 hI.T) (q1518 hI.T) (m_recv (g := 12) (i := 16) hI (mokX (by decide) (by decide)) rfl rfl) rfl hl.1 (Nat.le_of_ble_eq_true rfl) dL_hoursUntilVisitByRemainders_2 ⟨Nat.le_of_ble_eq_true rfl, Nat.le_of_ble_eq_true rfl⟩ (fun H locs hI => ?_)
  exact k_iretp hx hb hr hlk hI hf dL_hoursUntilVisitByRemainders_5 (Nat.le_of_ble_eq_true rfl) (Nat.le_of_ble_eq_true rfl)
abbrev rmL_alarmsIn : Room := { frames := 9, cells := 1, slots := 6, locals := 162 }
set_option maxHeartbeats 4000000 in
set_option maxRecDepth 100000 in
theorem c_L_alarmsIn (l : Launch) (w : WD) (hsf : l.stackTraces = false) (sz : Nat) (a2 : Int32) (M : Mem) (r : Int32) (M9 : Mem) (hf : f_L_alarmsIn a2 M = some (r, M9)) : kMet l yL_alarmsIn [Cond.codeWith yL_alarmsIn cL_alarmsIn 3 (some .int) [(0, 5, 6, 26)]] rmL_alarmsIn w sz M [.ref (w.1 12 16), .int a2] (some (.int r)) M9 1 6 := by
  refine k_ofH (by decide) (Nat.le_of_ble_eq_true rfl) ?_
  intro p e s m args below meth c hx hb hr hml hxt hown hlk hI ls hl
  have hl : lv_has ls 3 [(0, .ref (w.1 12 16)), (1, .int a2)] := hl
  unfold f_L_alarmsIn at hf
  refine lv_aload_n hx hb dL_alarmsIn_0 rfl (lv_at hl 0 rfl) ?_
  refine lv_iload_n hx hb dL_alarmsIn_1 rfl (lv_at hl 1 rfl) ?_
  rcases mcat_e hf with ⟨n1, M3, hc, hf⟩ | ⟨r2, M3, hc, hf⟩
  · refine k_callX (As := [.int a2]) (rest := []) hx hb hml hown hI (c_X11_alarmsIn l w hsf s.heap.size a2 M _ _ hc) (kb_X11_alarmsIn hI.T (q632 hI.T) (Nat.le_of_ble_eq_true rfl) (Nat.le_of_ble_eq_true rfl)) (q633 hI.T) (q634 hI.T) (m_recv (g := 12) (i := 16) hI (mokX (by decide) (by decide)) rfl rfl) rfl hl.1 (Nat.le_of_ble_eq_true rfl) dL_alarmsIn_2 ⟨Nat.le_of_ble_eq_true rfl, Nat.le_of_ble_eq_true rfl⟩ (fun ce q H locs hI hc1 hc2 hc3 => ?_)
    by_cases c4 : n1 = 2
    · subst c4
      have hf := (if_pos rfl).symm.trans hf
      refine vx_catch hown [] ⟨0, 5, 6, 26⟩ [] hxt (fun z hz => nomatch hz) (by decide) (by decide) (q577 hI.T) (q591 hI.T) hc1 hc2 hc3 ?_
      refine lv_astore_n hx hb dL_alarmsIn_6 rfl hl (by decide) rfl (fun ls hl => ?_)
      refine lv_bipush (v := (-78)) hx hb dL_alarmsIn_7 (by decide) ?_
      exact k_iretf hx hb hr hlk hI hf dL_alarmsIn_9 (Nat.le_of_ble_eq_true rfl) (Nat.le_of_ble_eq_true rfl)
    have hf := (if_neg c4).symm.trans hf
    exact nomatch hf
  refine m_callxRV (As := [.int a2]) (rest := []) hx hb hml hown hI (c_X11_alarmsIn l w hsf s.heap.size a2 M _ _ hc) (kb_X11_alarmsIn hI.T (q632 hI.T) (Nat.le_of_ble_eq_true rfl) (Nat.le_of_ble_eq_true rfl)) (q633 hI.T) (q634 hI.T) (m_recv (g := 12) (i := 16) hI (mokX (by decide) (by decide)) rfl rfl) rfl hl.1 (Nat.le_of_ble_eq_true rfl) dL_alarmsIn_2 ⟨Nat.le_of_ble_eq_true rfl, Nat.le_of_ble_eq_true rfl⟩ (fun H locs hI => ?_)
  exact k_iretf hx hb hr hlk hI hf dL_alarmsIn_5 (Nat.le_of_ble_eq_true rfl) (Nat.le_of_ble_eq_true rfl)
abbrev rmL_zoneByNoise : Room := { frames := 9, cells := 1, slots := 6, locals := 161 }
set_option maxHeartbeats 4000000 in
set_option maxRecDepth 100000 in
theorem c_L_zoneByNoise (l : Launch) (w : WD) (hsf : l.stackTraces = false) (sz : Nat) (a2 : Int32) (M : Mem) (r : Int32) (hf : f_L_zoneByNoise a2 M = some r) : kMet l yL_zoneByNoise [Cond.codeWith yL_zoneByNoise cL_zoneByNoise 3 (some .int) [(0, 5, 6, 65)]] rmL_zoneByNoise w sz M [.ref (w.1 12 16), .int a2] (some (.int r)) M 1 6 := by
  refine k_ofH (by decide) (Nat.le_of_ble_eq_true rfl) ?_
  intro p e s m args below meth c hx hb hr hml hxt hown hlk hI ls hl
  have hl : lv_has ls 3 [(0, .ref (w.1 12 16)), (1, .int a2)] := hl
  unfold f_L_zoneByNoise at hf
  refine lv_aload_n hx hb dL_zoneByNoise_0 rfl (lv_at hl 0 rfl) ?_
  refine lv_iload_n hx hb dL_zoneByNoise_1 rfl (lv_at hl 1 rfl) ?_
  rcases mcatp_e hf with ⟨n1, hc, hf⟩ | ⟨r2, hc, hf⟩
  · refine k_callX (As := [.int a2]) (rest := []) hx hb hml hown hI (c_X11_zoneByNoise l w hsf s.heap.size a2 M _ hc) (kb_X11_zoneByNoise hI.T (q1488 hI.T) (Nat.le_of_ble_eq_true rfl) (Nat.le_of_ble_eq_true rfl)) (q1489 hI.T) (q1490 hI.T) (m_recv (g := 12) (i := 16) hI (mokX (by decide) (by decide)) rfl rfl) rfl hl.1 (Nat.le_of_ble_eq_true rfl) dL_zoneByNoise_2 ⟨Nat.le_of_ble_eq_true rfl, Nat.le_of_ble_eq_true rfl⟩ (fun ce q H locs hI hc1 hc2 hc3 => ?_)
    by_cases c3 : n1 = 4
    · subst c3
      have hf := (if_pos rfl).symm.trans hf
      refine vx_catch hown [] ⟨0, 5, 6, 65⟩ [] hxt (fun z hz => nomatch hz) (by decide) (by decide) (q381 hI.T) (q392 hI.T) hc1 hc2 hc3 ?_
      refine lv_astore_n hx hb dL_zoneByNoise_6 rfl hl (by decide) rfl (fun ls hl => ?_)
      refine lv_bipush (v := (-75)) hx hb dL_zoneByNoise_7 (by decide) ?_
      exact k_iretp hx hb hr hlk hI hf dL_zoneByNoise_9 (Nat.le_of_ble_eq_true rfl) (Nat.le_of_ble_eq_true rfl)
    have hf := (if_neg c3).symm.trans hf
    exact nomatch hf
  refine m_callxRV (As := [.int a2]) (rest := []) hx hb hml hown hI (c_X11_zoneByNoise l w hsf s.heap.size a2 M _ hc) (kb_X11_zoneByNoise hI.T (q1488 hI.T) (Nat.le_of_ble_eq_true rfl) (Nat.le_of_ble_eq_true rfl)) (q1489 hI.T) (q1490 hI.T) (m_recv (g := 12) (i := 16) hI (mokX (by decide) (by decide)) rfl rfl) rfl hl.1 (Nat.le_of_ble_eq_true rfl) dL_zoneByNoise_2 ⟨Nat.le_of_ble_eq_true rfl, Nat.le_of_ble_eq_true rfl⟩ (fun H locs hI => ?_)
  exact k_iretp hx hb hr hlk hI hf dL_zoneByNoise_5 (Nat.le_of_ble_eq_true rfl) (Nat.le_of_ble_eq_true rfl)
abbrev rmL_alarmsOf : Room := { frames := 10, cells := 1, slots := 6, locals := 182 }
set_option maxHeartbeats 4000000 in
set_option maxRecDepth 100000 in
theorem c_L_alarmsOf (l : Launch) (w : WD) (hsf : l.stackTraces = false) (sz : Nat) (a2 : Int32) (M : Mem) (r : Int32) (hf : f_L_alarmsOf a2 M = some r) : kMet l yL_alarmsOf [Cond.codeWith yL_alarmsOf cL_alarmsOf 3 (some .int) [(0, 5, 6, 26)]] rmL_alarmsOf w sz M [.ref (w.1 12 16), .int a2] (some (.int r)) M 1 6 := by
  refine k_ofH (by decide) (Nat.le_of_ble_eq_true rfl) ?_
  intro p e s m args below meth c hx hb hr hml hxt hown hlk hI ls hl
  have hl : lv_has ls 3 [(0, .ref (w.1 12 16)), (1, .int a2)] := hl
  unfold f_L_alarmsOf at hf
  refine lv_aload_n hx hb dL_alarmsOf_0 rfl (lv_at hl 0 rfl) ?_
  refine lv_iload_n hx hb dL_alarmsOf_1 rfl (lv_at hl 1 rfl) ?_
  rcases mcatp_e hf with ⟨n1, hc, hf⟩ | ⟨r2, hc, hf⟩
  · refine k_callX (As := [.int a2]) (rest := []) hx hb hml hown hI (c_X11_alarmsOf l w hsf s.heap.size a2 M _ hc) (kb_X11_alarmsOf hI.T (q1382 hI.T) (Nat.le_of_ble_eq_true rfl) (Nat.le_of_ble_eq_true rfl)) (q1383 hI.T) (q1384 hI.T) (m_recv (g := 12) (i := 16) hI (mokX (by decide) (by decide)) rfl rfl) rfl hl.1 (Nat.le_of_ble_eq_true rfl) dL_alarmsOf_2 ⟨Nat.le_of_ble_eq_true rfl, Nat.le_of_ble_eq_true rfl⟩ (fun ce q H locs hI hc1 hc2 hc3 => ?_)
    by_cases c3 : n1 = 2
    · subst c3
      have hf := (if_pos rfl).symm.trans hf
      refine vx_catch hown [] ⟨0, 5, 6, 26⟩ [] hxt (fun z hz => nomatch hz) (by decide) (by decide) (q577 hI.T) (q591 hI.T) hc1 hc2 hc3 ?_
      refine lv_astore_n hx hb dL_alarmsOf_6 rfl hl (by decide) rfl (fun ls hl => ?_)
      refine lv_bipush (v := (-78)) hx hb dL_alarmsOf_7 (by decide) ?_
      exact k_iretp hx hb hr hlk hI hf dL_alarmsOf_9 (Nat.le_of_ble_eq_true rfl) (Nat.le_of_ble_eq_true rfl)
    have hf := (if_neg c3).symm.trans hf
    exact nomatch hf
  refine m_callxRV (As := [.int a2]) (rest := []) hx hb hml hown hI (c_X11_alarmsOf l w hsf s.heap.size a2 M _ hc) (kb_X11_alarmsOf hI.T (q1382 hI.T) (Nat.le_of_ble_eq_true rfl) (Nat.le_of_ble_eq_true rfl)) (q1383 hI.T) (q1384 hI.T) (m_recv (g := 12) (i := 16) hI (mokX (by decide) (by decide)) rfl rfl) rfl hl.1 (Nat.le_of_ble_eq_true rfl) dL_alarmsOf_2 ⟨Nat.le_of_ble_eq_true rfl, Nat.le_of_ble_eq_true rfl⟩ (fun H locs hI => ?_)
  exact k_iretp hx hb hr hlk hI hf dL_alarmsOf_5 (Nat.le_of_ble_eq_true rfl) (Nat.le_of_ble_eq_true rfl)
abbrev rmL_logHour : Room := { frames := 10, cells := 1, slots := 6, locals := 182 }
set_option maxHeartbeats 4000000 in
set_option maxRecDepth 100000 in
theorem c_L_logHour (l : Launch) (w : WD) (hsf : l.stackTraces = false) (sz : Nat) (a2 : Int32) (M : Mem) (r : Int32) (hf : f_L_logHour a2 M = some r) : kMet l yL_logHour [Cond.codeWith yL_logHour cL_logHour 3 (some .int) [(0, 5, 6, 65)]] rmL_logHour w sz M [.ref (w.1 12 16), .int a2] (some (.int r)) M 1 6 := by
  refine k_ofH (by decide) (Nat.le_of_ble_eq_true rfl) ?_
  intro p e s m args below meth c hx hb hr hml hxt hown hlk hI ls hl
  have hl : lv_has ls 3 [(0, .ref (w.1 12 16)), (1, .int a2)] := hl
  unfold f_L_logHour at hf
  refine lv_aload_n hx hb dL_logHour_0 rfl (lv_at hl 0 rfl) ?_
  refine lv_iload_n hx hb dL_logHour_1 rfl (lv_at hl 1 rfl) ?_
  rcases mcatp_e hf with ⟨n1, hc, hf⟩ | ⟨r2, hc, hf⟩
  · refine k_callX (As := [.int a2]) (rest := []) hx hb hml hown hI (c_X11_logHour l w hsf s.heap.size a2 M _ hc) (kb_X11_logHour hI.T (q650 hI.T) (Nat.le_of_ble_eq_true rfl) (Nat.le_of_ble_eq_true rfl)) (q651 hI.T) (q652 hI.T) (m_recv (g := 12) (i := 16) hI (mokX (by decide) (by decide)) rfl rfl) rfl hl.1 (Nat.le_of_ble_eq_true rfl) dL_logHour_2 ⟨Nat.le_of_ble_eq_true rfl, Nat.le_of_ble_eq_true rfl⟩ (fun ce q H locs hI hc1 hc2 hc3 => ?_)
    by_cases c3 : n1 = 4
    · subst c3
      have hf := (if_pos rfl).symm.trans hf
      refine vx_catch hown [] ⟨0, 5, 6, 65⟩ [] hxt (fun z hz => nomatch hz) (by decide) (by decide) (q381 hI.T) (q392 hI.T) hc1 hc2 hc3 ?_
      refine lv_astore_n hx hb dL_logHour_6 rfl hl (by decide) rfl (fun ls hl => ?_)
      refine lv_bipush (v := (-75)) hx hb dL_logHour_7 (by decide) ?_
      exact k_iretp hx hb hr hlk hI hf dL_logHour_9 (Nat.le_of_ble_eq_true rfl) (Nat.le_of_ble_eq_true rfl)
    have hf := (if_neg c3).symm.trans hf
    exact nomatch hf
  refine m_callxRV (As := [.int a2]) (rest := []) hx hb hml hown hI (c_X11_logHour l w hsf s.heap.size a2 M _ hc) (kb_X11_logHour hI.T (q650 hI.T) (Nat.le_of_ble_eq_true rfl) (Nat.le_of_ble_eq_true rfl)) (q651 hI.T) (q652 hI.T) (m_recv (g := 12) (i := 16) hI (mokX (by decide) (by decide)) rfl rfl) rfl hl.1 (Nat.le_of_ble_eq_true rfl) dL_logHour_2 ⟨Nat.le_of_ble_eq_true rfl, Nat.le_of_ble_eq_true rfl⟩ (fun H locs hI => ?_)
  exact k_iretp hx hb hr hlk hI hf dL_logHour_5 (Nat.le_of_ble_eq_true rfl) (Nat.le_of_ble_eq_true rfl)
abbrev rmL_logKind : Room := { frames := 10, cells := 1, slots := 6, locals := 182 }
set_option maxHeartbeats 4000000 in
set_option maxRecDepth 100000 in
theorem c_L_logKind (l : Launch) (w : WD) (hsf : l.stackTraces = false) (sz : Nat) (a2 : Int32) (M : Mem) (r : Int32) (hf : f_L_logKind a2 M = some r) : kMet l yL_logKind [Cond.codeWith yL_logKind cL_logKind 3 (some .int) [(0, 5, 6, 65)]] rmL_logKind w sz M [.ref (w.1 12 16), .int a2] (some (.int r)) M 1 6 := by
  refine k_ofH (by decide) (Nat.le_of_ble_eq_true rfl) ?_
  intro p e s m args below meth c hx hb hr hml hxt hown hlk hI ls hl
  have hl : lv_has ls 3 [(0, .ref (w.1 12 16)), (1, .int a2)] := hl
  unfold f_L_logKind at hf
  refine lv_aload_n hx hb dL_logKind_0 rfl (lv_at hl 0 rfl) ?_
  refine lv_iload_n hx hb dL_logKind_1 rfl (lv_at hl 1 rfl) ?_
  rcases mcatp_e hf with ⟨n1, hc, hf⟩ | ⟨r2, hc, hf⟩
  · refine k_callX (As := [.int a2]) (rest := []) hx hb hml hown hI (c_X11_logKind l w hsf s.heap.size a2 M _ hc) (kb_X11_logKind hI.T (q662 hI.T) (Nat.le_of_ble_eq_true rfl) (Nat.le_of_ble_eq_true rfl)) (q663 hI.T) (q664 hI.T) (m_recv (g := 12) (i := 16) hI (mokX (by decide) (by decide)) rfl rfl) rfl hl.1 (Nat.le_of_ble_eq_true rfl) dL_logKind_2 ⟨Nat.le_of_ble_eq_true rfl, Nat.le_of_ble_eq_true rfl⟩ (fun ce q H locs hI hc1 hc2 hc3 => ?_)
    by_cases c3 : n1 = 4
    · subst c3
      have hf := (if_pos rfl).symm.trans hf
      refine vx_catch hown [] ⟨0, 5, 6, 65⟩ [] hxt (fun z hz => nomatch hz) (by decide) (by decide) (q381 hI.T) (q392 hI.T) hc1 hc2 hc3 ?_
      refine lv_astore_n hx hb dL_logKind_6 rfl hl (by decide) rfl (fun ls hl => ?_)
      refine lv_bipush (v := (-75)) hx hb dL_logKind_7 (by decide) ?_
      exact k_iretp hx hb hr hlk hI hf dL_logKind_9 (Nat.le_of_ble_eq_true rfl) (Nat.le_of_ble_eq_true rfl)
    have hf := (if_neg c3).symm.trans hf
    exact nomatch hf
  refine m_callxRV (As := [.int a2]) (rest := []) hx hb hml hown hI (c_X11_logKind l w hsf s.heap.size a2 M _ hc) (kb_X11_logKind hI.T (q662 hI.T) (Nat.le_of_ble_eq_true rfl) (Nat.le_of_ble_eq_true rfl)) (q663 hI.T) (q664 hI.T) (m_recv (g := 12) (i := 16) hI (mokX (by decide) (by decide)) rfl rfl) rfl hl.1 (Nat.le_of_ble_eq_true rfl) dL_logKind_2 ⟨Nat.le_of_ble_eq_true rfl, Nat.le_of_ble_eq_true rfl⟩ (fun H locs hI => ?_)
  exact k_iretp hx hb hr hlk hI hf dL_logKind_5 (Nat.le_of_ble_eq_true rfl) (Nat.le_of_ble_eq_true rfl)
abbrev rmL_logDetail : Room := { frames := 10, cells := 1, slots := 6, locals := 182 }
set_option maxHeartbeats 4000000 in
set_option maxRecDepth 100000 in
theorem c_L_logDetail (l : Launch) (w : WD) (hsf : l.stackTraces = false) (sz : Nat) (a2 : Int32) (M : Mem) (r : Int32) (hf : f_L_logDetail a2 M = some r) : kMet l yL_logDetail [Cond.codeWith yL_logDetail cL_logDetail 3 (some .int) [(0, 5, 6, 65)]] rmL_logDetail w sz M [.ref (w.1 12 16), .int a2] (some (.int r)) M 1 6 := by
  refine k_ofH (by decide) (Nat.le_of_ble_eq_true rfl) ?_
  intro p e s m args below meth c hx hb hr hml hxt hown hlk hI ls hl
  have hl : lv_has ls 3 [(0, .ref (w.1 12 16)), (1, .int a2)] := hl
  unfold f_L_logDetail at hf
  refine lv_aload_n hx hb dL_logDetail_0 rfl (lv_at hl 0 rfl) ?_
  refine lv_iload_n hx hb dL_logDetail_1 rfl (lv_at hl 1 rfl) ?_
  rcases mcatp_e hf with ⟨n1, hc, hf⟩ | ⟨r2, hc, hf⟩
  · refine k_callX (As := [.int a2]) (rest := []) hx hb hml hown hI (c_X11_logDetail l w hsf s.heap.size a2 M _ hc) (kb_X11_logDetail hI.T (q669 hI.T) (Nat.le_of_ble_eq_true rfl) (Nat.le_of_ble_eq_true rfl)) (q670 hI.T) (q671 hI.T) (m_recv (g := 12) (i := 16) hI (mokX (by decide) (by decide)) rfl rfl) rfl hl.1 (Nat.le_of_ble_eq_true rfl) dL_logDetail_2 ⟨Nat.le_of_ble_eq_true rfl, Nat.le_of_ble_eq_true rfl⟩ (fun ce q H locs hI hc1 hc2 hc3 => ?_)
    by_cases c3 : n1 = 4
    · subst c3
      have hf := (if_pos rfl).symm.trans hf
      refine vx_catch hown [] ⟨0, 5, 6, 65⟩ [] hxt (fun z hz => nomatch hz) (by decide) (by decide) (q381 hI.T) (q392 hI.T) hc1 hc2 hc3 ?_
      refine lv_astore_n hx hb dL_logDetail_6 rfl hl (by decide) rfl (fun ls hl => ?_)
      refine lv_bipush (v := (-75)) hx hb dL_logDetail_7 (by decide) ?_
      exact k_iretp hx hb hr hlk hI hf dL_logDetail_9 (Nat.le_of_ble_eq_true rfl) (Nat.le_of_ble_eq_true rfl)
    have hf := (if_neg c3).symm.trans hf
    exact nomatch hf
  refine m_callxRV (As := [.int a2]) (rest := []) hx hb hml hown hI (c_X11_logDetail l w hsf s.heap.size a2 M _ hc) (kb_X11_logDetail hI.T (q669 hI.T) (Nat.le_of_ble_eq_true rfl) (Nat.le_of_ble_eq_true rfl)) (q670 hI.T) (q671 hI.T) (m_recv (g := 12) (i := 16) hI (mokX (by decide) (by decide)) rfl rfl) rfl hl.1 (Nat.le_of_ble_eq_true rfl) dL_logDetail_2 ⟨Nat.le_of_ble_eq_true rfl, Nat.le_of_ble_eq_true rfl⟩ (fun H locs hI => ?_)
  exact k_iretp hx hb hr hlk hI hf dL_logDetail_5 (Nat.le_of_ble_eq_true rfl) (Nat.le_of_ble_eq_true rfl)
abbrev rmL_alarmShare : Room := { frames := 10, cells := 2, slots := 12, locals := 182 }
set_option maxHeartbeats 4000000 in
set_option maxRecDepth 100000 in
theorem c_L_alarmShare (l : Launch) (w : WD) (hsf : l.stackTraces = false) (sz : Nat) (a2 : Int32) (M : Mem) (r : UInt32) (hf : f_L_alarmShare a2 M = some r) : kMet l yL_alarmShare [Cond.codeWith yL_alarmShare cL_alarmShare 3 (some .float) [(0, 5, 6, 26), (0, 5, 10, 139)]] rmL_alarmShare w sz M [.ref (w.1 12 16), .int a2] (some (.float r)) M 2 12 := by
  refine k_ofH (by decide) (Nat.le_of_ble_eq_true rfl) ?_
  intro p e s m args below meth c hx hb hr hml hxt hown hlk hI ls hl
  have hl : lv_has ls 3 [(0, .ref (w.1 12 16)), (1, .int a2)] := hl
  unfold f_L_alarmShare at hf
  refine lv_aload_n hx hb dL_alarmShare_0 rfl (lv_at hl 0 rfl) ?_
  refine lv_iload_n hx hb dL_alarmShare_1 rfl (lv_at hl 1 rfl) ?_
  rcases mcatp_e hf with ⟨n1, hc, hf⟩ | ⟨r2, hc, hf⟩
  · refine k_callX (As := [.int a2]) (rest := []) hx hb hml hown hI (c_X11_alarmShare l w hsf s.heap.size a2 M _ hc) (kb_X11_alarmShare hI.T (q1547 hI.T) (Nat.le_of_ble_eq_true rfl) (Nat.le_of_ble_eq_true rfl)) (q1548 hI.T) (q1549 hI.T) (m_recv (g := 12) (i := 16) hI (mokX (by decide) (by decide)) rfl rfl) rfl hl.1 (Nat.le_of_ble_eq_true rfl) dL_alarmShare_2 ⟨Nat.le_of_ble_eq_true rfl, Nat.le_of_ble_eq_true rfl⟩ (fun ce q H locs hI hc1 hc2 hc3 => ?_)
    by_cases c3 : n1 = 2
    · subst c3
      have hf := (if_pos rfl).symm.trans hf
      refine vx_catch hown [] ⟨0, 5, 6, 26⟩ [⟨0, 5, 10, 139⟩] hxt (fun z hz => nomatch hz) (by decide) (by decide) (q577 hI.T) (q591 hI.T) hc1 hc2 hc3 ?_
      refine lv_astore_n hx hb dL_alarmShare_6 rfl hl (by decide) rfl (fun ls hl => ?_)
      refine lv_ldcf (v := 3265003520) hx hb hown (q1554 hI.T) dL_alarmShare_7 ?_
      exact k_fretp hx hb hr hlk hI hf dL_alarmShare_9 (Nat.le_of_ble_eq_true rfl) (Nat.le_of_ble_eq_true rfl)
    have hf := (if_neg c3).symm.trans hf
    by_cases c4 : n1 = 6
    · subst c4
      have hf := (if_pos rfl).symm.trans hf
      refine vx_catch hown [⟨0, 5, 6, 26⟩] ⟨0, 5, 10, 139⟩ [] hxt (fun z hz => by rcases List.mem_cons.mp hz with rfl | hz; exact Or.inr ⟨by decide, _, (q577 hI.T), hI.nc (i := 6) (j := 2) (by decide) (by decide) (by decide) (by decide) (by decide)⟩; exact nomatch hz) (by decide) (by decide) (q1533 hI.T) (q1545 hI.T) hc1 hc2 hc3 ?_
      refine lv_astore_n hx hb dL_alarmShare_10 rfl hl (by decide) rfl (fun ls hl => ?_)
      refine lv_ldcf (v := 3264479232) hx hb hown (q1555 hI.T) dL_alarmShare_11 ?_
      exact k_fretp hx hb hr hlk hI hf dL_alarmShare_13 (Nat.le_of_ble_eq_true rfl) (Nat.le_of_ble_eq_true rfl)
    have hf := (if_neg c4).symm.trans hf
    exact nomatch hf
  refine m_callxRV (As := [.int a2]) (rest := []) hx hb hml hown hI (c_X11_alarmShare l w hsf s.heap.size a2 M _ hc) (kb_X11_alarmShare hI.T (q1547 hI.T) (Nat.le_of_ble_eq_true rfl) (Nat.le_of_ble_eq_true rfl)) (q1548 hI.T) (q1549 hI.T) (m_recv (g := 12) (i := 16) hI (mokX (by decide) (by decide)) rfl rfl) rfl hl.1 (Nat.le_of_ble_eq_true rfl) dL_alarmShare_2 ⟨Nat.le_of_ble_eq_true rfl, Nat.le_of_ble_eq_true rfl⟩ (fun H locs hI => ?_)
  exact k_fretp hx hb hr hlk hI hf dL_alarmShare_5 (Nat.le_of_ble_eq_true rfl) (Nat.le_of_ble_eq_true rfl)
abbrev rmL_feed : Room := { frames := 9, cells := 1, slots := 6, locals := 161 }
set_option maxHeartbeats 4000000 in
set_option maxRecDepth 100000 in
theorem c_L_feed (l : Launch) (w : WD) (hsf : l.stackTraces = false) (sz : Nat) (a2 : Int32) (M : Mem) (r : Int32) (M9 : Mem) (hf : f_L_feed a2 M = some (r, M9)) : kMet l yL_feed [Cond.codeWith yL_feed cL_feed 3 (some .int) [(0, 5, 6, 155)]] rmL_feed w sz M [.ref (w.1 12 16), .int a2] (some (.int r)) M9 1 6 := by
  refine k_ofH (by decide) (Nat.le_of_ble_eq_true rfl) ?_
  intro p e s m args below meth c hx hb hr hml hxt hown hlk hI ls hl
  have hl : lv_has ls 3 [(0, .ref (w.1 12 16)), (1, .int a2)] := hl
  unfold f_L_feed at hf
  refine lv_aload_n hx hb dL_feed_0 rfl (lv_at hl 0 rfl) ?_
  refine lv_iload_n hx hb dL_feed_1 rfl (lv_at hl 1 rfl) ?_
  rcases mcat_e hf with ⟨n1, M3, hc, hf⟩ | ⟨r2, M3, hc, hf⟩
  · refine k_callX (As := [.int a2]) (rest := []) hx hb hml hown hI (c_X11_feed l w hsf s.heap.size a2 M _ _ hc) (kb_X11_feed hI.T (q1240 hI.T) (Nat.le_of_ble_eq_true rfl) (Nat.le_of_ble_eq_true rfl)) (q1241 hI.T) (q1242 hI.T) (m_recv (g := 12) (i := 16) hI (mokX (by decide) (by decide)) rfl rfl) rfl hl.1 (Nat.le_of_ble_eq_true rfl) dL_feed_2 ⟨Nat.le_of_ble_eq_true rfl, Nat.le_of_ble_eq_true rfl⟩ (fun ce q H locs hI hc1 hc2 hc3 => ?_)
    by_cases c4 : n1 = 5
    · subst c4
      have hf := (if_pos rfl).symm.trans hf
      refine vx_catch hown [] ⟨0, 5, 6, 155⟩ [] hxt (fun z hz => nomatch hz) (by decide) (by decide) (q1239 hI.T) (q1246 hI.T) hc1 hc2 hc3 ?_
      refine lv_astore_n hx hb dL_feed_6 rfl hl (by decide) rfl (fun ls hl => ?_)
      refine lv_bipush (v := (-79)) hx hb dL_feed_7 (by decide) ?_
      exact k_iretf hx hb hr hlk hI hf dL_feed_9 (Nat.le_of_ble_eq_true rfl) (Nat.le_of_ble_eq_true rfl)
    have hf := (if_neg c4).symm.trans hf
    exact nomatch hf
  refine m_callxRV (As := [.int a2]) (rest := []) hx hb hml hown hI (c_X11_feed l w hsf s.heap.size a2 M _ _ hc) (kb_X11_feed hI.T (q1240 hI.T) (Nat.le_of_ble_eq_true rfl) (Nat.le_of_ble_eq_true rfl)) (q1241 hI.T) (q1242 hI.T) (m_recv (g := 12) (i := 16) hI (mokX (by decide) (by decide)) rfl rfl) rfl hl.1 (Nat.le_of_ble_eq_true rfl) dL_feed_2 ⟨Nat.le_of_ble_eq_true rfl, Nat.le_of_ble_eq_true rfl⟩ (fun H locs hI => ?_)
  exact k_iretf hx hb hr hlk hI hf dL_feed_5 (Nat.le_of_ble_eq_true rfl) (Nat.le_of_ble_eq_true rfl)
abbrev rmL_runCommands : Room := { frames := 10, cells := 1, slots := 6, locals := 313 }
set_option maxHeartbeats 4000000 in
set_option maxRecDepth 100000 in
theorem c_L_runCommands (l : Launch) (w : WD) (hsf : l.stackTraces = false) (sz : Nat)  (M : Mem) (r : Int32) (M9 : Mem) (hf : f_L_runCommands  M = some (r, M9)) : kMet l yL_runCommands [Cond.codeWith yL_runCommands cL_runCommands 2 (some .int) [(0, 4, 5, 26), (0, 4, 9, 20)]] rmL_runCommands w sz M [.ref (w.1 12 16)] (some (.int r)) M9 1 6 := by
  refine k_ofH (by decide) (Nat.le_of_ble_eq_true rfl) ?_
  intro p e s m args below meth c hx hb hr hml hxt hown hlk hI ls hl
  have hl : lv_has ls 2 [(0, .ref (w.1 12 16))] := hl
  unfold f_L_runCommands at hf
  refine lv_aload_n hx hb dL_runCommands_0 rfl (lv_at hl 0 rfl) ?_
  rcases mcat_e hf with ⟨n1, M3, hc, hf⟩ | ⟨r2, M3, hc, hf⟩
  · refine k_callX (As := []) (rest := []) hx hb hml hown hI (c_X11_runCommands l w hsf s.heap.size M _ _ hc) (kb_X11_runCommands hI.T (q1267 hI.T) (Nat.le_of_ble_eq_true rfl) (Nat.le_of_ble_eq_true rfl)) (q1268 hI.T) (q1269 hI.T) (m_recv (g := 12) (i := 16) hI (mokX (by decide) (by decide)) rfl rfl) rfl hl.1 (Nat.le_of_ble_eq_true rfl) dL_runCommands_1 ⟨Nat.le_of_ble_eq_true rfl, Nat.le_of_ble_eq_true rfl⟩ (fun ce q H locs hI hc1 hc2 hc3 => ?_)
    by_cases c4 : n1 = 2
    · subst c4
      have hf := (if_pos rfl).symm.trans hf
      refine vx_catch hown [] ⟨0, 4, 5, 26⟩ [⟨0, 4, 9, 20⟩] hxt (fun z hz => nomatch hz) (by decide) (by decide) (q577 hI.T) (q591 hI.T) hc1 hc2 hc3 ?_
      refine lv_astore_n hx hb dL_runCommands_5 rfl hl (by decide) rfl (fun ls hl => ?_)
      refine lv_bipush (v := (-78)) hx hb dL_runCommands_6 (by decide) ?_
      exact k_iretf hx hb hr hlk hI hf dL_runCommands_8 (Nat.le_of_ble_eq_true rfl) (Nat.le_of_ble_eq_true rfl)
    have hf := (if_neg c4).symm.trans hf
    by_cases c5 : n1 = 3
    · subst c5
      have hf := (if_pos rfl).symm.trans hf
      refine vx_catch hown [⟨0, 4, 5, 26⟩] ⟨0, 4, 9, 20⟩ [] hxt (fun z hz => by rcases List.mem_cons.mp hz with rfl | hz; exact Or.inr ⟨by decide, _, (q577 hI.T), hI.nc (i := 3) (j := 2) (by decide) (by decide) (by decide) (by decide) (by decide)⟩; exact nomatch hz) (by decide) (by decide) (q719 hI.T) (q773 hI.T) hc1 hc2 hc3 ?_
      refine lv_astore_n hx hb dL_runCommands_9 rfl hl (by decide) rfl (fun ls hl => ?_)
      refine lv_bipush (v := (-76)) hx hb dL_runCommands_10 (by decide) ?_
      exact k_iretf hx hb hr hlk hI hf dL_runCommands_12 (Nat.le_of_ble_eq_true rfl) (Nat.le_of_ble_eq_true rfl)
    have hf := (if_neg c5).symm.trans hf
    exact nomatch hf
  refine m_callxRV (As := []) (rest := []) hx hb hml hown hI (c_X11_runCommands l w hsf s.heap.size M _ _ hc) (kb_X11_runCommands hI.T (q1267 hI.T) (Nat.le_of_ble_eq_true rfl) (Nat.le_of_ble_eq_true rfl)) (q1268 hI.T) (q1269 hI.T) (m_recv (g := 12) (i := 16) hI (mokX (by decide) (by decide)) rfl rfl) rfl hl.1 (Nat.le_of_ble_eq_true rfl) dL_runCommands_1 ⟨Nat.le_of_ble_eq_true rfl, Nat.le_of_ble_eq_true rfl⟩ (fun H locs hI => ?_)
  exact k_iretf hx hb hr hlk hI hf dL_runCommands_4 (Nat.le_of_ble_eq_true rfl) (Nat.le_of_ble_eq_true rfl)
abbrev rmL_undo : Room := { frames := 9, cells := 1, slots := 6, locals := 160 }
set_option maxHeartbeats 4000000 in
set_option maxRecDepth 100000 in
theorem c_L_undo (l : Launch) (w : WD) (hsf : l.stackTraces = false) (sz : Nat)  (M : Mem) (r : Int32) (M9 : Mem) (hf : f_L_undo  M = some (r, M9)) : kMet l yL_undo [Cond.codeWith yL_undo cL_undo 2 (some .int) [(0, 4, 5, 155)]] rmL_undo w sz M [.ref (w.1 12 16)] (some (.int r)) M9 1 6 := by
  refine k_ofH (by decide) (Nat.le_of_ble_eq_true rfl) ?_
  intro p e s m args below meth c hx hb hr hml hxt hown hlk hI ls hl
  have hl : lv_has ls 2 [(0, .ref (w.1 12 16))] := hl
  unfold f_L_undo at hf
  refine lv_aload_n hx hb dL_undo_0 rfl (lv_at hl 0 rfl) ?_
  rcases mcat_e hf with ⟨n1, M3, hc, hf⟩ | ⟨r2, M3, hc, hf⟩
  · refine k_callX (As := []) (rest := []) hx hb hml hown hI (c_X11_undo l w hsf s.heap.size M _ _ hc) (kb_X11_undo hI.T (q1588 hI.T) (Nat.le_of_ble_eq_true rfl) (Nat.le_of_ble_eq_true rfl)) (q1589 hI.T) (q1590 hI.T) (m_recv (g := 12) (i := 16) hI (mokX (by decide) (by decide)) rfl rfl) rfl hl.1 (Nat.le_of_ble_eq_true rfl) dL_undo_1 ⟨Nat.le_of_ble_eq_true rfl, Nat.le_of_ble_eq_true rfl⟩ (fun ce q H locs hI hc1 hc2 hc3 => ?_)
    by_cases c4 : n1 = 5
    · subst c4
      have hf := (if_pos rfl).symm.trans hf
      refine vx_catch hown [] ⟨0, 4, 5, 155⟩ [] hxt (fun z hz => nomatch hz) (by decide) (by decide) (q1239 hI.T) (q1246 hI.T) hc1 hc2 hc3 ?_
      refine lv_astore_n hx hb dL_undo_5 rfl hl (by decide) rfl (fun ls hl => ?_)
      refine lv_bipush (v := (-79)) hx hb dL_undo_6 (by decide) ?_
      exact k_iretf hx hb hr hlk hI hf dL_undo_8 (Nat.le_of_ble_eq_true rfl) (Nat.le_of_ble_eq_true rfl)
    have hf := (if_neg c4).symm.trans hf
    exact nomatch hf
  refine m_callxRV (As := []) (rest := []) hx hb hml hown hI (c_X11_undo l w hsf s.heap.size M _ _ hc) (kb_X11_undo hI.T (q1588 hI.T) (Nat.le_of_ble_eq_true rfl) (Nat.le_of_ble_eq_true rfl)) (q1589 hI.T) (q1590 hI.T) (m_recv (g := 12) (i := 16) hI (mokX (by decide) (by decide)) rfl rfl) rfl hl.1 (Nat.le_of_ble_eq_true rfl) dL_undo_1 ⟨Nat.le_of_ble_eq_true rfl, Nat.le_of_ble_eq_true rfl⟩ (fun H locs hI => ?_)
  exact k_iretf hx hb hr hlk hI hf dL_undo_4 (Nat.le_of_ble_eq_true rfl) (Nat.le_of_ble_eq_true rfl)
abbrev rmL_restore : Room := { frames := 9, cells := 1, slots := 6, locals := 160 }
set_option maxHeartbeats 4000000 in
set_option maxRecDepth 100000 in
theorem c_L_restore (l : Launch) (w : WD) (hsf : l.stackTraces = false) (sz : Nat)  (M : Mem) (r : Int32) (M9 : Mem) (hf : f_L_restore  M = some (r, M9)) : kMet l yL_restore [Cond.codeWith yL_restore cL_restore 2 (some .int) [(0, 4, 5, 155)]] rmL_restore w sz M [.ref (w.1 12 16)] (some (.int r)) M9 1 6 := by
  refine k_ofH (by decide) (Nat.le_of_ble_eq_true rfl) ?_
  intro p e s m args below meth c hx hb hr hml hxt hown hlk hI ls hl
  have hl : lv_has ls 2 [(0, .ref (w.1 12 16))] := hl
  unfold f_L_restore at hf
  refine lv_aload_n hx hb dL_restore_0 rfl (lv_at hl 0 rfl) ?_
  rcases mcat_e hf with ⟨n1, M3, hc, hf⟩ | ⟨r2, M3, hc, hf⟩
  · refine k_callX (As := []) (rest := []) hx hb hml hown hI (c_X11_restore l w hsf s.heap.size M _ _ hc) (kb_X11_restore hI.T (q1600 hI.T) (Nat.le_of_ble_eq_true rfl) (Nat.le_of_ble_eq_true rfl)) (q1601 hI.T) (q1602 hI.T) (m_recv (g := 12) (i := 16) hI (mokX (by decide) (by decide)) rfl rfl) rfl hl.1 (Nat.le_of_ble_eq_true rfl) dL_restore_1 ⟨Nat.le_of_ble_eq_true rfl, Nat.le_of_ble_eq_true rfl⟩ (fun ce q H locs hI hc1 hc2 hc3 => ?_)
    by_cases c4 : n1 = 5
    · subst c4
      have hf := (if_pos rfl).symm.trans hf
      refine vx_catch hown [] ⟨0, 4, 5, 155⟩ [] hxt (fun z hz => nomatch hz) (by decide) (by decide) (q1239 hI.T) (q1246 hI.T) hc1 hc2 hc3 ?_
      refine lv_astore_n hx hb dL_restore_5 rfl hl (by decide) rfl (fun ls hl => ?_)
      refine lv_bipush (v := (-79)) hx hb dL_restore_6 (by decide) ?_
      exact k_iretf hx hb hr hlk hI hf dL_restore_8 (Nat.le_of_ble_eq_true rfl) (Nat.le_of_ble_eq_true rfl)
    have hf := (if_neg c4).symm.trans hf
    exact nomatch hf
  refine m_callxRV (As := []) (rest := []) hx hb hml hown hI (c_X11_restore l w hsf s.heap.size M _ _ hc) (kb_X11_restore hI.T (q1600 hI.T) (Nat.le_of_ble_eq_true rfl) (Nat.le_of_ble_eq_true rfl)) (q1601 hI.T) (q1602 hI.T) (m_recv (g := 12) (i := 16) hI (mokX (by decide) (by decide)) rfl rfl) rfl hl.1 (Nat.le_of_ble_eq_true rfl) dL_restore_1 ⟨Nat.le_of_ble_eq_true rfl, Nat.le_of_ble_eq_true rfl⟩ (fun H locs hI => ?_)
  exact k_iretf hx hb hr hlk hI hf dL_restore_4 (Nat.le_of_ble_eq_true rfl) (Nat.le_of_ble_eq_true rfl)
abbrev rmL_runs : Room := { frames := 11, cells := 22, slots := 132, locals := 334 }
theorem kb_L_runs {R : Room} {s : State} {args : Array Value} {own : String} {idx : Nat} (hT : mT s) (hlink : (Cond.methodLink own idx yL_runs).before args s = true) (h1 : rmL_runs.frames + 1 ≤ R.frames) (h2 : 8 + (4 + 11) + rmL_runs.locals ≤ R.locals) : CallB R s args own idx yL_runs cL_runs 4 (some .int) [Cond.code yL_runs cL_runs 4 (some .int)] rmL_runs 22 132 2 := m_callB hT kc_L_runs ki_L_runs hlink (by decide +kernel) ⟨rfl, rfl, h1, h2⟩
set_option maxHeartbeats 4000000 in
set_option maxRecDepth 100000 in
theorem c_L_runs (l : Launch) (w : WD) (hsf : l.stackTraces = false) (sz : Nat) (ta tv tn : Nat) (tf : Nat → Int32) (hK : kSx w ta tv tn tf) (M : Mem) (r : Int32) (M9 : Mem) (hf : f_L_runs tn tf M = some (r, M9)) : kMet l yL_runs [Cond.code yL_runs cL_runs 4 (some .int)] rmL_runs w sz M [.ref (w.1 12 16), .ref ta] (some (.int r)) M9 22 132 := by
  refine k_of (by decide) (Nat.le_of_ble_eq_true rfl) ?_
  intro p e s m args below meth c hx hb hr hml hown hlk hI ls hl
  have hl : lv_has ls 4 [(0, .ref (w.1 12 16)), (1, .ref ta)] := hl
  unfold f_L_runs at hf
  refine lv_iconst (v := 0) hx hb dL_runs_0 (by decide) ?_
  refine lv_istore_n (lv' := [(2, .int (0 : Int32)), (0, .ref (w.1 12 16)), (1, .ref ta)]) hx hb dL_runs_1 rfl hl (by decide) rfl (fun ls hl => ?_)
  have hL2 : ∀ (n : Nat) (x1 : Int32) (M2 : Mem) (kk : Mem → Option (Int32 × Mem)) (H : Heap) (locs : List Loc) (ls : Array Slot) (kc2 ks2 : Nat), kc2 + n * 1 ≤ 21 → ks2 + n * 6 ≤ 126 → f_L_runs_L2 tn tf n x1 M2 kk = some (r, M9) → mI w s (mA w s.heap.size) H locs M2 → lv_has ls 4 [(0, .ref (w.1 12 16)), (1, .ref ta), (2, .int x1)] → (∀  (M2 : Mem) (H : Heap) (locs : List Loc) (ls : Array Slot), kk M2 = some (r, M9) → mI w s (mA w s.heap.size) H locs M2 → lv_has ls 4 [(0, .ref (w.1 12 16))] → W p l e rmL_runs s m args below meth c H locs 21 126 (MQ below (mQ w s.heap.size (some (.int r)) M9) args s 22 132 (mA w s.heap.size)) (F0 m 26 ls [])) → W p l e rmL_runs s m args below meth c H locs kc2 ks2 (MQ below (mQ w s.heap.size (some (.int r)) M9) args s 22 132 (mA w s.heap.size)) (F0 m 2 ls []) := by
    intro n
    induction n with
    | zero => intro x1 M2 kk H locs ls kc2 ks2 hkc hks hf hI hl hk; rw [f_L_runs_L2.eq_1] at hf; cases hf
    | succ n ih2 =>
      intro x1 M2 kk H locs ls kc2 ks2 hkc hks hf hI hl hk
      rw [f_L_runs_L2.eq_2] at hf
      refine lv_iload_n hx hb dL_runs_2 rfl (lv_at hl 2 rfl) ?_
      refine lv_aload_n hx hb dL_runs_3 rfl (lv_at hl 1 rfl) ?_
      refine m_slenK hx hb hml hown hI hK (q1211 hI.T) hl.1 (Nat.le_of_ble_eq_true rfl) (Nat.le_of_ble_eq_true rfl) (Nat.le_of_ble_eq_true rfl) dL_runs_4 ⟨Nat.le_trans (m := 21) (by omega) (Nat.le_of_ble_eq_true rfl), Nat.le_trans (m := 126) (by omega) (Nat.le_of_ble_eq_true rfl)⟩ (fun H locs hI => ?_)
      refine lv_icmp_ge (tgt := 26) hx hb dL_runs_7 (by decide) (fun c3 => ?_) (fun c3 => ?_)
      · have hf := (if_pos c3).symm.trans hf
        refine W.widen (k := 21) (n := 126) (by omega) (by omega) ?_
        exact hk M2 H _ _ hf hI (lv_sub hl [0] rfl)
      · have hf := (if_neg c3).symm.trans hf
        refine lv_aload_n hx hb dL_runs_10 rfl (lv_at hl 0 rfl) ?_
        refine lv_aload_n hx hb dL_runs_11 rfl (lv_at hl 1 rfl) ?_
        refine lv_iload_n hx hb dL_runs_12 rfl (lv_at hl 2 rfl) ?_
        obtain ⟨hi, hf⟩ := mix_e hf
        refine m_satK hx hb hml hown hI hK hi (q1212 hI.T) hl.1 (Nat.le_of_ble_eq_true rfl) (Nat.le_of_ble_eq_true rfl) (Nat.le_of_ble_eq_true rfl) dL_runs_13 ⟨Nat.le_trans (m := 21) (by omega) (Nat.le_of_ble_eq_true rfl), Nat.le_trans (m := 126) (by omega) (Nat.le_of_ble_eq_true rfl)⟩ (fun H locs hI => ?_)
        obtain ⟨r4, M5, hc, hf⟩ := mbnd_e hf
        refine k_callH (As := [.ref (w.1 12 16), .int (tf x1.toNatClampNeg)]) (rest := []) hx hb hml hown hI (c_L_feed l w hsf H.size (tf x1.toNatClampNeg) M2 _ _ hc) (k_cw (n := 2) hI.T kc_L_feed ki_L_feed (q1236 hI.T) (q1237 hI.T) (by decide +kernel) ⟨rfl, rfl, Nat.le_of_ble_eq_true rfl, Nat.le_of_ble_eq_true rfl⟩) rfl hl.1 (Nat.le_of_ble_eq_true rfl) dL_runs_16 ⟨Nat.le_trans (m := 21) (by omega) (Nat.le_of_ble_eq_true rfl), Nat.le_trans (m := 126) (by omega) (Nat.le_of_ble_eq_true rfl)⟩ (fun H locs hI => ?_)
        refine lv_istore_n (lv' := [(3, .int r4), (0, .ref (w.1 12 16)), (1, .ref ta), (2, .int x1)]) hx hb dL_runs_19 rfl hl (by decide) rfl (fun ls hl => ?_)
        obtain ⟨x6, ex6, hf⟩ := mlet_e hf
        refine lv_iinc (v := x6) (lv' := [(2, .int x6), (3, .int r4), (0, .ref (w.1 12 16)), (1, .ref ta)]) hx hb dL_runs_20 hl (k := 3) rfl (by rw [ex6]; rfl) (by decide) rfl (fun ls hl => ?_)
        refine lv_goto (tgt := 2) hx hb dL_runs_23 (by decide) ?_
        exact ih2 x6 M5 kk H _ _ _ _ (by omega) (by omega) hf hI (lv_sub hl [2, 3, 0] rfl) hk
  refine hL2 21 (0 : Int32) M _ _ _ _ _ _ (Nat.le_of_ble_eq_true rfl) (Nat.le_of_ble_eq_true rfl) hf hI (lv_sub hl [1, 2, 0] rfl) ?_
  intro M7 H locs ls hf hI hl
  try dsimp only at hf
  refine lv_aload_n hx hb dL_runs_26 rfl (lv_at hl 0 rfl) ?_
  obtain ⟨r8, M10, hc, hf⟩ := mbnd_e hf
  refine k_callH (As := [.ref (w.1 12 16)]) (rest := []) hx hb hml hown hI (c_L_runCommands l w hsf H.size M7 _ _ hc) (k_cw (n := 1) hI.T kc_L_runCommands ki_L_runCommands (q1264 hI.T) (q1265 hI.T) (by decide +kernel) ⟨rfl, rfl, Nat.le_of_ble_eq_true rfl, Nat.le_of_ble_eq_true rfl⟩) rfl hl.1 (Nat.le_of_ble_eq_true rfl) dL_runs_27 ⟨Nat.le_of_ble_eq_true rfl, Nat.le_of_ble_eq_true rfl⟩ (fun H locs hI => ?_)
  exact k_iretf hx hb hr hlk hI hf dL_runs_30 (Nat.le_of_ble_eq_true rfl) (Nat.le_of_ble_eq_true rfl)
abbrev rmL_visit : Room := { frames := 11, cells := 4, slots := 24, locals := 204 }
theorem kb_L_visit {R : Room} {s : State} {args : Array Value} {own : String} {idx : Nat} (hT : mT s) (hlink : (Cond.methodLink own idx yL_visit).before args s = true) (h1 : rmL_visit.frames + 1 ≤ R.frames) (h2 : 8 + (3 + 11) + rmL_visit.locals ≤ R.locals) : CallB R s args own idx yL_visit cL_visit 3 (some .boolean) [Cond.code yL_visit cL_visit 3 (some .boolean)] rmL_visit 4 24 2 := m_callB hT kc_L_visit ki_L_visit hlink (by decide +kernel) ⟨rfl, rfl, h1, h2⟩
set_option maxHeartbeats 4000000 in
set_option maxRecDepth 100000 in
theorem c_L_visit (l : Launch) (w : WD) (hsf : l.stackTraces = false) (sz : Nat) (a2 : Int32) (M : Mem) (r : Int32) (hf : f_L_visit a2 M = some r) : kMet l yL_visit [Cond.code yL_visit cL_visit 3 (some .boolean)] rmL_visit w sz M [.ref (w.1 12 16), .int a2] (some (.int r)) M 4 24 := by
  refine k_of (by decide) (Nat.le_of_ble_eq_true rfl) ?_
  intro p e s m args below meth c hx hb hr hml hown hlk hI ls hl
  have hl : lv_has ls 3 [(0, .ref (w.1 12 16)), (1, .int a2)] := hl
  unfold f_L_visit at hf
  refine lv_iconst (v := 0) hx hb dL_visit_0 (by decide) ?_
  refine lv_istore_n (lv' := [(2, .int (0 : Int32)), (0, .ref (w.1 12 16)), (1, .int a2)]) hx hb dL_visit_1 rfl hl (by decide) rfl (fun ls hl => ?_)
  have hL2 : ∀ (n : Nat) (x1 : Int32) (kk : Unit → Option Int32) (H : Heap) (locs : List Loc) (ls : Array Slot) (kc2 ks2 : Nat), kc2 + n * 1 ≤ 4 → ks2 + n * 6 ≤ 24 → f_L_visit_L2 a2 M n x1 kk = some r → mI w s (mA w s.heap.size) H locs M → lv_has ls 3 [(0, .ref (w.1 12 16)), (1, .int a2), (2, .int x1)] → (∀ (_u : Unit) (H : Heap) (locs : List Loc) (ls : Array Slot), kk () = some r → mI w s (mA w s.heap.size) H locs M → lv_has ls 3 [] → W p l e rmL_visit s m args below meth c H locs 4 24 (MQ below (mQ w s.heap.size (some (.int r)) M) args s 4 24 (mA w s.heap.size)) (F0 m 27 ls [])) → W p l e rmL_visit s m args below meth c H locs kc2 ks2 (MQ below (mQ w s.heap.size (some (.int r)) M) args s 4 24 (mA w s.heap.size)) (F0 m 2 ls []) := by
    intro n
    induction n with
    | zero => intro x1 kk H locs ls kc2 ks2 hkc hks hf hI hl hk; rw [f_L_visit_L2.eq_1] at hf; cases hf
    | succ n ih2 =>
      intro x1 kk H locs ls kc2 ks2 hkc hks hf hI hl hk
      rw [f_L_visit_L2.eq_2] at hf
      refine lv_iload_n hx hb dL_visit_2 rfl (lv_at hl 2 rfl) ?_
      refine lv_aload_n hx hb dL_visit_3 rfl (lv_at hl 0 rfl) ?_
      obtain ⟨r2, hc, hf⟩ := mbp_e hf
      refine m_callV (As := []) (rest := [.int x1]) hx hb hml hown hI (c_X11_guardCount l w H.size M _ hc) (kb_X11_guardCount hI.T (q676 hI.T) (Nat.le_of_ble_eq_true rfl) (Nat.le_of_ble_eq_true rfl)) (q677 hI.T) (q678 hI.T) (m_recv (g := 12) (i := 16) hI (mokX (by decide) (by decide)) rfl rfl) rfl hl.1 (Nat.le_of_ble_eq_true rfl) dL_visit_4 ⟨Nat.le_trans (m := 4) (by omega) (Nat.le_of_ble_eq_true rfl), Nat.le_trans (m := 24) (by omega) (Nat.le_of_ble_eq_true rfl)⟩ (fun H locs hI => ?_)
      refine lv_icmp_ge (tgt := 27) hx hb dL_visit_7 (by decide) (fun c3 => ?_) (fun c3 => ?_)
      · have hf := (if_pos c3).symm.trans hf
        refine W.widen (k := 4) (n := 24) (by omega) (by omega) ?_
        exact hk () H _ _ hf hI (lv_sub hl [] rfl)
      · have hf := (if_neg c3).symm.trans hf
        refine lv_aload_n hx hb dL_visit_10 rfl (lv_at hl 0 rfl) ?_
        refine lv_iload_n hx hb dL_visit_11 rfl (lv_at hl 2 rfl) ?_
        obtain ⟨r4, hc, hf⟩ := mbp_e hf
        refine k_callH (As := [.ref (w.1 12 16), .int x1]) (rest := []) hx hb hml hown hI (c_L_zoneOf l w hsf H.size x1 M _ hc) (k_cw (n := 2) hI.T kc_L_zoneOf ki_L_zoneOf (q680 hI.T) (q681 hI.T) (by decide +kernel) ⟨rfl, rfl, Nat.le_of_ble_eq_true rfl, Nat.le_of_ble_eq_true rfl⟩) rfl hl.1 (Nat.le_of_ble_eq_true rfl) dL_visit_12 ⟨Nat.le_trans (m := 4) (by omega) (Nat.le_of_ble_eq_true rfl), Nat.le_trans (m := 24) (by omega) (Nat.le_of_ble_eq_true rfl)⟩ (fun H locs hI => ?_)
        refine lv_iload_n hx hb dL_visit_15 rfl (lv_at hl 1 rfl) ?_
        refine lv_icmp_ne (tgt := 21) hx hb dL_visit_16 (by decide) (fun c5 => ?_) (fun c5 => ?_)
        · have hf := (if_neg c5).symm.trans hf
          obtain ⟨x6, ex6, hf⟩ := mlet_e hf
          refine lv_iinc (v := x6) (lv' := [(2, .int x6), (0, .ref (w.1 12 16)), (1, .int a2)]) hx hb dL_visit_21 hl (k := 2) rfl (by rw [ex6]; rfl) (by decide) rfl (fun ls hl => ?_)
          refine lv_goto (tgt := 2) hx hb dL_visit_24 (by decide) ?_
          exact ih2 x6 kk H _ _ _ _ (by omega) (by omega) hf hI (lv_sub hl [1, 2, 0] rfl) hk
        · have hf := (if_pos c5).symm.trans hf
          refine lv_iconst (v := 1) hx hb dL_visit_19 (by decide) ?_
          exact k_zretp hx hb hr hlk hI rfl hf dL_visit_20 (by omega) (by omega)
  refine hL2 4 (0 : Int32) _ _ _ _ _ _ (Nat.le_of_ble_eq_true rfl) (Nat.le_of_ble_eq_true rfl) hf hI (lv_sub hl [1, 2, 0] rfl) ?_
  intro _u H locs ls hf hI hl
  try dsimp only at hf
  refine lv_iconst (v := 0) hx hb dL_visit_27 (by decide) ?_
  exact k_zretp hx hb hr hlk hI rfl hf dL_visit_28 (Nat.le_of_ble_eq_true rfl) (Nat.le_of_ble_eq_true rfl)
abbrev rmL_areCorrect : Room := { frames := 11, cells := 18, slots := 108, locals := 204 }
theorem kb_L_areCorrect {R : Room} {s : State} {args : Array Value} {own : String} {idx : Nat} (hT : mT s) (hlink : (Cond.methodLink own idx yL_areCorrect).before args s = true) (h1 : rmL_areCorrect.frames + 1 ≤ R.frames) (h2 : 8 + (2 + 11) + rmL_areCorrect.locals ≤ R.locals) : CallB R s args own idx yL_areCorrect cL_areCorrect 2 (some .boolean) [Cond.code yL_areCorrect cL_areCorrect 2 (some .boolean)] rmL_areCorrect 18 108 1 := m_callB hT kc_L_areCorrect ki_L_areCorrect hlink (by decide +kernel) ⟨rfl, rfl, h1, h2⟩
set_option maxHeartbeats 4000000 in
set_option maxRecDepth 100000 in
theorem c_L_areCorrect (l : Launch) (w : WD) (hsf : l.stackTraces = false) (sz : Nat)  (M : Mem) (r : Int32) (hf : f_L_areCorrect  M = some r) : kMet l yL_areCorrect [Cond.code yL_areCorrect cL_areCorrect 2 (some .boolean)] rmL_areCorrect w sz M [.ref (w.1 12 16)] (some (.int r)) M 18 108 := by
  refine k_of (by decide) (Nat.le_of_ble_eq_true rfl) ?_
  intro p e s m args below meth c hx hb hr hml hown hlk hI ls hl
  have hl : lv_has ls 2 [(0, .ref (w.1 12 16))] := hl
  unfold f_L_areCorrect at hf
  refine lv_iconst (v := 0) hx hb dL_areCorrect_0 (by decide) ?_
  refine lv_istore_n (lv' := [(1, .int (0 : Int32)), (0, .ref (w.1 12 16))]) hx hb dL_areCorrect_1 rfl hl (by decide) rfl (fun ls hl => ?_)
  have hL2 : ∀ (n : Nat) (x1 : Int32) (kk : Unit → Option Int32) (H : Heap) (locs : List Loc) (ls : Array Slot) (kc2 ks2 : Nat), kc2 + n * 2 ≤ 18 → ks2 + n * 12 ≤ 108 → f_L_areCorrect_L2 M n x1 kk = some r → mI w s (mA w s.heap.size) H locs M → lv_has ls 2 [(0, .ref (w.1 12 16)), (1, .int x1)] → (∀ (_u : Unit) (H : Heap) (locs : List Loc) (ls : Array Slot), kk () = some r → mI w s (mA w s.heap.size) H locs M → lv_has ls 2 [] → W p l e rmL_areCorrect s m args below meth c H locs 18 108 (MQ below (mQ w s.heap.size (some (.int r)) M) args s 18 108 (mA w s.heap.size)) (F0 m 27 ls [])) → W p l e rmL_areCorrect s m args below meth c H locs kc2 ks2 (MQ below (mQ w s.heap.size (some (.int r)) M) args s 18 108 (mA w s.heap.size)) (F0 m 2 ls []) := by
    intro n
    induction n with
    | zero => intro x1 kk H locs ls kc2 ks2 hkc hks hf hI hl hk; rw [f_L_areCorrect_L2.eq_1] at hf; cases hf
    | succ n ih2 =>
      intro x1 kk H locs ls kc2 ks2 hkc hks hf hI hl hk
      rw [f_L_areCorrect_L2.eq_2] at hf
      refine lv_iload_n hx hb dL_areCorrect_2 rfl (lv_at hl 1 rfl) ?_
      refine lv_aload_n hx hb dL_areCorrect_3 rfl (lv_at hl 0 rfl) ?_
      obtain ⟨r2, hc, hf⟩ := mbp_e hf
      refine m_callV (As := []) (rest := [.int x1]) hx hb hml hown hI (c_X11_holderCount l w H.size M _ hc) (kb_X11_holderCount hI.T (q335 hI.T) (Nat.le_of_ble_eq_true rfl) (Nat.le_of_ble_eq_true rfl)) (q336 hI.T) (q337 hI.T) (m_recv (g := 12) (i := 16) hI (mokX (by decide) (by decide)) rfl rfl) rfl hl.1 (Nat.le_of_ble_eq_true rfl) dL_areCorrect_4 ⟨Nat.le_trans (m := 18) (by omega) (Nat.le_of_ble_eq_true rfl), Nat.le_trans (m := 108) (by omega) (Nat.le_of_ble_eq_true rfl)⟩ (fun H locs hI => ?_)
      refine lv_icmp_ge (tgt := 27) hx hb dL_areCorrect_7 (by decide) (fun c3 => ?_) (fun c3 => ?_)
      · have hf := (if_pos c3).symm.trans hf
        refine W.widen (k := 18) (n := 108) (by omega) (by omega) ?_
        exact hk () H _ _ hf hI (lv_sub hl [] rfl)
      · have hf := (if_neg c3).symm.trans hf
        refine lv_aload_n hx hb dL_areCorrect_10 rfl (lv_at hl 0 rfl) ?_
        refine lv_iload_n hx hb dL_areCorrect_11 rfl (lv_at hl 1 rfl) ?_
        obtain ⟨r4, hc, hf⟩ := mbp_e hf
        refine k_callH (As := [.ref (w.1 12 16), .int x1]) (rest := []) hx hb hml hown hI (c_L_isCorrect l w hsf H.size x1 M _ hc) (k_cw (n := 2) hI.T kc_L_isCorrect ki_L_isCorrect (q699 hI.T) (q700 hI.T) (by decide +kernel) ⟨rfl, rfl, Nat.le_of_ble_eq_true rfl, Nat.le_of_ble_eq_true rfl⟩) rfl hl.1 (Nat.le_of_ble_eq_true rfl) dL_areCorrect_12 ⟨Nat.le_trans (m := 18) (by omega) (Nat.le_of_ble_eq_true rfl), Nat.le_trans (m := 108) (by omega) (Nat.le_of_ble_eq_true rfl)⟩ (fun H locs hI => ?_)
        refine lv_iconst (v := 1) hx hb dL_areCorrect_15 (by decide) ?_
        refine lv_icmp_eq (tgt := 21) hx hb dL_areCorrect_16 (by decide) (fun c5 => ?_) (fun c5 => ?_)
        · have hf := (if_pos c5).symm.trans hf
          obtain ⟨x6, ex6, hf⟩ := mlet_e hf
          refine lv_iinc (v := x6) (lv' := [(1, .int x6), (0, .ref (w.1 12 16))]) hx hb dL_areCorrect_21 hl (k := 1) rfl (by rw [ex6]; rfl) (by decide) rfl (fun ls hl => ?_)
          refine lv_goto (tgt := 2) hx hb dL_areCorrect_24 (by decide) ?_
          exact ih2 x6 kk H _ _ _ _ (by omega) (by omega) hf hI (lv_sub hl [1, 0] rfl) hk
        · have hf := (if_neg c5).symm.trans hf
          refine lv_iconst (v := 0) hx hb dL_areCorrect_19 (by decide) ?_
          exact k_zretp hx hb hr hlk hI rfl hf dL_areCorrect_20 (by omega) (by omega)
  refine hL2 9 (0 : Int32) _ _ _ _ _ _ (Nat.le_of_ble_eq_true rfl) (Nat.le_of_ble_eq_true rfl) hf hI (lv_sub hl [1, 0] rfl) ?_
  intro _u H locs ls hf hI hl
  try dsimp only at hf
  refine lv_iconst (v := 1) hx hb dL_areCorrect_27 (by decide) ?_
  exact k_zretp hx hb hr hlk hI rfl hf dL_areCorrect_28 (Nat.le_of_ble_eq_true rfl) (Nat.le_of_ble_eq_true rfl)
