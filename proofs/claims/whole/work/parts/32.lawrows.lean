/-! THE LAW'S BODY: its world, and what a call does to it -/
/-- the memory, the law's two arrays of one place, the script -/
def lI (w : WD) (s : State) (H : Heap) (locs : List Loc) (oL oD : Nat) (cL cD : ClassId) (x : Int64) (y : UInt64) (b L : Nat) (xs : Nat → Int32) (M : Mem) : Prop :=
  mI w s (fun q => s.heap.size ≤ q) H locs M ∧ hC w cL oL x H ∧ dC w cD oD y H ∧ (∀ g i, mok g i → w.1 g i ≠ oL ∧ w.1 g i ≠ oD) ∧ oL ≠ oD ∧ (s.heap.size ≤ oL ∧ s.heap.size ≤ oD) ∧ (ArrOfT s cL .long ∧ ArrOfT s cD .double) ∧ va_X b L xs s s.heap ∧ b < s.heap.size
theorem hC_lt {w : WD} {cL : ClassId} {o : Nat} {x : Int64} {H : Heap} (h : hC w cL o x H) : o < H.size := (Array.getElem?_eq_some_iff.mp (show H[o]? = some _ from h)).1
theorem dC_lt {w : WD} {cL : ClassId} {o : Nat} {x : UInt64} {H : Heap} (h : dC w cL o x H) : o < H.size := (Array.getElem?_eq_some_iff.mp (show H[o]? = some _ from h)).1
section LROWS
variable {p : Program} {l : Launch} {e : Env} {R : Room} {s : State} {m : MethodId} {args : Array Value} {below : List Frame} {meth : Method} {c : Code} {H : Heap} {locs : List Loc} {cells slots mc ms : Nat} {Q : State → Prop}
variable {cc : ByteArray} {pc : Nat} {ls : Array Slot} {rest : List Value} {w : WD} {M M1 : Mem} {oL oD b L : Nat} {xs : Nat → Int32} {cL cD : ClassId} {x : Int64} {y : UInt64}
theorem lI.no (h : lI w s H locs oL oD cL cD x y b L xs M) : ¬ mA w H.size oL ∧ ¬ mA w H.size oD := by
  obtain ⟨hm, hc, hd, hne, -⟩ := h
  refine ⟨?_, ?_⟩
  · rintro (⟨g, i, hg, h⟩ | h)
    · exact (hne g i hg).1 h.symm
    · exact Nat.not_le.mpr (hC_lt hc) h
  · rintro (⟨g, i, hg, h⟩ | h)
    · exact (hne g i hg).2 h.symm
    · exact Nat.not_le.mpr (dC_lt hd) h
/-- behind a call that changes the memory alone -/
theorem lI.keep (h : lI w s H locs oL oD cL cD x y b L xs M) {H1 : Heap} {Ls : List Loc} (hP : mP w M1 H1) (hz : H.size ≤ H1.size) (hk : ∀ q : Nat, q < H.size → ¬ mA w H.size q → H1[q]? = H[q]?) (hL : ∀ q ∈ Ls, mA w H.size q.base) : lI w s H1 (locs ++ Ls) oL oD cL cD x y b L xs M1 := by
  have hn := h.no
  obtain ⟨hm, hc, hd, hne, hr⟩ := h
  have hS := hm.S
  refine ⟨hm.next hP ⟨Nat.le_trans hS.1 hz, fun q h1 h2 => (hk q (Nat.lt_of_lt_of_le h1 hS.1) (fun z => h2 (hm.sub q z))).trans (hS.2.1 q h1 h2), fun q hq => ?_⟩, hc.kept (hk oL (hC_lt hc) hn.1), hd.kept (hk oD (dC_lt hd) hn.2), hne, hr⟩
  rcases List.mem_append.mp hq with h | h
  · exact hS.2.2 q h
  · exact hm.sub _ (hL q h)
theorem l_after {st0 : List Value} {a : Array Value} {v : Option Value} (hr : va_Run p l e R s m args below meth c H locs cells slots 0 0 (F0 m pc ls st0) rest (mQ w H.size v M1 a) (mA w H.size)) (hI : lI w s H locs oL oD cL cD x y b L xs M)
    (kk : ∀ (H1 : Heap) (locs1 : List Loc), lI w s H1 locs1 oL oD cL cD x y b L xs M1 → W p l e R s m args below meth c H1 locs1 cells slots Q (F0 m (pc + 3) ls (v.toList ++ rest))) : W p l e R s m args below meth c H locs cells slots Q (F0 m pc ls st0) := by
  intro T hT X
  obtain ⟨v1, st₀, t, T', Ls, h0, X', hL, e1, e2, ⟨hv, hP1, hz, hk⟩, st⟩ := hr T hT X
  cases hv
  rw [h0] at hz hk
  obtain ⟨t2, a1, b1⟩ := kk T'.heap (locs ++ Ls) (hI.keep (by rw [e1]; exact hP1) (by rw [e1]; exact hz) (fun q h1 h2 => by rw [e1]; exact hk q h1 h2) hL) T' rfl X'
  exact ⟨t2, st t2 a1, b1⟩
theorem l_callV {y0 : MethodName} {bytes : ByteArray} {maxL nL n idx : Nat} {ret : Option FieldType} {rm : Room} {own C : String} {b0 : Nat} {As : List Value} {v : Option Value} (hx : p.tables.exec = Jvm.exec) (hb : c.code = cc) (hml : c.maxLocals = nL) (hown : s.vm.findClass own = some m.cls) (hI : lI w s H locs oL oD cL cD x y b L xs M)
    (hM : mMet l y0 bytes maxL ret rm w H.size M (.ref b0 :: As) v M1) (hcb : CallB R s args own idx y0 bytes maxL ret [Cond.code y0 bytes maxL ret] rm 0 0 n) (hin : (Cond.instanceMethod y0).before args s = true) (hse : (Cond.selects C y0 y0).before args s = true)
    (hrc : ∃ cell : Cell, H[b0]? = some cell ∧ cell.vm.isStatics = false ∧ s.vm.findClass C = some cell.cls) (hn : As.length = n) (hsize : ls.size = nL) (hW : (rest.map fun v => v.category).sum ≤ 8) (hdg : decode cc pc = .ok (.invokevirtual idx, 3)) (hf : cells ≤ R.cells ∧ slots ≤ R.slots)
    (kk : ∀ (H1 : Heap) (locs1 : List Loc), lI w s H1 locs1 oL oD cL cD x y b L xs M1 → W p l e R s m args below meth c H1 locs1 cells slots Q (F0 m (pc + 3) ls (v.toList ++ rest))) : W p l e R s m args below meth c H locs cells slots Q (F0 m pc ls (As.reverse ++ .ref b0 :: rest)) :=
  l_after (va_runV (g := F0 m pc ls (As.reverse ++ .ref b0 :: rest)) (Ts := []) (As := As) (rest := rest) ⟨hx, hb, hml, hown, fun _ h => nomatch h⟩ hM ⟨hcb, hin, hse⟩ ⟨mPre.blind, hrc, fun U hU hW => ⟨rfl, by rw [hU], hI.1.pre hU hW⟩⟩ rfl hn hsize rfl (lv_room hW) hdg ⟨hf.1, hf.2⟩) hI kk
/-- a helper that lays an answer down -/
theorem l_help {yh : MethodName} {bytes : ByteArray} {maxL nL n idx : Nat} {hh : List (Nat × Nat × Nat × Nat)} {rm : Room} {own : String} {As : List Value} {k : Int32} {x1 : Int64} (hx : p.tables.exec = Jvm.exec) (hb : c.code = cc) (hml : c.maxLocals = nL) (hown : s.vm.findClass own = some m.cls) (hI0 : lI w s H locs oL oD cL cD x y b L xs M)
    (hM : hMet l yh bytes maxL hh rm w H.size oL cL x M As k x1 M1 mc ms) (cw : vx_CSW R s args own idx yh bytes maxL (some .int) hh [Cond.codeWith yh bytes maxL (some .int) hh] rm mc ms n)
    (hn : As.length = n) (hsize : ls.size = nL) (hW : (rest.map fun v => v.category).sum ≤ 8) (hdg : decode cc pc = .ok (.invokestatic idx, 3)) (hf : cells + mc ≤ R.cells ∧ slots + ms ≤ R.slots)
    (kk : ∀ (H1 : Heap) (locs1 : List Loc), lI w s H1 locs1 oL oD cL cD x1 y b L xs M1 → W p l e R s m args below meth c H1 locs1 (cells + mc) (slots + ms) Q (F0 m (pc + 3) ls (.int k :: rest))) : W p l e R s m args below meth c H locs cells slots Q (F0 m pc ls (As.reverse ++ rest)) := by
  have hno := hI0.no
  obtain ⟨hm, hc, hd, hne, hLD, hge, har, hX, hbl⟩ := hI0
  have hsub : ∀ q, hA w H.size oL q → s.heap.size ≤ q := fun q hq => by
    rcases hq with h | h
    · exact hm.sub q h
    · rw [h]; exact hge.1
  have hpre : PreS s H (hPre w H.size oL cL x M As) As := ⟨hPre.blind, fun U hU hWU => ⟨rfl, by rw [hU], hC_lt hc, ⟨by rw [hU]; exact hm.P, hm.J, va_K.moved hWU.alike hm.K, hm.T.warm hWU, by rw [hU]; exact ((hm.St.kept (fun a h1 h2 => hm.S.2.1 a h1 h2)).moved hWU).narrow hsub⟩, by rw [hU]; exact hc, fun g i hg => (hne g i hg).1, arrOfT_moved hWU.alike har.1⟩⟩
  have hrun := vx_runSW (cells := cells) (slots := slots) (locs := locs) (R := R) (e := e) (below := below) (meth := meth) (g := F0 m pc ls (As.reverse ++ rest)) (Ts := []) (As := As) (rest := rest) ⟨hx, hb, hml, hown, fun _ h => nomatch h⟩ hM cw hpre rfl hn hsize rfl (lv_room hW) hdg hf
  intro T hT X
  obtain ⟨v1, st₀, t, T', Ls, h0, X', hL, e1, e2, ⟨hv, hP1, hc1, hz, hk⟩, st⟩ := hrun T hT X
  cases hv
  rw [h0] at hz hk
  have hS := hm.S
  obtain ⟨t2, a1, b1⟩ := kk T'.heap (locs ++ Ls) ⟨hm.next (by rw [e1]; exact hP1) ⟨Nat.le_trans hS.1 (by rw [e1]; exact hz), fun q h1 h2 => by rw [e1, hk q (Nat.lt_of_lt_of_le h1 hS.1) (fun z => h2 (hsub q z))]; exact hS.2.1 q h1 h2, fun q hq => by
      rcases List.mem_append.mp hq with h | h
      · exact hS.2.2 q h
      · exact hsub _ (hL q h)⟩, by rw [e1]; exact hc1, hd.kept (by rw [e1]; exact hk oD (dC_lt hd) (fun z => by rcases z with z | z; exact hno.2 z; exact hLD z.symm)), hne, hLD, hge, har, hX, hbl⟩ T' rfl X'
  exact ⟨t2, st t2 a1, b1⟩
end LROWS
section LROWSD
variable {p : Program} {l : Launch} {e : Env} {R : Room} {s : State} {m : MethodId} {args : Array Value} {below : List Frame} {meth : Method} {c : Code} {H : Heap} {locs : List Loc} {cells slots mc ms : Nat} {Q : State → Prop}
variable {cc : ByteArray} {pc : Nat} {ls : Array Slot} {rest : List Value} {w : WD} {M M1 : Mem} {oL oD b L : Nat} {xs : Nat → Int32} {cL cD : ClassId} {x : Int64} {y : UInt64}
/-- a helper that lays an answer down -/
theorem l_helpD {yh : MethodName} {bytes : ByteArray} {maxL nL n idx : Nat} {hh : List (Nat × Nat × Nat × Nat)} {rm : Room} {own : String} {As : List Value} {k : Int32} {y1 : UInt64} (hx : p.tables.exec = Jvm.exec) (hb : c.code = cc) (hml : c.maxLocals = nL) (hown : s.vm.findClass own = some m.cls) (hI0 : lI w s H locs oL oD cL cD x y b L xs M)
    (hM : dMet l yh bytes maxL hh rm w H.size oD cD y M As k y1 M1 mc ms) (cw : vx_CSW R s args own idx yh bytes maxL (some .int) hh [Cond.codeWith yh bytes maxL (some .int) hh] rm mc ms n)
    (hn : As.length = n) (hsize : ls.size = nL) (hW : (rest.map fun v => v.category).sum ≤ 8) (hdg : decode cc pc = .ok (.invokestatic idx, 3)) (hf : cells + mc ≤ R.cells ∧ slots + ms ≤ R.slots)
    (kk : ∀ (H1 : Heap) (locs1 : List Loc), lI w s H1 locs1 oL oD cL cD x y1 b L xs M1 → W p l e R s m args below meth c H1 locs1 (cells + mc) (slots + ms) Q (F0 m (pc + 3) ls (.int k :: rest))) : W p l e R s m args below meth c H locs cells slots Q (F0 m pc ls (As.reverse ++ rest)) := by
  have hno := hI0.no
  obtain ⟨hm, hc, hd, hne, hLD, hge, har, hX, hbl⟩ := hI0
  have hsub : ∀ q, hA w H.size oD q → s.heap.size ≤ q := fun q hq => by
    rcases hq with h | h
    · exact hm.sub q h
    · rw [h]; exact hge.2
  have hpre : PreS s H (dPre w H.size oD cD y M As) As := ⟨dPre.blind, fun U hU hWU => ⟨rfl, by rw [hU], dC_lt hd, ⟨by rw [hU]; exact hm.P, hm.J, va_K.moved hWU.alike hm.K, hm.T.warm hWU, by rw [hU]; exact ((hm.St.kept (fun a h1 h2 => hm.S.2.1 a h1 h2)).moved hWU).narrow hsub⟩, by rw [hU]; exact hd, fun g i hg => (hne g i hg).2, arrOfT_moved hWU.alike har.2⟩⟩
  have hrun := vx_runSW (cells := cells) (slots := slots) (locs := locs) (R := R) (e := e) (below := below) (meth := meth) (g := F0 m pc ls (As.reverse ++ rest)) (Ts := []) (As := As) (rest := rest) ⟨hx, hb, hml, hown, fun _ h => nomatch h⟩ hM cw hpre rfl hn hsize rfl (lv_room hW) hdg hf
  intro T hT X
  obtain ⟨v1, st₀, t, T', Ls, h0, X', hL, e1, e2, ⟨hv, hP1, hc1, hz, hk⟩, st⟩ := hrun T hT X
  cases hv
  rw [h0] at hz hk
  have hS := hm.S
  obtain ⟨t2, a1, b1⟩ := kk T'.heap (locs ++ Ls) ⟨hm.next (by rw [e1]; exact hP1) ⟨Nat.le_trans hS.1 (by rw [e1]; exact hz), fun q h1 h2 => by rw [e1, hk q (Nat.lt_of_lt_of_le h1 hS.1) (fun z => h2 (hsub q z))]; exact hS.2.1 q h1 h2, fun q hq => by
      rcases List.mem_append.mp hq with h | h
      · exact hS.2.2 q h
      · exact hsub _ (hL q h)⟩, hc.kept (by rw [e1]; exact hk oL (hC_lt hc) (fun z => by rcases z with z | z; exact hno.1 z; exact hLD z)), by rw [e1]; exact hc1, hne, hLD, hge, har, hX, hbl⟩ T' rfl X'
  exact ⟨t2, st t2 a1, b1⟩
end LROWSD
