/-! THE LAW'S BODY: the memory, the sums in an array of longs; its calls -/
def yC (cL : ClassId) (so : Nat) (f : Nat → Int64) (H : Heap) : Prop := H[so]? = some (vp_cell cL (70, .inr (.inl f)))
def rI (w : WD) (s : State) (H : Heap) (locs : List Loc) (so : Nat) (cL : ClassId) (N : MemY) : Prop :=
  mI w s (fun q => s.heap.size ≤ q) H locs N.1 ∧ yC cL so N.2 H ∧ (∀ g i, mok g i → w.1 g i ≠ so) ∧ s.heap.size ≤ so ∧ ArrOfT s cL .long
/-- the world in which the sums are what a method may read -/
def wSum (w : WD) (so : Nat) (f : Nat → Int64) : WD := (w.1, w.2.1, w.2.2.1, fun a => match a with
  | 3 => fun b => if b = 6 then so else w.2.2.2 3 b
  | 4 => fun b => if b = 3 then 1 else w.2.2.2 4 b
  | 7 => fun b => (f b).toBitVec.toNat
  | a => w.2.2.2 a)
theorem i64_nat (x : Int64) : Int64.ofNat x.toBitVec.toNat = x := by
  apply Int64.toBitVec_inj.mp
  show BitVec.ofNat 64 x.toBitVec.toNat = x.toBitVec
  simp
theorem wSum_mP {w : WD} {so : Nat} {f : Nat → Int64} {M : Mem} {H : Heap} : mP (wSum w so f) M H = mP w M H := rfl
theorem wSum_mA {w : WD} {so : Nat} {f : Nat → Int64} {sz : Nat} : mA (wSum w so f) sz = mA w sz := rfl
theorem wSum_mSt {w : WD} {so : Nat} {f : Nat → Int64} {A : Nat → Prop} {U : State} {H : Heap} (h : mSt w A U H) (hy : va_T .long so 70 (fun k => .long (f k)) A U H) : mSt (wSum w so f) A U H := by
  obtain ⟨a1, b1, c1, d1, e1, f1, g1, h1, i1, j1, k1, l1, m1, n1, o1, x1, y1⟩ := h
  refine ⟨a1, b1, c1, d1, e1, f1, g1, h1, i1, j1, k1, l1, m1, n1, o1, x1, fun _ => ?_⟩
  show va_T .long so 70 (fun k => .long (Int64.ofNat (f k).toBitVec.toNat)) A U H
  rw [show (fun k => Value.long (Int64.ofNat (f k).toBitVec.toNat)) = (fun k => Value.long (f k)) from funext fun k => by rw [i64_nat]]
  exact hy
theorem wSum_y {w : WD} {so : Nat} {f : Nat → Int64} {A : Nat → Prop} {U : State} {H : Heap} (h : mSt (wSum w so f) A U H) : va_T .long so 70 (fun k => .long (f k)) A U H := by
  have h1 : va_T .long so 70 (fun k => .long (Int64.ofNat (f k).toBitVec.toNat)) A U H := h.2.2.2.2.2.2.2.2.2.2.2.2.2.2.2.2 rfl
  rw [show (fun k => Value.long (Int64.ofNat (f k).toBitVec.toNat)) = (fun k => Value.long (f k)) from funext fun k => by rw [i64_nat]] at h1
  exact h1
section RROWS
variable {p : Program} {l : Launch} {e : Env} {R : Room} {s : State} {m : MethodId} {args : Array Value} {below : List Frame} {meth : Method} {c : Code} {H : Heap} {locs : List Loc} {cells slots mc ms : Nat} {Q : State → Prop}
variable {cc : ByteArray} {pc : Nat} {ls : Array Slot} {rest : List Value} {w : WD} {N N1 : MemY} {M1 : Mem} {so : Nat} {cL : ClassId}
theorem rI.T (h : rI w s H locs so cL N) : mT s := h.1.T
theorem rI.lt (h : rI w s H locs so cL N) : so < H.size := (Array.getElem?_eq_some_iff.mp (show H[so]? = some _ from h.2.1)).1
theorem rI.no (h : rI w s H locs so cL N) : ¬ mA w H.size so := by
  have hl := h.lt
  obtain ⟨-, -, hne, -⟩ := h
  rintro (⟨g, i, hg, q⟩ | q)
  · exact hne g i hg q.symm
  · exact Nat.not_le.mpr hl q
/-- behind a call that changes the memory alone -/
theorem rI.keep (h : rI w s H locs so cL N) {H1 : Heap} {Ls : List Loc} (hP : mP w M1 H1) (hz : H.size ≤ H1.size) (hk : ∀ q : Nat, q < H.size → ¬ mA w H.size q → H1[q]? = H[q]?) (hL : ∀ q ∈ Ls, mA w H.size q.base) : rI w s H1 (locs ++ Ls) so cL (M1, N.2) := by
  have hn := h.no
  have hl := h.lt
  obtain ⟨hm, hc, hne, hr⟩ := h
  have hS := hm.S
  refine ⟨hm.next hP ⟨Nat.le_trans hS.1 hz, fun q h1 h2 => (hk q (Nat.lt_of_lt_of_le h1 hS.1) (fun z => h2 (hm.sub q z))).trans (hS.2.1 q h1 h2), fun q hq => ?_⟩, (hk so hl hn).trans hc, hne, hr⟩
  rcases List.mem_append.mp hq with h | h
  · exact hS.2.2 q h
  · exact hm.sub _ (hL q h)
theorem r_after {st0 : List Value} {a : Array Value} {v : Option Value} (hr : va_Run p l e R s m args below meth c H locs cells slots mc ms (F0 m pc ls st0) rest (mQ w H.size v M1 a) (mA w H.size)) (hI : rI w s H locs so cL N)
    (kk : ∀ (H1 : Heap) (locs1 : List Loc), rI w s H1 locs1 so cL (M1, N.2) → W p l e R s m args below meth c H1 locs1 (cells + mc) (slots + ms) Q (F0 m (pc + 3) ls (v.toList ++ rest))) : W p l e R s m args below meth c H locs cells slots Q (F0 m pc ls st0) := by
  intro T hT X
  obtain ⟨v1, st₀, t, T', Ls, h0, X', hL, e1, e2, ⟨hv, hP1, hz, hk⟩, st⟩ := hr T hT X
  cases hv
  rw [h0] at hz hk
  obtain ⟨t2, a1, b1⟩ := kk T'.heap (locs ++ Ls) (hI.keep (by rw [e1]; exact hP1) (by rw [e1]; exact hz) (fun q h1 h2 => by rw [e1]; exact hk q h1 h2) hL) T' rfl X'
  exact ⟨t2, st t2 a1, b1⟩
theorem r_callV {y0 : MethodName} {bytes : ByteArray} {maxL nL n idx : Nat} {ret : Option FieldType} {rm : Room} {own C : String} {b0 : Nat} {As : List Value} {v : Option Value} (hx : p.tables.exec = Jvm.exec) (hb : c.code = cc) (hml : c.maxLocals = nL) (hown : s.vm.findClass own = some m.cls) (hI : rI w s H locs so cL N)
    (hM : mMet l y0 bytes maxL ret rm w H.size N.1 (.ref b0 :: As) v M1) (hcb : CallB R s args own idx y0 bytes maxL ret [Cond.code y0 bytes maxL ret] rm 0 0 n) (hin : (Cond.instanceMethod y0).before args s = true) (hse : (Cond.selects C y0 y0).before args s = true)
    (hrc : ∃ cell : Cell, H[b0]? = some cell ∧ cell.vm.isStatics = false ∧ s.vm.findClass C = some cell.cls) (hn : As.length = n) (hsize : ls.size = nL) (hW : (rest.map fun v => v.category).sum ≤ 8) (hdg : decode cc pc = .ok (.invokevirtual idx, 3)) (hf : cells ≤ R.cells ∧ slots ≤ R.slots)
    (kk : ∀ (H1 : Heap) (locs1 : List Loc), rI w s H1 locs1 so cL (M1, N.2) → W p l e R s m args below meth c H1 locs1 cells slots Q (F0 m (pc + 3) ls (v.toList ++ rest))) : W p l e R s m args below meth c H locs cells slots Q (F0 m pc ls (As.reverse ++ .ref b0 :: rest)) :=
  r_after (va_runV (g := F0 m pc ls (As.reverse ++ .ref b0 :: rest)) (Ts := []) (As := As) (rest := rest) ⟨hx, hb, hml, hown, fun _ h => nomatch h⟩ hM ⟨hcb, hin, hse⟩ ⟨mPre.blind, hrc, fun U hU hW => ⟨rfl, by rw [hU], hI.1.pre hU hW⟩⟩ rfl hn hsize rfl (lv_room hW) hdg ⟨hf.1, hf.2⟩) hI kk
theorem r_callS {y : MethodName} {bytes : ByteArray} {maxL nL n idx : Nat} {ret : Option FieldType} {rm : Room} {own : String} {As : List Value} {v : Option Value} (hx : p.tables.exec = Jvm.exec) (hb : c.code = cc) (hml : c.maxLocals = nL) (hown : s.vm.findClass own = some m.cls) (hI : rI w s H locs so cL N)
    (hM : kMet l y [Cond.code y bytes maxL ret] rm w H.size N.1 As v M1 mc ms) (hcb : CallB R s args own idx y bytes maxL ret [Cond.code y bytes maxL ret] rm mc ms n) (hst : (Cond.static y).before args s = true)
    (hn : As.length = n) (hsize : ls.size = nL) (hW : (rest.map fun v => v.category).sum ≤ 8) (hdg : decode cc pc = .ok (.invokestatic idx, 3)) (hf : cells + mc ≤ R.cells ∧ slots + ms ≤ R.slots)
    (kk : ∀ (H1 : Heap) (locs1 : List Loc), rI w s H1 locs1 so cL (M1, N.2) → W p l e R s m args below meth c H1 locs1 (cells + mc) (slots + ms) Q (F0 m (pc + 3) ls (v.toList ++ rest))) : W p l e R s m args below meth c H locs cells slots Q (F0 m pc ls (As.reverse ++ rest)) :=
  r_after (va_runS (g := F0 m pc ls (As.reverse ++ rest)) (Ts := []) (As := As) (rest := rest) ⟨hx, hb, hml, hown, fun _ h => nomatch h⟩ hM ⟨hcb, hst⟩ ⟨mPre.blind, fun U hU hW => ⟨rfl, by rw [hU], hI.1.pre hU hW⟩⟩ rfl hn hsize rfl (lv_room hW) hdg ⟨hf.1, hf.2⟩) hI kk
theorem r_callH {y : MethodName} {bytes : ByteArray} {maxL nL n idx : Nat} {ret : Option FieldType} {hh : List (Nat × Nat × Nat × Nat)} {rm : Room} {own : String} {As : List Value} {v : Option Value} (hx : p.tables.exec = Jvm.exec) (hb : c.code = cc) (hml : c.maxLocals = nL) (hown : s.vm.findClass own = some m.cls) (hI : rI w s H locs so cL N)
    (hM : kMet l y [Cond.codeWith y bytes maxL ret hh] rm w H.size N.1 As v M1 mc ms) (cw : vx_CSW R s args own idx y bytes maxL ret hh [Cond.codeWith y bytes maxL ret hh] rm mc ms n)
    (hn : As.length = n) (hsize : ls.size = nL) (hW : (rest.map fun v => v.category).sum ≤ 8) (hdg : decode cc pc = .ok (.invokestatic idx, 3)) (hf : cells + mc ≤ R.cells ∧ slots + ms ≤ R.slots)
    (kk : ∀ (H1 : Heap) (locs1 : List Loc), rI w s H1 locs1 so cL (M1, N.2) → W p l e R s m args below meth c H1 locs1 (cells + mc) (slots + ms) Q (F0 m (pc + 3) ls (v.toList ++ rest))) : W p l e R s m args below meth c H locs cells slots Q (F0 m pc ls (As.reverse ++ rest)) :=
  r_after (vx_runSW (cells := cells) (slots := slots) (locs := locs) (R := R) (e := e) (below := below) (meth := meth) (g := F0 m pc ls (As.reverse ++ rest)) (Ts := []) (As := As) (rest := rest) ⟨hx, hb, hml, hown, fun _ h => nomatch h⟩ hM cw ⟨mPre.blind, fun U hU hW => ⟨rfl, by rw [hU], hI.1.pre hU hW⟩⟩ rfl hn hsize rfl (lv_room hW) hdg hf) hI kk
/-- a sum is laid down -/
theorem r_last (hx : p.tables.exec = Jvm.exec) (hb : c.code = cc) (hI : rI w s H locs so cL N) {j : Int32} {x : Int64} (hin : vp_in j 70) (eN : N1 = (N.1, updL N.2 j.toNatClampNeg x)) (hdg : decode cc pc = .ok (.lastore, 1))
    (kk : ∀ (H1 : Heap) (locs1 : List Loc), rI w s H1 locs1 so cL N1 → W p l e R s m args below meth c H1 locs1 cells slots Q (F0 m (pc + 1) ls rest)) : W p l e R s m args below meth c H locs cells slots Q (F0 m pc ls (.long x :: .int j :: .ref so :: rest)) := by
  subst eN
  have hn := hI.no
  obtain ⟨hm, hc, hne, hge, har⟩ := hI
  have hA : H[so]? = some (arrV cL 70 (fun j => .long (N.2 j))) := by
    have h : H[so]? = some (vp_cell cL (70, .inr (.inl N.2))) := hc
    rw [vp_cell_l] at h
    exact h
  refine W.last hx hb hA (har 70 (fun j => .long (N.2 j))) (by intro q; cases q) (by show ¬ (j < 0 ∨ (arrV _ _ _).slots.size ≤ _); rw [arrV_size]; exact hin) rfl rfl hdg fun H1 e1 z oq => ?_
  refine kk H1 _ ⟨hm.next (hm.P.kept fun k q hk => oq q.1 ?_) (hm.S.put z oq hge), ?_, hne, hge, har⟩
  · obtain ⟨g, hg, rfl⟩ := mW_of hk
    exact hne g.1 g.2 (List.mem_of_getElem? hg)
  · show H1[so]? = some (vp_cell _ _)
    rw [e1]
    rw [vp_cell_l]
    show some ((arrV _ _ _).setSlot _ _) = _
    rw [arrV_store]
    exact congrArg some (arrV_congr _ _ fun i hi => by
      show (if i = j.toNatClampNeg then Value.long x else Value.long (N.2 i)) = Value.long (updL N.2 j.toNatClampNeg x i)
      unfold updL
      split <;> rfl)
/-- the last look: the sums are read -/
theorem r_kept {nL idx : Nat} {own : String} {r a3 : Int32} (hx : p.tables.exec = Jvm.exec) (hb : c.code = cc) (hml : c.maxLocals = nL) (hown : s.vm.findClass own = some m.cls) (hsf : l.stackTraces = false) (hI : rI w s H locs so cL N) (hf : f_L_isKept N.2 a3 N.1 = some (r, M1))
    (hlink : (Cond.methodLink own idx yL_isKept).before args s = true) (hst : (Cond.static yL_isKept).before args s = true) (h1 : rmL_isKept.frames + 1 ≤ R.frames) (h2 : 8 + (6 + 11) + rmL_isKept.locals ≤ R.locals)
    (hsize : ls.size = nL) (hW : (rest.map fun v => v.category).sum ≤ 8) (hdg : decode cc pc = .ok (.invokestatic idx, 3)) (hcs : cells + 1212 ≤ R.cells ∧ slots + 7272 ≤ R.slots)
    (kk : ∀ (H1 : Heap) (locs1 : List Loc), rI w s H1 locs1 so cL (M1, N.2) → W p l e R s m args below meth c H1 locs1 (cells + 1212) (slots + 7272) Q (F0 m (pc + 3) ls (.int r :: rest))) : W p l e R s m args below meth c H locs cells slots Q (F0 m pc ls (.int a3 :: .ref so :: .ref (w.1 12 16) :: rest)) := by
  have hn := hI.no
  have hM := c_L_isKept l (wSum w so N.2) hsf H.size so N.2 (fun A U H h => wSum_y h) a3 N.1 r M1 hf
  have hpre : PreS s H (mPre (wSum w so N.2) H.size N.1 [.ref (w.1 12 16), .ref so, .int a3]) [.ref (w.1 12 16), .ref so, .int a3] := ⟨mPre.blind, fun U hU hWU => ⟨rfl, by rw [hU], by
    obtain ⟨g1, g2, g3, g4, g5⟩ := hI.1.pre hU hWU
    refine ⟨g1, g2, g3, g4, wSum_mSt g5 ?_⟩
    refine ⟨vp_cell cL (70, .inr (.inl N.2)), ?_, ?_, ?_, ?_, ?_, ?_, ?_⟩
    · rw [hU]; exact hI.2.1
    · exact State.isArrayOf_alike hWU.alike (hI.2.2.2.2 70 (fun j => .long (N.2 j)))
    · rw [vp_cell_l]; intro q; cases q
    · rw [vp_cell_l, arrV_size]; exact Nat.le_refl _
    · rw [vp_cell_l, arrV_size]
    · intro j hj
      rw [vp_cell_l, arrV_read _ _ hj]
    · rw [hU]; exact hn⟩⟩
  exact r_after (w := w) (mc := 1212) (ms := 7272) (va_runS (g := F0 m pc ls (.int a3 :: .ref so :: .ref (w.1 12 16) :: rest)) (Ts := []) (As := [.ref (w.1 12 16), .ref so, .int a3]) (rest := rest) ⟨hx, hb, hml, hown, fun _ h => nomatch h⟩ hM ⟨kb_L_isKept hI.T hlink h1 h2, hst⟩ hpre rfl rfl hsize rfl (lv_room hW) hdg ⟨hcs.1, hcs.2⟩) hI kk
end RROWS
