/-! THE LAW'S TEXTS: builders and texts in the frame of does -/
def lf (L : List Nat) : Nat → Int32 := fun j => Int32.ofNat (L.getD j 0)
def okL (L : List Nat) : Prop := ∀ x ∈ L, x < 128
theorem okL.get {L : List Nat} (h : okL L) (j : Nat) : L.getD j 0 < 128 := by
  rw [List.getD_eq_getElem?_getD]
  cases hj : L[j]? with
  | none => exact (by decide)
  | some x => exact h x (List.mem_of_getElem? hj)
theorem lf_fit {L : List Nat} (h : okL L) (j : Nat) : fits .byte (.int (lf L j)) = true := by
  have h9 : ∀ x : Fin 128, fits .byte (.int (Int32.ofNat x.val)) = true := by decide +kernel
  exact h9 ⟨_, h.get j⟩
theorem lf_let {L : List Nat} (h : okL L) (j : Nat) : (((lf L j) &&& 255).toUInt32 % 65536).toInt32 = lf L j ∧ narrow .char (.int (lf L j)) = .int (lf L j) := by
  have h9 : ∀ x : Fin 128, (((Int32.ofNat x.val) &&& 255).toUInt32 % 65536).toInt32 = Int32.ofNat x.val ∧ narrow .char (.int (Int32.ofNat x.val)) = .int (Int32.ofNat x.val) := by decide +kernel
  exact h9 ⟨_, h.get j⟩
theorem lf_cat (L T : List Nat) : bCat (lf L) L.length T.length (lf T) = lf (L ++ T) := by
  funext k
  show (if L.length ≤ k ∧ k < L.length + T.length then Int32.ofNat (T.getD (k - L.length) 0) else Int32.ofNat (L.getD k 0)) = Int32.ofNat ((L ++ T).getD k 0)
  simp only [List.getD_eq_getElem?_getD]
  by_cases h1 : L.length ≤ k
  · rw [List.getElem?_append_right h1]
    by_cases h2 : k < L.length + T.length
    · rw [if_pos ⟨h1, h2⟩]
    · rw [if_neg (fun h => h2 h.2), List.getElem?_eq_none h1, List.getElem?_eq_none (by omega)]
  · rw [if_neg (fun h => h1 h.1), List.getElem?_append_left (by omega)]
theorem lf_dig (L : List Nat) (d : Nat) : bDig (lf L) L.length d = lf (L ++ [48 + d]) := by
  rw [← lf_cat]
  funext k
  show (if L.length ≤ k ∧ k < L.length + 1 then Int32.ofNat (48 + d) else lf L k) = (if L.length ≤ k ∧ k < L.length + 1 then Int32.ofNat ([48 + d].getD (k - L.length) 0) else lf L k)
  by_cases h : L.length ≤ k ∧ k < L.length + 1
  · rw [if_pos h, if_pos h, show k - L.length = 0 by omega]
    rfl
  · rw [if_neg h, if_neg h]
/-- the world in which a text is what a method may read -/
def wTxt (w : WD) (a v : Nat) (T : List Nat) : WD := (w.1, w.2.1, w.2.2.1, fun x => match x with
  | 1 => fun b => if b = 40 then a else w.2.2.2 1 b
  | 2 => fun b => if b = 40 then v else w.2.2.2 2 b
  | 4 => fun b => if b = 1 then 1 else if b = 2 then T.length else w.2.2.2 4 b
  | 6 => fun b => T.getD b 0
  | x => w.2.2.2 x)
theorem wTxt_mSt {w : WD} {a v : Nat} {T : List Nat} {A : Nat → Prop} {U : State} {H : Heap} (h : mSt w A U H) (hk : kS A U H a v T.length (lf T)) : mSt (wTxt w a v T) A U H := by
  obtain ⟨a1, b1, c1, d1, e1, f1, g1, h1, i1, j1, k1, l1, m1, n1, o1, x1, y1⟩ := h
  have t1 : ∀ i, i ≠ 40 → (wTxt w a v T).2.2.2 1 i = w.2.2.2 1 i := fun i hi => if_neg hi
  have t2 : ∀ i, i ≠ 40 → (wTxt w a v T).2.2.2 2 i = w.2.2.2 2 i := fun i hi => if_neg hi
  have h40 : ∀ k, k < 11 → mLt.getD k 0 ≠ 40 ∧ mFm.getD k 0 ≠ 40 := by decide
  have hcs : ∀ q ∈ mCs, q.2.2 ≠ 40 := by decide
  refine ⟨a1, b1, c1, d1, fun k hk => ?_, fun i hi => ?_, g1, fun q hq => ?_, i1, j1, k1, fun i hi => ?_, m1, n1, o1, fun _ => hk, y1⟩
  · rw [t1 _ (h40 k hk).1, t1 _ (h40 k hk).2]
    exact e1 k hk
  · have hi2 := hi.2
    rw [t1 _ (by omega), t2 _ (by omega)]
    exact f1 i hi
  · rw [t1 _ (hcs q hq)]
    exact h1 q hq
  · rw [t1 _ (by omega), t2 _ (by omega)]
    exact l1 i hi
theorem wTxt_kSx {w : WD} {a v : Nat} {T : List Nat} (hT : okL T) (hl : T.length ≤ 16) : kSx (wTxt w a v T) a v T.length (lf T) :=
  ⟨fun A U H h => h.2.2.2.2.2.2.2.2.2.2.2.2.2.2.2.1 rfl, by omega, fun j _ => lf_let hT j⟩
/-- in the frame of does: a builder made after H0, holding L -/
def dI (w : WD) (s : State) (H : Heap) (locs : List Loc) (z : BX) (L : List Nat) (M : Mem) (H0 : Heap) : Prop :=
  mI w s (mA w s.heap.size) H locs M ∧ bF w z L.length (lf L) s H ∧ (H0.size ≤ z.2.1 ∧ H0.size ≤ z.2.2.1) ∧ (s.heap.size ≤ H0.size ∧ H0.size ≤ H.size) ∧ (∀ q : Nat, q < H0.size → ¬ mA w H0.size q → H[q]? = H0[q]?) ∧ ∀ g i, mok g i → w.1 g i < H0.size
section DROWS
variable {p : Program} {l : Launch} {e : Env} {R : Room} {s : State} {m : MethodId} {args : Array Value} {below : List Frame} {meth : Method} {c : Code} {H H0 : Heap} {locs : List Loc} {cells slots : Nat} {Q : State → Prop}
variable {cc : ByteArray} {pc nL : Nat} {ls : Array Slot} {rest : List Value} {w : WD} {M : Mem} {z : BX} {L L1 : List Nat}
theorem dI.T (h : dI w s H locs z L M H0) : mT s := h.1.T
theorem dI.lt (h : dI w s H locs z L M H0) : z.2.1 < H.size ∧ z.2.2.1 < H.size := ⟨(h.2.1.1 0 _ rfl).lt, (h.2.1.1 1 _ rfl).lt⟩
theorem dI.sub (h : dI w s H locs z L M H0) : ∀ q, bA w H.size z q → mA w s.heap.size q := fun q hq => by
  have h3 := h.2.2.1
  have h4 := h.2.2.2.1
  rcases hq with h1 | h1 | h1
  · exact h.1.sub q h1
  · exact Or.inr (by omega)
  · exact Or.inr (by omega)
theorem dI.pre (h : dI w s H locs z L M H0) {U : State} (hU : U.heap = H) (hW : s.WarmedH U.vm) : bB w H.size z L.length (lf L) M U := by
  have hlt := h.lt
  have hsub := h.sub
  obtain ⟨hm, ⟨hP, hne, hd, hK⟩, -⟩ := h
  exact ⟨by rw [hU], hlt, ⟨by rw [hU]; exact hm.P, hm.J, va_K.moved hW.alike hm.K, hm.T.warm hW, by rw [hU]; exact ((hm.St.kept (fun a h1 h2 => hm.S.2.1 a h1 h2)).moved hW).narrow hsub⟩, by rw [hU]; exact hP, hne, hd, va_K.moved hW.alike hK⟩
theorem dI.preT (h : dI w s H locs z L M H0) {a v : Nat} {T : List Nat} (hk : kS (bA w H.size z) s H a v T.length (lf T)) {U : State} (hU : U.heap = H) (hW : s.WarmedH U.vm) : bB (wTxt w a v T) H.size z L.length (lf L) M U := by
  obtain ⟨h1, h2, ⟨h3, h4, h5, h6, h7⟩, h8⟩ := h.pre hU hW
  exact ⟨h1, h2, ⟨h3, h4, h5, h6, wTxt_mSt h7 (by rw [hU]; exact hk.moved hW.alike)⟩, h8⟩
theorem dI.recv (h : dI w s H locs z L M H0) : ∃ cell : Cell, H[z.2.1]? = some cell ∧ cell.vm.isStatics = false ∧ s.vm.findClass RJ4 = some cell.cls := va_recv h.2.1.2.2.2 h.2.1.1 (show bCl[0]? = some (RJ4, TJ4, 4) from rfl) (show (bW z L.length (lf L))[0]? = some (z.2.1, .inr (0, [.ref z.2.2.1, .int 0, .int 0, .int (Int32.ofNat L.length)])) from rfl)
theorem dI.next (h : dI w s H locs z L M H0) {H1 : Heap} {Ls : List Loc} (hP : mP w M H1) (hB : va_P z.1 bCl (bW z L1.length (lf L1)) H1) (hz : H.size ≤ H1.size) (hk : ∀ q : Nat, q < H.size → ¬ bA w H.size z q → H1[q]? = H[q]?) (hL : ∀ q ∈ Ls, bA w H.size z q.base) : dI w s H1 (locs ++ Ls) z L1 M H0 := by
  have hsub := h.sub
  obtain ⟨hm, ⟨-, hne, hd, hK⟩, h3, h4, h5, h6⟩ := h
  have hS := hm.S
  refine ⟨hm.next hP ⟨Nat.le_trans hS.1 hz, fun q h1 h2 => (hk q (Nat.lt_of_lt_of_le h1 hS.1) (fun z => h2 (hsub q z))).trans (hS.2.1 q h1 h2), fun q hq => ?_⟩, ⟨hB, hne, hd, hK⟩, h3, ⟨h4.1, by omega⟩, fun q h1 h2 => (hk q (by omega) ?_).trans (h5 q h1 h2), h6⟩
  · rcases List.mem_append.mp hq with h | h
    · exact hS.2.2 q h
    · exact hsub _ (hL q h)
  · rintro ((h | h) | h | h)
    · exact h2 (Or.inl h)
    · omega
    · omega
    · omega
theorem d_after {st0 : List Value} {ar : Array Value} (hr : va_Run p l e R s m args below meth c H locs cells slots 0 0 (F0 m pc ls st0) rest (bQ w H.size z (some (.ref z.2.1)) L1.length (lf L1) M ar) (bA w H.size z)) (hI : dI w s H locs z L M H0)
    (kk : ∀ (H1 : Heap) (locs1 : List Loc), dI w s H1 locs1 z L1 M H0 → W p l e R s m args below meth c H1 locs1 cells slots Q (F0 m (pc + 3) ls (.ref z.2.1 :: rest))) : W p l e R s m args below meth c H locs cells slots Q (F0 m pc ls st0) := by
  intro T hT X
  obtain ⟨v1, st₀, t, T', Ls, h0, X', hL, e1, e2, ⟨hv, hP1, hB1, hz, hk⟩, st⟩ := hr T hT X
  cases hv
  rw [h0] at hz hk
  obtain ⟨t2, a1, b1⟩ := kk T'.heap (locs ++ Ls) (hI.next (by rw [e1]; exact hP1) (by rw [e1]; exact hB1) (by rw [e1]; exact hz) (fun q h1 h2 => by rw [e1]; exact hk q h1 h2) hL) T' rfl X'
  exact ⟨t2, st t2 a1, b1⟩
/-- builder.append(text) -/
theorem d_appS (hx : p.tables.exec = Jvm.exec) (hb : c.code = cc) (hml : c.maxLocals = nL) (hown : s.vm.findClass "ShareVaultLaw" = some m.cls) (hI : dI w s H locs z L M H0) {a v : Nat} {T : List Nat} (hk : kS (bA w H.size z) s H a v T.length (lf T)) (hT : okL T) (hlen : L.length + T.length ≤ 15)
    (hsize : ls.size = nL) (hR1 : 8 ≤ R.frames) (hR2 : 300 ≤ R.locals) (hW : (rest.map fun v => v.category).sum ≤ 8) (hdg : decode cc pc = .ok (.invokevirtual 316, 3)) (hf : cells ≤ R.cells ∧ slots ≤ R.slots)
    (kk : ∀ (H1 : Heap) (locs1 : List Loc), dI w s H1 locs1 z (L ++ T) M H0 → W p l e R s m args below meth c H1 locs1 cells slots Q (F0 m (pc + 3) ls (.ref z.2.1 :: rest))) : W p l e R s m args below meth c H locs cells slots Q (F0 m pc ls (.ref a :: .ref z.2.1 :: rest)) := by
  have hrun := va_runV (p := p) (l := l) (e := e) (s := s) (m := m) (args := args) (c := c) (H := H) (R := R) (below := below) (meth := meth) (locs := locs) (cells := cells) (slots := slots) (C := RJ4) (g := F0 m pc ls (.ref a :: .ref z.2.1 :: rest)) (Ts := []) (As := [.ref a]) (rest := rest) ⟨hx, hb, hml, hown, fun _ h => nomatch h⟩ (c_sbAppS l (wTxt w a v T) H.size z L.length (lf L) M a v T.length (lf T) (wTxt_kSx hT (by omega)) (by omega) (fun j _ => lf_fit hT j)) ⟨m_callB (n := 1) hI.T kc_J4_append_15ec4 ki_J4_append_15ec4 (q999 (a := args) hI.T) (by decide +kernel) ⟨rfl, rfl, Nat.le_trans (Nat.le_of_ble_eq_true rfl) hR1, Nat.le_trans (Nat.le_of_ble_eq_true rfl) hR2⟩, q1000 hI.T, q1001 hI.T⟩ ⟨bPre.blind, hI.recv, fun U hU hW => ⟨rfl, hI.preT hk hU hW⟩⟩ rfl rfl hsize rfl (lv_room hW) hdg ⟨hf.1, hf.2⟩
  refine d_after (L1 := L ++ T) (ar := [Value.ref z.2.1, .ref a].toArray) ?_ hI kk
  rw [← lf_cat, List.length_append]
  exact hrun
/-- builder.append(int) -/
theorem d_appI (hx : p.tables.exec = Jvm.exec) (hb : c.code = cc) (hml : c.maxLocals = nL) (hown : s.vm.findClass "ShareVaultLaw" = some m.cls) (hI : dI w s H locs z L M H0) {x : Int32} (hd : 0 ≤ x ∧ x ≤ 9) (hlen : L.length + 1 ≤ 15)
    (hsize : ls.size = nL) (hR1 : 8 ≤ R.frames) (hR2 : 300 ≤ R.locals) (hW : (rest.map fun v => v.category).sum ≤ 8) (hdg : decode cc pc = .ok (.invokevirtual 320, 3)) (hf : cells ≤ R.cells ∧ slots ≤ R.slots)
    (kk : ∀ (H1 : Heap) (locs1 : List Loc), dI w s H1 locs1 z (L ++ [48 + x.toNatClampNeg]) M H0 → W p l e R s m args below meth c H1 locs1 cells slots Q (F0 m (pc + 3) ls (.ref z.2.1 :: rest))) : W p l e R s m args below meth c H locs cells slots Q (F0 m pc ls (.int x :: .ref z.2.1 :: rest)) := by
  obtain ⟨d, hd9, rfl⟩ : ∃ d : Nat, d ≤ 9 ∧ x = Int32.ofNat d := by
    have h1 : (0 : Int) ≤ x.toInt := Int32.le_iff_toInt_le.mp hd.1
    have h2 : x.toInt ≤ 9 := Int32.le_iff_toInt_le.mp hd.2
    refine ⟨x.toInt.toNat, by omega, ?_⟩
    apply Int32.toInt_inj.mp
    rw [Int32.toInt_ofNat_of_lt (by omega)]
    omega
  have hcl : (Int32.ofNat d).toNatClampNeg = d := nI_clamp (n := d) (by omega)
  rw [hcl] at kk
  have hrun := va_runV (p := p) (l := l) (e := e) (s := s) (m := m) (args := args) (c := c) (H := H) (R := R) (below := below) (meth := meth) (locs := locs) (cells := cells) (slots := slots) (C := RJ4) (g := F0 m pc ls (.int (Int32.ofNat d) :: .ref z.2.1 :: rest)) (Ts := []) (As := [.int (Int32.ofNat d)]) (rest := rest) ⟨hx, hb, hml, hown, fun _ h => nomatch h⟩ (c_sbAppI l w H.size z L.length (lf L) M d hd9 (by omega)) ⟨m_callB (n := 1) hI.T kc_J4_append_bf812 ki_J4_append_bf812 (q1115 (a := args) hI.T) (by decide +kernel) ⟨rfl, rfl, Nat.le_trans (Nat.le_of_ble_eq_true rfl) hR1, Nat.le_trans (Nat.le_of_ble_eq_true rfl) hR2⟩, q1116 hI.T, q1117 hI.T⟩ ⟨bPre.blind, hI.recv, fun U hU hW => ⟨rfl, hI.pre hU hW⟩⟩ rfl rfl hsize rfl (lv_room hW) hdg ⟨hf.1, hf.2⟩
  refine d_after (L1 := L ++ [48 + d]) (ar := [Value.ref z.2.1, .int (Int32.ofNat d)].toArray) ?_ hI kk
  rw [← lf_dig, List.length_append]
  exact hrun
/-- builder.toString() -/
theorem d_toS (hx : p.tables.exec = Jvm.exec) (hb : c.code = cc) (hml : c.maxLocals = nL) (hown : s.vm.findClass "ShareVaultLaw" = some m.cls) (hI : dI w s H locs z L M H0) (hT : okL L) (hlen : L.length ≤ 15)
    (hsize : ls.size = nL) (hR1 : 8 ≤ R.frames) (hR2 : 300 ≤ R.locals) (hW : (rest.map fun v => v.category).sum ≤ 8) (hdg : decode cc pc = .ok (.invokevirtual 327, 3)) (hf : cells + 2 ≤ R.cells ∧ slots + 20 ≤ R.slots)
    (kk : ∀ (H1 : Heap) (locs1 : List Loc) (a v : Nat), mI w s (mA w s.heap.size) H1 locs1 M → H0.size ≤ H1.size → (∀ q : Nat, q < H0.size → ¬ mA w H0.size q → H1[q]? = H0[q]?) → kS (fun q => q < H0.size ∨ H1.size ≤ q) s H1 a v L.length (lf L) → W p l e R s m args below meth c H1 locs1 (cells + 2) (slots + 20) Q (F0 m (pc + 3) ls (.ref a :: rest))) : W p l e R s m args below meth c H locs cells slots Q (F0 m pc ls (.ref z.2.1 :: rest)) := by
  have hrun := va_runV (p := p) (l := l) (e := e) (s := s) (m := m) (args := args) (c := c) (H := H) (R := R) (below := below) (meth := meth) (locs := locs) (cells := cells) (slots := slots) (C := RJ4) (g := F0 m pc ls (.ref z.2.1 :: rest)) (Ts := []) (As := []) (rest := rest) ⟨hx, hb, hml, hown, fun _ h => nomatch h⟩ (c_toStr l w H.size z L.length (lf L) M hlen (fun j _ => lf_fit hT j)) ⟨m_callB (n := 0) hI.T kc_J4_toString_0e30d ki_J4_toString_0e30d (q1142 (a := args) hI.T) (by decide +kernel) ⟨rfl, rfl, Nat.le_trans (Nat.le_of_ble_eq_true rfl) hR1, Nat.le_trans (Nat.le_of_ble_eq_true rfl) hR2⟩, q1143 hI.T, q1144 hI.T⟩ ⟨bPre.blind, hI.recv, fun U hU hW => ⟨rfl, hI.pre hU hW⟩⟩ rfl rfl hsize rfl (lv_room hW) hdg ⟨hf.1, hf.2⟩
  intro T hT X
  obtain ⟨v1, st₀, t, T', Ls, h0, X', hL, e1, e2, ⟨a, v, hv, haz, hvz, hP1, hB1, hks, hz, hk⟩, st⟩ := hrun T hT X
  cases hv
  rw [h0] at hz hk
  have hN := hI.next (L1 := L) (Ls := Ls) (H1 := T'.heap) (by rw [e1]; exact hP1) (by rw [e1]; exact hB1) (by rw [e1]; exact hz) (fun q h1 h2 => by rw [e1]; exact hk q h1 h2) hL
  have hks1 : kS (fun q => q < H0.size ∨ T'.heap.size ≤ q) s T'.heap a v L.length (lf L) := by
    have h4 := hI.2.2.2.1
    have h9 := kS.moved (u := t) (U := s) (by rw [← e2]; exact X'.warmed.alike.symm) hks
    rw [e1]
    exact h9.narrow fun q hq => by
      rcases hq with h | h
      · exact Or.inl (by omega)
      · exact Or.inr h
  obtain ⟨t2, a1, b1⟩ := kk T'.heap (locs ++ Ls) a v hN.1 hN.2.2.2.1.2 hN.2.2.2.2.1 hks1 T' rfl X'
  exact ⟨t2, st t2 a1, b1⟩
/-- new StringBuilder() -/
theorem d_new (hx : p.tables.exec = Jvm.exec) (hb : c.code = cc) (hml : c.maxLocals = nL) (hown : s.vm.findClass "ShareVaultLaw" = some m.cls) (hI : mI w s (mA w s.heap.size) H locs M)
    (hsize : ls.size = nL) (hR1 : 8 ≤ R.frames) (hR2 : 300 ≤ R.locals) (hW : (rest.map fun v => v.category).sum ≤ 7) (d0 : decode cc pc = .ok (.new 311, 3)) (d3 : decode cc (pc + 3) = .ok (.dup, 1)) (d4 : decode cc (pc + 4) = .ok (.invokespecial 313, 3)) (hf : cells + 2 ≤ R.cells ∧ slots + 20 ≤ R.slots)
    (kk : ∀ (H1 : Heap) (locs1 : List Loc) (z : BX), dI w s H1 locs1 z [] M H → W p l e R s m args below meth c H1 locs1 (cells + 2) (slots + 20) Q (F0 m (pc + 7) ls (.ref z.2.1 :: rest))) : W p l e R s m args below meth c H locs cells slots Q (F0 m pc ls rest) := by
  obtain ⟨cC, iS, hKn⟩ := u_known (args := args) (n := 4) (wsJ4 hI.T) (fun _ h => h) (q968 hI.T)
  let D : va_G := (fun _ => cC, fun _ => iS)
  have hKS1 : ∀ (k : Nat) (q : vw_C), bCl[k]? = some q → u_Kn s q.1 q.2.1 q.2.2 (D.1 k) (D.2 k) := fun k q hq => by
    rcases k with _ | k
    · cases hq
      exact hKn
    · cases hq
  have hKB : va_K D bCl [] s := ⟨hKS1, fun k q hk => nomatch hk⟩
  refine W.newcK (n := 4) hx hb hown (q967 hI.T) (q968 hI.T) (q23 hI.T) rfl d0 (by omega) (by omega) hKn.2.1 rfl fun H1 kC hkC e1 z1 o1 => ?_
  have hat : va_at D bCl (H.size, .inr (0, [.null, .int 0, .int 0, .int 0])) H1 := ⟨_, rfl, (u_born tyJ4 (wsJ4 (args := args) hI.T) (fun _ h => h) hKn hkC e1 tyJ4_ok).to fun j hj => by
    rcases j with _ | _ | _ | _ | j
    · rfl
    · rfl
    · rfl
    · rfl
    · exact absurd hj (by show ¬ j + 1 + 1 + 1 + 1 < 4; omega)⟩
  have hlt : ∀ (k : Nat) q, (mW w M)[k]? = some q → q.1 < H.size := fun k q hk => (hI.P k q hk).lt
  have hP1 : mP w M H1 := hI.P.kept fun k q hk => o1 q.1 (hlt k q hk)
  have hna : ∀ g i, mok g i → w.1 g i < H.size := fun g i hg => mP_lt hI.P hg
  have hS := hI.S
  refine W.eq (g2 := F0 m (pc + 3) ls (.ref H.size :: rest)) rfl ?_
  refine lv_dup hx hb d3 rfl ?_
  have hsub : ∀ q, nA w (H.size + 1) H.size q → mA w s.heap.size q := by
    rintro q ((⟨g, i, hg, h⟩ | h) | h)
    · exact Or.inl ⟨g, i, hg, h⟩
    · exact Or.inr (by have := hS.1; omega)
    · exact Or.inr (by have := hS.1; omega)
  have hpre : PreS s H1 (nPre w (H.size + 1) H.size D M [.ref H.size]) [.ref H.size] := ⟨nPre.blind, fun U hU hW => ⟨rfl, by rw [hU]; exact z1, by omega, ⟨by rw [hU]; exact hP1, hI.J, va_K.moved hW.alike hI.K, hI.T.warm hW, by rw [hU]; exact ((hI.St.kept (fun a h1 h2 => (o1 a (by have := hS.1; omega)).trans (hS.2.1 a h1 h2))).moved hW).narrow hsub⟩, by rw [hU]; exact hat, fun g i hg => Nat.ne_of_lt (hna g i hg), va_K.moved hW.alike hKB⟩⟩
  have hroom : 2 * (F0 m (pc + 4) ls (.ref H.size :: .ref H.size :: rest)).monitorRoom + ((Value.ref H.size :: rest).map fun v => v.category).sum ≤ 8 := by
    rw [List.map_cons, List.sum_cons]
    show 2 * 0 + (1 + _) ≤ 8
    omega
  have hrun := va_runI (p := p) (l := l) (e := e) (s := s) (m := m) (args := args) (c := c) (H := H1) (R := R) (below := below) (meth := meth) (locs := locs) (cells := cells + 1) (slots := slots + 4) (g := F0 m (pc + 4) ls (.ref H.size :: .ref H.size :: rest)) (Ts := []) (As := []) (rest := .ref H.size :: rest) ⟨hx, hb, hml, hown, fun _ h => nomatch h⟩ (c_sbInit l w (H.size + 1) H.size D M) ⟨m_callB (n := 0) hI.T kc_J4_init_da8c8 ki_J4_init_da8c8 (q969 (a := args) hI.T) (by decide +kernel) ⟨rfl, rfl, Nat.le_trans (Nat.le_of_ble_eq_true rfl) hR1, Nat.le_trans (Nat.le_of_ble_eq_true rfl) hR2⟩, rfl, q970 hI.T⟩ hpre rfl rfl hsize rfl hroom d4 ⟨by omega, by omega⟩
  intro T hT X
  obtain ⟨v1, st₀, t, T', Ls, h0, X', hL, e1', e2', ⟨hv, hP2, hz2, ⟨cB, hB, hKB2⟩, hz, hk⟩, st⟩ := hrun T hT X
  cases hv
  rw [h0] at hz hk
  have hK2 : va_K D bCl [(cB, .byte)] s := va_K.moved (u := t) (U := s) (by rw [← e2']; exact X'.warmed.alike.symm) hKB2
  have hd2 : H.size ≠ H.size + 1 := by omega
  have hnb : ∀ q : Nat, q < H.size → ¬ mA w H.size q → T'.heap[q]? = H[q]? := fun q h1 h2 => by
    rw [e1', hk q (by omega) (by
      rintro ((h | h) | h)
      · exact h2 (Or.inl h)
      · omega
      · omega), o1 q h1]
  have hD : dI w s T'.heap (locs ++ Ls) (D, H.size, H.size + 1, cB) [] M H := by
    refine ⟨hI.next (by rw [e1']; exact hP2) ⟨by rw [e1']; have := hS.1; omega, fun q h1 h2 => (hnb q (by have := hS.1; omega) (fun h => h2 (hI.sub q h))).trans (hS.2.1 q h1 h2), fun q hq => ?_⟩, ⟨by rw [e1']; exact hB, fun g i hg => ⟨Nat.ne_of_lt (hna g i hg), Nat.ne_of_lt (Nat.lt_succ_of_lt (hna g i hg))⟩, hd2, hK2⟩, ⟨Nat.le_refl _, Nat.le_succ _⟩, ⟨hS.1, by rw [e1']; omega⟩, hnb, hna⟩
    rcases List.mem_append.mp hq with h | h
    · exact hS.2.2 q h
    · exact hsub _ (hL q h)
  obtain ⟨t2, a1, b1⟩ := kk T'.heap (locs ++ Ls) _ hD T' rfl X'
  exact ⟨t2, st t2 a1, b1⟩
end DROWS
