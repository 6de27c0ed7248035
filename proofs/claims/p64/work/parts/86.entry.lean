/-! THE LAW'S ENTRY: what is made at its own frame-/
def eI (w : WD) (s : State) (H : Heap) (locs : List Loc) (ws : va_W) (n : Nat) : Prop :=
  va_K w.2.1 mCl (mTys w) s ∧ gT s ∧ va_P w.2.1 mCl ws H ∧ (∀ q ∈ ws, s.heap.size ≤ q.1) ∧ va_S (fun q => s.heap.size ≤ q) s.heap H locs ∧ H.size = s.heap.size + n
theorem eI.K {w : WD} {s : State} {H : Heap} {locs : List Loc} {ws : va_W} {n : Nat} (h : eI w s H locs ws n) : va_K w.2.1 mCl (mTys w) s := h.1
theorem eI.T {w : WD} {s : State} {H : Heap} {locs : List Loc} {ws : va_W} {n : Nat} (h : eI w s H locs ws n) : mT s := h.2.1.1
theorem eI.T0 {w : WD} {s : State} {H : Heap} {locs : List Loc} {ws : va_W} {n : Nat} (h : eI w s H locs ws n) : gT s := h.2.1
theorem eI.sz {w : WD} {s : State} {H : Heap} {locs : List Loc} {ws : va_W} {n : Nat} (h : eI w s H locs ws n) : H.size = s.heap.size + n := h.2.2.2.2.2
theorem eI.grow {w : WD} {s : State} {H H1 : Heap} {locs locs1 : List Loc} {ws ws2 : va_W} {n n1 : Nat} (h : eI w s H locs ws n) (hn : n ≤ n1) (z : H1.size = s.heap.size + n1) (o : ∀ q : Nat, q < s.heap.size + n → H1[q]? = H[q]?) (hP : va_P w.2.1 mCl ws2 H1) (hg : ∀ q ∈ ws2, s.heap.size ≤ q.1) (hL : ∀ l ∈ locs1, s.heap.size ≤ l.base) : eI w s H1 locs1 (ws ++ ws2) n1 := by
  obtain ⟨hK, hT, hP0, hg0, hS, hsz⟩ := h
  refine ⟨hK, hT, (hP0.kept fun k q hk => o q.1 (by rw [← hsz]; exact (hP0 k q hk).lt)).app hP, fun q hq => ?_, ⟨by omega, fun q h1 h2 => (o q (by omega)).trans (hS.2.1 q h1 h2), hL⟩, z⟩
  rcases List.mem_append.mp hq with h | h
  · exact hg0 q h
  · exact hg q h
section ENTRY
variable {p : Program} {l : Launch} {e : Env} {R : Room} {s : State} {m : MethodId} {args : Array Value} {below : List Frame} {meth : Method} {c : Code} {H : Heap} {locs : List Loc} {cells slots : Nat} {Q : State → Prop}
variable {cc : ByteArray} {pc : Nat} {ls : Array Slot} {rest : List Value} {w : WD} {n : Nat} {ws : va_W}
/-- 'new C; dup; invokespecial C.<init>' -/
theorem e_make (hx : p.tables.exec = Jvm.exec) (hb : c.code = cc) {nL : Nat} (hml : c.maxLocals = nL) (hI : eI w s H locs ws n) {own C host : String} (hown : s.vm.findClass own = some m.cls) {T : u_T} {N ci ik idx maxL n1 ms1 : Nat} {y : MethodName} {bytes : ByteArray} {rm : Room} {fs : List Value} {ws1 : va_W} (hc : mCl[ci]? = some (C, T, N)) (hly : ∀ w ∈ u_ws C T N, w ∈ lw_tbl ∧ mgood w = true)
    (ty0 : Nat → FieldType) (hty : ∀ k, k < N → parseFieldDescriptor (T k).2.2.1 = some (ty0 k)) (hcl : (Cond.classLink own ik C).before args s = true) (hinst : (Cond.instantiable C N).before args s = true) (hini : (Cond.initialized C).before args s = true) (hfs : ∀ j, j < N → defaultValue (ty0 j) = vp_V fs j)
    (hM : gMet l y bytes maxL rm w (s.heap.size + n + 1) (s.heap.size + n) (.inr (ci, fs)) ws1 n1 ms1) (hg1 : ∀ q ∈ ws1, s.heap.size + n ≤ q.1)
    (hcb : CallB R s args own idx y bytes maxL none [Cond.code y bytes maxL none] rm n1 ms1 0 ∨ va_CN R s args own idx y host bytes maxL none [Cond.code y bytes maxL none] rm n1 ms1 0) (hyn : y.name = "<init>") (hyi : (Cond.instanceMethod y).before args s = true)
    (hsize : ls.size = nL) (hW : (rest.map fun v => v.category).sum ≤ 7) (hcells : cells + 1 + n1 ≤ R.cells) (hslots : slots + N + ms1 ≤ R.slots) (d0 : decode cc pc = .ok (.new ik, 3)) (d3 : decode cc (pc + 3) = .ok (.dup, 1)) (d4 : decode cc (pc + 4) = .ok (.invokespecial idx, 3))
    (kk : ∀ (H1 : Heap) (locs1 : List Loc), eI w s H1 locs1 (ws ++ ws1) (n + 1 + n1) → W p l e R s m args below meth c H1 locs1 (cells + 1 + n1) (slots + N + ms1) Q (F0 m (pc + 7) ls (.ref (s.heap.size + n) :: rest))) : W p l e R s m args below meth c H locs cells slots Q (F0 m pc ls rest) := by
  have hKn := hI.K.1 ci _ hc
  have hts : ∀ w ∈ u_ws C T N, w.before args s = true := fun w hw => hI.T w (hly w hw).1 (hly w hw).2 args
  refine W.newcK hx hb hown hcl hinst hini rfl d0 (by omega) (by omega) hKn.2.1 hI.sz fun H1 kC hkC e1 z1 o1 => ?_
  have hborn : va_at w.2.1 mCl (s.heap.size + n, .inr (ci, fs)) H1 := ⟨_, hc, (u_born ty0 hts (fun _ h => h) hKn hkC e1 hty).to hfs⟩
  refine W.eq (g2 := F0 m (pc + 3) ls (.ref (s.heap.size + n) :: rest)) rfl ?_
  refine lv_dup hx hb d3 rfl ?_
  have hpre : PreS s H1 (gPre w (s.heap.size + n + 1) (s.heap.size + n) (.inr (ci, fs))) [.ref (s.heap.size + n)] :=
    ⟨gPre.blind, fun U hU hWU => ⟨rfl, by rw [hU]; exact z1, by omega, by rw [hU]; exact hborn, va_K.moved hWU.alike hI.K, hI.T0.warm hWU⟩⟩
  have hrun : va_Run p l e R s m args below meth c H1 locs (cells + 1) (slots + N) n1 ms1 (F0 m (pc + 4) ls (.ref (s.heap.size + n) :: .ref (s.heap.size + n) :: rest)) (.ref (s.heap.size + n) :: rest) (gQ w (s.heap.size + n + 1) (s.heap.size + n) ws1 n1 [.ref (s.heap.size + n)].toArray) (gA (s.heap.size + n) (s.heap.size + n + 1)) := by
    have hroom : 2 * (F0 m (pc + 4) ls (.ref (s.heap.size + n) :: .ref (s.heap.size + n) :: rest)).monitorRoom + ((Value.ref (s.heap.size + n) :: rest).map fun v => v.category).sum ≤ 8 := by
      rw [List.map_cons, List.sum_cons]
      show 2 * 0 + (1 + _) ≤ 8
      omega
    rcases hcb with hcb | hcb
    · exact va_runI (Ts := []) (As := []) (rest := .ref (s.heap.size + n) :: rest) ⟨hx, hb, hml, hown, fun _ h => nomatch h⟩ hM ⟨hcb, hyn, hyi⟩ hpre rfl rfl hsize rfl hroom d4 ⟨hcells, hslots⟩
    · exact va_runIN (Ts := []) (As := []) (rest := .ref (s.heap.size + n) :: rest) ⟨hx, hb, hml, hown, fun _ h => nomatch h⟩ hM ⟨hcb, hyn, hyi⟩ hpre rfl rfl hsize rfl hroom d4 ⟨hcells, hslots⟩
  intro T0 hT0 X
  obtain ⟨v1, st₀, t, T', L, h0, X', hL, e1', e2', ⟨hv, hsz1, hP1, hz, hkeep⟩, st⟩ := hrun T0 hT0 X
  cases hv
  rw [h0] at hz hkeep
  have hS := hI.2.2.2.2.1
  have hgrow : eI w s T'.heap (locs ++ L) (ws ++ ws1) (n + 1 + n1) := by
    refine hI.grow (by omega) (by rw [e1', hsz1]; omega) (fun q hq => ?_) (by rw [e1']; exact hP1) (fun q hq => Nat.le_trans (Nat.le_add_right _ _) (hg1 q hq)) (fun q hq => ?_)
    · rw [e1', hkeep q (by omega) (fun h => by rcases h with h | h <;> omega)]
      exact o1 q hq
    · rcases List.mem_append.mp hq with h | h
      · exact hS.2.2 q h
      · rcases hL q h with h9 | h9
        · show s.heap.size ≤ _; omega
        · show s.heap.size ≤ _; omega
  obtain ⟨t2, a1, b1⟩ := kk T'.heap (locs ++ L) hgrow T' rfl X'
  exact ⟨t2, st t2 a1, b1⟩
/-- an array of a primitive type whose class the world does not know yet-/
theorem e_newa (hx : p.tables.exec = Jvm.exec) (hb : c.code = cc) (hI : eI w s H locs ws n) {atype : ArrayType} {ty : FieldType} {N : Nat} {k : Int32} {a0 : vp_A} (hty : newarray.typeOf atype = ty) (harr : (Cond.arrayClass ty).before args s = true) (ha : ∀ cA : ClassId, vp_cell cA a0 = arrV cA N (fun _ => defaultValue ty))
    (hk : ¬ k < 0) (hN : k.toNatClampNeg = N) (hbytes : N * componentBytes ty ≤ 536870912) (hcells : cells + 1 ≤ R.cells) (hslots : slots + N ≤ R.slots) (hdg : decode cc pc = .ok (.newarray atype, 2))
    (kk : ∀ (H1 : Heap) (cA : ClassId), ArrOfT s cA ty → eI w s H1 locs (ws ++ [(s.heap.size + n, .inl (cA, a0))]) (n + 1) → W p l e R s m args below meth c H1 locs (cells + 1) (slots + N) Q (F0 m (pc + 2) ls (.ref (s.heap.size + n) :: rest))) : W p l e R s m args below meth c H locs cells slots Q (F0 m pc ls (.int k :: rest)) := by
  subst hty
  refine va_newaK hx hb harr rfl hdg rfl hk hN hbytes hcells hslots hI.sz fun H1 cA e1 z1 o1 hAr hNm => ?_
  refine kk H1 cA hAr (hI.grow (Nat.le_succ n) z1 o1 (va_P1 ?_) (fun q hq => ?_) hI.2.2.2.2.1.2.2)
  · show H1[s.heap.size + n]? = some (vp_cell _ _)
    rw [ha, e1]
  · rw [List.mem_singleton.mp hq]
    exact Nat.le_add_right _ _
end ENTRY
set_option maxRecDepth 100000 in
/-- from the law's entry to the head of its loops -/
theorem l_entry {p : Program} {l : Launch} {e : Env} {R : Room} {s : State} {m : MethodId} {args : Array Value} {below : List Frame} {meth : Method} {c : Code} {Q : State → Prop} {ls : Array Slot} {w : WD} {w2 : va_G × ((Nat → ClassId) × (Nat → Nat → Nat))} {b : Nat} (hx : p.tables.exec = Jvm.exec) (hb : c.code = cL_law) (hml : c.maxLocals = 33) (hown : s.vm.findClass "ShareVaultLaw" = some m.cls) (hR : 13 ≤ R.frames ∧ 385 ≤ R.locals ∧ 300 ≤ R.cells ∧ 4000 ≤ R.slots)
    (hw : w = (lay s.heap.size (s.heap.size + 1) (s.heap.size + 300) (s.heap.size + 301), w2)) (hK : va_K w.2.1 mCl (mTys w) s) (hT : gT s) (hSt : mSt w (fun q => s.heap.size ≤ q) s s.heap) (hl : lv_has ls 33 [(0, .ref b)])
    (kk : ∀ (H : Heap) (locs : List Loc) (ls : Array Slot) (cL : ClassId), rI w s H locs (s.heap.size + 213) cL (mFresh, fun _ => 0) → lv_has ls 33 [(0, .ref b), (1, .ref (w.1 12 16)), (2, .ref (s.heap.size + 213))] → W p l e R s m args below meth c H locs 214 1703 Q (F0 m 13 ls [])) : W p l e R s m args below meth c s.heap [] 0 0 Q (F0 m 0 ls []) := by
  have hI : eI w s s.heap [] [] 0 := ⟨hK, hT, fun k q h => (nomatch h), fun q h => (nomatch h), va_S.rf, rfl⟩
  refine e_make (host := "ShareVault") (T := TX11) (N := 12) (ci := 9) (fs := [.null, .null, .null, .int 0, .null, .null, .null, .null, .int 0, .int 0, .int 0, .int 0]) hx hb hml hI hown rfl lyX11 tyX11 tyX11_ok (q34 hI.T) (q35 hI.T) (q1 hI.T) df_X11 (gc_X11 l w _ _) (ge_X11 w _ _ (Nat.le_succ _)) (Or.inl (m_callB (n := 0) hI.T kc_X11_init (tin1 (List.mem_of_getElem? (l := tables_1_1) (i := 1) rfl)) (q36 hI.T) (by decide +kernel) ⟨rfl, rfl, Nat.le_trans (Nat.le_of_ble_eq_true rfl) hR.1, Nat.le_trans (Nat.le_of_ble_eq_true rfl) hR.2.1⟩)) rfl (q37 hI.T) hl.1 (Nat.le_of_ble_eq_true rfl) (Nat.le_trans (Nat.le_of_ble_eq_true rfl) hR.2.2.1) (Nat.le_trans (Nat.le_of_ble_eq_true rfl) hR.2.2.2) dL_law_0 dL_law_3 dL_law_4 (fun H locs hI => ?_)
  refine lv_astore_n (lv' := [(1, .ref s.heap.size), (0, .ref b)]) hx hb dL_law_7 rfl hl (by decide) rfl (fun ls hl => ?_)
  refine lv_bipush (v := 70) hx hb dL_law_8 (by decide) ?_
  refine e_newa (atype := .long) (ty := .long) (N := 70) (a0 := (70, .inr (.inl fun _ => 0))) hx hb hI rfl (q1610 hI.T) (fun _ => rfl) (by decide) (by decide) (by decide) (Nat.le_trans (Nat.le_of_ble_eq_true rfl) hR.2.2.1) (Nat.le_trans (Nat.le_of_ble_eq_true rfl) hR.2.2.2) dL_law_10 (fun H cL har hI => ?_)
  refine lv_astore_n (lv' := [(2, .ref (s.heap.size + 213)), (1, .ref s.heap.size), (0, .ref b)]) hx hb dL_law_12 rfl hl (by decide) rfl (fun ls hl => ?_)
  obtain ⟨-, -, hP, -, hS, -⟩ := hI
  obtain ⟨hP, hPL⟩ := hP.spl
  obtain ⟨-, hPV⟩ := hP.spl
  subst hw
  have hge : ∀ g i, mok g i → s.heap.size ≤ lay s.heap.size (s.heap.size + 1) (s.heap.size + 300) (s.heap.size + 301) g i := fun g i hg => (lay_ge (by omega) (by omega) (by omega) hg).1
  refine kk H locs ls cL ⟨⟨lay_mP w2 hPV, lay_mJ w2 (by omega) (by omega) (by omega), hK, hT.1, hSt, hS, fun q hq => hq, fun g i hg => hge g i hg⟩, hPL 0 _ rfl, fun g i hg h => ?_, Nat.le_add_right _ _, har⟩ (lv_sub hl [2, 1, 0] rfl)
  have h : lay s.heap.size (s.heap.size + 1) (s.heap.size + 300) (s.heap.size + 301) g i = s.heap.size + 213 := h
  rcases lay_is (a := s.heap.size) (z := s.heap.size + 1) (b := s.heap.size + 300) (y := s.heap.size + 301) hg with ⟨-, -, x3⟩ | ⟨-, -, x3⟩ | ⟨-, -, -, x3⟩ | ⟨o, x1, x3, -⟩
  · omega
  · omega
  · omega
  · omega
