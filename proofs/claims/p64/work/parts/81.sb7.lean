/-! StringBuilder.toString(): a text of its own -/
set_option maxRecDepth 100000 in
theorem c_strI1 (l : Launch) (w : WD) (sz : Nat) (z : BX) (n : Nat) (f : Nat → Int32) (M : Mem) (a : Nat) (Ds : va_G) (hn : n ≤ 15) (hfit : ∀ j, j < n → fits .byte (.int (f j)) = true) : Met l yJ0_init_81219 [Cond.code yJ0_init_81219 cJ0_init_81219 2 none] rmC4 (sPre w sz z n f M a Ds [.ref a, .ref z.2.1]) (sQ w z n f M a Ds sz) 1 16 (sA w sz z a) := by
  refine s_of (by decide) rfl (Nat.le_of_ble_eq_true rfl) ?_
  intro p e s m args below meth c hx hb hr hnm hml hown hlk hI ls hl
  have hl : lv_has ls 2 [(0, .ref a), (1, .ref z.2.1)] := hl
  refine lv_aload_n hx hb dJ0_init_81219_0 rfl (lv_at hl 0 rfl) ?_
  refine lv_aload_n hx hb dJ0_init_81219_1 rfl (lv_at hl 1 rfl) ?_
  refine lv_null hx hb dJ0_init_81219_2 ?_
  have hpre : PreS s s.heap (sPre w s.heap.size z n f M a Ds [.ref a, .ref z.2.1, .null]) [.ref a, .ref z.2.1, .null] := ⟨sPre.blind, fun U hU hW => ⟨rfl, by rw [hU], hI.2.2.1, ⟨by rw [hU]; exact hI.1.P, hI.1.J, va_K.moved hW.alike hI.1.K, hI.1.T.warm hW, by rw [hU]; exact hI.1.St.moved hW⟩, ⟨by rw [hU]; exact hI.2.1.1, hI.2.1.2.1, hI.2.1.2.2.1, va_K.moved hW.alike hI.2.1.2.2.2⟩, by rw [hU]; exact hI.2.2.2.1, hI.2.2.2.2.1, hI.2.2.2.2.2.1, va_K.moved hW.alike hI.2.2.2.2.2.2⟩⟩
  have hrun := va_runI (p := p) (l := l) (e := e) (s := s) (m := m) (args := args) (c := c) (H := s.heap) (R := rmC4) (below := below) (meth := meth) (locs := []) (cells := 0) (slots := 0) (g := F0 m 3 ls [.null, .ref z.2.1, .ref a]) (Ts := []) (As := [.ref z.2.1, .null]) (rest := []) ⟨hx, hb, hml, hown, fun _ h => nomatch h⟩ (c_strI2 l w s.heap.size z n f M a Ds hn hfit) ⟨m_callB (n := 2) hI.1.T kc_J0_init_db425 ki_J0_init_db425 (q1150 hI.1.T) (by decide +kernel) ⟨rfl, rfl, Nat.le_of_ble_eq_true rfl, Nat.le_of_ble_eq_true rfl⟩, rfl, q1151 hI.1.T⟩ hpre rfl rfl hl.1 rfl (Nat.le_of_ble_eq_true rfl) dJ0_init_81219_3 ⟨Nat.le_of_ble_eq_true rfl, Nat.le_of_ble_eq_true rfl⟩
  intro T hT X
  obtain ⟨v1, st₀, t, T', Ls, h0, X', hL, e1, e2, ⟨hv, hP1, hB1, ⟨v, cA, hvz, hat, hA, hAr⟩, hz, hk⟩, st⟩ := hrun T hT X
  cases hv
  rw [h0] at hz hk
  have hAs : ArrOfT s cA .byte := arrOfT_moved (u := t) (E := s) (by rw [← e2]; exact X'.warmed.alike.symm) hAr
  have key : W p l e rmC4 s m args below meth c T'.heap ([] ++ Ls) (0 + 1) (0 + 16) (MQ below (sQ w z n f M a Ds s.heap.size) args s 1 16 (sA w s.heap.size z a)) (F0 m 6 ls []) :=
    W.vret hx hb hr (fun t2 ht hW => ⟨rfl, by rw [ht, e1]; exact hP1, by rw [ht, e1]; exact hB1, ⟨v, cA, hvz, by rw [ht, e1]; exact hat, by rw [ht, e1]; exact hA, arrOfT_moved hW.alike hAs⟩, ⟨by rw [ht, e1]; exact hz, fun q g1 g2 => by rw [ht, e1]; exact hk q g1 g2⟩⟩) (fun q hq => hL q hq) dJ0_init_81219_6 hlk
  obtain ⟨t2, a1, b1⟩ := key T' rfl X'
  exact ⟨t2, st t2 a1, b1⟩
/-- what such a text is -/
theorem kS_of {s : State} {H : Heap} {Ds : va_G} {A : Nat → Prop} {a v n : Nat} {f : Nat → Int32} {cA : ClassId} (hT : mT s) (hK : va_K Ds sCl [] s) (hat : va_at Ds sCl (a, .inr (0, [.ref v, .int 0, .int 0, .int 0])) H) (hv : H[v]? = some (arrV cA n (fun j => .int (f j)))) (hAr : ArrOfT s cA .byte) (h1 : ¬ A a) (h2 : ¬ A v) : kS A s H a v n f := by
  obtain ⟨r, hr, cell, q1, q2, q3, q4⟩ := hat
  obtain rfl : r = (RJ0, TJ0, 4) := Option.some.inj (hr.symm.trans rfl)
  have hts := wsJ0 (args := #[]) hT
  obtain ⟨hSl, hfc, kC, hkC, hkind⟩ := hK.1 0 _ rfl
  have hfld : ∀ k, k < 4 → ∀ u, vp_V [.ref v, .int 0, .int 0, .int 0] k = u → va_OF (TJ0 k).1 (TJ0 k).2.1 (TJ0 k).2.2.1 u a A s H := fun k hk u hu => by
    obtain ⟨cf, kf, fi, fd, hi, hsl⟩ := hSl k hk
    have hst := (u_facts hfc hkC (u_lays hts (fun _ h => h) hk) hi).1
    have hnv : cell.vm ≠ .unknown := (by rw [q3]; exact fun h => nomatch h)
    have hsv : cell.slots[fd.slot]? = some u := (by rw [hsl, ← hu]; exact q4 k hk)
    exact ⟨cf, kf, fi, fd, cell, hi, hst, q1, hnv, hsv, h1⟩
  refine ⟨⟨cell, q1, (by rw [q3]; rfl), (by rw [q2]; exact hfc), h1⟩, hfld 1 (by decide) _ rfl, hfld 0 (by decide) _ rfl, ⟨_, hv, hAr n _, (fun q => (by cases q)), ?_, ?_, fun j hj => arrV_read _ _ hj, h2⟩⟩
  · rw [arrV_size]; exact Nat.le_refl _
  · rw [arrV_size]
theorem mP_lt {w : WD} {M : Mem} {H : Heap} (h : mP w M H) {g i : Nat} (hg : mok g i) : w.1 g i < H.size := by
  obtain ⟨k, hk⟩ := List.mem_iff_getElem?.mp hg
  have h1 : (mW w M)[k]? = some (w.1 g i, menc w g i (M g i)) := by
    unfold mW
    rw [List.getElem?_map, hk]
    rfl
  exact (h k _ h1).lt
def tQ (w : WD) (z : BX) (n : Nat) (f : Nat → Int32) (M : Mem) (sz : Nat) : Array Value → State → Outcome → State → Prop := fun _ st oc t =>
  ∃ a v : Nat, oc = .returned (some (.ref a)) ∧ sz ≤ a ∧ sz ≤ v ∧ mP w M t.heap ∧ va_P z.1 bCl (bW z n f) t.heap ∧ kS (fun q => q < sz ∨ t.heap.size ≤ q) t t.heap a v n f ∧ va_F (bA w sz z) st t
abbrev rmC5 : Room := { frames := 6, cells := 2, slots := 20, locals := 240 }
theorem kS.moved {A : Nat → Prop} {u U : State} {H : Heap} {a v n : Nat} {f : Nat → Int32} (hvm : u.vm.Alike U.vm) (h : kS A u H a v n f) : kS A U H a v n f := ⟨h.1.moved hvm, h.2.1.moved hvm, h.2.2.1.moved hvm, h.2.2.2.moved hvm⟩
theorem kS.kept {A : Nat → Prop} {U : State} {H H1 : Heap} {a v n : Nat} {f : Nat → Int32} (h : kS A U H a v n f) (hq : ∀ a : Nat, a < H.size → ¬ A a → H1[a]? = H[a]?) : kS A U H1 a v n f := ⟨h.1.kept hq, h.2.1.kept hq, h.2.2.1.kept hq, h.2.2.2.kept hq⟩
theorem kS.narrow {A B : Nat → Prop} {U : State} {H : Heap} {a v n : Nat} {f : Nat → Int32} (h : kS A U H a v n f) (hAB : ∀ q, B q → A q) : kS B U H a v n f := ⟨h.1.narrow hAB, h.2.1.narrow hAB, h.2.2.1.narrow hAB, h.2.2.2.narrow hAB⟩
set_option maxRecDepth 100000 in
theorem c_toStr (l : Launch) (w : WD) (sz : Nat) (z : BX) (n : Nat) (f : Nat → Int32) (M : Mem) (hn : n ≤ 15) (hfit : ∀ j, j < n → fits .byte (.int (f j)) = true) : Met l yJ4_toString_0e30d [Cond.code yJ4_toString_0e30d cJ4_toString_0e30d 1 (some (.object "java/lang/String"))] rmC5 (bPre w sz z n f M [.ref z.2.1]) (tQ w z n f M sz) 2 20 (bA w sz z) := by
  refine b_ofQ (Qc := tQ w z n f M) (by decide) (Nat.le_of_ble_eq_true rfl) ?_
  intro p e s m args below meth c hx hb hr hml hown hlk hI ls hl
  have hl : lv_has ls 1 [(0, .ref z.2.1)] := hl
  obtain ⟨cC, iS, hKn⟩ := u_known (args := args) (n := 4) (wsJ0 hI.T) (fun _ h => h) (q484 hI.T)
  let Ds : va_G := (fun _ => cC, fun _ => iS)
  have hKS1 : ∀ (k : Nat) (q : vw_C), sCl[k]? = some q → u_Kn s q.1 q.2.1 q.2.2 (Ds.1 k) (Ds.2 k) := fun k q hq => by
    rcases k with _ | k
    · cases hq
      exact hKn
    · cases hq
  have hKS : va_K Ds sCl [] s := ⟨hKS1, fun k q hk => nomatch hk⟩
  refine W.newcK (n := 4) hx hb hown (q1146 hI.T) (q484 hI.T) (q17 hI.T) rfl dJ4_toString_0e30d_0 (Nat.le_of_ble_eq_true rfl) (Nat.le_of_ble_eq_true rfl) hKn.2.1 rfl fun H1 kC hkC e1 z1 o1 => ?_
  have hat : va_at Ds sCl (s.heap.size, .inr (0, [.null, .int 0, .int 0, .int 0])) H1 := ⟨_, rfl, (u_born tyJ0 (wsJ0 (args := args) hI.T) (fun _ h => h) hKn hkC e1 tyJ0_ok).to fun j hj => by
    rcases j with _ | _ | _ | _ | j
    · rfl
    · rfl
    · rfl
    · rfl
    · exact absurd hj (by show ¬ j + 1 + 1 + 1 + 1 < 4; omega)⟩
  obtain ⟨hm, ⟨hP, hne, hd, hK⟩, l1, l2⟩ := hI
  have hlt : ∀ (k : Nat) q, (mW w M)[k]? = some q → q.1 < s.heap.size := fun k q hk => (hm.P k q hk).lt
  have hP1 : mP w M H1 := hm.P.kept fun k q hk => o1 q.1 (hlt k q hk)
  have hB1 : va_P z.1 bCl (bW z n f) H1 := bW_P hP (o1 _ l1) (o1 _ l2)
  have hna : ∀ g i, mok g i → w.1 g i ≠ s.heap.size := fun g i hg => Nat.ne_of_lt (mP_lt hm.P hg)
  refine W.eq (g2 := F0 m 3 ls [.ref s.heap.size]) rfl ?_
  refine lv_dup hx hb dJ4_toString_0e30d_3 rfl ?_
  refine lv_aload_n hx hb dJ4_toString_0e30d_4 rfl (lv_at hl 0 rfl) ?_
  have hsub : ∀ q, sA w (s.heap.size + 1) z s.heap.size q → bA w s.heap.size z q := by
    rintro q (((h | h) | h) | h)
    · exact Or.inl (Or.inl h)
    · exact Or.inl (Or.inr (by omega))
    · exact Or.inr h
    · exact Or.inl (Or.inr (by omega))
  have hpre : PreS s H1 (sPre w (s.heap.size + 1) z n f M s.heap.size Ds [.ref s.heap.size, .ref z.2.1]) [.ref s.heap.size, .ref z.2.1] := ⟨sPre.blind, fun U hU hW => ⟨rfl, by rw [hU]; exact z1, ⟨by omega, by omega, by omega⟩, ⟨by rw [hU]; exact hP1, hm.J, va_K.moved hW.alike hm.K, hm.T.warm hW, by rw [hU]; exact ((hm.St.kept (fun a h1 h2 => o1 a h1)).moved hW).narrow hsub⟩, ⟨by rw [hU]; exact hB1, hne, hd, va_K.moved hW.alike hK⟩, by rw [hU]; exact hat, hna, ⟨by omega, by omega⟩, va_K.moved hW.alike hKS⟩⟩
  have hrun := va_runI (p := p) (l := l) (e := e) (s := s) (m := m) (args := args) (c := c) (H := H1) (R := rmC5) (below := below) (meth := meth) (locs := []) (cells := 1) (slots := 4) (g := F0 m 5 ls [.ref z.2.1, .ref s.heap.size, .ref s.heap.size]) (Ts := []) (As := [.ref z.2.1]) (rest := [.ref s.heap.size]) ⟨hx, hb, hml, hown, fun _ h => nomatch h⟩ (c_strI1 l w (s.heap.size + 1) z n f M s.heap.size Ds hn hfit) ⟨m_callB (n := 1) hm.T kc_J0_init_81219 ki_J0_init_81219 (q1147 hm.T) (by decide +kernel) ⟨rfl, rfl, Nat.le_of_ble_eq_true rfl, Nat.le_of_ble_eq_true rfl⟩, rfl, q1148 hm.T⟩ hpre rfl rfl hl.1 rfl (Nat.le_of_ble_eq_true rfl) dJ4_toString_0e30d_5 ⟨Nat.le_of_ble_eq_true rfl, Nat.le_of_ble_eq_true rfl⟩
  intro T hT X
  obtain ⟨v1, st₀, t, T', Ls, h0, X', hL, e1', e2', ⟨hv, hP2, hB2, ⟨v, cA, hvz, hat2, hA, hAr⟩, hz, hk⟩, st⟩ := hrun T hT X
  cases hv
  rw [h0] at hz hk
  have hAs : ArrOfT s cA .byte := arrOfT_moved (u := t) (E := s) (by rw [← e2']; exact X'.warmed.alike.symm) hAr
  have hKs : kS (fun q => q < s.heap.size ∨ t.heap.size ≤ q) s t.heap s.heap.size v n f := kS_of hm.T hKS hat2 hA hAs (by
      rintro (h | h)
      · omega
      · omega) (by
      have hvl : v < t.heap.size := (Array.getElem?_eq_some_iff.mp hA).1
      rintro (h | h)
      · omega
      · omega)
  have key : W p l e rmC5 s m args below meth c T'.heap ([] ++ Ls) (1 + 1) (4 + 16) (MQ below (tQ w z n f M s.heap.size) args s 2 20 (bA w s.heap.size z)) (F0 m 8 ls [.ref s.heap.size]) :=
    W.aret hx hb hr (Or.inl ⟨_, rfl⟩) (Or.inr ⟨_, rfl⟩) (fun t2 ht hW => ⟨s.heap.size, v, rfl, Nat.le_refl _, by omega, by rw [ht, e1']; exact hP2, by rw [ht, e1']; exact hB2, by rw [ht, e1']; exact hKs.moved hW.alike, ⟨by rw [ht, e1']; omega, fun q g1 g2 => by rw [ht, e1', hk q (by omega) (fun h => g2 (hsub q h)), o1 q g1]⟩⟩) (fun q hq => hsub _ (hL q hq)) dJ4_toString_0e30d_8 hlk
  obtain ⟨t2, a1, b1⟩ := key T' rfl X'
  exact ⟨t2, st t2 a1, b1⟩
