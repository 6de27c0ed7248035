/-! THE LAW'S TEXTS: does builds one and runs it -/
def lTx : List (List Nat) := [[104, 117, 109, 32], [32], [59, 119, 97, 105, 116, 32], [59, 103, 105, 118, 101, 32], [59, 99, 108, 111, 115, 101], [59]]
theorem lTx_e : ∀ i, i < 6 → mLl.getD i 0 = (lTx.getD i []).length ∧ mLx.getD i [] = (lTx.getD i []).map Int32.ofNat := by decide
theorem lTx_ok : ∀ i, i < 6 → okL (lTx.getD i []) := by unfold okL; decide
theorem lf_of (T : List Nat) (x : List Int32) (h : x = T.map Int32.ofNat) : (fun j => Value.int (x.getD j 0)) = fun j => Value.int (lf T j) := by
  subst h
  funext j
  show Value.int _ = Value.int (Int32.ofNat _)
  simp only [List.getD_eq_getElem?_getD, List.getElem?_map]
  cases T[j]? <;> rfl
theorem law_kS {w : WD} {A : Nat → Prop} {U : State} {H : Heap} (h : mSt w A U H) {i : Nat} (hi : i < 6) : kS A U H (w.2.2.2 1 (33 + i)) (w.2.2.2 2 (33 + i)) (lTx.getD i []).length (lf (lTx.getD i [])) := by
  obtain ⟨h1, h2, h3, h4⟩ := h.2.2.2.2.2.2.2.2.2.2.2.1 i hi
  obtain ⟨e1, e2⟩ := lTx_e i hi
  rw [e1, lf_of _ _ e2] at h4
  exact ⟨h1, h2, h3, h4⟩
theorem okL.app {L T : List Nat} (h1 : okL L) (h2 : okL T) : okL (L ++ T) := fun x hx => by
  rcases List.mem_append.mp hx with h | h
  · exact h1 x h
  · exact h2 x h
theorem okL_nil : okL [] := fun _ h => nomatch h
theorem dg9 {x : Int32} (h : 0 ≤ x ∧ x ≤ 9) : x.toNatClampNeg ≤ 9 := by
  have h1 : (0 : Int) ≤ x.toInt := Int32.le_iff_toInt_le.mp h.1
  have h2 : x.toInt ≤ 9 := Int32.le_iff_toInt_le.mp h.2
  show x.toInt.toNat ≤ 9
  omega
theorem okL_dg {x : Int32} (h : 0 ≤ x ∧ x ≤ 9) : okL [48 + x.toNatClampNeg] := fun y hy => by
  have := dg9 h
  rw [List.mem_singleton.mp hy]
  omega
section TROWS
variable {p : Program} {l : Launch} {e : Env} {R : Room} {s : State} {m : MethodId} {args : Array Value} {below : List Frame} {meth : Method} {c : Code} {H H0 : Heap} {locs : List Loc} {cells slots : Nat} {Q : State → Prop}
variable {cc : ByteArray} {pc nL : Nat} {ls : Array Slot} {rest : List Value} {w : WD} {M : Mem} {z : BX} {L L1 : List Nat}
theorem dI.ks (h : dI w s H locs z L M H0) {i : Nat} (hi : i < 6) : kS (bA w H.size z) s H (w.2.2.2 1 (33 + i)) (w.2.2.2 2 (33 + i)) (lTx.getD i []).length (lf (lTx.getD i [])) :=
  law_kS ((h.1.St.kept (fun a h1 h2 => h.1.S.2.1 a h1 h2)).narrow h.sub) hi
theorem dI.ldc (h : dI w s H locs z L M H0) {q : Nat × String × Nat} (hq : q ∈ mCs) : vk_R "ShareVaultLaw" q.1 q.2.1 (w.2.2.2 1 q.2.2) s := h.1.St.2.2.2.2.2.2.2.1 q hq
/-- append of one of the law's own texts -/
theorem d_appC (hx : p.tables.exec = Jvm.exec) (hb : c.code = cc) (hml : c.maxLocals = nL) (hown : s.vm.findClass "ShareVaultLaw" = some m.cls) (hI : dI w s H locs z L M H0) {i idx : Nat} {tx : String} (hi : i < 6) (hc : (idx, tx, 33 + i) ∈ mCs) (hlen : L.length + (lTx.getD i []).length ≤ 15)
    (hsize : ls.size = nL) (hR1 : 8 ≤ R.frames) (hR2 : 300 ≤ R.locals) (hW : (rest.map fun v => v.category).sum ≤ 8) (hdg : decode cc pc = .ok (.ldc_w idx, 3)) (hdg3 : decode cc (pc + 3) = .ok (.invokevirtual 316, 3)) (hf : cells ≤ R.cells ∧ slots ≤ R.slots)
    (kk : ∀ (H1 : Heap) (locs1 : List Loc), dI w s H1 locs1 z (L ++ lTx.getD i []) M H0 → W p l e R s m args below meth c H1 locs1 cells slots Q (F0 m (pc + 3 + 3) ls (.ref z.2.1 :: rest))) : W p l e R s m args below meth c H locs cells slots Q (F0 m pc ls (.ref z.2.1 :: rest)) :=
  va_ldcSw hx hb hown (hI.ldc hc) hdg (d_appS hx hb hml hown hI (hI.ks hi) (lTx_ok i hi) hlen hsize hR1 hR2 hW hdg3 hf kk)
/-- back at the outer builder -/
theorem dI.back (h : dI w s H locs z L M H0) {H2 : Heap} {locs2 : List Loc} (hm : mI w s (mA w s.heap.size) H2 locs2 M) (hz : H.size ≤ H2.size) (hk : ∀ q : Nat, q < H.size → ¬ mA w H.size q → H2[q]? = H[q]?) : dI w s H2 locs2 z L M H0 := by
  have hlt := h.lt
  obtain ⟨-, ⟨hP, hne, hd, hK⟩, h3, h4, h5, h6⟩ := h
  refine ⟨hm, ⟨bW_P hP (hk _ hlt.1 ?_) (hk _ hlt.2 ?_), hne, hd, hK⟩, h3, ⟨h4.1, by omega⟩, fun q h1 h2 => (hk q (by omega) ?_).trans (h5 q h1 h2), h6⟩
  · rintro (⟨g, i, hg, q⟩ | q)
    · exact (hne g i hg).1 q.symm
    · omega
  · rintro (⟨g, i, hg, q⟩ | q)
    · exact (hne g i hg).2 q.symm
    · omega
  · rintro (h | h)
    · exact h2 (Or.inl h)
    · omega
theorem dI.ksub (h : dI w s H locs z L M H0) {H2 : Heap} {a v n : Nat} {f : Nat → Int32} (hk : kS (fun q => q < H.size ∨ H2.size ≤ q) s H2 a v n f) : kS (bA w H2.size z) s H2 a v n f := by
  have hlt := h.lt
  have h4 := h.2.2.2.1
  have h6 := h.2.2.2.2.2
  refine hk.narrow fun q hq => ?_
  rcases hq with (⟨g, i, hg, rfl⟩ | h1) | h1 | h1
  · exact Or.inl (by have := h6 g i hg; omega)
  · exact Or.inr h1
  · exact Or.inl (by omega)
  · exact Or.inl (by omega)
set_option maxRecDepth 100000 in
/-- from 431: the text runs -/
theorem k_431 {r : Int32} {M9 : Mem} (hx : p.tables.exec = Jvm.exec) (hb : c.code = cL_does) (hr : meth.sig.returnType = some .int) (hml : c.maxLocals = 9) (hown : s.vm.findClass "ShareVaultLaw" = some m.cls) (hlk : meth.locks = false) (hsf : l.stackTraces = false) (hI : dI w s H locs z L M H0) (hL : okL L) (hlen : L.length ≤ 15) (hf : rText L M = some (r, M9)) (hls : ls.size = 9) (h1 : cells + 24 ≤ 40) (h2 : slots + 152 ≤ 400) :
    W p l e rmL_does s m args below meth c H locs cells slots (MQ below (mQ w s.heap.size (some (.int r)) M9) args s 40 400 (mA w s.heap.size)) (F0 m 431 ls [.ref z.2.1, .ref (w.1 12 16)]) := by
  have h6 := hI.2.2.2.2.2
  refine d_toS (rest := [.ref (w.1 12 16)]) hx hb hml hown hI hL hlen hls (Nat.le_of_ble_eq_true rfl) (Nat.le_of_ble_eq_true rfl) (Nat.le_of_ble_eq_true rfl) dL_does_431 ⟨by show cells + 2 ≤ 40; omega, by show slots + 20 ≤ 400; omega⟩ (fun H1 locs1 a v hm hz hk hks => ?_)
  have hks2 : kS (mA w H1.size) s H1 a v L.length (lf L) := hks.narrow fun q hq => by
    rcases hq with ⟨g, i, hg, rfl⟩ | h
    · exact Or.inl (h6 g i hg)
    · exact Or.inr h
  have hpre : PreS s H1 (mPre (wTxt w a v L) H1.size M [.ref (w.1 12 16), .ref a]) [.ref (w.1 12 16), .ref a] := ⟨mPre.blind, fun U hU hW => ⟨rfl, by rw [hU], by
    obtain ⟨q1, q2, q3, q4, q5⟩ := hm.pre hU hW
    exact ⟨q1, q2, q3, q4, wTxt_mSt q5 (by rw [hU]; exact hks2.moved hW.alike)⟩⟩⟩
  have hrun := va_runS (p := p) (l := l) (e := e) (s := s) (m := m) (args := args) (c := c) (H := H1) (R := rmL_does) (below := below) (meth := meth) (locs := locs1) (cells := cells + 2) (slots := slots + 20) (g := F0 m 434 ls [.ref a, .ref (w.1 12 16)]) (Ts := []) (As := [.ref (w.1 12 16), .ref a]) (rest := []) ⟨hx, hb, hml, hown, fun _ h => nomatch h⟩ (c_L_runs l (wTxt w a v L) hsf H1.size a v L.length (lf L) (wTxt_kSx hL (by omega)) M r M9 hf) ⟨kb_L_runs hm.T (q1208 (a := args) hm.T) (Nat.le_of_ble_eq_true rfl) (Nat.le_of_ble_eq_true rfl), q1209 hm.T⟩ hpre rfl rfl hls rfl (Nat.le_of_ble_eq_true rfl) dL_does_434 ⟨by show cells + 2 + 22 ≤ 40; omega, by show slots + 20 + 132 ≤ 400; omega⟩
  exact k_after (w := w) (a := #[Value.ref (w.1 12 16), Value.ref a]) (M1 := M9) (v := some (.int r)) (mc := 22) (ms := 132) (rest := []) hrun hm (fun H2 locs2 hI2 => k_iretf hx hb hr hlk hI2 rfl dL_does_437 (by omega) (by omega))
set_option maxRecDepth 100000 in
/-- from 428: the last part is appended -/
theorem k_428 {r : Int32} {M9 : Mem} {a v : Nat} {T : List Nat} (hx : p.tables.exec = Jvm.exec) (hb : c.code = cL_does) (hr : meth.sig.returnType = some .int) (hml : c.maxLocals = 9) (hown : s.vm.findClass "ShareVaultLaw" = some m.cls) (hlk : meth.locks = false) (hsf : l.stackTraces = false) (hI : dI w s H locs z L M H0) (hks : kS (bA w H.size z) s H a v T.length (lf T)) (hL : okL L) (hT : okL T) (hlen : L.length + T.length ≤ 15) (hf : rText (L ++ T) M = some (r, M9)) (hls : ls.size = 9) (h1 : cells + 24 ≤ 40) (h2 : slots + 152 ≤ 400) :
    W p l e rmL_does s m args below meth c H locs cells slots (MQ below (mQ w s.heap.size (some (.int r)) M9) args s 40 400 (mA w s.heap.size)) (F0 m 428 ls [.ref a, .ref z.2.1, .ref (w.1 12 16)]) :=
  d_appS (rest := [.ref (w.1 12 16)]) hx hb hml hown hI hks hT hlen hls (Nat.le_of_ble_eq_true rfl) (Nat.le_of_ble_eq_true rfl) (Nat.le_of_ble_eq_true rfl) dL_does_428 ⟨by show cells ≤ 40; omega, by show slots ≤ 400; omega⟩ fun H1 locs1 hI1 =>
    k_431 hx hb hr hml hown hlk hsf hI1 (hL.app hT) (by rw [List.length_append]; exact hlen) hf hls h1 h2
set_option maxRecDepth 100000 in
theorem k_doesT {r : Int32} {M9 : Mem} {xa : Nat} {a2 a3 a5 a6 r1 r2 r3 : Int32} (hx : p.tables.exec = Jvm.exec) (hb : c.code = cL_does) (hr : meth.sig.returnType = some .int) (hml : c.maxLocals = 9) (hown : s.vm.findClass "ShareVaultLaw" = some m.cls) (hlk : meth.locks = false) (hsf : l.stackTraces = false) (hI : mI w s (mA w s.heap.size) H locs M)
    (hl : lv_has ls 9 [(8, .int r3), (7, .int r2), (6, .int r1), (0, .ref xa), (1, .int a2), (2, .int a3), (3, .ref (w.1 12 16)), (4, .int a5), (5, .int a6)]) (hf : f_L_doesT a5 a6 r1 r2 M = some (r, M9)) (h1 : cells + 30 ≤ 40) (h2 : slots + 212 ≤ 400) :
    W p l e rmL_does s m args below meth c H locs cells slots (MQ below (mQ w s.heap.size (some (.int r)) M9) args s 40 400 (mA w s.heap.size)) (F0 m 310 ls []) := by
  unfold f_L_doesT at hf
  obtain ⟨g1, hf⟩ := mdg_e hf
  obtain ⟨g2, hf⟩ := mdg_e hf
  refine lv_aload_n hx hb dL_does_310 rfl (lv_at hl 6 rfl) ?_
  refine d_new (rest := [.ref (w.1 12 16)]) hx hb hml hown hI hl.1 (Nat.le_of_ble_eq_true rfl) (Nat.le_of_ble_eq_true rfl) (Nat.le_of_ble_eq_true rfl) dL_does_311 dL_does_314 dL_does_315 ⟨by show cells + 2 ≤ 40; omega, by show slots + 20 ≤ 400; omega⟩ (fun H1 locs1 z hI1 => ?_)
  have h3 : cells + 2 ≤ 40 ∧ slots + 20 ≤ 400 := ⟨by omega, by omega⟩
  refine d_appC (i := 0) (rest := [.ref (w.1 12 16)]) hx hb hml hown hI1 (by decide) (idx := 314) (tx := "hum ") (by decide) (Nat.le_of_ble_eq_true rfl) hl.1 (Nat.le_of_ble_eq_true rfl) (Nat.le_of_ble_eq_true rfl) (Nat.le_of_ble_eq_true rfl) dL_does_318 dL_does_321 h3 (fun H2 locs2 hI2 => ?_)
  refine lv_iload hx hb dL_does_324 (lv_at hl 1 rfl) ?_
  refine lv_bipush (v := 8) hx hb dL_does_326 (by decide) ?_
  refine lv_irem hx hb dL_does_328 (by decide) ?_
  refine d_appI (rest := [.ref (w.1 12 16)]) hx hb hml hown hI2 g1 (Nat.le_of_ble_eq_true rfl) hl.1 (Nat.le_of_ble_eq_true rfl) (Nat.le_of_ble_eq_true rfl) (Nat.le_of_ble_eq_true rfl) dL_does_329 h3 (fun H3 locs3 hI3 => ?_)
  refine d_appC (i := 1) (rest := [.ref (w.1 12 16)]) hx hb hml hown hI3 (by decide) (idx := 323) (tx := " ") (by decide) (Nat.le_of_ble_eq_true rfl) hl.1 (Nat.le_of_ble_eq_true rfl) (Nat.le_of_ble_eq_true rfl) (Nat.le_of_ble_eq_true rfl) dL_does_332 dL_does_335 h3 (fun H4 locs4 hI4 => ?_)
  refine lv_iconst (v := 1) hx hb dL_does_338 (by decide) ?_
  refine lv_iload hx hb dL_does_339 (lv_at hl 2 rfl) ?_
  refine lv_bipush (v := 9) hx hb dL_does_341 (by decide) ?_
  refine lv_irem hx hb dL_does_343 (by decide) ?_
  refine lv_iadd hx hb dL_does_344 ?_
  refine d_appI (rest := [.ref (w.1 12 16)]) hx hb hml hown hI4 g2 (Nat.le_of_ble_eq_true rfl) hl.1 (Nat.le_of_ble_eq_true rfl) (Nat.le_of_ble_eq_true rfl) (Nat.le_of_ble_eq_true rfl) dL_does_345 h3 (fun H5 locs5 hI5 => ?_)
  have hL5 := (((okL_nil.app (lTx_ok 0 (by decide))).app (okL_dg g1)).app (lTx_ok 1 (by decide))).app (okL_dg g2)
  refine lv_iload hx hb dL_does_348 (lv_at hl 2 rfl) ?_
  refine lv_iconst (v := 4) hx hb dL_does_350 (by decide) ?_
  refine lv_irem hx hb dL_does_351 (by decide) ?_
  refine lv_if_ne (tgt := 379) hx hb dL_does_352 (by decide) (fun c1 => ?_) (fun c1 => ?_)
  · have hf := (if_neg c1).symm.trans hf
    refine lv_iload hx hb dL_does_379 (lv_at hl 2 rfl) ?_
    refine lv_iconst (v := 4) hx hb dL_does_381 (by decide) ?_
    refine lv_irem hx hb dL_does_382 (by decide) ?_
    refine lv_iconst (v := 1) hx hb dL_does_383 (by decide) ?_
    refine lv_icmp_ne (tgt := 411) hx hb dL_does_384 (by decide) (fun c2 => ?_) (fun c2 => ?_)
    · have hf := (if_neg c2).symm.trans hf
      refine lv_iload hx hb dL_does_411 (lv_at hl 2 rfl) ?_
      refine lv_iconst (v := 4) hx hb dL_does_413 (by decide) ?_
      refine lv_irem hx hb dL_does_414 (by decide) ?_
      refine lv_iconst (v := 2) hx hb dL_does_415 (by decide) ?_
      refine lv_icmp_ne (tgt := 425) hx hb dL_does_416 (by decide) (fun c3 => ?_) (fun c3 => ?_)
      · have hf := (if_neg c3).symm.trans hf
        refine va_ldcSw hx hb hown (hI5.ldc (q := (335, ";", 38)) (by decide)) dL_does_425 ?_
        exact k_428 hx hb hr hml hown hlk hsf hI5 (hI5.ks (i := 5) (by decide)) hL5 (lTx_ok 5 (by decide)) (Nat.le_of_ble_eq_true rfl) hf hl.1 (by omega) (by omega)
      · have hf := (if_pos c3).symm.trans hf
        refine va_ldcSw hx hb hown (hI5.ldc (q := (333, ";close", 37)) (by decide)) dL_does_419 ?_
        refine lv_goto (tgt := 428) hx hb dL_does_422 (by decide) ?_
        exact k_428 hx hb hr hml hown hlk hsf hI5 (hI5.ks (i := 4) (by decide)) hL5 (lTx_ok 4 (by decide)) (Nat.le_of_ble_eq_true rfl) hf hl.1 (by omega) (by omega)
    · have hf := (if_pos c2).symm.trans hf
      obtain ⟨g3, hf⟩ := mdg_e hf
      refine d_new (rest := [.ref z.2.1, .ref (w.1 12 16)]) hx hb hml hown hI5.1 hl.1 (Nat.le_of_ble_eq_true rfl) (Nat.le_of_ble_eq_true rfl) (Nat.le_of_ble_eq_true rfl) dL_does_387 dL_does_390 dL_does_391 ⟨by show cells + 2 + 2 ≤ 40; omega, by show slots + 20 + 20 ≤ 400; omega⟩ (fun H6 locs6 z2 hJ1 => ?_)
      have h4 : cells + 2 + 2 ≤ 40 ∧ slots + 20 + 20 ≤ 400 := ⟨by omega, by omega⟩
      refine d_appC (i := 3) (rest := [.ref z.2.1, .ref (w.1 12 16)]) hx hb hml hown hJ1 (by decide) (idx := 331) (tx := ";give ") (by decide) (Nat.le_of_ble_eq_true rfl) hl.1 (Nat.le_of_ble_eq_true rfl) (Nat.le_of_ble_eq_true rfl) (Nat.le_of_ble_eq_true rfl) dL_does_394 dL_does_397 h4 (fun H7 locs7 hJ2 => ?_)
      refine lv_iload hx hb dL_does_400 (lv_at hl 7 rfl) ?_
      refine d_appI (rest := [.ref z.2.1, .ref (w.1 12 16)]) hx hb hml hown hJ2 g3 (Nat.le_of_ble_eq_true rfl) hl.1 (Nat.le_of_ble_eq_true rfl) (Nat.le_of_ble_eq_true rfl) (Nat.le_of_ble_eq_true rfl) dL_does_402 h4 (fun H8 locs8 hJ3 => ?_)
      have hL8 := (okL_nil.app (lTx_ok 3 (by decide))).app (okL_dg g3)
      refine d_toS (rest := [.ref z.2.1, .ref (w.1 12 16)]) hx hb hml hown hJ3 hL8 (Nat.le_of_ble_eq_true rfl) hl.1 (Nat.le_of_ble_eq_true rfl) (Nat.le_of_ble_eq_true rfl) (Nat.le_of_ble_eq_true rfl) dL_does_405 ⟨by show cells + 2 + 2 + 2 ≤ 40; omega, by show slots + 20 + 20 + 20 ≤ 400; omega⟩ (fun H9 locs9 a v hm hz hk hks => ?_)
      refine lv_goto (tgt := 428) hx hb dL_does_408 (by decide) ?_
      exact k_428 hx hb hr hml hown hlk hsf (hI5.back hm hz hk) (hI5.ksub hks) hL5 hL8 (Nat.le_of_ble_eq_true rfl) hf hl.1 (by omega) (by omega)
  · have hf := (if_pos c1).symm.trans hf
    obtain ⟨g3, hf⟩ := mdg_e hf
    refine d_new (rest := [.ref z.2.1, .ref (w.1 12 16)]) hx hb hml hown hI5.1 hl.1 (Nat.le_of_ble_eq_true rfl) (Nat.le_of_ble_eq_true rfl) (Nat.le_of_ble_eq_true rfl) dL_does_355 dL_does_358 dL_does_359 ⟨by show cells + 2 + 2 ≤ 40; omega, by show slots + 20 + 20 ≤ 400; omega⟩ (fun H6 locs6 z2 hJ1 => ?_)
    have h4 : cells + 2 + 2 ≤ 40 ∧ slots + 20 + 20 ≤ 400 := ⟨by omega, by omega⟩
    refine d_appC (i := 2) (rest := [.ref z.2.1, .ref (w.1 12 16)]) hx hb hml hown hJ1 (by decide) (idx := 325) (tx := ";wait ") (by decide) (Nat.le_of_ble_eq_true rfl) hl.1 (Nat.le_of_ble_eq_true rfl) (Nat.le_of_ble_eq_true rfl) (Nat.le_of_ble_eq_true rfl) dL_does_362 dL_does_365 h4 (fun H7 locs7 hJ2 => ?_)
    refine lv_iload hx hb dL_does_368 (lv_at hl 8 rfl) ?_
    refine d_appI (rest := [.ref z.2.1, .ref (w.1 12 16)]) hx hb hml hown hJ2 g3 (Nat.le_of_ble_eq_true rfl) hl.1 (Nat.le_of_ble_eq_true rfl) (Nat.le_of_ble_eq_true rfl) (Nat.le_of_ble_eq_true rfl) dL_does_370 h4 (fun H8 locs8 hJ3 => ?_)
    have hL8 := (okL_nil.app (lTx_ok 2 (by decide))).app (okL_dg g3)
    refine d_toS (rest := [.ref z.2.1, .ref (w.1 12 16)]) hx hb hml hown hJ3 hL8 (Nat.le_of_ble_eq_true rfl) hl.1 (Nat.le_of_ble_eq_true rfl) (Nat.le_of_ble_eq_true rfl) (Nat.le_of_ble_eq_true rfl) dL_does_373 ⟨by show cells + 2 + 2 + 2 ≤ 40; omega, by show slots + 20 + 20 + 20 ≤ 400; omega⟩ (fun H9 locs9 a v hm hz hk hks => ?_)
    refine lv_goto (tgt := 428) hx hb dL_does_376 (by decide) ?_
    exact k_428 hx hb hr hml hown hlk hsf (hI5.back hm hz hk) (hI5.ksub hks) hL5 hL8 (Nat.le_of_ble_eq_true rfl) hf hl.1 (by omega) (by omega)
end TROWS
