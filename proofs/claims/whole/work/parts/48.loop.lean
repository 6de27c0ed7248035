theorem l_and63 (v : Int32) : ∃ t : Nat, t < 64 ∧ (v &&& 63) = Int32.ofNat t := by
  refine ⟨(v &&& 63).toBitVec.toNat, ?_, ?_⟩
  · show (v.toBitVec &&& 63#32).toNat < 64
    rw [BitVec.toNat_and]
    exact Nat.lt_of_le_of_lt Nat.and_le_right (by decide)
  · apply Int32.toBitVec_inj.mp
    show (v &&& 63).toBitVec = BitVec.ofNat 32 _
    simp
theorem l_sub5 : ∀ L : Nat, L < 2561 → (Int32.ofNat L - 5).toInt = (L : Int) - 5 := by decide +kernel
theorem l_toI : ∀ i : Nat, i < 2600 → (Int32.ofNat i).toInt = (i : Int) := by decide +kernel
section LLOOP
variable {p : Program} {l : Launch} {e : Env} {R : Room} {s : State} {m : MethodId} {args : Array Value} {below : List Frame} {meth : Method} {c : Code} {Q : State → Prop} {w : WD} {oL oD b L : Nat} {xs : Nat → Int32} {cL cD : ClassId}
/-- the law's loop: n calls are done-/
theorem l_loop (hsf : l.stackTraces = false) (hx : p.tables.exec = Jvm.exec) (hb : c.code = cL_law) (hml : c.maxLocals = 10) (hown : s.vm.findClass "ShareVaultLaw" = some m.cls) {c0 s0 : Nat} (hR : 13 ≤ R.frames ∧ 400 ≤ R.locals ∧ c0 + 2 * 513 ≤ R.cells ∧ s0 + 12 * 513 ≤ R.slots) (hLL : L ≤ 2560)
    (kEnd : ∀ (n : Nat) (H : Heap) (locs : List Loc) (ls : Array Slot) (x : Int64) (y : UInt64) (M : Mem), n ≤ 512 → lI w s H locs oL oD cL cD x y b L xs M → W p l e R s m args below meth c H locs (c0 + 2 * n) (s0 + 12 * n) Q (F0 m 3004 ls [])) :
    ∀ (k n : Nat), n + k = 512 → ∀ (H : Heap) (locs : List Loc) (ls : Array Slot) (x : Int64) (y : UInt64) (M : Mem), Rel n M → lI w s H locs oL oD cL cD x y b L xs M → lv_has ls 10 (lLoc w b oL oD (5 * n)) → W p l e R s m args below meth c H locs (c0 + 2 * n) (s0 + 12 * n) Q (F0 m 28 ls []) := by
  intro k
  induction k with
  | zero =>
    intro n hn H locs ls x y M hr hI hl
    have hm := hI.1
    have hX := hI.2.2.2.2.2.2.2.1
    have hbl := hI.2.2.2.2.2.2.2.2
    refine lv_iload hx hb dL_law_28 (lv_at hl 5 rfl) ?_
    refine lv_aload_n hx hb dL_law_30 rfl (lv_at hl 0 rfl) ?_
    refine va_slen hx hb hX hbl (Nat.not_le.mpr hbl) hm.S dL_law_31 ?_
    refine lv_iconst (v := 5) hx hb dL_law_32 (by decide) ?_
    refine lv_isub hx hb dL_law_33 ?_
    refine lv_icmp_gt (tgt := 3004) hx hb dL_law_34 (by decide) (fun c2 => ?_) (fun c2 => absurd ?_ c2)
    · exact kEnd n H locs ls x y M (by omega) hI
    · rw [Int32.lt_iff_toInt_lt, l_sub5 L (by omega), l_toI (5 * n) (by omega)]
      omega
  | succ k ih =>
    intro n hn H locs ls x y M hr hI hl
    have hm := hI.1
    have hX := hI.2.2.2.2.2.2.2.1
    have hbl := hI.2.2.2.2.2.2.2.2
    refine lv_iload hx hb dL_law_28 (lv_at hl 5 rfl) ?_
    refine lv_aload_n hx hb dL_law_30 rfl (lv_at hl 0 rfl) ?_
    refine va_slen hx hb hX hbl (Nat.not_le.mpr hbl) hm.S dL_law_31 ?_
    refine lv_iconst (v := 5) hx hb dL_law_32 (by decide) ?_
    refine lv_isub hx hb dL_law_33 ?_
    refine lv_icmp_gt (tgt := 3004) hx hb dL_law_34 (by decide) (fun c2 => ?_) (fun c2 => ?_)
    · exact kEnd n H locs ls x y M (by omega) hI
    rw [Int32.lt_iff_toInt_lt, l_sub5 L (by omega), l_toI (5 * n) (by omega)] at c2
    have hi : 5 * n + 4 < L := by omega
    refine lv_aload_n hx hb dL_law_37 rfl (lv_at hl 0 rfl) ?_
    refine lv_iload hx hb dL_law_38 (lv_at hl 5 rfl) ?_
    have e2 : (Int32.ofNat (5 * n)).toNatClampNeg = 5 * n := nI_clamp (n := 5 * n) (by omega)
    refine va_sld hx hb hX hbl (Nat.not_le.mpr hbl) hm.S (i := Int32.ofNat (5 * n)) ?_ dL_law_40 ?_
    · rintro (h | h)
      · rw [Int32.lt_iff_toInt_lt, l_toI (5 * n) (by omega)] at h
        exact absurd h (by show ¬ (_ < (0 : Int)); omega)
      · rw [e2] at h
        omega
    refine lv_bipush (v := 63) hx hb dL_law_41 (by decide) ?_
    refine lv_iand hx hb dL_law_43 ?_
    obtain ⟨t, ht, et⟩ := l_and63 (xs (Int32.ofNat (5 * n)).toNatClampNeg)
    rw [et]
    have kk : ∀ (H1 : Heap) (locs1 : List Loc) (ls1 : Array Slot) (x1 : Int64) (y1 : UInt64) (M2 : Mem), Rel (n + 1) M2 → lv_has ls1 10 (lLoc w b oL oD (5 * n)) → lI w s H1 locs1 oL oD cL cD x1 y1 b L xs M2 → W p l e R s m args below meth c H1 locs1 (c0 + 2 * n + 2) (s0 + 12 * n + 12) Q (F0 m 2998 ls1 []) := by
      intro H1 locs1 ls1 x1 y1 M2 hr2 hl1 hI1
      have h5 : Int32.ofNat (5 * n) + 5 = Int32.ofNat (5 * (n + 1)) := (Int32.ofNat_add (5 * n) 5).symm
      refine lv_iinc (v := Int32.ofNat (5 * (n + 1))) (lv' := [(5, .int (Int32.ofNat (5 * (n + 1)))), (0, .ref b), (1, .ref (w.1 12 16)), (2, .ref (w.1 12 47)), (3, .ref oL), (4, .ref oD)]) hx hb dL_law_2998 hl1 (k := 5) rfl (by rw [← h5]; rfl) (by decide) rfl (fun ls hl => ?_)
      refine lv_goto (tgt := 28) hx hb dL_law_3001 (by decide) ?_
      exact ih (n + 1) (by omega) H1 locs1 ls x1 y1 M2 hr2 hI1 (lv_sub hl [1, 2, 3, 4, 5, 0] rfl)
    have hRn : 13 ≤ R.frames ∧ 400 ≤ R.locals ∧ c0 + 2 * n + 2 ≤ R.cells ∧ s0 + 12 * n + 12 ≤ R.slots := ⟨hR.1, hR.2.1, by omega, by omega⟩
    have out : W p l e R s m args below meth c H locs (c0 + 2 * n) (s0 + 12 * n) Q (F0 m 2998 ls []) := by
      have h5 : Int32.ofNat (5 * n) + 5 = Int32.ofNat (5 * (n + 1)) := (Int32.ofNat_add (5 * n) 5).symm
      refine W.widen (k := c0 + 2 * (n + 1)) (n := s0 + 12 * (n + 1)) (by omega) (by omega) ?_
      refine lv_iinc (v := Int32.ofNat (5 * (n + 1))) (lv' := [(5, .int (Int32.ofNat (5 * (n + 1)))), (0, .ref b), (1, .ref (w.1 12 16)), (2, .ref (w.1 12 47)), (3, .ref oL), (4, .ref oD)]) hx hb dL_law_2998 hl (k := 5) rfl (by rw [← h5]; rfl) (by decide) rfl (fun ls hl => ?_)
      refine lv_goto (tgt := 28) hx hb dL_law_3001 (by decide) ?_
      exact ih (n + 1) (by omega) H locs ls x y M (Rel_next hr) hI (lv_sub hl [1, 2, 3, 4, 5, 0] rfl)
    match t, ht with
    | 0, _ => exact lv_tableIn (off := 260) (tgt := 304) hx hb dL_law_44 (by decide) (by decide) rfl (by decide) (s_c0 hsf hx hb hml hown hRn hi hLL hl hr (by omega) hI kk)
    | 1, _ => exact lv_tableIn (off := 304) (tgt := 348) hx hb dL_law_44 (by decide) (by decide) rfl (by decide) (s_c1 hsf hx hb hml hown hRn hi hLL hl hr (by omega) hI kk)
    | 2, _ => exact lv_tableIn (off := 396) (tgt := 440) hx hb dL_law_44 (by decide) (by decide) rfl (by decide) (s_c2 hsf hx hb hml hown hRn hi hLL hl hr (by omega) hI kk)
    | 3, _ => exact lv_tableIn (off := 464) (tgt := 508) hx hb dL_law_44 (by decide) (by decide) rfl (by decide) (s_c3 hsf hx hb hml hown hRn hi hLL hl hr (by omega) hI kk)
    | 4, _ => exact lv_tableIn (off := 520) (tgt := 564) hx hb dL_law_44 (by decide) (by decide) rfl (by decide) (s_c4 hsf hx hb hml hown hRn hi hLL hl hr (by omega) hI kk)
    | 5, _ => exact lv_tableIn (off := 576) (tgt := 620) hx hb dL_law_44 (by decide) (by decide) rfl (by decide) (s_c5 hsf hx hb hml hown hRn hi hLL hl hr (by omega) hI kk)
    | 6, _ => exact lv_tableIn (off := 627) (tgt := 671) hx hb dL_law_44 (by decide) (by decide) rfl (by decide) (s_c6 hsf hx hb hml hown hRn hi hLL hl hr (by omega) hI kk)
    | 7, _ => exact lv_tableIn (off := 671) (tgt := 715) hx hb dL_law_44 (by decide) (by decide) rfl (by decide) (s_c7 hsf hx hb hml hown hRn hi hLL hl hr (by omega) hI kk)
    | 8, _ => exact lv_tableIn (off := 767) (tgt := 811) hx hb dL_law_44 (by decide) (by decide) rfl (by decide) (s_c8 hsf hx hb hml hown hRn hi hLL hl hr (by omega) hI kk)
    | 9, _ => exact lv_tableIn (off := 830) (tgt := 874) hx hb dL_law_44 (by decide) (by decide) rfl (by decide) (s_c9 hsf hx hb hml hown hRn hi hLL hl hr (by omega) hI kk)
    | 10, _ => exact lv_tableIn (off := 898) (tgt := 942) hx hb dL_law_44 (by decide) (by decide) rfl (by decide) (s_c10 hsf hx hb hml hown hRn hi hLL hl hr (by omega) hI kk)
    | 11, _ => exact lv_tableIn (off := 954) (tgt := 998) hx hb dL_law_44 (by decide) (by decide) rfl (by decide) (s_c11 hsf hx hb hml hown hRn hi hLL hl hr (by omega) hI kk)
    | 12, _ => exact lv_tableIn (off := 967) (tgt := 1011) hx hb dL_law_44 (by decide) (by decide) rfl (by decide) (s_c12 hsf hx hb hml hown hRn hi hLL hl hr (by omega) hI kk)
    | 13, _ => exact lv_tableIn (off := 980) (tgt := 1024) hx hb dL_law_44 (by decide) (by decide) rfl (by decide) (s_c13 hsf hx hb hml hown hRn hi hLL hl hr (by omega) hI kk)
    | 14, _ => exact lv_tableIn (off := 993) (tgt := 1037) hx hb dL_law_44 (by decide) (by decide) rfl (by decide) (s_c14 hsf hx hb hml hown hRn hi hLL hl hr (by omega) hI kk)
    | 15, _ => exact lv_tableIn (off := 1037) (tgt := 1081) hx hb dL_law_44 (by decide) (by decide) rfl (by decide) (s_c15 hsf hx hb hml hown hRn hi hLL hl hr (by omega) hI kk)
    | 16, _ => exact lv_tableIn (off := 1093) (tgt := 1137) hx hb dL_law_44 (by decide) (by decide) rfl (by decide) (s_c16 hsf hx hb hml hown hRn hi hLL hl hr (by omega) hI kk)
    | 17, _ => exact lv_tableIn (off := 1156) (tgt := 1200) hx hb dL_law_44 (by decide) (by decide) rfl (by decide) (s_c17 hsf hx hb hml hown hRn hi hLL hl hr (by omega) hI kk)
    | 18, _ => exact lv_tableIn (off := 1219) (tgt := 1263) hx hb dL_law_44 (by decide) (by decide) rfl (by decide) (s_c18 hsf hx hb hml hown hRn hi hLL hl hr (by omega) hI kk)
    | 19, _ => exact lv_tableIn (off := 1232) (tgt := 1276) hx hb dL_law_44 (by decide) (by decide) rfl (by decide) (s_c19 hsf hx hb hml hown hRn hi hLL hl hr (by omega) hI kk)
    | 20, _ => exact lv_tableIn (off := 1288) (tgt := 1332) hx hb dL_law_44 (by decide) (by decide) rfl (by decide) (s_c20 hsf hx hb hml hown hRn hi hLL hl hr (by omega) hI kk)
    | 21, _ => exact lv_tableIn (off := 1332) (tgt := 1376) hx hb dL_law_44 (by decide) (by decide) rfl (by decide) (s_c21 hsf hx hb hml hown hRn hi hLL hl hr (by omega) hI kk)
    | 22, _ => exact lv_tableIn (off := 1376) (tgt := 1420) hx hb dL_law_44 (by decide) (by decide) rfl (by decide) (s_c22 hsf hx hb hml hown hRn hi hLL hl hr (by omega) hI kk)
    | 23, _ => exact lv_tableIn (off := 1432) (tgt := 1476) hx hb dL_law_44 (by decide) (by decide) rfl (by decide) (s_c23 hsf hx hb hml hown hRn hi hLL hl hr (by omega) hI kk)
    | 24, _ => exact lv_tableIn (off := 1483) (tgt := 1527) hx hb dL_law_44 (by decide) (by decide) rfl (by decide) (s_c24 hsf hx hb hml hown hRn hi hLL hl hr (by omega) hI kk)
    | 25, _ => exact lv_tableIn (off := 1527) (tgt := 1571) hx hb dL_law_44 (by decide) (by decide) rfl (by decide) (s_c25 hsf hx hb hml hown hRn hi hLL hl hr (by omega) hI kk)
    | 26, _ => exact lv_tableIn (off := 1571) (tgt := 1615) hx hb dL_law_44 (by decide) (by decide) rfl (by decide) (s_c26 hsf hx hb hml hown hRn hi hLL hl hr (by omega) hI kk)
    | 27, _ => exact lv_tableIn (off := 1584) (tgt := 1628) hx hb dL_law_44 (by decide) (by decide) rfl (by decide) (s_c27 hsf hx hb hml hown hRn hi hLL hl hr (by omega) hI kk)
    | 28, _ => exact lv_tableIn (off := 1597) (tgt := 1641) hx hb dL_law_44 (by decide) (by decide) rfl (by decide) (s_c28 hsf hx hb hml hown hRn hi hLL hl hr (by omega) hI kk)
    | 29, _ => exact lv_tableIn (off := 1610) (tgt := 1654) hx hb dL_law_44 (by decide) (by decide) rfl (by decide) (s_c29 hsf hx hb hml hown hRn hi hLL hl hr (by omega) hI kk)
    | 30, _ => exact lv_tableIn (off := 1623) (tgt := 1667) hx hb dL_law_44 (by decide) (by decide) rfl (by decide) (s_c30 hsf hx hb hml hown hRn hi hLL hl hr (by omega) hI kk)
    | 31, _ => exact lv_tableIn (off := 1679) (tgt := 1723) hx hb dL_law_44 (by decide) (by decide) rfl (by decide) (s_c31 hsf hx hb hml hown hRn hi hLL hl hr (by omega) hI kk)
    | 32, _ => exact lv_tableIn (off := 1742) (tgt := 1786) hx hb dL_law_44 (by decide) (by decide) rfl (by decide) (s_c32 hsf hx hb hml hown hRn hi hLL hl hr (by omega) hI kk)
    | 33, _ => exact lv_tableIn (off := 1798) (tgt := 1842) hx hb dL_law_44 (by decide) (by decide) rfl (by decide) (s_c33 hsf hx hb hml hown hRn hi hLL hl hr (by omega) hI kk)
    | 34, _ => exact lv_tableIn (off := 1861) (tgt := 1905) hx hb dL_law_44 (by decide) (by decide) rfl (by decide) (s_c34 hsf hx hb hml hown hRn hi hLL hl hr (by omega) hI kk)
    | 35, _ => exact lv_tableIn (off := 1917) (tgt := 1961) hx hb dL_law_44 (by decide) (by decide) rfl (by decide) (s_c35 hsf hx hb hml hown hRn hi hLL hl hr (by omega) hI kk)
    | 36, _ => exact lv_tableIn (off := 1973) (tgt := 2017) hx hb dL_law_44 (by decide) (by decide) rfl (by decide) (s_c36 hsf hx hb hml hown hRn hi hLL hl hr (by omega) hI kk)
    | 37, _ => exact lv_tableIn (off := 2029) (tgt := 2073) hx hb dL_law_44 (by decide) (by decide) rfl (by decide) (s_c37 hsf hx hb hml hown hRn hi hLL hl hr (by omega) hI kk)
    | 38, _ => exact lv_tableIn (off := 2085) (tgt := 2129) hx hb dL_law_44 (by decide) (by decide) rfl (by decide) (s_c38 hsf hx hb hml hown hRn hi hLL hl hr (by omega) hI kk)
    | 39, _ => exact lv_tableIn (off := 2141) (tgt := 2185) hx hb dL_law_44 (by decide) (by decide) rfl (by decide) (s_c39 hsf hx hb hml hown hRn hi hLL hl hr (by omega) hI kk)
    | 40, _ => exact lv_tableIn (off := 2154) (tgt := 2198) hx hb dL_law_44 (by decide) (by decide) rfl (by decide) (s_c40 hsf hx hb hml hown hRn hi hLL hl hr (by omega) hI kk)
    | 41, _ => exact lv_tableIn (off := 2167) (tgt := 2211) hx hb dL_law_44 (by decide) (by decide) rfl (by decide) (s_c41 hsf hx hb hml hown hRn hi hLL hl hr (by omega) hI kk)
    | 42, _ => exact lv_tableIn (off := 2180) (tgt := 2224) hx hb dL_law_44 (by decide) (by decide) rfl (by decide) (s_c42 hsf hx hb hml hown hRn hi hLL hl hr (by omega) hI kk)
    | 43, _ => exact lv_tableIn (off := 2236) (tgt := 2280) hx hb dL_law_44 (by decide) (by decide) rfl (by decide) (s_c43 hsf hx hb hml hown hRn hi hLL hl hr (by omega) hI kk)
    | 44, _ => exact lv_tableIn (off := 2292) (tgt := 2336) hx hb dL_law_44 (by decide) (by decide) rfl (by decide) (s_c44 hsf hx hb hml hown hRn hi hLL hl hr (by omega) hI kk)
    | 45, _ => exact lv_tableIn (off := 2348) (tgt := 2392) hx hb dL_law_44 (by decide) (by decide) rfl (by decide) (s_c45 hsf hx hb hml hown hRn hi hLL hl hr (by omega) hI kk)
    | 46, _ => exact lv_tableIn (off := 2389) (tgt := 2433) hx hb dL_law_44 (by decide) (by decide) rfl (by decide) (s_c46 hsf hx hb hml hown hRn hi hLL hl hr (by omega) hI kk)
    | 47, _ => exact lv_tableIn (off := 2467) (tgt := 2511) hx hb dL_law_44 (by decide) (by decide) rfl (by decide) (s_c47 hsf hx hb hml hown hRn hi hLL hl hr (by omega) hI kk)
    | 48, _ => exact lv_tableIn (off := 2480) (tgt := 2524) hx hb dL_law_44 (by decide) (by decide) rfl (by decide) (s_c48 hsf hx hb hml hown hRn hi hLL hl hr (by omega) hI kk)
    | 49, _ => exact lv_tableIn (off := 2524) (tgt := 2568) hx hb dL_law_44 (by decide) (by decide) rfl (by decide) (s_c49 hsf hx hb hml hown hRn hi hLL hl hr (by omega) hI kk)
    | 50, _ => exact lv_tableIn (off := 2568) (tgt := 2612) hx hb dL_law_44 (by decide) (by decide) rfl (by decide) (s_c50 hsf hx hb hml hown hRn hi hLL hl hr (by omega) hI kk)
    | 51, _ => exact lv_tableIn (off := 2612) (tgt := 2656) hx hb dL_law_44 (by decide) (by decide) rfl (by decide) (s_c51 hsf hx hb hml hown hRn hi hLL hl hr (by omega) hI kk)
    | 52, _ => exact lv_tableIn (off := 2670) (tgt := 2714) hx hb dL_law_44 (by decide) (by decide) rfl (by decide) (s_c52 hsf hx hb hml hown hRn hi hLL hl hr (by omega) hI kk)
    | 53, _ => exact lv_tableIn (off := 2714) (tgt := 2758) hx hb dL_law_44 (by decide) (by decide) rfl (by decide) (s_c53 hsf hx hb hml hown hRn hi hLL hl hr (by omega) hI kk)
    | 54, _ => exact lv_tableIn (off := 2758) (tgt := 2802) hx hb dL_law_44 (by decide) (by decide) rfl (by decide) (s_c54 hsf hx hb hml hown hRn hi hLL hl hr (by omega) hI kk)
    | 55, _ => exact lv_tableIn (off := 2771) (tgt := 2815) hx hb dL_law_44 (by decide) (by decide) rfl (by decide) (s_c55 hsf hx hb hml hown hRn hi hLL hl hr (by omega) hI kk)
    | 56, _ => exact lv_tableIn (off := 2784) (tgt := 2828) hx hb dL_law_44 (by decide) (by decide) rfl (by decide) (s_c56 hsf hx hb hml hown hRn hi hLL hl hr (by omega) hI kk)
    | 57, _ => exact lv_tableIn (off := 2840) (tgt := 2884) hx hb dL_law_44 (by decide) (by decide) rfl (by decide) (s_c57 hsf hx hb hml hown hRn hi hLL hl hr (by omega) hI kk)
    | 58, _ => exact lv_tableIn (off := 2853) (tgt := 2897) hx hb dL_law_44 (by decide) (by decide) rfl (by decide) (s_c58 hsf hx hb hml hown hRn hi hLL hl hr (by omega) hI kk)
    | 59, _ => exact lv_tableIn (off := 2897) (tgt := 2941) hx hb dL_law_44 (by decide) (by decide) rfl (by decide) (s_c59 hsf hx hb hml hown hRn hi hLL hl hr (by omega) hI kk)
    | 60, _ => exact lv_tableIn (off := 2910) (tgt := 2954) hx hb dL_law_44 (by decide) (by decide) rfl (by decide) (s_c60 hsf hx hb hml hown hRn hi hLL hl hr (by omega) hI kk)
    | 61, _ => exact lv_tableOut (tgt := 2998) hx hb dL_law_44 (by decide) (by decide) out
    | 62, _ => exact lv_tableOut (tgt := 2998) hx hb dL_law_44 (by decide) (by decide) out
    | 63, _ => exact lv_tableOut (tgt := 2998) hx hb dL_law_44 (by decide) (by decide) out
    | t + 64, h => exact absurd h (by omega)
end LLOOP
