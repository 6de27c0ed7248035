/-! STRINGBUILDER.append(int), of one digit -/
set_option maxRecDepth 100000 in
theorem c_sSize (l : Launch) (w : WD) (sz : Nat) (v : Nat) (hv : v ≤ 9) (M : Mem) : mMet l yJ6_stringSize_0f7a4 cJ6_stringSize_0f7a4 4 (some .int) rmJ1 w sz M [.int (Int32.ofNat v)] (some (.int 1)) M := by
  refine m_of (by decide) (Nat.le_of_ble_eq_true rfl) ?_
  intro p e s m args below meth c hx hb hr hml hown hlk hI ls hl
  have hl : lv_has ls 4 [(0, .int (Int32.ofNat v))] := hl
  have h9 : ∀ v : Fin 10, ¬ Int32.ofNat v.val < 0 ∧ ¬ -Int32.ofNat v.val ≤ -10 := by decide
  obtain ⟨h1, h2⟩ := h9 ⟨v, by omega⟩
  have h1 : ¬ Int32.ofNat v < 0 := h1
  have h2 : ¬ -Int32.ofNat v ≤ -10 := h2
  refine lv_iconst (v := 1) hx hb dJ6_stringSize_0f7a4_0 (by decide) ?_
  refine lv_istore_n (lv' := [(1, .int 1), (0, .int (Int32.ofNat v))]) hx hb dJ6_stringSize_0f7a4_1 rfl hl (by decide) rfl (fun ls hl => ?_)
  refine lv_iload_n hx hb dJ6_stringSize_0f7a4_2 rfl (lv_at hl 1 rfl) ?_
  refine lv_if_lt (tgt := 11) hx hb dJ6_stringSize_0f7a4_3 (by decide) (fun c => absurd c h1) (fun _ => ?_)
  refine lv_iconst (v := 0) hx hb dJ6_stringSize_0f7a4_6 (by decide) ?_
  refine lv_istore_n (lv' := [(1, .int 0), (0, .int (Int32.ofNat v))]) hx hb dJ6_stringSize_0f7a4_7 rfl hl (by decide) rfl (fun ls hl => ?_)
  refine lv_iload_n hx hb dJ6_stringSize_0f7a4_8 rfl (lv_at hl 1 rfl) ?_
  refine lv_ineg hx hb dJ6_stringSize_0f7a4_9 ?_
  refine lv_istore_n (lv' := [(0, .int (-Int32.ofNat v)), (1, .int 0)]) hx hb dJ6_stringSize_0f7a4_10 rfl hl (by decide) rfl (fun ls hl => ?_)
  refine lv_bipush (v := -10) hx hb dJ6_stringSize_0f7a4_11 (by decide) ?_
  refine lv_istore_n (lv' := [(2, .int (-10)), (0, .int (-Int32.ofNat v)), (1, .int 0)]) hx hb dJ6_stringSize_0f7a4_13 rfl hl (by decide) rfl (fun ls hl => ?_)
  refine lv_iconst (v := 1) hx hb dJ6_stringSize_0f7a4_14 (by decide) ?_
  refine lv_istore_n (lv' := [(3, .int 1), (2, .int (-10)), (0, .int (-Int32.ofNat v)), (1, .int 0)]) hx hb dJ6_stringSize_0f7a4_15 rfl hl (by decide) rfl (fun ls hl => ?_)
  refine lv_iload_n hx hb dJ6_stringSize_0f7a4_16 rfl (lv_at hl 0 rfl) ?_
  refine lv_bipush (v := 10) hx hb dJ6_stringSize_0f7a4_17 (by decide) ?_
  refine lv_icmp_ge (tgt := 42) hx hb dJ6_stringSize_0f7a4_19 (by decide) (fun c => absurd c (by decide)) (fun _ => ?_)
  refine lv_iload_n hx hb dJ6_stringSize_0f7a4_22 rfl (lv_at hl 2 rfl) ?_
  refine lv_iload_n hx hb dJ6_stringSize_0f7a4_23 rfl (lv_at hl 1 rfl) ?_
  refine lv_icmp_le (tgt := 31) hx hb dJ6_stringSize_0f7a4_24 (by decide) (fun c => absurd c h2) (fun _ => ?_)
  refine lv_iload_n hx hb dJ6_stringSize_0f7a4_27 rfl (lv_at hl 0 rfl) ?_
  refine lv_iload_n hx hb dJ6_stringSize_0f7a4_28 rfl (lv_at hl 3 rfl) ?_
  refine lv_iadd hx hb dJ6_stringSize_0f7a4_29 ?_
  exact m_iretp hx hb hr hlk hI (show some ((1 : Int32) + 0) = some 1 from by decide) dJ6_stringSize_0f7a4_30
/-- one digit behind what is there -/
abbrev bDig (f : Nat → Int32) (n v : Nat) : Nat → Int32 := bCat f n 1 (fun _ => Int32.ofNat (48 + v))
set_option maxRecDepth 100000 in
theorem c_getChars (l : Launch) (w : WD) (sz : Nat) (z : BX) (n : Nat) (f : Nat → Int32) (M : Mem) (v : Nat) (hv : v ≤ 9) (hn : n + 1 ≤ 16) : bMet l yJ6_getChars_ba4f3 cJ6_getChars_ba4f3 7 (some .int) rmJ1 w sz z n f M [.int (Int32.ofNat v), .int (Int32.ofNat (n + 1)), .ref z.2.2.1] (some (.int (Int32.ofNat n))) n (bDig f n v) := by
  refine b_of (by decide) (Nat.le_of_ble_eq_true rfl) ?_
  intro p e s m args below meth c hx hb hr hml hown hlk hI ls hl
  have hl : lv_has ls 7 [(0, .int (Int32.ofNat v)), (1, .int (Int32.ofNat (n + 1))), (2, .ref z.2.2.1)] := hl
  have h9 : ∀ v : Fin 10, 0 ≤ Int32.ofNat v.val ∧ -100 < -Int32.ofNat v.val ∧ -9 ≤ -Int32.ofNat v.val ∧ vp_in (-(-Int32.ofNat v.val)) 100 ∧ (-(-Int32.ofNat v.val)).toNatClampNeg = v.val ∧ narrow .byte (.int (Int32.ofNat (48 + v.val))) = .int (Int32.ofNat (48 + v.val)) := by unfold vp_in; decide
  obtain ⟨h1, h2, h3, h4, h5, h6⟩ := h9 ⟨v, by omega⟩
  have h1 : 0 ≤ Int32.ofNat v := h1
  have h2 : -100 < -Int32.ofNat v := h2
  have h3 : -9 ≤ -Int32.ofNat v := h3
  have h4 : vp_in (-(-Int32.ofNat v)) 100 := h4
  have h5 : (-(-Int32.ofNat v)).toNatClampNeg = v := h5
  have h6 : narrow .byte (.int (Int32.ofNat (48 + v))) = .int (Int32.ofNat (48 + v)) := h6
  have n9 : ∀ n : Fin 16, Int32.ofNat (n.val + 1) + Int32.ofInt (-1) = Int32.ofNat n.val ∧ vp_in (Int32.ofNat n.val) 16 ∧ (Int32.ofNat n.val).toNatClampNeg = n.val := by unfold vp_in; decide
  obtain ⟨g1, g2, g3⟩ := n9 ⟨n, by omega⟩
  have g1 : Int32.ofNat (n + 1) + Int32.ofInt (-1) = Int32.ofNat n := g1
  have g2 : vp_in (Int32.ofNat n) 16 := g2
  have g3 : (Int32.ofNat n).toNatClampNeg = n := g3
  obtain ⟨-, -, -, -, -, -, -, -, -, -, -, -, -, ⟨dz, dt⟩, -⟩ := hI.1.St
  refine lv_iload_n hx hb dJ6_getChars_ba4f3_0 rfl (lv_at hl 1 rfl) ?_
  refine lv_istore (lv' := [(5, .int (Int32.ofNat (n + 1))), (0, .int (Int32.ofNat v)), (1, .int (Int32.ofNat (n + 1))), (2, .ref z.2.2.1)]) hx hb dJ6_getChars_ba4f3_1 hl (by decide) rfl (fun ls hl => ?_)
  refine lv_iload_n hx hb dJ6_getChars_ba4f3_3 rfl (lv_at hl 1 rfl) ?_
  refine lv_if_ge (tgt := 11) hx hb dJ6_getChars_ba4f3_4 (by decide) (fun _ => ?_) (fun c => absurd h1 c)
  refine lv_iconst (v := 0) hx hb dJ6_getChars_ba4f3_11 (by decide) ?_
  refine lv_istore (lv' := [(6, .int 0), (5, .int (Int32.ofNat (n + 1))), (0, .int (Int32.ofNat v)), (1, .int (Int32.ofNat (n + 1))), (2, .ref z.2.2.1)]) hx hb dJ6_getChars_ba4f3_12 hl (by decide) rfl (fun ls hl => ?_)
  refine lv_iload hx hb dJ6_getChars_ba4f3_14 (lv_at hl 0 rfl) ?_
  refine lv_if_ne (tgt := 22) hx hb dJ6_getChars_ba4f3_16 (by decide) (fun c => absurd rfl c) (fun _ => ?_)
  refine lv_iload_n hx hb dJ6_getChars_ba4f3_19 rfl (lv_at hl 2 rfl) ?_
  refine lv_ineg hx hb dJ6_getChars_ba4f3_20 ?_
  refine lv_istore_n (lv' := [(0, .int (-Int32.ofNat v)), (6, .int 0), (5, .int (Int32.ofNat (n + 1))), (1, .int (Int32.ofNat (n + 1))), (2, .ref z.2.2.1)]) hx hb dJ6_getChars_ba4f3_21 rfl hl (by decide) rfl (fun ls hl => ?_)
  refine lv_iload_n hx hb dJ6_getChars_ba4f3_22 rfl (lv_at hl 0 rfl) ?_
  refine lv_bipush (v := -100) hx hb dJ6_getChars_ba4f3_23 (by decide) ?_
  refine lv_icmp_gt (tgt := 72) hx hb dJ6_getChars_ba4f3_25 (by decide) (fun _ => ?_) (fun c => absurd h2 c)
  refine lv_aload_n hx hb dJ6_getChars_ba4f3_72 rfl (lv_at hl 4 rfl) ?_
  refine lv_iinc (v := Int32.ofNat n) (lv' := [(5, .int (Int32.ofNat n)), (0, .int (-Int32.ofNat v)), (6, .int 0), (1, .int (Int32.ofNat (n + 1))), (2, .ref z.2.2.1)]) hx hb dJ6_getChars_ba4f3_73 hl (k := 2) rfl g1 (by decide) rfl (fun ls hl => ?_)
  refine lv_iload hx hb dJ6_getChars_ba4f3_76 (lv_at hl 0 rfl) ?_
  refine va_gets hx hb dz hI.1.S hown (q1128 hI.T) (fun _ h => h) dJ6_getChars_ba4f3_78 ?_
  refine lv_iload_n hx hb dJ6_getChars_ba4f3_81 rfl (lv_at hl 1 rfl) ?_
  refine lv_ineg hx hb dJ6_getChars_ba4f3_82 ?_
  refine va_tb hx hb dt hI.1.S h4 (v := .int (Int32.ofNat (48 + v))) (by rw [h5, Nat.mod_eq_of_lt (by omega)]) dJ6_getChars_ba4f3_83 ?_
  refine b_bast hx hb hI g2 (f1 := bDig f n v) (fun k _ => ?_) h6 dJ6_getChars_ba4f3_84 (fun H locs hI => ?_)
  · unfold bDig bCat
    rw [g3]
    by_cases q : k = n
    · rw [if_pos (by omega), if_pos q]
    · rw [if_neg (by omega), if_neg q]
  refine lv_iload_n hx hb dJ6_getChars_ba4f3_85 rfl (lv_at hl 1 rfl) ?_
  refine lv_bipush (v := -9) hx hb dJ6_getChars_ba4f3_86 (by decide) ?_
  refine lv_icmp_ge (tgt := 104) hx hb dJ6_getChars_ba4f3_88 (by decide) (fun _ => ?_) (fun c => absurd h3 c)
  refine lv_iload hx hb dJ6_getChars_ba4f3_104 (lv_at hl 2 rfl) ?_
  refine lv_if_eq (tgt := 118) hx hb dJ6_getChars_ba4f3_106 (by decide) (fun _ => ?_) (fun c => absurd rfl c)
  refine lv_iload hx hb dJ6_getChars_ba4f3_118 (lv_at hl 0 rfl) ?_
  exact b_iret hx hb hr hlk hI dJ6_getChars_ba4f3_120
set_option maxRecDepth 100000 in
theorem c_asbAppI (l : Launch) (w : WD) (sz : Nat) (z : BX) (n : Nat) (f : Nat → Int32) (M : Mem) (v : Nat) (hv : v ≤ 9) (hn : n + 1 ≤ 16) : bMet l yJ5_append_c97b9 cJ5_append_c97b9 4 (some (.object "java/lang/AbstractStringBuilder")) rmJ4 w sz z n f M [.ref z.2.1, .int (Int32.ofNat v)] (some (.ref z.2.1)) (n + 1) (bDig f n v) := by
  refine b_of (by decide) (Nat.le_of_ble_eq_true rfl) ?_
  intro p e s m args below meth c hx hb hr hml hown hlk hI ls hl
  have hl : lv_has ls 4 [(0, .ref z.2.1), (1, .int (Int32.ofNat v))] := hl
  have n9 : ∀ n : Fin 16, Int32.ofNat n.val + 1 = Int32.ofNat (n.val + 1) := by decide
  have ea : Int32.ofNat n + 1 = Int32.ofNat (n + 1) := n9 ⟨n, by omega⟩
  refine lv_aload_n hx hb dJ5_append_c97b9_0 rfl (lv_at hl 0 rfl) ?_
  refine b_get hx hb hown hI 3 (by decide) (q988 hI.T) rfl rfl dJ5_append_c97b9_1 ?_
  refine lv_istore_n (lv' := [(2, .int (Int32.ofNat n)), (0, .ref z.2.1), (1, .int (Int32.ofNat v))]) hx hb dJ5_append_c97b9_4 rfl hl (by decide) rfl (fun ls hl => ?_)
  refine lv_iload_n hx hb dJ5_append_c97b9_5 rfl (lv_at hl 0 rfl) ?_
  refine lv_iload_n hx hb dJ5_append_c97b9_6 rfl (lv_at hl 2 rfl) ?_
  refine b_callSm (As := [.int (Int32.ofNat v)]) (rest := [.int (Int32.ofNat n)]) hx hb hml hown hI (c_sSize l w s.heap.size v hv M) (m_callB (n := 1) hI.T kc_J6_stringSize_0f7a4 ki_J6_stringSize_0f7a4 (q1122 hI.T) (by decide +kernel) ⟨rfl, rfl, Nat.le_of_ble_eq_true rfl, Nat.le_of_ble_eq_true rfl⟩) (q1123 hI.T) rfl hl.1 (Nat.le_of_ble_eq_true rfl) dJ5_append_c97b9_7 ⟨Nat.le_of_ble_eq_true rfl, Nat.le_of_ble_eq_true rfl⟩ (fun H locs hI => ?_)
  refine lv_iadd hx hb dJ5_append_c97b9_10 ?_
  rw [ea]
  refine lv_istore_n (lv' := [(3, .int (Int32.ofNat (n + 1))), (2, .int (Int32.ofNat n)), (0, .ref z.2.1), (1, .int (Int32.ofNat v))]) hx hb dJ5_append_c97b9_11 rfl hl (by decide) rfl (fun ls hl => ?_)
  refine lv_aload_n hx hb dJ5_append_c97b9_12 rfl (lv_at hl 2 rfl) ?_
  refine lv_iload_n hx hb dJ5_append_c97b9_13 rfl (lv_at hl 0 rfl) ?_
  refine b_callV (As := [.int (Int32.ofNat (n + 1))]) (rest := []) hx hb hml hown hI (c_ensure l w H.size z n f M (n + 1) hn) (m_callB (n := 1) hI.T kc_J5_ensureCapacityInternal_d00df ki_J5_ensureCapacityInternal_d00df (q1010 hI.T) (by decide +kernel) ⟨rfl, rfl, Nat.le_of_ble_eq_true rfl, Nat.le_of_ble_eq_true rfl⟩) (q1012 hI.T) (sel_priv hI.at.1 (q1614 hI.T) (q1011 hI.T) (q1012 hI.T)) rfl hl.1 (Nat.le_of_ble_eq_true rfl) dJ5_append_c97b9_14 ⟨Nat.le_of_ble_eq_true rfl, Nat.le_of_ble_eq_true rfl⟩ (fun H locs hI => ?_)
  refine lv_aload_n hx hb dJ5_append_c97b9_17 rfl (lv_at hl 2 rfl) ?_
  refine b_callV (As := []) (rest := []) hx hb hml hown hI (c_sbLat l w H.size z n f M) (m_callB (n := 0) hI.T kc_J5_isLatin1_aae02 ki_J5_isLatin1_aae02 (q1041 hI.T) (by decide +kernel) ⟨rfl, rfl, Nat.le_of_ble_eq_true rfl, Nat.le_of_ble_eq_true rfl⟩) (q1042 hI.T) (q1044 hI.T) rfl hl.1 (Nat.le_of_ble_eq_true rfl) dJ5_append_c97b9_18 ⟨Nat.le_of_ble_eq_true rfl, Nat.le_of_ble_eq_true rfl⟩ (fun H locs hI => ?_)
  refine lv_if_eq (tgt := 37) hx hb dJ5_append_c97b9_21 (by decide) (fun c => absurd c (by decide)) (fun _ => ?_)
  refine lv_iload_n hx hb dJ5_append_c97b9_24 rfl (lv_at hl 3 rfl) ?_
  refine lv_iload_n hx hb dJ5_append_c97b9_25 rfl (lv_at hl 0 rfl) ?_
  refine lv_aload_n hx hb dJ5_append_c97b9_26 rfl (lv_at hl 2 rfl) ?_
  refine b_get hx hb hown hI 0 (by decide) (q985 hI.T) rfl rfl dJ5_append_c97b9_27 ?_
  refine b_callS (As := [.int (Int32.ofNat v), .int (Int32.ofNat (n + 1)), .ref z.2.2.1]) (rest := []) hx hb hml hown hI (c_getChars l w H.size z n f M v hv hn) (m_callB (n := 3) hI.T kc_J6_getChars_ba4f3 ki_J6_getChars_ba4f3 (q1125 hI.T) (by decide +kernel) ⟨rfl, rfl, Nat.le_of_ble_eq_true rfl, Nat.le_of_ble_eq_true rfl⟩) (q1126 hI.T) rfl hl.1 (Nat.le_of_ble_eq_true rfl) dJ5_append_c97b9_30 ⟨Nat.le_of_ble_eq_true rfl, Nat.le_of_ble_eq_true rfl⟩ (fun H locs hI => ?_)
  refine lv_pop hx hb dJ5_append_c97b9_33 rfl ?_
  refine lv_goto (tgt := 48) hx hb dJ5_append_c97b9_34 (by decide) ?_
  refine lv_aload_n hx hb dJ5_append_c97b9_48 rfl (lv_at hl 2 rfl) ?_
  refine lv_iload_n hx hb dJ5_append_c97b9_49 rfl (lv_at hl 0 rfl) ?_
  refine b_putn hx hb hown hI (q988 hI.T) rfl dJ5_append_c97b9_50 (fun H locs hI => ?_)
  refine lv_aload_n hx hb dJ5_append_c97b9_53 rfl (lv_at hl 2 rfl) ?_
  exact b_aret hx hb hr (Or.inl ⟨_, rfl⟩) hlk hI dJ5_append_c97b9_54
set_option maxRecDepth 100000 in
theorem c_sbAppI (l : Launch) (w : WD) (sz : Nat) (z : BX) (n : Nat) (f : Nat → Int32) (M : Mem) (v : Nat) (hv : v ≤ 9) (hn : n + 1 ≤ 16) : bMet l yJ4_append_bf812 cJ4_append_bf812 2 (some (.object "java/lang/StringBuilder")) rmJ5 w sz z n f M [.ref z.2.1, .int (Int32.ofNat v)] (some (.ref z.2.1)) (n + 1) (bDig f n v) := by
  refine b_of (by decide) (Nat.le_of_ble_eq_true rfl) ?_
  intro p e s m args below meth c hx hb hr hml hown hlk hI ls hl
  have hl : lv_has ls 2 [(0, .ref z.2.1), (1, .int (Int32.ofNat v))] := hl
  refine lv_aload_n hx hb dJ4_append_bf812_0 rfl (lv_at hl 0 rfl) ?_
  refine lv_iload_n hx hb dJ4_append_bf812_1 rfl (lv_at hl 1 rfl) ?_
  refine b_callSU (As := [.int (Int32.ofNat v)]) (rest := []) hx hb hml hown hI (c_asbAppI l w s.heap.size z n f M v hv hn) ⟨⟨rfl, rfl, Nat.le_of_ble_eq_true rfl, Nat.le_of_ble_eq_true rfl, fun w hw a' U hW => ?_, List.mem_cons_self⟩, q1119 hI.T, q1619 hI.T, q997 hI.T, q1120 hI.T, q22 hI.T, q1121 hI.T, by decide, fun sig h => ?_⟩ rfl hl.1 (Nat.le_of_ble_eq_true rfl) dJ4_append_bf812_2 ⟨Nat.le_of_ble_eq_true rfl, Nat.le_of_ble_eq_true rfl⟩ (fun H locs hI => ?_)
  · obtain rfl := List.mem_singleton.mp hw
    exact word_at hW (good_of_word rfl) (hI.T _ kc_J5_append_c97b9 rfl args)
  · have h2 : (parseMethodDescriptor yJ5_append_c97b9.desc).map (fun d => d.parameters.length) = some 1 := by decide +kernel
    rw [h] at h2
    exact (Option.some.inj h2).symm
  refine lv_pop hx hb dJ4_append_bf812_5 rfl ?_
  refine lv_aload_n hx hb dJ4_append_bf812_6 rfl (lv_at hl 0 rfl) ?_
  exact b_aret hx hb hr (Or.inl ⟨_, rfl⟩) hlk hI dJ4_append_bf812_7
