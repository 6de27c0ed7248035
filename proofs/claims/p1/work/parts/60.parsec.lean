theorem lit32_t {tx : Nat → Nat} {L : Nat} {r : Rdr} (h : r.1 = true) (q : isAt tx L r.2.1 32 = true) : lit tx L [32] r = (true, r.2.1 + 1, r.2.2) := by
  unfold lit
  rw [if_pos h, ml_c, if_pos q, ml_n]
  rfl
theorem lit32_f {tx : Nat → Nat} {L : Nat} {r : Rdr} (h : r.1 = true) (q : ¬ isAt tx L r.2.1 32 = true) : lit tx L [32] r = (false, r.2) := by
  unfold lit
  rw [if_pos h, ml_c, if_neg q]
  rfl
theorem c_blank {M0 M : Mem} {tx : Nat → Nat} {L c : Nat} {r : Rdr} (h : Cst M0 M tx L c r) (hr : r.1 = true) : wp (f_X2_readBlank M) fun v M1 => v = nI (lit tx L [32] r).1.toNat ∧ Cst M0 M1 tx L c (lit tx L [32] r) := by
  have h' := h
  obtain ⟨ht, ⟨h4, h5, h6⟩, ⟨h7, h8, h9⟩, h10, h11⟩ := h'
  have e := c_peek ht h4 h7
  have e32 := pk_at (tx := tx) (L := L) (p := r.2.1) (c := 32) (fun i hi => (ht.2.2 i hi).2) (by decide)
  unfold f_X2_readBlank
  by_cases q : isAt tx L r.2.1 32 = true
  · have l := (isAt_lt q).1
    have e2 : pk tx L r.2.1 = nI 32 := by rw [e32]; exact q
    rw [lit32_t hr q]
    simp (disch := omega) only [lit_0, lit_1, lit_2, lit_3, lit_4, lit_5, lit_6, lit_7, lit_8, lit_9, lit_10, lit_11, lit_12, lit_13, lit_14, lit_15, lit_16, lit_20, lit_23, lit_24, lit_31, lit_32, lit_39, lit_43, lit_45, lit_47, lit_48, lit_56, lit_57, lit_59, lit_60, lit_62, lit_63, lit_89, lit_92, lit_96, lit_97, lit_99, lit_100, lit_102, lit_103, lit_104, lit_110, lit_111, lit_115, lit_117, lit_194, lit_200, lit_644, lit_736, lit_999, lit_1000, lit_9999, lit_10000, lit_1000000000, ↓wp_mlet, ↓wp_mbp, ↓wp_ite, ↓wp_mix, ↓wp_mdiv, ↓wp_mnz, ↓wp_some, ↓wp_mbnd, ↓mlet_eq, ↓mbp_eq, ↓mbnd_eq, ↓mix_ite, ↓mdiv_ite, ↓mnz_ite, nI_add, nI_mul, nI_nat, nI_ltE, nI_leE, nI_eqE, nI_eqN, nI_Neq, nI_Nlt, nI_Nle, nI_ltN, nI_leN, ↓reduceIte, ↓Nat.reduceEqDiff, and_f, nt_e, nt_t, nl_t, nl_f, ne_t, ne_f, and_self, or_self, or_true, true_or, or_false, false_or, if_true, if_false, and_true, true_and, and_false, false_and, not_true, not_false_iff, e, e2, h4]
    exact ⟨rfl, h.at (p := r.2.1 + 1) (by omega) true rfl⟩
  · have e2 : ¬ pk tx L r.2.1 = nI 32 := by rw [e32]; exact q
    rw [lit32_f hr q, e, mbp_eq, lit_32, if_neg e2, wp_some]
    exact ⟨rfl, h⟩
theorem c_dir {M0 M : Mem} {tx : Nat → Nat} {L c : Nat} {r : Rdr} (h : Cst M0 M tx L c r) (hr : r.1 = true) (hn : r.2.2.1 < 4) : wp (f_X2_readDirection M) fun v M1 => v = nI (dir tx L r).1.toNat ∧ Cst M0 M1 tx L c (dir tx L r) := by
  have h' := h
  obtain ⟨ht, ⟨h4, h5, h6⟩, ⟨h7, h8, h9⟩, h10, h11⟩ := h'
  have e := c_peek ht h4 h7
  have e43 := pk_at (tx := tx) (L := L) (p := r.2.1) (c := 43) (fun i hi => (ht.2.2 i hi).2) (by decide)
  have e45 := pk_at (tx := tx) (L := L) (p := r.2.1) (c := 45) (fun i hi => (ht.2.2 i hi).2) (by decide)
  unfold f_X2_readDirection dir
  rw [if_pos hr]
  by_cases q : isAt tx L r.2.1 43 = true
  · have l := (isAt_lt q).1
    have e2 : pk tx L r.2.1 = nI 43 := by rw [e43]; exact q
    rw [if_pos q]
    have h1 := h.at (p := r.2.1 + 1) (by omega) true rfl
    obtain ⟨⟨⟩, M1, e5, h6'⟩ := c_addNumber (v := 1) h1 hn
    simp (disch := omega) only [lit_0, lit_1, lit_2, lit_3, lit_4, lit_5, lit_6, lit_7, lit_8, lit_9, lit_10, lit_11, lit_12, lit_13, lit_14, lit_15, lit_16, lit_20, lit_23, lit_24, lit_31, lit_32, lit_39, lit_43, lit_45, lit_47, lit_48, lit_56, lit_57, lit_59, lit_60, lit_62, lit_63, lit_89, lit_92, lit_96, lit_97, lit_99, lit_100, lit_102, lit_103, lit_104, lit_110, lit_111, lit_115, lit_117, lit_194, lit_200, lit_644, lit_736, lit_999, lit_1000, lit_9999, lit_10000, lit_1000000000, ↓wp_mlet, ↓wp_mbp, ↓wp_ite, ↓wp_mix, ↓wp_mdiv, ↓wp_mnz, ↓wp_some, ↓wp_mbnd, ↓mlet_eq, ↓mbp_eq, ↓mbnd_eq, ↓mix_ite, ↓mdiv_ite, ↓mnz_ite, nI_add, nI_mul, nI_nat, nI_ltE, nI_leE, nI_eqE, nI_eqN, nI_Neq, nI_Nlt, nI_Nle, nI_ltN, nI_leN, ↓reduceIte, ↓Nat.reduceEqDiff, and_f, nt_e, nt_t, nl_t, nl_f, ne_t, ne_f, and_self, or_self, or_true, true_or, or_false, false_or, if_true, if_false, and_true, true_and, and_false, false_and, not_true, not_false_iff, e, e2, h4, e5]
    exact ⟨rfl, h6'⟩
  · have e2 : ¬ pk tx L r.2.1 = nI 43 := by rw [e43]; exact q
    rw [if_neg q]
    by_cases q2 : isAt tx L r.2.1 45 = true
    · have l := (isAt_lt q2).1
      have e3 : pk tx L r.2.1 = nI 45 := by rw [e45]; exact q2
      rw [if_pos q2]
      have h1 := h.at (p := r.2.1 + 1) (by omega) true rfl
      obtain ⟨⟨⟩, M1, e5, h6'⟩ := c_addNumber (v := 0) h1 hn
      simp (disch := omega) only [lit_0, lit_1, lit_2, lit_3, lit_4, lit_5, lit_6, lit_7, lit_8, lit_9, lit_10, lit_11, lit_12, lit_13, lit_14, lit_15, lit_16, lit_20, lit_23, lit_24, lit_31, lit_32, lit_39, lit_43, lit_45, lit_47, lit_48, lit_56, lit_57, lit_59, lit_60, lit_62, lit_63, lit_89, lit_92, lit_96, lit_97, lit_99, lit_100, lit_102, lit_103, lit_104, lit_110, lit_111, lit_115, lit_117, lit_194, lit_200, lit_644, lit_736, lit_999, lit_1000, lit_9999, lit_10000, lit_1000000000, ↓wp_mlet, ↓wp_mbp, ↓wp_ite, ↓wp_mix, ↓wp_mdiv, ↓wp_mnz, ↓wp_some, ↓wp_mbnd, ↓mlet_eq, ↓mbp_eq, ↓mbnd_eq, ↓mix_ite, ↓mdiv_ite, ↓mnz_ite, nI_add, nI_mul, nI_nat, nI_ltE, nI_leE, nI_eqE, nI_eqN, nI_Neq, nI_Nlt, nI_Nle, nI_ltN, nI_leN, ↓reduceIte, ↓Nat.reduceEqDiff, and_f, nt_e, nt_t, nl_t, nl_f, ne_t, ne_f, and_self, or_self, or_true, true_or, or_false, false_or, if_true, if_false, and_true, true_and, and_false, false_and, not_true, not_false_iff, e, e3, h4, e5]
      exact ⟨rfl, h6'⟩
    · have e3 : ¬ pk tx L r.2.1 = nI 45 := by rw [e45]; exact q2
      rw [if_neg q2, e, mbp_eq]
      simp only [mlet_eq, lit_0, lit_1, lit_2, lit_3, lit_4, lit_5, lit_6, lit_7, lit_8, lit_9, lit_10, lit_11, lit_12, lit_13, lit_14, lit_15, lit_16, lit_20, lit_23, lit_24, lit_31, lit_32, lit_39, lit_43, lit_45, lit_47, lit_48, lit_56, lit_57, lit_59, lit_60, lit_62, lit_63, lit_89, lit_92, lit_96, lit_97, lit_99, lit_100, lit_102, lit_103, lit_104, lit_110, lit_111, lit_115, lit_117, lit_194, lit_200, lit_644, lit_736, lit_999, lit_1000, lit_9999, lit_10000, lit_1000000000]
      rw [if_neg e2, if_neg e3, wp_some]
      exact ⟨rfl, h⟩
theorem c_digits {M0 : Mem} {tx : Nat → Nat} {L c m : Nat} (kk : Int32 → Int32 → Mem → Option (Int32 × Mem)) : ∀ d N x v (r : Rdr) (M : Mem), x + d = m → d < N → m ≤ 2 → Cst M0 M tx L c r → ∃ M1, Cst M0 M1 tx L c (r.1, r.2.1 + dgc tx L d r.2.1, r.2.2) ∧ f_X2_readNumber_L4 (nI m) N (nI x) (nI v) M kk = kk (nI (x + dgc tx L d r.2.1)) (nI (dgv tx L d r.2.1 v)) M1 := by
  intro d
  induction d with
  | zero =>
    intro N x v r M h1 h2 hm h
    obtain ⟨n, rfl⟩ : ∃ n, N = n + 1 := ⟨N - 1, by omega⟩
    refine ⟨M, h, ?_⟩
    rw [f_X2_readNumber_L4.eq_2, if_pos (by rw [nI_leE (by omega) (by omega)]; omega)]
    rfl
  | succ d ih =>
    intro N x v r M h1 h2 hm h
    obtain ⟨n, rfl⟩ : ∃ n, N = n + 1 := ⟨N - 1, by omega⟩
    have h' := h
    obtain ⟨ht, ⟨h4, h5, h6⟩, ⟨h7, h8, h9⟩, h10, h11⟩ := h'
    have e := c_peek ht h4 h7
    rw [f_X2_readNumber_L4.eq_2, dgc_s, dgv_s]
    by_cases q : isD tx L r.2.1 = true
    · rw [if_pos q, if_pos q]
      rw [isD_t] at q
      have e2 : pk tx L r.2.1 = nI (tx r.2.1) := if_pos q.1
      have h3 := h.at (p := r.2.1 + 1) (by omega) r.1 rfl
      obtain ⟨M1, k1, k2⟩ := ih n (x + 1) (v * 10 + (tx r.2.1 - 48)) (r.1, r.2.1 + 1, r.2.2) _ (by omega) (by omega) hm h3
      refine ⟨M1, ?_, ?_⟩
      · rw [show r.2.1 + (1 + dgc tx L d (r.2.1 + 1)) = r.2.1 + 1 + dgc tx L d (r.2.1 + 1) by omega]
        exact k1
      · have e3 : nI (v * 10 + tx r.2.1) - nI 48 = nI (v * 10 + (tx r.2.1 - 48)) := by rw [nI_subE (by omega)]; congr 1; omega
        simp (disch := omega) only [lit_0, lit_1, lit_2, lit_3, lit_4, lit_5, lit_6, lit_7, lit_8, lit_9, lit_10, lit_11, lit_12, lit_13, lit_14, lit_15, lit_16, lit_20, lit_23, lit_24, lit_31, lit_32, lit_39, lit_43, lit_45, lit_47, lit_48, lit_56, lit_57, lit_59, lit_60, lit_62, lit_63, lit_89, lit_92, lit_96, lit_97, lit_99, lit_100, lit_102, lit_103, lit_104, lit_110, lit_111, lit_115, lit_117, lit_194, lit_200, lit_644, lit_736, lit_999, lit_1000, lit_9999, lit_10000, lit_1000000000, ↓wp_mlet, ↓wp_mbp, ↓wp_ite, ↓wp_mix, ↓wp_mdiv, ↓wp_mnz, ↓wp_some, ↓wp_mbnd, ↓mlet_eq, ↓mbp_eq, ↓mbnd_eq, ↓mix_ite, ↓mdiv_ite, ↓mnz_ite, nI_add, nI_mul, nI_nat, nI_ltE, nI_leE, nI_eqE, nI_eqN, nI_Neq, nI_Nlt, nI_Nle, nI_ltN, nI_leN, ↓reduceIte, ↓Nat.reduceEqDiff, and_f, nt_e, nt_t, nl_t, nl_f, ne_t, ne_f, and_self, or_self, or_true, true_or, or_false, false_or, if_true, if_false, and_true, true_and, and_false, false_and, not_true, not_false_iff, e, e2, h4, e3]
        rw [show x + (1 + dgc tx L d (r.2.1 + 1)) = x + 1 + dgc tx L d (r.2.1 + 1) by omega]
        exact k2
    · rw [if_neg q, if_neg q]
      refine ⟨M, h, ?_⟩
      rw [isD_t] at q
      by_cases q1 : r.2.1 < L
      · have e2 : pk tx L r.2.1 = nI (tx r.2.1) := if_pos q1
        have lt := (ht.2.2 r.2.1 q1).2
        by_cases q2 : tx r.2.1 < 48
        · simp (disch := omega) only [lit_0, lit_1, lit_2, lit_3, lit_4, lit_5, lit_6, lit_7, lit_8, lit_9, lit_10, lit_11, lit_12, lit_13, lit_14, lit_15, lit_16, lit_20, lit_23, lit_24, lit_31, lit_32, lit_39, lit_43, lit_45, lit_47, lit_48, lit_56, lit_57, lit_59, lit_60, lit_62, lit_63, lit_89, lit_92, lit_96, lit_97, lit_99, lit_100, lit_102, lit_103, lit_104, lit_110, lit_111, lit_115, lit_117, lit_194, lit_200, lit_644, lit_736, lit_999, lit_1000, lit_9999, lit_10000, lit_1000000000, ↓wp_mlet, ↓wp_mbp, ↓wp_ite, ↓wp_mix, ↓wp_mdiv, ↓wp_mnz, ↓wp_some, ↓wp_mbnd, ↓mlet_eq, ↓mbp_eq, ↓mbnd_eq, ↓mix_ite, ↓mdiv_ite, ↓mnz_ite, nI_add, nI_mul, nI_nat, nI_ltE, nI_leE, nI_eqE, nI_eqN, nI_Neq, nI_Nlt, nI_Nle, nI_ltN, nI_leN, ↓reduceIte, ↓Nat.reduceEqDiff, and_f, nt_e, nt_t, nl_t, nl_f, ne_t, ne_f, and_self, or_self, or_true, true_or, or_false, false_or, if_true, if_false, and_true, true_and, and_false, false_and, not_true, not_false_iff, e, e2, Nat.add_zero]
        · simp (disch := omega) only [lit_0, lit_1, lit_2, lit_3, lit_4, lit_5, lit_6, lit_7, lit_8, lit_9, lit_10, lit_11, lit_12, lit_13, lit_14, lit_15, lit_16, lit_20, lit_23, lit_24, lit_31, lit_32, lit_39, lit_43, lit_45, lit_47, lit_48, lit_56, lit_57, lit_59, lit_60, lit_62, lit_63, lit_89, lit_92, lit_96, lit_97, lit_99, lit_100, lit_102, lit_103, lit_104, lit_110, lit_111, lit_115, lit_117, lit_194, lit_200, lit_644, lit_736, lit_999, lit_1000, lit_9999, lit_10000, lit_1000000000, ↓wp_mlet, ↓wp_mbp, ↓wp_ite, ↓wp_mix, ↓wp_mdiv, ↓wp_mnz, ↓wp_some, ↓wp_mbnd, ↓mlet_eq, ↓mbp_eq, ↓mbnd_eq, ↓mix_ite, ↓mdiv_ite, ↓mnz_ite, nI_add, nI_mul, nI_nat, nI_ltE, nI_leE, nI_eqE, nI_eqN, nI_Neq, nI_Nlt, nI_Nle, nI_ltN, nI_leN, ↓reduceIte, ↓Nat.reduceEqDiff, and_f, nt_e, nt_t, nl_t, nl_f, ne_t, ne_f, and_self, or_self, or_true, true_or, or_false, false_or, if_true, if_false, and_true, true_and, and_false, false_and, not_true, not_false_iff, e, e2, Nat.add_zero]
      · have e2 : pk tx L r.2.1 = -nI 1 := if_neg q1
        simp (disch := omega) only [lit_0, lit_1, lit_2, lit_3, lit_4, lit_5, lit_6, lit_7, lit_8, lit_9, lit_10, lit_11, lit_12, lit_13, lit_14, lit_15, lit_16, lit_20, lit_23, lit_24, lit_31, lit_32, lit_39, lit_43, lit_45, lit_47, lit_48, lit_56, lit_57, lit_59, lit_60, lit_62, lit_63, lit_89, lit_92, lit_96, lit_97, lit_99, lit_100, lit_102, lit_103, lit_104, lit_110, lit_111, lit_115, lit_117, lit_194, lit_200, lit_644, lit_736, lit_999, lit_1000, lit_9999, lit_10000, lit_1000000000, ↓wp_mlet, ↓wp_mbp, ↓wp_ite, ↓wp_mix, ↓wp_mdiv, ↓wp_mnz, ↓wp_some, ↓wp_mbnd, ↓mlet_eq, ↓mbp_eq, ↓mbnd_eq, ↓mix_ite, ↓mdiv_ite, ↓mnz_ite, nI_add, nI_mul, nI_nat, nI_ltE, nI_leE, nI_eqE, nI_eqN, nI_Neq, nI_Nlt, nI_Nle, nI_ltN, nI_leN, ↓reduceIte, ↓Nat.reduceEqDiff, and_f, nt_e, nt_t, nl_t, nl_f, ne_t, ne_f, and_self, or_self, or_true, true_or, or_false, false_or, if_true, if_false, and_true, true_and, and_false, false_and, not_true, not_false_iff, e, e2, Nat.add_zero]
theorem c_rdnum {M0 M : Mem} {tx : Nat → Nat} {L c m : Nat} {r : Rdr} (h : Cst M0 M tx L c r) (hr : r.1 = true) (hn : r.2.2.1 < 4) (hm : m ≤ 2) : wp (f_X2_readNumber (nI m) M) fun v M1 => v = nI (num tx L m r).1.toNat ∧ Cst M0 M1 tx L c (num tx L m r) := by
  unfold f_X2_readNumber num
  rw [if_pos hr]
  generalize hN : (1000 : Nat) = N
  obtain ⟨M1, h1, k1⟩ := c_digits (M0 := M0) (c := c) (m := m) (fun x13 x14 M15 => if x13 = 0 then some (0, M15) else mbnd (f_X2_addNumber x14 M15) fun r17 M18 => some (1, M18)) m N 0 0 r M (by omega) (by omega) hm h
  have e0 : f_X2_readNumber_L4 (nI m) N 0 0 M (fun x13 x14 M15 => if x13 = 0 then some (0, M15) else mbnd (f_X2_addNumber x14 M15) fun r17 M18 => some (1, M18)) = f_X2_readNumber_L4 (nI m) N (nI 0) (nI 0) M (fun x13 x14 M15 => if x13 = 0 then some (0, M15) else mbnd (f_X2_addNumber x14 M15) fun r17 M18 => some (1, M18)) := rfl
  rw [e0, k1, Nat.zero_add]
  have l := dgc_L (tx := tx) (L := L) m r.2.1 h.2.2.1.1
  have l2 := h.1.1
  by_cases q : dgc tx L m r.2.1 = 0
  · rw [if_pos q, q]
    simp (disch := omega) only [lit_0, lit_1, lit_2, lit_3, lit_4, lit_5, lit_6, lit_7, lit_8, lit_9, lit_10, lit_11, lit_12, lit_13, lit_14, lit_15, lit_16, lit_20, lit_23, lit_24, lit_31, lit_32, lit_39, lit_43, lit_45, lit_47, lit_48, lit_56, lit_57, lit_59, lit_60, lit_62, lit_63, lit_89, lit_92, lit_96, lit_97, lit_99, lit_100, lit_102, lit_103, lit_104, lit_110, lit_111, lit_115, lit_117, lit_194, lit_200, lit_644, lit_736, lit_999, lit_1000, lit_9999, lit_10000, lit_1000000000, ↓wp_mlet, ↓wp_mbp, ↓wp_ite, ↓wp_mix, ↓wp_mdiv, ↓wp_mnz, ↓wp_some, ↓wp_mbnd, ↓mlet_eq, ↓mbp_eq, ↓mbnd_eq, ↓mix_ite, ↓mdiv_ite, ↓mnz_ite, nI_add, nI_mul, nI_nat, nI_ltE, nI_leE, nI_eqE, nI_eqN, nI_Neq, nI_Nlt, nI_Nle, nI_ltN, nI_leN, ↓reduceIte, ↓Nat.reduceEqDiff, and_f, nt_e, nt_t, nl_t, nl_f, ne_t, ne_f, and_self, or_self, or_true, true_or, or_false, false_or, if_true, if_false, and_true, true_and, and_false, false_and, not_true, not_false_iff]
    refine ⟨rfl, ?_⟩
    rw [q] at h1
    exact h1
  · rw [if_neg q]
    rw [hr] at h1
    obtain ⟨⟨⟩, M2, e2, h2⟩ := c_addNumber (v := dgv tx L m r.2.1 0) h1 hn
    simp (disch := omega) only [lit_0, lit_1, lit_2, lit_3, lit_4, lit_5, lit_6, lit_7, lit_8, lit_9, lit_10, lit_11, lit_12, lit_13, lit_14, lit_15, lit_16, lit_20, lit_23, lit_24, lit_31, lit_32, lit_39, lit_43, lit_45, lit_47, lit_48, lit_56, lit_57, lit_59, lit_60, lit_62, lit_63, lit_89, lit_92, lit_96, lit_97, lit_99, lit_100, lit_102, lit_103, lit_104, lit_110, lit_111, lit_115, lit_117, lit_194, lit_200, lit_644, lit_736, lit_999, lit_1000, lit_9999, lit_10000, lit_1000000000, ↓wp_mlet, ↓wp_mbp, ↓wp_ite, ↓wp_mix, ↓wp_mdiv, ↓wp_mnz, ↓wp_some, ↓wp_mbnd, ↓mlet_eq, ↓mbp_eq, ↓mbnd_eq, ↓mix_ite, ↓mdiv_ite, ↓mnz_ite, nI_add, nI_mul, nI_nat, nI_ltE, nI_leE, nI_eqE, nI_eqN, nI_Neq, nI_Nlt, nI_Nle, nI_ltN, nI_leN, ↓reduceIte, ↓Nat.reduceEqDiff, and_f, nt_e, nt_t, nl_t, nl_f, ne_t, ne_f, and_self, or_self, or_true, true_or, or_false, false_or, if_true, if_false, and_true, true_and, and_false, false_and, not_true, not_false_iff, e2]
    exact ⟨rfl, h2⟩
theorem toNat_le {b : Bool} : b.toNat < 2 := by cases b <;> decide
theorem toNat_0' {b : Bool} : (b.toNat = 0) = (b = false) := by cases b <;> decide
theorem c_part {M0 M : Mem} {tx : Nat → Nat} {L c : Nat} {x : Int32} {r : Rdr} (h : Cst M0 M tx L c r) (hr : r.1 = true) (hn : x ≠ 32 → r.2.2.1 < 4) : wp (f_X2_readPart x M) fun v M1 => v = nI (opF tx L x r).1.toNat ∧ Cst M0 M1 tx L c (opF tx L x r) := by
  have st : ∀ {y : Option (Int32 × Mem)} {r2 : Rdr}, wp y (fun v M1 => v = nI r2.1.toNat ∧ Cst M0 M1 tx L c r2) → wp (mbnd y fun r10 M11 => mnz r10 (some (r10, M11))) (fun v M1 => v = nI r2.1.toNat ∧ Cst M0 M1 tx L c r2) := by
    rintro y r2 ⟨v, M1, e, rfl, h1⟩
    rw [e, mbnd_eq, mnz_eq toNat_le, wp_some]
    exact ⟨rfl, h1⟩
  unfold f_X2_readPart opF
  by_cases q1 : x = 100
  · have hn1 := hn (by rw [q1]; decide)
    rw [if_pos q1, if_pos q1]
    exact st (c_rdnum (m := 1) h hr hn1 (by decide))
  rw [if_neg q1, if_neg q1]
  by_cases q2 : x = 110
  · have hn1 := hn (by rw [q2]; decide)
    rw [if_pos q2, if_pos q2]
    exact st (c_rdnum (m := 2) h hr hn1 (by decide))
  rw [if_neg q2, if_neg q2]
  by_cases q3 : x = 115
  · have hn1 := hn (by rw [q3]; decide)
    rw [if_pos q3, if_pos q3]
    exact st (c_dir h hr hn1)
  rw [if_neg q3, if_neg q3]
  exact st (c_blank h hr)
/-- how many numbers a form has -/
def nnum : List Int32 → Nat
  | [] => 0
  | c :: cs => (if c = 32 then 0 else 1) + nnum cs
theorem nnum_c {c : Int32} {cs : List Int32} : nnum (c :: cs) = (if c = 32 then 0 else 1) + nnum cs := Eq.trans rfl rfl
theorem lit_cnt {tx : Nat → Nat} {L : Nat} {ls : List Int32} {r : Rdr} : (lit tx L ls r).2.2 = r.2.2 := by
  unfold lit
  split <;> rfl
theorem num_cnt {tx : Nat → Nat} {L m : Nat} {r : Rdr} : (num tx L m r).2.2.1 ≤ r.2.2.1 + 1 := by
  unfold num
  split
  · split
    · exact Nat.le_succ _
    · exact Nat.le_refl _
  · exact Nat.le_succ _
theorem dir_cnt {tx : Nat → Nat} {L : Nat} {r : Rdr} : (dir tx L r).2.2.1 ≤ r.2.2.1 + 1 := by
  unfold dir
  split
  · split
    · exact Nat.le_refl _
    · split
      · exact Nat.le_refl _
      · exact Nat.le_succ _
  · exact Nat.le_succ _
theorem opF_cnt {tx : Nat → Nat} {L : Nat} {c : Int32} {r : Rdr} : (opF tx L c r).2.2.1 ≤ r.2.2.1 + (if c = 32 then 0 else 1) := by
  unfold opF
  by_cases q1 : c = 100
  · rw [if_pos q1, if_neg (by rw [q1]; decide)]; exact num_cnt
  rw [if_neg q1]
  by_cases q2 : c = 110
  · rw [if_pos q2, if_neg (by rw [q2]; decide)]; exact num_cnt
  rw [if_neg q2]
  by_cases q3 : c = 115
  · rw [if_pos q3, if_neg (by rw [q3]; decide)]; exact dir_cnt
  rw [if_neg q3, lit_cnt]
  exact Nat.le_add_right _ _
theorem getD_drop {l : List Int32} {x : Nat} {c : Int32} {cs : List Int32} (h : l.drop x = c :: cs) : l.getD x 0 = c ∧ l.drop (x + 1) = cs := by
  have h1 : (l.drop x)[0]? = l[x]? := by rw [List.getElem?_drop, Nat.add_zero]
  rw [h] at h1
  refine ⟨?_, ?_⟩
  · rw [List.getD_eq_getElem?_getD, ← h1]
    rfl
  · rw [← List.drop_drop, h]
    rfl
theorem c_form {M0 : Mem} {tx : Nat → Nat} {L c t : Nat} (hlen : mTl.getD t 0 = (mTx.getD t []).length) (h8 : (mTx.getD t []).length ≤ 8) : ∀ (cs : List Int32) (x N : Nat) (r : Rdr) (M : Mem), (mTx.getD t []).drop x = cs → x + cs.length = (mTx.getD t []).length → cs.length < N → r.1 = true → r.2.2.1 + nnum cs ≤ 4 → Cst M0 M tx L c r → wp (f_X2_readForm_L2 t N (nI x) M (fun M16 => some (1, M16))) fun v M1 => v = nI (frmS tx L cs r).1.toNat ∧ Cst M0 M1 tx L c (frmS tx L cs r) := by
  intro cs
  induction cs with
  | nil =>
    intro x N r M h1 h2 h3 hr h4 h
    obtain ⟨n, rfl⟩ : ∃ n, N = n + 1 := ⟨N - 1, by omega⟩
    rw [List.length_nil] at h2
    have e1 : Int32.ofNat (mTl.getD t 0) = nI x := by rw [hlen, ← h2]; rfl
    rw [f_X2_readForm_L2.eq_2, e1, if_pos (by rw [nI_leE (by omega) (by omega)]; omega), wp_some]
    refine ⟨?_, h⟩
    show (1 : Int32) = nI (r.1.toNat)
    rw [hr]; rfl
  | cons k cs ih =>
    intro x N r M h1 h2 h3 hr h4 h
    obtain ⟨n, rfl⟩ : ∃ n, N = n + 1 := ⟨N - 1, by omega⟩
    rw [List.length_cons] at h2 h3
    rw [nnum_c] at h4
    obtain ⟨g1, g2⟩ := getD_drop h1
    have e1 : Int32.ofNat (mTl.getD t 0) = nI (x + (cs.length + 1)) := by rw [hlen, ← h2]; rfl
    have h' := h
    obtain ⟨ht, ⟨c4, c5, c6⟩, ⟨c7, c8, c9⟩, c10, c11⟩ := h'
    have ep := c_peek ht c4 c7
    have e32 := pk_at (tx := tx) (L := L) (p := r.2.1) (c := 32) (fun i hi => (ht.2.2 i hi).2) (by decide)
    rw [f_X2_readForm_L2.eq_2, e1, if_neg (by rw [nI_leE (by omega) (by omega)]; omega), nI_mix (by rw [hlen]; omega) (by omega), nI_nat (by omega), g1, frm_c]
    simp only [mlet_eq, lit_0, lit_1, lit_2, lit_3, lit_4, lit_5, lit_6, lit_7, lit_8, lit_9, lit_10, lit_11, lit_12, lit_13, lit_14, lit_15, lit_16, lit_20, lit_23, lit_24, lit_31, lit_32, lit_39, lit_43, lit_45, lit_47, lit_48, lit_56, lit_57, lit_59, lit_60, lit_62, lit_63, lit_89, lit_92, lit_96, lit_97, lit_99, lit_100, lit_102, lit_103, lit_104, lit_110, lit_111, lit_115, lit_117, lit_194, lit_200, lit_644, lit_736, lit_999, lit_1000, lit_9999, lit_10000, lit_1000000000, nI_add]
    by_cases q : k = nI 63
    · have q' : k = 63 := q
      rw [if_pos q, if_pos q, ep, mbp_eq]
      rw [if_neg (show ¬ k = 32 by rw [q']; decide)] at h4
      by_cases q2 : isAt tx L r.2.1 (nI 32) = true
      · have e2 : pk tx L r.2.1 = nI 32 := by rw [e32]; exact q2
        rw [if_pos q2, if_pos e2]
        exact ih (x + 1) n r M g2 (by omega) (by omega) hr (by omega) h
      · have e2 : ¬ pk tx L r.2.1 = nI 32 := by rw [e32]; exact q2
        rw [if_neg q2, if_neg e2]
        obtain ⟨⟨⟩, M1, e5, h5⟩ := c_addNumber (v := 1) h (by omega)
        rw [e5, mbnd_eq, wp_some]
        refine ⟨?_, h5⟩
        show nI 1 = nI (r.1.toNat)
        rw [hr]; rfl
    · have q' : ¬ k = 63 := q
      rw [if_neg q, if_neg q]
      obtain ⟨v, M1, e5, rfl, h5⟩ := c_part (x := k) h hr (fun hk => by rw [if_neg hk] at h4; omega)
      have hc := opF_cnt (tx := tx) (L := L) (c := k) (r := r)
      rw [e5, mbnd_eq]
      by_cases q3 : (opF tx L k r).1 = true
      · rw [if_pos q3, q3, if_neg (by decide)]
        exact ih (x + 1) n _ M1 g2 (by omega) (by omega) q3 (by omega) h5
      · rw [if_neg q3]
        have q4 : (opF tx L k r).1 = false := by simpa using q3
        rw [q4, if_pos (by decide), wp_some]
        exact ⟨rfl, h5⟩
theorem c_match {M : Mem} {tx : Nat → Nat} {L p t : Nat} (hlen : mTl.getD t 0 = (mTx.getD t []).length) (h8 : (mTx.getD t []).length ≤ 8) (ht : Txt M tx L) (hp : M 12 26 2 = nI p) (kk : Int32 → Option Int32) : ∀ (cs : List Int32) (x N : Nat), (mTx.getD t []).drop x = cs → x + cs.length = (mTx.getD t []).length → cs.length < N → p + x ≤ L → f_X2_matchingLetters_L2 t M N (nI x) kk = kk (nI (x + ml tx L cs (p + x))) := by
  obtain ⟨t1, t2, t3⟩ := ht
  intro cs
  induction cs with
  | nil =>
    intro x N h1 h2 h3 h4
    obtain ⟨n, rfl⟩ : ∃ n, N = n + 1 := ⟨N - 1, by omega⟩
    rw [List.length_nil] at h2
    have e1 : Int32.ofNat (mTl.getD t 0) = nI x := by rw [hlen, ← h2]; rfl
    rw [f_X2_matchingLetters_L2.eq_2, e1, if_pos (by rw [nI_leE (by omega) (by omega)]; omega), ml_n]
    rfl
  | cons k cs ih =>
    intro x N h1 h2 h3 h4
    obtain ⟨n, rfl⟩ : ∃ n, N = n + 1 := ⟨N - 1, by omega⟩
    rw [List.length_cons] at h2 h3
    obtain ⟨g1, g2⟩ := getD_drop h1
    have e1 : Int32.ofNat (mTl.getD t 0) = nI (x + (cs.length + 1)) := by rw [hlen, ← h2]; rfl
    rw [f_X2_matchingLetters_L2.eq_2, e1, if_neg (by rw [nI_leE (by omega) (by omega)]; omega), t2, hp, nI_add, ml_c]
    by_cases q : p + x < L
    · have e2 := (t3 (p + x) q).1
      rw [if_neg (by rw [nI_leE (by omega) (by omega)]; omega), nI_mix (by omega) (by omega), nI_mix (by rw [hlen]; omega) (by omega), nI_nat (by omega), nI_nat (by omega), g1, e2]
      by_cases q2 : nI (tx (p + x)) = k
      · have q3 : isAt tx L (p + x) k = true := by unfold isAt; rw [decide_eq_true q, decide_eq_true q2]; rfl
        have h6 := ih (x + 1) n g2 (by omega) (by omega) (by omega)
        rw [if_pos q2, if_pos q3, mlet_eq, lit_1, nI_add, h6]
        rw [show x + 1 + ml tx L cs (p + (x + 1)) = x + (1 + ml tx L cs (p + x + 1)) by rw [Nat.add_assoc p x 1]; omega]
      · have q3 : ¬ isAt tx L (p + x) k = true := fun h => q2 (isAt_lt h).2
        rw [if_neg q2, if_neg q3]
        rfl
    · have q3 : ¬ isAt tx L (p + x) k = true := fun h => q (isAt_lt h).1
      rw [if_pos (by rw [nI_leE (by omega) (by omega)]; omega), if_neg q3]
      rfl
