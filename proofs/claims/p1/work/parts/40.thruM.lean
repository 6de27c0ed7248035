/-- what the model looks at -/
def Lm (M : Mem) (T : Nat) (s t : Nat → Nat) : Prop := M 12 48 5 = nI T ∧ (1 ≤ T ∧ T ≤ 3) ∧ (∀ k, k < 8 → M 12 48 (15 + k) = nI (s k) ∧ s k ≤ 96) ∧ (∀ i, i < T → M 12 56 i = nI (t i)) ∧ Tu T t
theorem ivN_1 {a : Nat} (h : a < 97) (h0 : a ≠ 0) : 1 ≤ ivN a := (ivN_first ⟨a, h⟩ h0).1
theorem ivN_min {a x : Nat} (h : a < 97) (h0 : a ≠ 0) (hx : x < ivN a) : (a * x) % 97 ≠ 1 := (ivN_first ⟨a, h⟩ h0).2 ⟨x, Nat.lt_trans hx (ivN_lt h)⟩ hx
theorem m_inv {M : Mem} {a : Nat} (h : a < 97) (h0 : a ≠ 0) : f_X12_inverse (nI a) M = some (nI (ivN a)) := by
  unfold f_X12_inverse
  generalize hN : (1000 : Nat) = N
  have l := ivN_lt h
  have l1 := ivN_1 h h0
  have key := mloopL (F := fun n x (_ : Int32) kk => f_X12_inverse_L2 (nI a) n x kk) (c := ivN a) 1 (fun k => nI k) (fun n k kk h1 hk => by
    show f_X12_inverse_L2 (nI a) (n + 1) (nI k) kk = f_X12_inverse_L2 (nI a) n (nI (k + 1)) kk
    have b := mul_lt h (show k < 97 by omega)
    have e := ivN_min h h0 hk
    have e2 := nI_rem (a := a * k) (b := 97) (by omega) (by decide)
    rw [f_X12_inverse_L2.eq_2]
    simp (disch := omega) only [lit_0, lit_1, lit_2, lit_3, lit_4, lit_5, lit_6, lit_7, lit_8, lit_9, lit_10, lit_11, lit_12, lit_13, lit_14, lit_15, lit_16, lit_20, lit_23, lit_24, lit_31, lit_32, lit_39, lit_43, lit_45, lit_47, lit_48, lit_56, lit_57, lit_59, lit_60, lit_62, lit_63, lit_89, lit_92, lit_96, lit_97, lit_99, lit_100, lit_102, lit_103, lit_104, lit_110, lit_111, lit_115, lit_117, lit_194, lit_200, lit_644, lit_736, lit_999, lit_1000, lit_9999, lit_10000, lit_1000000000, ↓wp_mlet, ↓wp_mbp, ↓wp_ite, ↓wp_mix, ↓wp_mdiv, ↓wp_mnz, ↓wp_some, ↓wp_mbnd, ↓mlet_eq, ↓mbp_eq, ↓mbnd_eq, ↓mix_ite, ↓mdiv_ite, ↓mnz_ite, nI_add, nI_mul, nI_nat, nI_ltE, nI_leE, nI_eqE, nI_eqN, nI_Neq, nI_Nlt, nI_Nle, nI_ltN, nI_leN, ↓reduceIte, ↓Nat.reduceEqDiff, and_f, nt_e, nt_t, nl_t, nl_f, ne_t, ne_f, and_self, or_self, or_true, true_or, or_false, false_or, if_true, if_false, and_true, true_and, and_false, false_and, not_true, not_false_iff, e2]) (fun n kk => by
    show f_X12_inverse_L2 (nI a) (n + 1) (nI (ivN a)) kk = _
    have b := mul_lt h l
    have e := ivN_mul h h0
    have e2 := nI_rem (a := a * ivN a) (b := 97) (by omega) (by decide)
    rw [f_X12_inverse_L2.eq_2]
    simp (disch := omega) only [lit_0, lit_1, lit_2, lit_3, lit_4, lit_5, lit_6, lit_7, lit_8, lit_9, lit_10, lit_11, lit_12, lit_13, lit_14, lit_15, lit_16, lit_20, lit_23, lit_24, lit_31, lit_32, lit_39, lit_43, lit_45, lit_47, lit_48, lit_56, lit_57, lit_59, lit_60, lit_62, lit_63, lit_89, lit_92, lit_96, lit_97, lit_99, lit_100, lit_102, lit_103, lit_104, lit_110, lit_111, lit_115, lit_117, lit_194, lit_200, lit_644, lit_736, lit_999, lit_1000, lit_9999, lit_10000, lit_1000000000, ↓wp_mlet, ↓wp_mbp, ↓wp_ite, ↓wp_mix, ↓wp_mdiv, ↓wp_mnz, ↓wp_some, ↓wp_mbnd, ↓mlet_eq, ↓mbp_eq, ↓mbnd_eq, ↓mix_ite, ↓mdiv_ite, ↓mnz_ite, nI_add, nI_mul, nI_nat, nI_ltE, nI_leE, nI_eqE, nI_eqN, nI_Neq, nI_Nlt, nI_Nle, nI_ltN, nI_leN, ↓reduceIte, ↓Nat.reduceEqDiff, and_f, nt_e, nt_t, nl_t, nl_f, ne_t, ne_f, and_self, or_self, or_true, true_or, or_false, false_or, if_true, if_false, and_true, true_and, and_false, false_and, not_true, not_false_iff, e2]) (ivN a - 1) N 1 (fun x4 => some x4) (by omega) (by omega) (by omega)
  exact key
theorem tmM_lt {M : Mem} {T x i : Nat} {s t : Nat → Nat} (h : Lm M T s t) (hi : i < T) : ∀ k, tmM x s t i k < 97
  | 0 => by
    have := (h.2.2.1 (t i) (h.2.2.2.2.1 i hi)).2
    show s (t i) < 97
    omega
  | k + 1 => by
    rw [tmM_s]
    split
    · exact tmM_lt h hi k
    · exact Nat.mod_lt _ (by decide)
theorem den_ne {T : Nat} {t : Nat → Nat} (h : Tu T t) {i j : Nat} (hi : i < T) (hj : j < T) (hij : i ≠ j) : (t i + 97 - t j) % 97 ≠ 0 := by
  have h1 := h.1 i hi
  have h2 := h.1 j hj
  have : t i ≠ t j := by
    rcases Nat.lt_or_gt_of_ne hij with q | q
    · exact h.2 i j q hj
    · exact fun e => h.2 j i q hi e.symm
  omega
theorem m_termL {M : Mem} {T i x N : Nat} {s t : Nat → Nat} (hN : 1000 = N) (h : Lm M T s t) (hi : i < T) (hx : x ≤ 96) (kk : Int32 → Option Int32) :
    f_X12_through_L33 (nI x) M (nI i) N (nI (s (t i))) (nI 0) kk = kk (nI (tmM x s t i T)) := by
  obtain ⟨h3, hT, hs, ht, hu⟩ := id h
  have key := mloop (F := fun n x4 s kk => f_X12_through_L33 (nI x) M (nI i) n s x4 kk) (c := T) (fun k => nI (tmM x s t i k)) (fun n k kk hk => by
    show f_X12_through_L33 (nI x) M (nI i) (n + 1) (nI (tmM x s t i k)) (nI k) kk = f_X12_through_L33 (nI x) M (nI i) n (nI (tmM x s t i (k + 1))) (nI (k + 1)) kk
    rw [f_X12_through_L33.eq_2, tmM_s]
    by_cases q : k = i
    · rw [if_pos q]
      simp (disch := omega) only [lit_0, lit_1, lit_2, lit_3, lit_4, lit_5, lit_6, lit_7, lit_8, lit_9, lit_10, lit_11, lit_12, lit_13, lit_14, lit_15, lit_16, lit_20, lit_23, lit_24, lit_31, lit_32, lit_39, lit_43, lit_45, lit_47, lit_48, lit_56, lit_57, lit_59, lit_60, lit_62, lit_63, lit_89, lit_92, lit_96, lit_97, lit_99, lit_100, lit_102, lit_103, lit_104, lit_110, lit_111, lit_115, lit_117, lit_194, lit_200, lit_644, lit_736, lit_999, lit_1000, lit_9999, lit_10000, lit_1000000000, ↓wp_mlet, ↓wp_mbp, ↓wp_ite, ↓wp_mix, ↓wp_mdiv, ↓wp_mnz, ↓wp_some, ↓wp_mbnd, ↓mlet_eq, ↓mbp_eq, ↓mbnd_eq, ↓mix_ite, ↓mdiv_ite, ↓mnz_ite, nI_add, nI_mul, nI_nat, nI_ltE, nI_leE, nI_eqE, nI_eqN, nI_Neq, nI_Nlt, nI_Nle, nI_ltN, nI_leN, ↓reduceIte, ↓Nat.reduceEqDiff, and_f, nt_e, nt_t, nl_t, nl_f, ne_t, ne_f, and_self, or_self, or_true, true_or, or_false, false_or, if_true, if_false, and_true, true_and, and_false, false_and, not_true, not_false_iff, h3]
    · have l1 := hu.1 k hk
      have l2 := hu.1 i hi
      have m1 := Nat.mod_lt (x + 193 - t k) (show 0 < 97 by decide)
      have m2 := Nat.mod_lt (t i + 97 - t k) (show 0 < 97 by decide)
      have m3 := Nat.mod_lt (tmM x s t i k * ((x + 193 - t k) % 97)) (show 0 < 97 by decide)
      have e1 := nI_facM (x := x) (k := t k) (by omega)
      have e2 := nI_sub_add (a := t i) (b := t k) (c := 97) (by omega)
      have e3 := m_inv (M := M) m2 (den_ne hu hi hk (fun e => q e.symm))
      have e4 := nI_rem (a := x + 193 - t k) (b := 97) (by omega) (by decide)
      have e5 := nI_rem (a := t i + 97 - t k) (b := 97) (by omega) (by decide)
      have b1 := mul_lt (tmM_lt (x := x) h hi k) m1
      have b2 := mul_lt m3 (ivN_lt m2)
      have e6 := nI_rem (a := tmM x s t i k * ((x + 193 - t k) % 97)) (b := 97) (by omega) (by decide)
      have e7 := nI_rem (a := tmM x s t i k * ((x + 193 - t k) % 97) % 97 * ivN ((t i + 97 - t k) % 97)) (b := 97) (by omega) (by decide)
      rw [if_neg q]
      simp (disch := omega) only [lit_0, lit_1, lit_2, lit_3, lit_4, lit_5, lit_6, lit_7, lit_8, lit_9, lit_10, lit_11, lit_12, lit_13, lit_14, lit_15, lit_16, lit_20, lit_23, lit_24, lit_31, lit_32, lit_39, lit_43, lit_45, lit_47, lit_48, lit_56, lit_57, lit_59, lit_60, lit_62, lit_63, lit_89, lit_92, lit_96, lit_97, lit_99, lit_100, lit_102, lit_103, lit_104, lit_110, lit_111, lit_115, lit_117, lit_194, lit_200, lit_644, lit_736, lit_999, lit_1000, lit_9999, lit_10000, lit_1000000000, ↓wp_mlet, ↓wp_mbp, ↓wp_ite, ↓wp_mix, ↓wp_mdiv, ↓wp_mnz, ↓wp_some, ↓wp_mbnd, ↓mlet_eq, ↓mbp_eq, ↓mbnd_eq, ↓mix_ite, ↓mdiv_ite, ↓mnz_ite, nI_add, nI_mul, nI_nat, nI_ltE, nI_leE, nI_eqE, nI_eqN, nI_Neq, nI_Nlt, nI_Nle, nI_ltN, nI_leN, ↓reduceIte, ↓Nat.reduceEqDiff, and_f, nt_e, nt_t, nl_t, nl_f, ne_t, ne_f, and_self, or_self, or_true, true_or, or_false, false_or, if_true, if_false, and_true, true_and, and_false, false_and, not_true, not_false_iff, h3, ht k hk, ht i hi, e1, e2, e3, e4, e5, e6, e7]) (fun n kk => by
    show f_X12_through_L33 (nI x) M (nI i) (n + 1) (nI (tmM x s t i T)) (nI T) kk = _
    rw [f_X12_through_L33.eq_2]
    simp (disch := omega) only [lit_0, lit_1, lit_2, lit_3, lit_4, lit_5, lit_6, lit_7, lit_8, lit_9, lit_10, lit_11, lit_12, lit_13, lit_14, lit_15, lit_16, lit_20, lit_23, lit_24, lit_31, lit_32, lit_39, lit_43, lit_45, lit_47, lit_48, lit_56, lit_57, lit_59, lit_60, lit_62, lit_63, lit_89, lit_92, lit_96, lit_97, lit_99, lit_100, lit_102, lit_103, lit_104, lit_110, lit_111, lit_115, lit_117, lit_194, lit_200, lit_644, lit_736, lit_999, lit_1000, lit_9999, lit_10000, lit_1000000000, ↓wp_mlet, ↓wp_mbp, ↓wp_ite, ↓wp_mix, ↓wp_mdiv, ↓wp_mnz, ↓wp_some, ↓wp_mbnd, ↓mlet_eq, ↓mbp_eq, ↓mbnd_eq, ↓mix_ite, ↓mdiv_ite, ↓mnz_ite, nI_add, nI_mul, nI_nat, nI_ltE, nI_leE, nI_eqE, nI_eqN, nI_Neq, nI_Nlt, nI_Nle, nI_ltN, nI_leN, ↓reduceIte, ↓Nat.reduceEqDiff, and_f, nt_e, nt_t, nl_t, nl_f, ne_t, ne_f, and_self, or_self, or_true, true_or, or_false, false_or, if_true, if_false, and_true, true_and, and_false, false_and, not_true, not_false_iff, h3]) T N 0 kk (by omega) (by omega)
  exact key
theorem m_thr {M : Mem} {T x : Nat} {s t : Nat → Nat} (h : Lm M T s t) (hx : x ≤ 96) : f_X12_through (nI x) M = some (nI (thr T s t x)) := by
  obtain ⟨h3, hT, hs, ht, hu⟩ := id h
  unfold f_X12_through
  generalize hN : (1000 : Nat) = N
  have key := mloop (F := fun n x4 s kk => f_X12_through_L4 (nI x) M n s x4 kk) (c := T) (fun k => nI (smM T x s t k)) (fun n k kk hk => by
    show f_X12_through_L4 (nI x) M (n + 1) (nI (smM T x s t k)) (nI k) kk = f_X12_through_L4 (nI x) M n (nI (smM T x s t (k + 1))) (nI (k + 1)) kk
    have l1 := hu.1 k hk
    have e2 := (hs (t k) l1).1
    rw [f_X12_through_L4.eq_2, smM_s]
    generalize hN2 : (1000 : Nat) = N2
    have e1 := fun kk => m_termL (x := x) hN2 h hk hx kk
    have b1 := smM_lt (T := T) (x := x) (s := s) (t := t) k
    have b2 := tmM_lt (x := x) h hk T
    have e7 := nI_rem (a := smM T x s t k + tmM x s t k T) (b := 97) (by omega) (by decide)
    simp (disch := omega) only [lit_0, lit_1, lit_2, lit_3, lit_4, lit_5, lit_6, lit_7, lit_8, lit_9, lit_10, lit_11, lit_12, lit_13, lit_14, lit_15, lit_16, lit_20, lit_23, lit_24, lit_31, lit_32, lit_39, lit_43, lit_45, lit_47, lit_48, lit_56, lit_57, lit_59, lit_60, lit_62, lit_63, lit_89, lit_92, lit_96, lit_97, lit_99, lit_100, lit_102, lit_103, lit_104, lit_110, lit_111, lit_115, lit_117, lit_194, lit_200, lit_644, lit_736, lit_999, lit_1000, lit_9999, lit_10000, lit_1000000000, ↓wp_mlet, ↓wp_mbp, ↓wp_ite, ↓wp_mix, ↓wp_mdiv, ↓wp_mnz, ↓wp_some, ↓wp_mbnd, ↓mlet_eq, ↓mbp_eq, ↓mbnd_eq, ↓mix_ite, ↓mdiv_ite, ↓mnz_ite, nI_add, nI_mul, nI_nat, nI_ltE, nI_leE, nI_eqE, nI_eqN, nI_Neq, nI_Nlt, nI_Nle, nI_ltN, nI_leN, ↓reduceIte, ↓Nat.reduceEqDiff, and_f, nt_e, nt_t, nl_t, nl_f, ne_t, ne_f, and_self, or_self, or_true, true_or, or_false, false_or, if_true, if_false, and_true, true_and, and_false, false_and, not_true, not_false_iff, h3, ht k hk, e2, e1, e7]) (fun n kk => by
    show f_X12_through_L4 (nI x) M (n + 1) (nI (smM T x s t T)) (nI T) kk = _
    rw [f_X12_through_L4.eq_2]
    simp (disch := omega) only [lit_0, lit_1, lit_2, lit_3, lit_4, lit_5, lit_6, lit_7, lit_8, lit_9, lit_10, lit_11, lit_12, lit_13, lit_14, lit_15, lit_16, lit_20, lit_23, lit_24, lit_31, lit_32, lit_39, lit_43, lit_45, lit_47, lit_48, lit_56, lit_57, lit_59, lit_60, lit_62, lit_63, lit_89, lit_92, lit_96, lit_97, lit_99, lit_100, lit_102, lit_103, lit_104, lit_110, lit_111, lit_115, lit_117, lit_194, lit_200, lit_644, lit_736, lit_999, lit_1000, lit_9999, lit_10000, lit_1000000000, ↓wp_mlet, ↓wp_mbp, ↓wp_ite, ↓wp_mix, ↓wp_mdiv, ↓wp_mnz, ↓wp_some, ↓wp_mbnd, ↓mlet_eq, ↓mbp_eq, ↓mbnd_eq, ↓mix_ite, ↓mdiv_ite, ↓mnz_ite, nI_add, nI_mul, nI_nat, nI_ltE, nI_leE, nI_eqE, nI_eqN, nI_Neq, nI_Nlt, nI_Nle, nI_ltN, nI_leN, ↓reduceIte, ↓Nat.reduceEqDiff, and_f, nt_e, nt_t, nl_t, nl_f, ne_t, ne_f, and_self, or_self, or_true, true_or, or_false, false_or, if_true, if_false, and_true, true_and, and_false, false_and, not_true, not_false_iff, h3]) T N 0 (fun x7 => some x7) (by omega) (by omega)
  have e0 : f_X12_through_L4 (nI x) M N 0 0 (fun x7 => some x7) = f_X12_through_L4 (nI x) M N (nI (smM T x s t 0)) (nI 0) (fun x7 => some x7) := rfl
  rw [e0, key, thrM hT hu]
