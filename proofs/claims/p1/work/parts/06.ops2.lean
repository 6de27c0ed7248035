theorem c_valueOn {M : Mem} {ga ia x p0 p1 p2 : Nat} (h0 : M ga ia 0 = nI p0) (h1 : M ga ia 1 = nI p1) (h2 : M ga ia 2 = nI p2) (b0 : p0 ≤ 96) (b1 : p1 ≤ 96) (b2 : p2 ≤ 96) (hx : x ≤ 100) : f_X6_valueOn ga ia (nI x) M = some (nI (((p2 * x + p1) % 97 * x + p0) % 97)) := by
  have m1 : p2 * x ≤ 96 * 100 := Nat.mul_le_mul b2 hx
  have m3 : (p2 * x + p1) % 97 ≤ 96 := by omega
  have m2 : (p2 * x + p1) % 97 * x ≤ 96 * 100 := Nat.mul_le_mul m3 hx
  have e2 : p2 % 97 = p2 := Nat.mod_eq_of_lt (by omega)
  unfold f_X6_valueOn
  simp (disch := omega) only [lit_0, lit_1, lit_2, lit_3, lit_4, lit_5, lit_6, lit_7, lit_8, lit_9, lit_10, lit_11, lit_12, lit_13, lit_14, lit_15, lit_16, lit_20, lit_23, lit_24, lit_31, lit_32, lit_39, lit_43, lit_45, lit_47, lit_48, lit_56, lit_57, lit_59, lit_60, lit_62, lit_63, lit_89, lit_92, lit_96, lit_97, lit_99, lit_100, lit_102, lit_103, lit_104, lit_110, lit_111, lit_115, lit_117, lit_194, lit_200, lit_644, lit_736, lit_999, lit_1000, lit_9999, lit_10000, lit_1000000000, ↓wp_mlet, ↓wp_mbp, ↓wp_ite, ↓wp_mix, ↓wp_mdiv, ↓wp_mnz, ↓wp_some, ↓wp_mbnd, ↓mlet_eq, ↓mbp_eq, ↓mbnd_eq, ↓mix_ite, ↓mdiv_ite, ↓mnz_ite, nI_add, nI_mul, nI_nat, nI_ltE, nI_leE, nI_eqE, nI_eqN, nI_Neq, nI_Nlt, nI_Nle, nI_ltN, nI_leN, ↓reduceIte, ↓Nat.reduceEqDiff, and_f, nt_e, nt_t, nl_t, nl_f, ne_t, ne_f, and_self, or_self, or_true, true_or, or_false, false_or, if_true, if_false, and_true, true_and, and_false, false_and, not_true, not_false_iff, nI_subE, Nat.reduceSub]
  rw [f_X6_valueOn_L7.eq_2]
  simp (disch := omega) only [lit_0, lit_1, lit_2, lit_3, lit_4, lit_5, lit_6, lit_7, lit_8, lit_9, lit_10, lit_11, lit_12, lit_13, lit_14, lit_15, lit_16, lit_20, lit_23, lit_24, lit_31, lit_32, lit_39, lit_43, lit_45, lit_47, lit_48, lit_56, lit_57, lit_59, lit_60, lit_62, lit_63, lit_89, lit_92, lit_96, lit_97, lit_99, lit_100, lit_102, lit_103, lit_104, lit_110, lit_111, lit_115, lit_117, lit_194, lit_200, lit_644, lit_736, lit_999, lit_1000, lit_9999, lit_10000, lit_1000000000, ↓wp_mlet, ↓wp_mbp, ↓wp_ite, ↓wp_mix, ↓wp_mdiv, ↓wp_mnz, ↓wp_some, ↓wp_mbnd, ↓mlet_eq, ↓mbp_eq, ↓mbnd_eq, ↓mix_ite, ↓mdiv_ite, ↓mnz_ite, nI_add, nI_mul, nI_nat, nI_ltE, nI_leE, nI_eqE, nI_eqN, nI_Neq, nI_Nlt, nI_Nle, nI_ltN, nI_leN, ↓reduceIte, ↓Nat.reduceEqDiff, and_f, nt_e, nt_t, nl_t, nl_f, ne_t, ne_f, and_self, or_self, or_true, true_or, or_false, false_or, if_true, if_false, and_true, true_and, and_false, false_and, not_true, not_false_iff, nI_m1, h2, nI_rem, e2, Nat.zero_mul, Nat.zero_add, Nat.reduceSub]
  rw [f_X6_valueOn_L7.eq_2]
  simp (disch := omega) only [lit_0, lit_1, lit_2, lit_3, lit_4, lit_5, lit_6, lit_7, lit_8, lit_9, lit_10, lit_11, lit_12, lit_13, lit_14, lit_15, lit_16, lit_20, lit_23, lit_24, lit_31, lit_32, lit_39, lit_43, lit_45, lit_47, lit_48, lit_56, lit_57, lit_59, lit_60, lit_62, lit_63, lit_89, lit_92, lit_96, lit_97, lit_99, lit_100, lit_102, lit_103, lit_104, lit_110, lit_111, lit_115, lit_117, lit_194, lit_200, lit_644, lit_736, lit_999, lit_1000, lit_9999, lit_10000, lit_1000000000, ↓wp_mlet, ↓wp_mbp, ↓wp_ite, ↓wp_mix, ↓wp_mdiv, ↓wp_mnz, ↓wp_some, ↓wp_mbnd, ↓mlet_eq, ↓mbp_eq, ↓mbnd_eq, ↓mix_ite, ↓mdiv_ite, ↓mnz_ite, nI_add, nI_mul, nI_nat, nI_ltE, nI_leE, nI_eqE, nI_eqN, nI_Neq, nI_Nlt, nI_Nle, nI_ltN, nI_leN, ↓reduceIte, ↓Nat.reduceEqDiff, and_f, nt_e, nt_t, nl_t, nl_f, ne_t, ne_f, and_self, or_self, or_true, true_or, or_false, false_or, if_true, if_false, and_true, true_and, and_false, false_and, not_true, not_false_iff, nI_m1, h1, nI_rem, Nat.reduceSub]
  rw [f_X6_valueOn_L7.eq_2]
  simp (disch := omega) only [lit_0, lit_1, lit_2, lit_3, lit_4, lit_5, lit_6, lit_7, lit_8, lit_9, lit_10, lit_11, lit_12, lit_13, lit_14, lit_15, lit_16, lit_20, lit_23, lit_24, lit_31, lit_32, lit_39, lit_43, lit_45, lit_47, lit_48, lit_56, lit_57, lit_59, lit_60, lit_62, lit_63, lit_89, lit_92, lit_96, lit_97, lit_99, lit_100, lit_102, lit_103, lit_104, lit_110, lit_111, lit_115, lit_117, lit_194, lit_200, lit_644, lit_736, lit_999, lit_1000, lit_9999, lit_10000, lit_1000000000, ↓wp_mlet, ↓wp_mbp, ↓wp_ite, ↓wp_mix, ↓wp_mdiv, ↓wp_mnz, ↓wp_some, ↓wp_mbnd, ↓mlet_eq, ↓mbp_eq, ↓mbnd_eq, ↓mix_ite, ↓mdiv_ite, ↓mnz_ite, nI_add, nI_mul, nI_nat, nI_ltE, nI_leE, nI_eqE, nI_eqN, nI_Neq, nI_Nlt, nI_Nle, nI_ltN, nI_leN, ↓reduceIte, ↓Nat.reduceEqDiff, and_f, nt_e, nt_t, nl_t, nl_f, ne_t, ne_f, and_self, or_self, or_true, true_or, or_false, false_or, if_true, if_false, and_true, true_and, and_false, false_and, not_true, not_false_iff, nI_m1, h0, nI_rem, Nat.reduceSub]
  rw [f_X6_valueOn_L7.eq_2, if_pos (by decide)]
theorem hor_eq (p0 p1 p2 x : Nat) : ((p2 * x + p1) % 97 * x + p0) % 97 = (p0 + p1 * x + p2 * x * x) % 97 := by
  rw [Nat.add_mod, Nat.mul_mod, Nat.mod_mod, ← Nat.mul_mod, ← Nat.add_mod, Nat.add_mul]
  congr 1
  omega
theorem c_correct {M : Mem} {g h : Nat} {α : Sp} (hh : h ≤ 50) (hc : ∀ k, k < 3 → M g 3 k = nI (α (2 + k))) (b0 : α 2 ≤ 96) (b1 : α 3 ≤ 96) (b2 : α 4 ≤ 96) : f_X6_correctShare g (nI h) M = some (nI (crv α h)) := by
  unfold f_X6_correctShare f_X6_positionOf
  rw [lit_1, nI_add, mbp_eq, c_valueOn (hc 0 (by decide)) (hc 1 (by decide)) (hc 2 (by decide)) b0 b1 b2 (by omega), mbp_eq, hor_eq]
  rfl
theorem m_curve {M : Mem} {h : Nat} {α : Sp} (hh : h ≤ 50) (hS : M 12 48 = enc α) (b0 : α 2 ≤ 96) (b1 : α 3 ≤ 96) (b2 : α 4 ≤ 96) : f_X12_curve (nI h) M = some (nI (crv α h)) := by
  have m1 : α 3 * (h + 1) ≤ 96 * 51 := Nat.mul_le_mul b1 (by omega)
  have m2 : α 4 * (h + 1) ≤ 96 * 51 := Nat.mul_le_mul b2 (by omega)
  have m3 : α 4 * (h + 1) * (h + 1) ≤ 96 * 51 * 51 := Nat.mul_le_mul m2 (by omega)
  unfold f_X12_curve crv
  simp (disch := omega) only [lit_0, lit_1, lit_2, lit_3, lit_4, lit_5, lit_6, lit_7, lit_8, lit_9, lit_10, lit_11, lit_12, lit_13, lit_14, lit_15, lit_16, lit_20, lit_23, lit_24, lit_31, lit_32, lit_39, lit_43, lit_45, lit_47, lit_48, lit_56, lit_57, lit_59, lit_60, lit_62, lit_63, lit_89, lit_92, lit_96, lit_97, lit_99, lit_100, lit_102, lit_103, lit_104, lit_110, lit_111, lit_115, lit_117, lit_194, lit_200, lit_644, lit_736, lit_999, lit_1000, lit_9999, lit_10000, lit_1000000000, ↓wp_mlet, ↓wp_mbp, ↓wp_ite, ↓wp_mix, ↓wp_mdiv, ↓wp_mnz, ↓wp_some, ↓wp_mbnd, ↓mlet_eq, ↓mbp_eq, ↓mbnd_eq, ↓mix_ite, ↓mdiv_ite, ↓mnz_ite, nI_add, nI_mul, nI_nat, nI_ltE, nI_leE, nI_eqE, nI_eqN, nI_Neq, nI_Nlt, nI_Nle, nI_ltN, nI_leN, ↓reduceIte, ↓Nat.reduceEqDiff, and_f, nt_e, nt_t, nl_t, nl_f, ne_t, ne_f, and_self, or_self, or_true, true_or, or_false, false_or, if_true, if_false, and_true, true_and, and_false, false_and, not_true, not_false_iff, ms_n hS, nI_rem]
theorem crv_lt (α : Sp) (h : Nat) : crv α h ≤ 96 := by unfold crv; omega
theorem c_add {M : Mem} {α : Sp} {H : Nat} (hR : RC (M 0) α) (hi : Inv H α) : CT M 8 (sAdd α) (f_X9_tryHolder 0 M) := by
  obtain ⟨hk, hd, hb, hj⟩ := hR
  obtain ⟨r0, r1, r3, r5, r2, rc, r4⟩ := id hk
  obtain ⟨⟨b0, b1, b2, b3, b4, b5, b6, b7, b8, b9, b10, b11, b14⟩, -, -, bs, bk, -, -, -, -, -⟩ := hi
  unfold sAdd f_X9_tryHolder
  by_cases h8 : α 0 = 8
  · rw [if_pos h8]
    refine ⟨?_, fun _ => ?_⟩
    · simp (disch := omega) only [lit_0, lit_1, lit_2, lit_3, lit_4, lit_5, lit_6, lit_7, lit_8, lit_9, lit_10, lit_11, lit_12, lit_13, lit_14, lit_15, lit_16, lit_20, lit_23, lit_24, lit_31, lit_32, lit_39, lit_43, lit_45, lit_47, lit_48, lit_56, lit_57, lit_59, lit_60, lit_62, lit_63, lit_89, lit_92, lit_96, lit_97, lit_99, lit_100, lit_102, lit_103, lit_104, lit_110, lit_111, lit_115, lit_117, lit_194, lit_200, lit_644, lit_736, lit_999, lit_1000, lit_9999, lit_10000, lit_1000000000, ↓wp_mlet, ↓wp_mbp, ↓wp_ite, ↓wp_mix, ↓wp_mdiv, ↓wp_mnz, ↓wp_some, ↓wp_mbnd, ↓mlet_eq, ↓mbp_eq, ↓mbnd_eq, ↓mix_ite, ↓mdiv_ite, ↓mnz_ite, nI_add, nI_mul, nI_nat, nI_ltE, nI_leE, nI_eqE, nI_eqN, nI_Neq, nI_Nlt, nI_Nle, nI_ltN, nI_leN, ↓reduceIte, ↓Nat.reduceEqDiff, and_f, nt_e, nt_t, nl_t, nl_f, ne_t, ne_f, and_self, or_self, or_true, true_or, or_false, false_or, if_true, if_false, and_true, true_and, and_false, false_and, not_true, not_false_iff, r0, h8]
      rfl
    · rfl
  · rw [if_neg h8]
    unfold CT
    have hc := c_correct (M := mup M 0 1 0 (nI (α 0 + 1))) (g := 0) (h := α 0) (α := α) (by omega) (fun k hk => by rw [pm_ne (by decide)]; exact rc k hk) b2 b3 b4
    have hlt : α 0 < 8 := by omega
    simp (disch := omega) only [lit_0, lit_1, lit_2, lit_3, lit_4, lit_5, lit_6, lit_7, lit_8, lit_9, lit_10, lit_11, lit_12, lit_13, lit_14, lit_15, lit_16, lit_20, lit_23, lit_24, lit_31, lit_32, lit_39, lit_43, lit_45, lit_47, lit_48, lit_56, lit_57, lit_59, lit_60, lit_62, lit_63, lit_89, lit_92, lit_96, lit_97, lit_99, lit_100, lit_102, lit_103, lit_104, lit_110, lit_111, lit_115, lit_117, lit_194, lit_200, lit_644, lit_736, lit_999, lit_1000, lit_9999, lit_10000, lit_1000000000, ↓wp_mlet, ↓wp_mbp, ↓wp_ite, ↓wp_mix, ↓wp_mdiv, ↓wp_mnz, ↓wp_some, ↓wp_mbnd, ↓mlet_eq, ↓mbp_eq, ↓mbnd_eq, ↓mix_ite, ↓mdiv_ite, ↓mnz_ite, nI_add, nI_mul, nI_nat, nI_ltE, nI_leE, nI_eqE, nI_eqN, nI_Neq, nI_Nlt, nI_Nle, nI_ltN, nI_leN, ↓reduceIte, ↓Nat.reduceEqDiff, and_f, nt_e, nt_t, nl_t, nl_f, ne_t, ne_f, and_self, or_self, or_true, true_or, or_false, false_or, if_true, if_false, and_true, true_and, and_false, false_and, not_true, not_false_iff, r0, hlt, f_X6_join, hc]
    refine ⟨⟨?_, ?_, ?_, ?_⟩, ?_, ?_⟩
    · refine ⟨?_, ?_, ?_, ?_, fun k hk => ?_, fun k hk => ?_, fun k hk hk9 => ?_⟩
      · simp (disch := omega) only [mup_at, up_at, fil_at, ↓reduceIte, ↓Nat.reduceEqDiff, and_f, nt_e, nt_t, nl_t, nl_f, ne_t, ne_f, and_self, or_self, or_true, true_or, or_false, false_or, if_true, if_false, and_true, true_and, and_false, false_and, not_true, not_false_iff]
      · simp (disch := omega) only [mup_at, up_at, fil_at, ↓reduceIte, ↓Nat.reduceEqDiff, and_f, nt_e, nt_t, nl_t, nl_f, ne_t, ne_f, and_self, or_self, or_true, true_or, or_false, false_or, if_true, if_false, and_true, true_and, and_false, false_and, not_true, not_false_iff, r1]
      · simp (disch := omega) only [mup_at, up_at, fil_at, ↓reduceIte, ↓Nat.reduceEqDiff, and_f, nt_e, nt_t, nl_t, nl_f, ne_t, ne_f, and_self, or_self, or_true, true_or, or_false, false_or, if_true, if_false, and_true, true_and, and_false, false_and, not_true, not_false_iff, r3]
      · simp (disch := omega) only [mup_at, up_at, fil_at, ↓reduceIte, ↓Nat.reduceEqDiff, and_f, nt_e, nt_t, nl_t, nl_f, ne_t, ne_f, and_self, or_self, or_true, true_or, or_false, false_or, if_true, if_false, and_true, true_and, and_false, false_and, not_true, not_false_iff, r5]
      · by_cases hk' : k = α 0
        · subst hk'
          simp (disch := omega) only [mup_at, up_at, fil_at, ↓reduceIte, ↓Nat.reduceEqDiff, and_f, nt_e, nt_t, nl_t, nl_f, ne_t, ne_f, and_self, or_self, or_true, true_or, or_false, false_or, if_true, if_false, and_true, true_and, and_false, false_and, not_true, not_false_iff]
        · simp (disch := omega) only [mup_at, up_at, fil_at, ↓reduceIte, ↓Nat.reduceEqDiff, and_f, nt_e, nt_t, nl_t, nl_f, ne_t, ne_f, and_self, or_self, or_true, true_or, or_false, false_or, if_true, if_false, and_true, true_and, and_false, false_and, not_true, not_false_iff, r2 k hk]
      · simp (disch := omega) only [mup_at, up_at, fil_at, ↓reduceIte, ↓Nat.reduceEqDiff, and_f, nt_e, nt_t, nl_t, nl_f, ne_t, ne_f, and_self, or_self, or_true, true_or, or_false, false_or, if_true, if_false, and_true, true_and, and_false, false_and, not_true, not_false_iff, rc k hk]
      · simp (disch := omega) only [mup_at, up_at, fil_at, ↓reduceIte, ↓Nat.reduceEqDiff, and_f, nt_e, nt_t, nl_t, nl_f, ne_t, ne_f, and_self, or_self, or_true, true_or, or_false, false_or, if_true, if_false, and_true, true_and, and_false, false_and, not_true, not_false_iff] at hk9
        simp (disch := omega) only [mup_at, up_at, fil_at, ↓reduceIte, ↓Nat.reduceEqDiff, and_f, nt_e, nt_t, nl_t, nl_f, ne_t, ne_f, and_self, or_self, or_true, true_or, or_false, false_or, if_true, if_false, and_true, true_and, and_false, false_and, not_true, not_false_iff, r4 k hk hk9]
    · exact Rd.of (by rw [pm_ne (by omega), pm_ne (by omega), pm_ne (by omega)]) (fun j hj => by simp (disch := omega) only [mup_at, up_at, fil_at, ↓reduceIte, ↓Nat.reduceEqDiff, and_f, nt_e, nt_t, nl_t, nl_f, ne_t, ne_f, and_self, or_self, or_true, true_or, or_false, false_or, if_true, if_false, and_true, true_and, and_false, false_and, not_true, not_false_iff]) hd
    · exact Rb.of (fun i _ _ => by rw [pm_ne (by omega), pm_ne (by omega), pm_ne (by omega)]) (fun j hj => by simp (disch := omega) only [mup_at, up_at, fil_at, ↓reduceIte, ↓Nat.reduceEqDiff, and_f, nt_e, nt_t, nl_t, nl_f, ne_t, ne_f, and_self, or_self, or_true, true_or, or_false, false_or, if_true, if_false, and_true, true_and, and_false, false_and, not_true, not_false_iff]) hb
    · exact Rj.of (fun i _ _ => by rw [pm_ne (by omega), pm_ne (by omega), pm_ne (by omega)]) (fun j hj => by simp (disch := omega) only [mup_at, up_at, fil_at, ↓reduceIte, ↓Nat.reduceEqDiff, and_f, nt_e, nt_t, nl_t, nl_f, ne_t, ne_f, and_self, or_self, or_true, true_or, or_false, false_or, if_true, if_false, and_true, true_and, and_false, false_and, not_true, not_false_iff]) hj
    · simp (disch := omega) only [mup_at, up_at, fil_at, ↓reduceIte, ↓Nat.reduceEqDiff, and_f, nt_e, nt_t, nl_t, nl_f, ne_t, ne_f, and_self, or_self, or_true, true_or, or_false, false_or, if_true, if_false, and_true, true_and, and_false, false_and, not_true, not_false_iff]
    · intro a ha
      rw [pm_g ha, pm_g ha, pm_g ha]
theorem m_add {M : Mem} {α : Sp} {H : Nat} (hS : M 12 48 = enc α) (hi : Inv H α) : MT M 1 (sAdd α) (f_X12_adds M) := by
  obtain ⟨⟨b0, b1, b2, b3, b4, b5, b6, b7, b8, b9, b10, b11, b14⟩, -, -, bs, bk, -, -, -, -, -⟩ := hi
  unfold sAdd f_X12_adds
  by_cases h8 : α 0 = 8
  · rw [if_pos h8]
    simp (disch := omega) only [lit_0, lit_1, lit_2, lit_3, lit_4, lit_5, lit_6, lit_7, lit_8, lit_9, lit_10, lit_11, lit_12, lit_13, lit_14, lit_15, lit_16, lit_20, lit_23, lit_24, lit_31, lit_32, lit_39, lit_43, lit_45, lit_47, lit_48, lit_56, lit_57, lit_59, lit_60, lit_62, lit_63, lit_89, lit_92, lit_96, lit_97, lit_99, lit_100, lit_102, lit_103, lit_104, lit_110, lit_111, lit_115, lit_117, lit_194, lit_200, lit_644, lit_736, lit_999, lit_1000, lit_9999, lit_10000, lit_1000000000, ↓wp_mlet, ↓wp_mbp, ↓wp_ite, ↓wp_mix, ↓wp_mdiv, ↓wp_mnz, ↓wp_some, ↓wp_mbnd, ↓mlet_eq, ↓mbp_eq, ↓mbnd_eq, ↓mix_ite, ↓mdiv_ite, ↓mnz_ite, nI_add, nI_mul, nI_nat, nI_ltE, nI_leE, nI_eqE, nI_eqN, nI_Neq, nI_Nlt, nI_Nle, nI_ltN, nI_leN, ↓reduceIte, ↓Nat.reduceEqDiff, and_f, nt_e, nt_t, nl_t, nl_f, ne_t, ne_f, and_self, or_self, or_true, true_or, or_false, false_or, if_true, if_false, and_true, true_and, and_false, false_and, not_true, not_false_iff, ms_n hS, h8]
    exact MT_refused (by decide)
  · rw [if_neg h8]
    unfold MT
    have hc := m_curve (M := M) (h := α 0) (α := α) (by omega) hS b2 b3 b4
    simp (disch := omega) only [lit_0, lit_1, lit_2, lit_3, lit_4, lit_5, lit_6, lit_7, lit_8, lit_9, lit_10, lit_11, lit_12, lit_13, lit_14, lit_15, lit_16, lit_20, lit_23, lit_24, lit_31, lit_32, lit_39, lit_43, lit_45, lit_47, lit_48, lit_56, lit_57, lit_59, lit_60, lit_62, lit_63, lit_89, lit_92, lit_96, lit_97, lit_99, lit_100, lit_102, lit_103, lit_104, lit_110, lit_111, lit_115, lit_117, lit_194, lit_200, lit_644, lit_736, lit_999, lit_1000, lit_9999, lit_10000, lit_1000000000, ↓wp_mlet, ↓wp_mbp, ↓wp_ite, ↓wp_mix, ↓wp_mdiv, ↓wp_mnz, ↓wp_some, ↓wp_mbnd, ↓mlet_eq, ↓mbp_eq, ↓mbnd_eq, ↓mix_ite, ↓mdiv_ite, ↓mnz_ite, nI_add, nI_mul, nI_nat, nI_ltE, nI_leE, nI_eqE, nI_eqN, nI_Neq, nI_Nlt, nI_Nle, nI_ltN, nI_leN, ↓reduceIte, ↓Nat.reduceEqDiff, and_f, nt_e, nt_t, nl_t, nl_f, ne_t, ne_f, and_self, or_self, or_true, true_or, or_false, false_or, if_true, if_false, and_true, true_and, and_false, false_and, not_true, not_false_iff, ms_n hS, h8, hc, f_X12_done]
    refine ⟨?_, ?_, ?_, ?_⟩
    · rw [pm_ne (by omega), pm_self, pm_self, hS, enc_up (by omega), enc_up (by omega)]
    · intro k hk
      simp (disch := omega) only [mup_at, up_at, fil_at, ↓reduceIte, ↓Nat.reduceEqDiff, and_f, nt_e, nt_t, nl_t, nl_f, ne_t, ne_f, and_self, or_self, or_true, true_or, or_false, false_or, if_true, if_false, and_true, true_and, and_false, false_and, not_true, not_false_iff]
    · simp (disch := omega) only [mup_at, up_at, fil_at, ↓reduceIte, ↓Nat.reduceEqDiff, and_f, nt_e, nt_t, nl_t, nl_f, ne_t, ne_f, and_self, or_self, or_true, true_or, or_false, false_or, if_true, if_false, and_true, true_and, and_false, false_and, not_true, not_false_iff]
    · intro a b hab
      rw [pm_ne (by omega), pm_ne (by omega), pm_ne (by omega)]
/-! seal -/
def sealSp (α : Sp) (n1 c1 c2 n4 : Nat) : Sp := fun j => if j = 1 then 1 else if j = 2 then n1 else if j = 3 then c1 else if j = 4 then c2 else if j = 5 then n4 else if j = 6 then 0 else if j = 7 then 0 else if j = 8 then 0 else if j = 9 then 0 else if 23 ≤ j ∧ j < 31 then 0 else if 15 ≤ j ∧ j < 15 + α 0 then (n1 + c1 * (j - 15 + 1) + c2 * (j - 15 + 1) * (j - 15 + 1)) % 97 else α j
theorem sealSp_at (α : Sp) (n1 c1 c2 n4 j : Nat) : sealSp α n1 c1 c2 n4 j = if j = 1 then 1 else if j = 2 then n1 else if j = 3 then c1 else if j = 4 then c2 else if j = 5 then n4 else if j = 6 then 0 else if j = 7 then 0 else if j = 8 then 0 else if j = 9 then 0 else if 23 ≤ j ∧ j < 31 then 0 else if 15 ≤ j ∧ j < 15 + α 0 then (n1 + c1 * (j - 15 + 1) + c2 * (j - 15 + 1) * (j - 15 + 1)) % 97 else α j := Eq.trans rfl rfl
def sSeal (α : Sp) (a1 a2 a3 a4 : Int32) : Ex :=
  if idx a1 97 && (idx a2 97 && (idx a3 97 && rng1 a4 3)) then
    if α 0 < a4.toNatClampNeg then .inl (2, α 0)
    else .inr (α 0, sealSp α a1.toNatClampNeg (if 1 < a4.toNatClampNeg then a2.toNatClampNeg else 0) (if 2 < a4.toNatClampNeg then a3.toNatClampNeg else 0) a4.toNatClampNeg)
  else .inl (21, 0)
def crv3 (c0 c1 c2 h : Nat) : Nat := (c0 + c1 * (h + 1) + c2 * (h + 1) * (h + 1)) % 97
theorem crv_3 (α : Sp) (h : Nat) : crv α h = crv3 (α 2) (α 3) (α 4) h := rfl
/-- the class gives all holders their shares -/
theorem c_fillShares {M : Mem} {N n c0 c1 c2 : Nat} (hN : 1000 = N) (hn : n ≤ 8) (h0 : M 0 1 0 = nI n) (e0 : M 0 3 0 = nI c0) (e1 : M 0 3 1 = nI c1) (e2 : M 0 3 2 = nI c2) (b0 : c0 ≤ 96) (b1 : c1 ≤ 96) (b2 : c2 ≤ 96) (kk : Mem → Option (Unit × Mem)) :
    f_X6_sealWith_L60 0 N (nI 0) M kk = kk (fil M 0 2 0 n (fun h => nI (crv3 c0 c1 c2 h))) := by
  have key := mloop (F := fun n x s kk => f_X6_sealWith_L60 0 n x s kk) (c := n) (fun x => fil M 0 2 0 x (fun h => nI (crv3 c0 c1 c2 h))) (fun m x kk hx => by
    rw [f_X6_sealWith_L60.eq_2]
    have hc := c_correct (M := fil M 0 2 0 x (fun h => nI (crv3 c0 c1 c2 h))) (g := 0) (h := x) (α := fun j => if j = 2 then c0 else if j = 3 then c1 else c2) (by omega) (fun k hk => by
      rw [fil_ne (by decide)]
      rcases (show k = 0 ∨ k = 1 ∨ k = 2 by omega) with rfl | rfl | rfl
      · exact e0
      · exact e1
      · exact e2) b0 b1 b2
    have hs : f_X6_correctShare 0 (nI x) (fil M 0 2 0 x (fun h => nI (crv3 c0 c1 c2 h))) = some (nI (crv3 c0 c1 c2 x)) := hc
    rw [show (fil M 0 2 0 x (fun h => nI (crv3 c0 c1 c2 h))) 0 1 0 = nI n from by rw [fil_ne (by decide)]; exact h0, hs]
    have hle : ¬ n ≤ x := by omega
    simp (disch := omega) only [lit_0, lit_1, lit_2, lit_3, lit_4, lit_5, lit_6, lit_7, lit_8, lit_9, lit_10, lit_11, lit_12, lit_13, lit_14, lit_15, lit_16, lit_20, lit_23, lit_24, lit_31, lit_32, lit_39, lit_43, lit_45, lit_47, lit_48, lit_56, lit_57, lit_59, lit_60, lit_62, lit_63, lit_89, lit_92, lit_96, lit_97, lit_99, lit_100, lit_102, lit_103, lit_104, lit_110, lit_111, lit_115, lit_117, lit_194, lit_200, lit_644, lit_736, lit_999, lit_1000, lit_9999, lit_10000, lit_1000000000, ↓wp_mlet, ↓wp_mbp, ↓wp_ite, ↓wp_mix, ↓wp_mdiv, ↓wp_mnz, ↓wp_some, ↓wp_mbnd, ↓mlet_eq, ↓mbp_eq, ↓mbnd_eq, ↓mix_ite, ↓mdiv_ite, ↓mnz_ite, nI_add, nI_mul, nI_nat, nI_ltE, nI_leE, nI_eqE, nI_eqN, nI_Neq, nI_Nlt, nI_Nle, nI_ltN, nI_leN, ↓reduceIte, ↓Nat.reduceEqDiff, and_f, nt_e, nt_t, nl_t, nl_f, ne_t, ne_f, and_self, or_self, or_true, true_or, or_false, false_or, if_true, if_false, and_true, true_and, and_false, false_and, not_true, not_false_iff, hle]
    rw [fil_s (Nat.zero_le _) rfl]) (fun m kk => by
    rw [f_X6_sealWith_L60.eq_2]
    rw [show (fil M 0 2 0 n (fun h => nI (crv3 c0 c1 c2 h))) 0 1 0 = nI n from by rw [fil_ne (by decide)]; exact h0, if_pos (by rw [nI_leE (by omega) (by omega)]; omega)])
  have := key n N 0 kk (by omega) (by omega)
  rw [fil_0] at this
  exact this
theorem m_fillShares {M : Mem} {N n c0 c1 c2 : Nat} (hN : 1000 = N) (hn : n ≤ 8) (h0 : M 12 48 0 = nI n) (e0 : M 12 48 2 = nI c0) (e1 : M 12 48 3 = nI c1) (e2 : M 12 48 4 = nI c2) (b0 : c0 ≤ 96) (b1 : c1 ≤ 96) (b2 : c2 ≤ 96) (kk : Mem → Option (Int32 × Mem)) :
    f_X12_seals_L152 N (nI 0) M kk = kk (fil M 12 48 15 (15 + n) (fun j => nI (crv3 c0 c1 c2 (j - 15)))) := by
  have key := mloop (F := fun n x s kk => f_X12_seals_L152 n x s kk) (c := n) (fun x => fil M 12 48 15 (15 + x) (fun j => nI (crv3 c0 c1 c2 (j - 15)))) (fun m x kk hx => by
    rw [f_X12_seals_L152.eq_2]
    have q0 : (fil M 12 48 15 (15 + x) (fun j => nI (crv3 c0 c1 c2 (j - 15)))) 12 48 0 = nI n := by rw [fil_at, if_neg (by omega)]; exact h0
    have q2 : (fil M 12 48 15 (15 + x) (fun j => nI (crv3 c0 c1 c2 (j - 15)))) 12 48 2 = nI c0 := by rw [fil_at, if_neg (by omega)]; exact e0
    have q3 : (fil M 12 48 15 (15 + x) (fun j => nI (crv3 c0 c1 c2 (j - 15)))) 12 48 3 = nI c1 := by rw [fil_at, if_neg (by omega)]; exact e1
    have q4 : (fil M 12 48 15 (15 + x) (fun j => nI (crv3 c0 c1 c2 (j - 15)))) 12 48 4 = nI c2 := by rw [fil_at, if_neg (by omega)]; exact e2
    have m1 : c1 * (x + 1) ≤ 96 * 51 := Nat.mul_le_mul b1 (by omega)
    have m2 : c2 * (x + 1) ≤ 96 * 51 := Nat.mul_le_mul b2 (by omega)
    have m3 : c2 * (x + 1) * (x + 1) ≤ 96 * 51 * 51 := Nat.mul_le_mul m2 (by omega)
    have hle : ¬ n ≤ x := by omega
    simp (disch := omega) only [lit_0, lit_1, lit_2, lit_3, lit_4, lit_5, lit_6, lit_7, lit_8, lit_9, lit_10, lit_11, lit_12, lit_13, lit_14, lit_15, lit_16, lit_20, lit_23, lit_24, lit_31, lit_32, lit_39, lit_43, lit_45, lit_47, lit_48, lit_56, lit_57, lit_59, lit_60, lit_62, lit_63, lit_89, lit_92, lit_96, lit_97, lit_99, lit_100, lit_102, lit_103, lit_104, lit_110, lit_111, lit_115, lit_117, lit_194, lit_200, lit_644, lit_736, lit_999, lit_1000, lit_9999, lit_10000, lit_1000000000, ↓wp_mlet, ↓wp_mbp, ↓wp_ite, ↓wp_mix, ↓wp_mdiv, ↓wp_mnz, ↓wp_some, ↓wp_mbnd, ↓mlet_eq, ↓mbp_eq, ↓mbnd_eq, ↓mix_ite, ↓mdiv_ite, ↓mnz_ite, nI_add, nI_mul, nI_nat, nI_ltE, nI_leE, nI_eqE, nI_eqN, nI_Neq, nI_Nlt, nI_Nle, nI_ltN, nI_leN, ↓reduceIte, ↓Nat.reduceEqDiff, and_f, nt_e, nt_t, nl_t, nl_f, ne_t, ne_f, and_self, or_self, or_true, true_or, or_false, false_or, if_true, if_false, and_true, true_and, and_false, false_and, not_true, not_false_iff, q0, q2, q3, q4, hle, f_X12_curve, nI_rem]
    rw [fil_s (by omega) (by rw [show 15 + x - 15 = x by omega]; rfl)]
    rfl) (fun m kk => by
    rw [f_X12_seals_L152.eq_2]
    have q0 : (fil M 12 48 15 (15 + n) (fun j => nI (crv3 c0 c1 c2 (j - 15)))) 12 48 0 = nI n := by rw [fil_at, if_neg (by omega)]; exact h0
    simp (disch := omega) only [lit_0, lit_1, lit_2, lit_3, lit_4, lit_5, lit_6, lit_7, lit_8, lit_9, lit_10, lit_11, lit_12, lit_13, lit_14, lit_15, lit_16, lit_20, lit_23, lit_24, lit_31, lit_32, lit_39, lit_43, lit_45, lit_47, lit_48, lit_56, lit_57, lit_59, lit_60, lit_62, lit_63, lit_89, lit_92, lit_96, lit_97, lit_99, lit_100, lit_102, lit_103, lit_104, lit_110, lit_111, lit_115, lit_117, lit_194, lit_200, lit_644, lit_736, lit_999, lit_1000, lit_9999, lit_10000, lit_1000000000, ↓wp_mlet, ↓wp_mbp, ↓wp_ite, ↓wp_mix, ↓wp_mdiv, ↓wp_mnz, ↓wp_some, ↓wp_mbnd, ↓mlet_eq, ↓mbp_eq, ↓mbnd_eq, ↓mix_ite, ↓mdiv_ite, ↓mnz_ite, nI_add, nI_mul, nI_nat, nI_ltE, nI_leE, nI_eqE, nI_eqN, nI_Neq, nI_Nlt, nI_Nle, nI_ltN, nI_leN, ↓reduceIte, ↓Nat.reduceEqDiff, and_f, nt_e, nt_t, nl_t, nl_f, ne_t, ne_f, and_self, or_self, or_true, true_or, or_false, false_or, if_true, if_false, and_true, true_and, and_false, false_and, not_true, not_false_iff, q0, Nat.le_refl])
  have := key n N 0 kk (by omega) (by omega)
  rw [show 15 + 0 = 15 from rfl, fil_0] at this
  exact this
theorem m_clears {M : Mem} : f_X12_clears M = some ((), mup (fil M 12 48 23 31 (fun _ => nI 0)) 12 48 9 (nI 0)) := by
  unfold f_X12_clears
  have key := mloop (F := fun n x s kk => f_X12_clears_L2 n x s kk) (c := 8) (fun x => fil M 12 48 23 (23 + x) (fun _ => nI 0)) (fun m x kk hx => by
    rw [f_X12_clears_L2.eq_2]
    have hle : ¬ 8 ≤ x := by omega
    simp (disch := omega) only [lit_0, lit_1, lit_2, lit_3, lit_4, lit_5, lit_6, lit_7, lit_8, lit_9, lit_10, lit_11, lit_12, lit_13, lit_14, lit_15, lit_16, lit_20, lit_23, lit_24, lit_31, lit_32, lit_39, lit_43, lit_45, lit_47, lit_48, lit_56, lit_57, lit_59, lit_60, lit_62, lit_63, lit_89, lit_92, lit_96, lit_97, lit_99, lit_100, lit_102, lit_103, lit_104, lit_110, lit_111, lit_115, lit_117, lit_194, lit_200, lit_644, lit_736, lit_999, lit_1000, lit_9999, lit_10000, lit_1000000000, ↓wp_mlet, ↓wp_mbp, ↓wp_ite, ↓wp_mix, ↓wp_mdiv, ↓wp_mnz, ↓wp_some, ↓wp_mbnd, ↓mlet_eq, ↓mbp_eq, ↓mbnd_eq, ↓mix_ite, ↓mdiv_ite, ↓mnz_ite, nI_add, nI_mul, nI_nat, nI_ltE, nI_leE, nI_eqE, nI_eqN, nI_Neq, nI_Nlt, nI_Nle, nI_ltN, nI_leN, ↓reduceIte, ↓Nat.reduceEqDiff, and_f, nt_e, nt_t, nl_t, nl_f, ne_t, ne_f, and_self, or_self, or_true, true_or, or_false, false_or, if_true, if_false, and_true, true_and, and_false, false_and, not_true, not_false_iff, hle]
    rw [fil_s (by omega) rfl]
    rfl) (fun m kk => by
    rw [f_X12_clears_L2.eq_2]
    simp (disch := omega) only [lit_0, lit_1, lit_2, lit_3, lit_4, lit_5, lit_6, lit_7, lit_8, lit_9, lit_10, lit_11, lit_12, lit_13, lit_14, lit_15, lit_16, lit_20, lit_23, lit_24, lit_31, lit_32, lit_39, lit_43, lit_45, lit_47, lit_48, lit_56, lit_57, lit_59, lit_60, lit_62, lit_63, lit_89, lit_92, lit_96, lit_97, lit_99, lit_100, lit_102, lit_103, lit_104, lit_110, lit_111, lit_115, lit_117, lit_194, lit_200, lit_644, lit_736, lit_999, lit_1000, lit_9999, lit_10000, lit_1000000000, ↓wp_mlet, ↓wp_mbp, ↓wp_ite, ↓wp_mix, ↓wp_mdiv, ↓wp_mnz, ↓wp_some, ↓wp_mbnd, ↓mlet_eq, ↓mbp_eq, ↓mbnd_eq, ↓mix_ite, ↓mdiv_ite, ↓mnz_ite, nI_add, nI_mul, nI_nat, nI_ltE, nI_leE, nI_eqE, nI_eqN, nI_Neq, nI_Nlt, nI_Nle, nI_ltN, nI_leN, ↓reduceIte, ↓Nat.reduceEqDiff, and_f, nt_e, nt_t, nl_t, nl_f, ne_t, ne_f, and_self, or_self, or_true, true_or, or_false, false_or, if_true, if_false, and_true, true_and, and_false, false_and, not_true, not_false_iff, Nat.le_refl])
  have := key 8 1000 0 (fun M6 => (mix (9 : Int32) 92 (mlet (mup M6 12 48 (9 : Int32).toNatClampNeg (0 : Int32)) fun M7 => (some ((), M7))))) (by omega) (by omega)
  rw [show 23 + 0 = 23 from rfl, fil_0] at this
  rw [lit_0] at this ⊢
  rw [this]
  simp (disch := omega) only [lit_0, lit_1, lit_2, lit_3, lit_4, lit_5, lit_6, lit_7, lit_8, lit_9, lit_10, lit_11, lit_12, lit_13, lit_14, lit_15, lit_16, lit_20, lit_23, lit_24, lit_31, lit_32, lit_39, lit_43, lit_45, lit_47, lit_48, lit_56, lit_57, lit_59, lit_60, lit_62, lit_63, lit_89, lit_92, lit_96, lit_97, lit_99, lit_100, lit_102, lit_103, lit_104, lit_110, lit_111, lit_115, lit_117, lit_194, lit_200, lit_644, lit_736, lit_999, lit_1000, lit_9999, lit_10000, lit_1000000000, ↓wp_mlet, ↓wp_mbp, ↓wp_ite, ↓wp_mix, ↓wp_mdiv, ↓wp_mnz, ↓wp_some, ↓wp_mbnd, ↓mlet_eq, ↓mbp_eq, ↓mbnd_eq, ↓mix_ite, ↓mdiv_ite, ↓mnz_ite, nI_add, nI_mul, nI_nat, nI_ltE, nI_leE, nI_eqE, nI_eqN, nI_Neq, nI_Nlt, nI_Nle, nI_ltN, nI_leN, ↓reduceIte, ↓Nat.reduceEqDiff, and_f, nt_e, nt_t, nl_t, nl_f, ne_t, ne_f, and_self, or_self, or_true, true_or, or_false, false_or, if_true, if_false, and_true, true_and, and_false, false_and, not_true, not_false_iff]
