/-! THE CLASS ALONE: what its thinking calls answer, and what they leave -/
/-- only the forecast and the solver's cells may have changed -/
def Kp (M M1 : Mem) : Prop := (∀ a, a ≤ 10 → M1 a = M a) ∧ ∀ b, ¬ (21 ≤ b ∧ b ≤ 25) → M1 12 b = M 12 b
theorem Kp.rf {M : Mem} : Kp M M := ⟨fun _ _ => rfl, fun _ _ => rfl⟩
theorem Kp.trans {M M1 M2 : Mem} (h : Kp M M1) (h2 : Kp M1 M2) : Kp M M2 := ⟨fun a ha => (h2.1 a ha).trans (h.1 a ha), fun b hb => (h2.2 b hb).trans (h.2 b hb)⟩
theorem Kp.of11 {M M1 : Mem} (h : ∀ a, a ≠ 11 → M1 a = M a) : Kp M M1 := ⟨fun a ha => h a (by omega), fun b _ => by rw [h 12 (by decide)]⟩
theorem Kp.of12 {M M1 : Mem} (h : ∀ a b, ¬ (a = 12 ∧ 21 ≤ b ∧ b ≤ 25) → M1 a b = M a b) : Kp M M1 := ⟨fun a ha => funext fun b => h a b (by omega), fun b hb => h 12 b (by omega)⟩
theorem Kp.R {M M1 : Mem} {α : Sp} (h : Kp M M1) (hR : RC (M 0) α) : RC (M1 0) α := by rw [h.1 0 (by decide)]; exact hR
section THINK
variable {M : Mem} {α : Sp} {H : Nat}
theorem v_toldSecret (hR : RC (M 0) α) (hi : Inv H α) : (en α → f_L_toldSecret M = some (nI (thr (α 5) (sh α) (ky α) 0))) ∧ (¬ en α → f_L_toldSecret M = some (-nI 75)) := by
  obtain ⟨c1, c2⟩ := c_require hR.1 hi
  unfold f_L_toldSecret f_X11_toldSecret
  refine ⟨fun he => ?_, fun he => ?_⟩
  · have hl := Lk0 hR.1 hi he
    have e1 : f_X6_toldAt 0 (nI 0) M = some (nI (thr (α 5) (sh α) (ky α) 0)) := by
      unfold f_X6_toldAt
      rw [c_thr hl (by decide)]
      rfl
    rw [c1 he, mbpx_r]
    simp only [lit_0, lit_1, lit_2, lit_3, lit_4, lit_5, lit_6, lit_7, lit_8, lit_9, lit_10, lit_11, lit_12, lit_13, lit_14, lit_15, lit_16, lit_20, lit_23, lit_24, lit_31, lit_32, lit_39, lit_43, lit_45, lit_47, lit_48, lit_56, lit_57, lit_59, lit_60, lit_62, lit_63, lit_89, lit_92, lit_96, lit_97, lit_99, lit_100, lit_102, lit_103, lit_104, lit_110, lit_111, lit_115, lit_117, lit_194, lit_200, lit_644, lit_736, lit_999, lit_1000, lit_9999, lit_10000, lit_1000000000]
    rw [e1, mbp_eq, mcatp_r]
  · rw [c2 he, mbpx_l, mcatp_l]
    simp (disch := omega) only [lit_17, lit_18, lit_19, lit_21, lit_22, lit_25, lit_26, lit_28, lit_29, lit_38, lit_42, lit_46, lit_50, lit_54, lit_70, lit_74, lit_75, lit_76, lit_77, lit_78, lit_79, lit_40503, mcatp_l, mcatp_r, eq_self, lit_0, lit_1, lit_2, lit_3, lit_4, lit_5, lit_6, lit_7, lit_8, lit_9, lit_10, lit_11, lit_12, lit_13, lit_14, lit_15, lit_16, lit_20, lit_23, lit_24, lit_31, lit_32, lit_39, lit_43, lit_45, lit_47, lit_48, lit_56, lit_57, lit_59, lit_60, lit_62, lit_63, lit_89, lit_92, lit_96, lit_97, lit_99, lit_100, lit_102, lit_103, lit_104, lit_110, lit_111, lit_115, lit_117, lit_194, lit_200, lit_644, lit_736, lit_999, lit_1000, lit_9999, lit_10000, lit_1000000000, ↓wp_mlet, ↓wp_mbp, ↓wp_ite, ↓wp_mix, ↓wp_mdiv, ↓wp_mnz, ↓wp_some, ↓wp_mbnd, ↓mlet_eq, ↓mbp_eq, ↓mbnd_eq, ↓mix_ite, ↓mdiv_ite, ↓mnz_ite, nI_add, nI_mul, nI_nat, nI_ltE, nI_leE, nI_eqE, nI_eqN, nI_Neq, nI_Nlt, nI_Nle, nI_ltN, nI_leN, ↓reduceIte, ↓Nat.reduceEqDiff, and_f, nt_e, nt_t, nl_t, nl_f, ne_t, ne_f, and_self, or_self, or_true, true_or, or_false, false_or, if_true, if_false, and_true, true_and, and_false, false_and, not_true, not_false_iff]
theorem v_toldValue (hR : RC (M 0) α) (hi : Inv H α) {x : Nat} (hx : x < 97) : (en α → f_L_toldValue (nI x) M = some (nI (thr (α 5) (sh α) (ky α) x))) ∧ (¬ en α → f_L_toldValue (nI x) M = some (-nI 75)) := by
  obtain ⟨c1, c2⟩ := c_require hR.1 hi
  unfold f_L_toldValue f_X11_toldValue
  simp only [lit_0, lit_1, lit_2, lit_3, lit_4, lit_5, lit_6, lit_7, lit_8, lit_9, lit_10, lit_11, lit_12, lit_13, lit_14, lit_15, lit_16, lit_20, lit_23, lit_24, lit_31, lit_32, lit_39, lit_43, lit_45, lit_47, lit_48, lit_56, lit_57, lit_59, lit_60, lit_62, lit_63, lit_89, lit_92, lit_96, lit_97, lit_99, lit_100, lit_102, lit_103, lit_104, lit_110, lit_111, lit_115, lit_117, lit_194, lit_200, lit_644, lit_736, lit_999, lit_1000, lit_9999, lit_10000, lit_1000000000]
  refine ⟨fun he => ?_, fun he => ?_⟩
  · have hl := Lk0 hR.1 hi he
    have e3 : f_X6_toldAt 0 (nI x) M = some (nI (thr (α 5) (sh α) (ky α) x)) := by
      unfold f_X6_toldAt
      rw [c_thr hl (by omega)]
      rfl
    simp (disch := omega) only [lit_17, lit_18, lit_19, lit_21, lit_22, lit_25, lit_26, lit_28, lit_29, lit_38, lit_42, lit_46, lit_50, lit_54, lit_70, lit_74, lit_75, lit_76, lit_77, lit_78, lit_79, lit_40503, mcatp_l, mcatp_r, eq_self, lit_0, lit_1, lit_2, lit_3, lit_4, lit_5, lit_6, lit_7, lit_8, lit_9, lit_10, lit_11, lit_12, lit_13, lit_14, lit_15, lit_16, lit_20, lit_23, lit_24, lit_31, lit_32, lit_39, lit_43, lit_45, lit_47, lit_48, lit_56, lit_57, lit_59, lit_60, lit_62, lit_63, lit_89, lit_92, lit_96, lit_97, lit_99, lit_100, lit_102, lit_103, lit_104, lit_110, lit_111, lit_115, lit_117, lit_194, lit_200, lit_644, lit_736, lit_999, lit_1000, lit_9999, lit_10000, lit_1000000000, ↓wp_mlet, ↓wp_mbp, ↓wp_ite, ↓wp_mix, ↓wp_mdiv, ↓wp_mnz, ↓wp_some, ↓wp_mbnd, ↓mlet_eq, ↓mbp_eq, ↓mbnd_eq, ↓mix_ite, ↓mdiv_ite, ↓mnz_ite, nI_add, nI_mul, nI_nat, nI_ltE, nI_leE, nI_eqE, nI_eqN, nI_Neq, nI_Nlt, nI_Nle, nI_ltN, nI_leN, ↓reduceIte, ↓Nat.reduceEqDiff, and_f, nt_e, nt_t, nl_t, nl_f, ne_t, ne_f, and_self, or_self, or_true, true_or, or_false, false_or, if_true, if_false, and_true, true_and, and_false, false_and, not_true, not_false_iff, c1 he, mbpx_r, e3, nI_pos]
  · simp (disch := omega) only [lit_17, lit_18, lit_19, lit_21, lit_22, lit_25, lit_26, lit_28, lit_29, lit_38, lit_42, lit_46, lit_50, lit_54, lit_70, lit_74, lit_75, lit_76, lit_77, lit_78, lit_79, lit_40503, mcatp_l, mcatp_r, eq_self, lit_0, lit_1, lit_2, lit_3, lit_4, lit_5, lit_6, lit_7, lit_8, lit_9, lit_10, lit_11, lit_12, lit_13, lit_14, lit_15, lit_16, lit_20, lit_23, lit_24, lit_31, lit_32, lit_39, lit_43, lit_45, lit_47, lit_48, lit_56, lit_57, lit_59, lit_60, lit_62, lit_63, lit_89, lit_92, lit_96, lit_97, lit_99, lit_100, lit_102, lit_103, lit_104, lit_110, lit_111, lit_115, lit_117, lit_194, lit_200, lit_644, lit_736, lit_999, lit_1000, lit_9999, lit_10000, lit_1000000000, ↓wp_mlet, ↓wp_mbp, ↓wp_ite, ↓wp_mix, ↓wp_mdiv, ↓wp_mnz, ↓wp_some, ↓wp_mbnd, ↓mlet_eq, ↓mbp_eq, ↓mbnd_eq, ↓mix_ite, ↓mdiv_ite, ↓mnz_ite, nI_add, nI_mul, nI_nat, nI_ltE, nI_leE, nI_eqE, nI_eqN, nI_Neq, nI_Nlt, nI_Nle, nI_ltN, nI_leN, ↓reduceIte, ↓Nat.reduceEqDiff, and_f, nt_e, nt_t, nl_t, nl_f, ne_t, ne_f, and_self, or_self, or_true, true_or, or_false, false_or, if_true, if_false, and_true, true_and, and_false, false_and, not_true, not_false_iff, c2 he, mbpx_l, nI_pos]
theorem v_doAgree (hR : RC (M 0) α) (hi : Inv H α) : (en α → f_L_doAgree M = some (nI (one (α 5) (sh α) (ky α) (α 9)).toNat)) ∧ (¬ en α → f_L_doAgree M = some (-nI 75)) := by
  obtain ⟨c1, c2⟩ := c_require hR.1 hi
  unfold f_L_doAgree f_X11_doAgree f_X6_allAgree
  refine ⟨fun he => ?_, fun he => ?_⟩
  · have e1 := c_agree hR.1 hi he
    rw [c1 he]
    cases q : one (α 5) (sh α) (ky α) (α 9) <;> rw [q] at e1 <;> simp (disch := omega) only [lit_17, lit_18, lit_19, lit_21, lit_22, lit_25, lit_26, lit_28, lit_29, lit_38, lit_42, lit_46, lit_50, lit_54, lit_70, lit_74, lit_75, lit_76, lit_77, lit_78, lit_79, lit_40503, mcatp_l, mcatp_r, eq_self, lit_0, lit_1, lit_2, lit_3, lit_4, lit_5, lit_6, lit_7, lit_8, lit_9, lit_10, lit_11, lit_12, lit_13, lit_14, lit_15, lit_16, lit_20, lit_23, lit_24, lit_31, lit_32, lit_39, lit_43, lit_45, lit_47, lit_48, lit_56, lit_57, lit_59, lit_60, lit_62, lit_63, lit_89, lit_92, lit_96, lit_97, lit_99, lit_100, lit_102, lit_103, lit_104, lit_110, lit_111, lit_115, lit_117, lit_194, lit_200, lit_644, lit_736, lit_999, lit_1000, lit_9999, lit_10000, lit_1000000000, ↓wp_mlet, ↓wp_mbp, ↓wp_ite, ↓wp_mix, ↓wp_mdiv, ↓wp_mnz, ↓wp_some, ↓wp_mbnd, ↓mlet_eq, ↓mbp_eq, ↓mbnd_eq, ↓mix_ite, ↓mdiv_ite, ↓mnz_ite, nI_add, nI_mul, nI_nat, nI_ltE, nI_leE, nI_eqE, nI_eqN, nI_Neq, nI_Nlt, nI_Nle, nI_ltN, nI_leN, ↓reduceIte, ↓Nat.reduceEqDiff, and_f, nt_e, nt_t, nl_t, nl_f, ne_t, ne_f, and_self, or_self, or_true, true_or, or_false, false_or, if_true, if_false, and_true, true_and, and_false, false_and, not_true, not_false_iff, mbpx_r, e1, Bool.toNat_true, Bool.toNat_false]
  · rw [c2 he]
    simp (disch := omega) only [lit_17, lit_18, lit_19, lit_21, lit_22, lit_25, lit_26, lit_28, lit_29, lit_38, lit_42, lit_46, lit_50, lit_54, lit_70, lit_74, lit_75, lit_76, lit_77, lit_78, lit_79, lit_40503, mcatp_l, mcatp_r, eq_self, lit_0, lit_1, lit_2, lit_3, lit_4, lit_5, lit_6, lit_7, lit_8, lit_9, lit_10, lit_11, lit_12, lit_13, lit_14, lit_15, lit_16, lit_20, lit_23, lit_24, lit_31, lit_32, lit_39, lit_43, lit_45, lit_47, lit_48, lit_56, lit_57, lit_59, lit_60, lit_62, lit_63, lit_89, lit_92, lit_96, lit_97, lit_99, lit_100, lit_102, lit_103, lit_104, lit_110, lit_111, lit_115, lit_117, lit_194, lit_200, lit_644, lit_736, lit_999, lit_1000, lit_9999, lit_10000, lit_1000000000, ↓wp_mlet, ↓wp_mbp, ↓wp_ite, ↓wp_mix, ↓wp_mdiv, ↓wp_mnz, ↓wp_some, ↓wp_mbnd, ↓mlet_eq, ↓mbp_eq, ↓mbnd_eq, ↓mix_ite, ↓mdiv_ite, ↓mnz_ite, nI_add, nI_mul, nI_nat, nI_ltE, nI_leE, nI_eqE, nI_eqN, nI_Neq, nI_Nlt, nI_Nle, nI_ltN, nI_leN, ↓reduceIte, ↓Nat.reduceEqDiff, and_f, nt_e, nt_t, nl_t, nl_f, ne_t, ne_f, and_self, or_self, or_true, true_or, or_false, false_or, if_true, if_false, and_true, true_and, and_false, false_and, not_true, not_false_iff, mbpx_l]
theorem v_toldElim (hR : RC (M 0) α) (hi : Inv H α) : (en α → ∃ M1, f_L_toldSecretByElimination M = some (nI (thr (α 5) (sh α) (ky α) 0), M1) ∧ Kp M M1) ∧ (¬ en α → f_L_toldSecretByElimination M = some (-nI 75, M)) := by
  obtain ⟨c1, c2⟩ := c_require hR.1 hi
  unfold f_L_toldSecretByElimination f_X11_toldSecretByElimination f_X8_secretOf
  refine ⟨fun he => ?_, fun he => ?_⟩
  · have hl := Lk0 hR.1 hi he
    obtain ⟨⟨⟩, M1, e1, f1, f2⟩ := c_fit hl (by decide) (by decide)
    have e3 : thr (α 5) (sh α) (ky α) 0 = (cf (α 5) (sh α) (ky α) 0).val := by
      unfold thr ev
      rw [zz_0, Fin.mul_zero, Fin.mul_zero, Fin.add_zero, Fin.add_zero]
    refine ⟨M1, ?_, Kp.of12 (fun a b h => f2 a b (by omega))⟩
    rw [c1 he, e3]
    unfold mbpxm
    simp (disch := omega) only [lit_17, lit_18, lit_19, lit_21, lit_22, lit_25, lit_26, lit_28, lit_29, lit_38, lit_42, lit_46, lit_50, lit_54, lit_70, lit_74, lit_75, lit_76, lit_77, lit_78, lit_79, lit_40503, mcatp_l, mcatp_r, eq_self, lit_0, lit_1, lit_2, lit_3, lit_4, lit_5, lit_6, lit_7, lit_8, lit_9, lit_10, lit_11, lit_12, lit_13, lit_14, lit_15, lit_16, lit_20, lit_23, lit_24, lit_31, lit_32, lit_39, lit_43, lit_45, lit_47, lit_48, lit_56, lit_57, lit_59, lit_60, lit_62, lit_63, lit_89, lit_92, lit_96, lit_97, lit_99, lit_100, lit_102, lit_103, lit_104, lit_110, lit_111, lit_115, lit_117, lit_194, lit_200, lit_644, lit_736, lit_999, lit_1000, lit_9999, lit_10000, lit_1000000000, ↓wp_mlet, ↓wp_mbp, ↓wp_ite, ↓wp_mix, ↓wp_mdiv, ↓wp_mnz, ↓wp_some, ↓wp_mbnd, ↓mlet_eq, ↓mbp_eq, ↓mbnd_eq, ↓mix_ite, ↓mdiv_ite, ↓mnz_ite, nI_add, nI_mul, nI_nat, nI_ltE, nI_leE, nI_eqE, nI_eqN, nI_Neq, nI_Nlt, nI_Nle, nI_ltN, nI_leN, ↓reduceIte, ↓Nat.reduceEqDiff, and_f, nt_e, nt_t, nl_t, nl_f, ne_t, ne_f, and_self, or_self, or_true, true_or, or_false, false_or, if_true, if_false, and_true, true_and, and_false, false_and, not_true, not_false_iff, e1, f1 0 (by decide), mcat_r]
  · rw [c2 he]
    unfold mbpxm
    simp (disch := omega) only [lit_17, lit_18, lit_19, lit_21, lit_22, lit_25, lit_26, lit_28, lit_29, lit_38, lit_42, lit_46, lit_50, lit_54, lit_70, lit_74, lit_75, lit_76, lit_77, lit_78, lit_79, lit_40503, mcatp_l, mcatp_r, eq_self, lit_0, lit_1, lit_2, lit_3, lit_4, lit_5, lit_6, lit_7, lit_8, lit_9, lit_10, lit_11, lit_12, lit_13, lit_14, lit_15, lit_16, lit_20, lit_23, lit_24, lit_31, lit_32, lit_39, lit_43, lit_45, lit_47, lit_48, lit_56, lit_57, lit_59, lit_60, lit_62, lit_63, lit_89, lit_92, lit_96, lit_97, lit_99, lit_100, lit_102, lit_103, lit_104, lit_110, lit_111, lit_115, lit_117, lit_194, lit_200, lit_644, lit_736, lit_999, lit_1000, lit_9999, lit_10000, lit_1000000000, ↓wp_mlet, ↓wp_mbp, ↓wp_ite, ↓wp_mix, ↓wp_mdiv, ↓wp_mnz, ↓wp_some, ↓wp_mbnd, ↓mlet_eq, ↓mbp_eq, ↓mbnd_eq, ↓mix_ite, ↓mdiv_ite, ↓mnz_ite, nI_add, nI_mul, nI_nat, nI_ltE, nI_leE, nI_eqE, nI_eqN, nI_Neq, nI_Nlt, nI_Nle, nI_ltN, nI_leN, ↓reduceIte, ↓Nat.reduceEqDiff, and_f, nt_e, nt_t, nl_t, nl_f, ne_t, ne_f, and_self, or_self, or_true, true_or, or_false, false_or, if_true, if_false, and_true, true_and, and_false, false_and, not_true, not_false_iff, mcat_l]
theorem v_mostAgreeing (hR : RC (M 0) α) (hi : Inv H α) : (en α → ∃ M1, f_L_mostAgreeing M = some (nI (mostA α), M1) ∧ Kp M M1) ∧ (¬ en α → f_L_mostAgreeing M = some (-nI 75, M)) := by
  obtain ⟨c1, c2⟩ := c_require hR.1 hi
  unfold f_L_mostAgreeing f_X11_mostAgreeing
  refine ⟨fun he => ?_, fun he => ?_⟩
  · obtain ⟨r, M1, e1, rfl, f2⟩ := c_mostC (Kc0 hR.1 hi he) (by decide)
    have e6 : nI (mx (fC (α 5) (α 9) (sh α) (ky α)) (2 ^ (α 9))) = nI (mostA α) := rfl
    try rw [e6] at e1
    generalize mostA α = w at e1 ⊢
    refine ⟨M1, ?_, Kp.of12 (fun a b h => f2 a b (by omega))⟩
    rw [c1 he]
    unfold mbpxm
    simp (disch := omega) only [lit_17, lit_18, lit_19, lit_21, lit_22, lit_25, lit_26, lit_28, lit_29, lit_38, lit_42, lit_46, lit_50, lit_54, lit_70, lit_74, lit_75, lit_76, lit_77, lit_78, lit_79, lit_40503, mcatp_l, mcatp_r, eq_self, lit_0, lit_1, lit_2, lit_3, lit_4, lit_5, lit_6, lit_7, lit_8, lit_9, lit_10, lit_11, lit_12, lit_13, lit_14, lit_15, lit_16, lit_20, lit_23, lit_24, lit_31, lit_32, lit_39, lit_43, lit_45, lit_47, lit_48, lit_56, lit_57, lit_59, lit_60, lit_62, lit_63, lit_89, lit_92, lit_96, lit_97, lit_99, lit_100, lit_102, lit_103, lit_104, lit_110, lit_111, lit_115, lit_117, lit_194, lit_200, lit_644, lit_736, lit_999, lit_1000, lit_9999, lit_10000, lit_1000000000, ↓wp_mlet, ↓wp_mbp, ↓wp_ite, ↓wp_mix, ↓wp_mdiv, ↓wp_mnz, ↓wp_some, ↓wp_mbnd, ↓mlet_eq, ↓mbp_eq, ↓mbnd_eq, ↓mix_ite, ↓mdiv_ite, ↓mnz_ite, nI_add, nI_mul, nI_nat, nI_ltE, nI_leE, nI_eqE, nI_eqN, nI_Neq, nI_Nlt, nI_Nle, nI_ltN, nI_leN, ↓reduceIte, ↓Nat.reduceEqDiff, and_f, nt_e, nt_t, nl_t, nl_f, ne_t, ne_f, and_self, or_self, or_true, true_or, or_false, false_or, if_true, if_false, and_true, true_and, and_false, false_and, not_true, not_false_iff, e1, mcat_r]
  · rw [c2 he]
    unfold mbpxm
    simp (disch := omega) only [lit_17, lit_18, lit_19, lit_21, lit_22, lit_25, lit_26, lit_28, lit_29, lit_38, lit_42, lit_46, lit_50, lit_54, lit_70, lit_74, lit_75, lit_76, lit_77, lit_78, lit_79, lit_40503, mcatp_l, mcatp_r, eq_self, lit_0, lit_1, lit_2, lit_3, lit_4, lit_5, lit_6, lit_7, lit_8, lit_9, lit_10, lit_11, lit_12, lit_13, lit_14, lit_15, lit_16, lit_20, lit_23, lit_24, lit_31, lit_32, lit_39, lit_43, lit_45, lit_47, lit_48, lit_56, lit_57, lit_59, lit_60, lit_62, lit_63, lit_89, lit_92, lit_96, lit_97, lit_99, lit_100, lit_102, lit_103, lit_104, lit_110, lit_111, lit_115, lit_117, lit_194, lit_200, lit_644, lit_736, lit_999, lit_1000, lit_9999, lit_10000, lit_1000000000, ↓wp_mlet, ↓wp_mbp, ↓wp_ite, ↓wp_mix, ↓wp_mdiv, ↓wp_mnz, ↓wp_some, ↓wp_mbnd, ↓mlet_eq, ↓mbp_eq, ↓mbnd_eq, ↓mix_ite, ↓mdiv_ite, ↓mnz_ite, nI_add, nI_mul, nI_nat, nI_ltE, nI_leE, nI_eqE, nI_eqN, nI_Neq, nI_Nlt, nI_Nle, nI_ltN, nI_leN, ↓reduceIte, ↓Nat.reduceEqDiff, and_f, nt_e, nt_t, nl_t, nl_f, ne_t, ne_f, and_self, or_self, or_true, true_or, or_false, false_or, if_true, if_false, and_true, true_and, and_false, false_and, not_true, not_false_iff, mcat_l]
theorem v_mostAgreeingBySets (hR : RC (M 0) α) (hi : Inv H α) : (en α → ∃ M1, f_L_mostAgreeingBySets M = some (nI (mostA α), M1) ∧ Kp M M1) ∧ (¬ en α → f_L_mostAgreeingBySets M = some (-nI 75, M)) := by
  obtain ⟨c1, c2⟩ := c_require hR.1 hi
  unfold f_L_mostAgreeingBySets f_X11_mostAgreeingBySets
  refine ⟨fun he => ?_, fun he => ?_⟩
  · obtain ⟨r, M1, e1, rfl, f2⟩ := c_mostS (Kc0 hR.1 hi he) (by decide)
    rw [mostA_S hi he] at e1
    have e6 : nI (mx (fC (α 5) (α 9) (sh α) (ky α)) (2 ^ (α 9))) = nI (mostA α) := rfl
    try rw [e6] at e1
    generalize mostA α = w at e1 ⊢
    refine ⟨M1, ?_, Kp.of12 (fun a b h => f2 a b (by omega))⟩
    rw [c1 he]
    unfold mbpxm
    simp (disch := omega) only [lit_17, lit_18, lit_19, lit_21, lit_22, lit_25, lit_26, lit_28, lit_29, lit_38, lit_42, lit_46, lit_50, lit_54, lit_70, lit_74, lit_75, lit_76, lit_77, lit_78, lit_79, lit_40503, mcatp_l, mcatp_r, eq_self, lit_0, lit_1, lit_2, lit_3, lit_4, lit_5, lit_6, lit_7, lit_8, lit_9, lit_10, lit_11, lit_12, lit_13, lit_14, lit_15, lit_16, lit_20, lit_23, lit_24, lit_31, lit_32, lit_39, lit_43, lit_45, lit_47, lit_48, lit_56, lit_57, lit_59, lit_60, lit_62, lit_63, lit_89, lit_92, lit_96, lit_97, lit_99, lit_100, lit_102, lit_103, lit_104, lit_110, lit_111, lit_115, lit_117, lit_194, lit_200, lit_644, lit_736, lit_999, lit_1000, lit_9999, lit_10000, lit_1000000000, ↓wp_mlet, ↓wp_mbp, ↓wp_ite, ↓wp_mix, ↓wp_mdiv, ↓wp_mnz, ↓wp_some, ↓wp_mbnd, ↓mlet_eq, ↓mbp_eq, ↓mbnd_eq, ↓mix_ite, ↓mdiv_ite, ↓mnz_ite, nI_add, nI_mul, nI_nat, nI_ltE, nI_leE, nI_eqE, nI_eqN, nI_Neq, nI_Nlt, nI_Nle, nI_ltN, nI_leN, ↓reduceIte, ↓Nat.reduceEqDiff, and_f, nt_e, nt_t, nl_t, nl_f, ne_t, ne_f, and_self, or_self, or_true, true_or, or_false, false_or, if_true, if_false, and_true, true_and, and_false, false_and, not_true, not_false_iff, e1, mcat_r]
  · rw [c2 he]
    unfold mbpxm
    simp (disch := omega) only [lit_17, lit_18, lit_19, lit_21, lit_22, lit_25, lit_26, lit_28, lit_29, lit_38, lit_42, lit_46, lit_50, lit_54, lit_70, lit_74, lit_75, lit_76, lit_77, lit_78, lit_79, lit_40503, mcatp_l, mcatp_r, eq_self, lit_0, lit_1, lit_2, lit_3, lit_4, lit_5, lit_6, lit_7, lit_8, lit_9, lit_10, lit_11, lit_12, lit_13, lit_14, lit_15, lit_16, lit_20, lit_23, lit_24, lit_31, lit_32, lit_39, lit_43, lit_45, lit_47, lit_48, lit_56, lit_57, lit_59, lit_60, lit_62, lit_63, lit_89, lit_92, lit_96, lit_97, lit_99, lit_100, lit_102, lit_103, lit_104, lit_110, lit_111, lit_115, lit_117, lit_194, lit_200, lit_644, lit_736, lit_999, lit_1000, lit_9999, lit_10000, lit_1000000000, ↓wp_mlet, ↓wp_mbp, ↓wp_ite, ↓wp_mix, ↓wp_mdiv, ↓wp_mnz, ↓wp_some, ↓wp_mbnd, ↓mlet_eq, ↓mbp_eq, ↓mbnd_eq, ↓mix_ite, ↓mdiv_ite, ↓mnz_ite, nI_add, nI_mul, nI_nat, nI_ltE, nI_leE, nI_eqE, nI_eqN, nI_Neq, nI_Nlt, nI_Nle, nI_ltN, nI_leN, ↓reduceIte, ↓Nat.reduceEqDiff, and_f, nt_e, nt_t, nl_t, nl_f, ne_t, ne_f, and_self, or_self, or_true, true_or, or_false, false_or, if_true, if_false, and_true, true_and, and_false, false_and, not_true, not_false_iff, mcat_l]
theorem v_hoursUntilVisit (hR : RC (M 0) α) (hi : Inv H α) (hH : H < 800000) {z : Nat} (hz : z < 8) : ∃ M1, f_L_hoursUntilVisit (nI z) M = some (if α 10 = 0 then -nI 75 else nI (vis α z), M1) ∧ Kp M M1 := by
  have b10 : α 10 ≤ 3 := hi.1.2.2.2.2.2.2.2.2.2.2.1
  have e4 : M 0 6 4 = nI (α 10) := hR.2.2.1.2.2.1
  unfold f_L_hoursUntilVisit f_X11_hoursUntilVisit f_X11_requireZone f_X11_requireGuards
  have e1 : idx (nI z) 8 = true := by
    rcases idx_c (nI z) 8 (by omega) with ⟨j, h1, h2, h3⟩ | ⟨-, h | ⟨j, h1, h2, h3⟩⟩
    · exact h3
    · exact absurd h (nI_pos (by omega))
    · rw [nI_eqE (by omega) (by omega)] at h3; omega
  by_cases h0 : α 10 = 0
  · refine ⟨M, ?_, Kp.rf⟩
    simp (disch := omega) only [lit_17, lit_18, lit_19, lit_21, lit_22, lit_25, lit_26, lit_28, lit_29, lit_38, lit_42, lit_46, lit_50, lit_54, lit_70, lit_74, lit_75, lit_76, lit_77, lit_78, lit_79, lit_40503, mcatp_l, mcatp_r, eq_self, lit_0, lit_1, lit_2, lit_3, lit_4, lit_5, lit_6, lit_7, lit_8, lit_9, lit_10, lit_11, lit_12, lit_13, lit_14, lit_15, lit_16, lit_20, lit_23, lit_24, lit_31, lit_32, lit_39, lit_43, lit_45, lit_47, lit_48, lit_56, lit_57, lit_59, lit_60, lit_62, lit_63, lit_89, lit_92, lit_96, lit_97, lit_99, lit_100, lit_102, lit_103, lit_104, lit_110, lit_111, lit_115, lit_117, lit_194, lit_200, lit_644, lit_736, lit_999, lit_1000, lit_9999, lit_10000, lit_1000000000, ↓wp_mlet, ↓wp_mbp, ↓wp_ite, ↓wp_mix, ↓wp_mdiv, ↓wp_mnz, ↓wp_some, ↓wp_mbnd, ↓mlet_eq, ↓mbp_eq, ↓mbnd_eq, ↓mix_ite, ↓mdiv_ite, ↓mnz_ite, nI_add, nI_mul, nI_nat, nI_ltE, nI_leE, nI_eqE, nI_eqN, nI_Neq, nI_Nlt, nI_Nle, nI_ltN, nI_leN, ↓reduceIte, ↓Nat.reduceEqDiff, and_f, nt_e, nt_t, nl_t, nl_f, ne_t, ne_f, and_self, or_self, or_true, true_or, or_false, false_or, if_true, if_false, and_true, true_and, and_false, false_and, not_true, not_false_iff, toNat_0, Bool.false_and, Bool.true_and, Bool.and_false, Bool.and_true, Bool.false_eq_true, reduceCtorEq, Bool.true_eq_false, Bool.not_true, Bool.not_false, c_hasZone, e1, mbpxm_l, mbpxm_r, e4, h0, mcat_l]
  · obtain ⟨r, M1, e2, rfl, q⟩ := c_visitH hR hi hH hz (by omega)
    refine ⟨M1, ?_, Kp.of11 q⟩
    simp (disch := omega) only [lit_17, lit_18, lit_19, lit_21, lit_22, lit_25, lit_26, lit_28, lit_29, lit_38, lit_42, lit_46, lit_50, lit_54, lit_70, lit_74, lit_75, lit_76, lit_77, lit_78, lit_79, lit_40503, mcatp_l, mcatp_r, eq_self, lit_0, lit_1, lit_2, lit_3, lit_4, lit_5, lit_6, lit_7, lit_8, lit_9, lit_10, lit_11, lit_12, lit_13, lit_14, lit_15, lit_16, lit_20, lit_23, lit_24, lit_31, lit_32, lit_39, lit_43, lit_45, lit_47, lit_48, lit_56, lit_57, lit_59, lit_60, lit_62, lit_63, lit_89, lit_92, lit_96, lit_97, lit_99, lit_100, lit_102, lit_103, lit_104, lit_110, lit_111, lit_115, lit_117, lit_194, lit_200, lit_644, lit_736, lit_999, lit_1000, lit_9999, lit_10000, lit_1000000000, ↓wp_mlet, ↓wp_mbp, ↓wp_ite, ↓wp_mix, ↓wp_mdiv, ↓wp_mnz, ↓wp_some, ↓wp_mbnd, ↓mlet_eq, ↓mbp_eq, ↓mbnd_eq, ↓mix_ite, ↓mdiv_ite, ↓mnz_ite, nI_add, nI_mul, nI_nat, nI_ltE, nI_leE, nI_eqE, nI_eqN, nI_Neq, nI_Nlt, nI_Nle, nI_ltN, nI_leN, ↓reduceIte, ↓Nat.reduceEqDiff, and_f, nt_e, nt_t, nl_t, nl_f, ne_t, ne_f, and_self, or_self, or_true, true_or, or_false, false_or, if_true, if_false, and_true, true_and, and_false, false_and, not_true, not_false_iff, toNat_0, Bool.false_and, Bool.true_and, Bool.and_false, Bool.and_true, Bool.false_eq_true, reduceCtorEq, Bool.true_eq_false, Bool.not_true, Bool.not_false, c_hasZone, e1, mbpxm_l, mbpxm_r, e4, h0, e2, mcat_r]
theorem v_hoursUntilVisitByRemainders (hR : RC (M 0) α) (hi : Inv H α) (hH : H < 800000) {z : Nat} (hz : z < 8) : f_L_hoursUntilVisitByRemainders (nI z) M = some (if α 10 = 0 then -nI 75 else nI (vis α z)) := by
  have b10 : α 10 ≤ 3 := hi.1.2.2.2.2.2.2.2.2.2.2.1
  have e4 : M 0 6 4 = nI (α 10) := hR.2.2.1.2.2.1
  unfold f_L_hoursUntilVisitByRemainders f_X11_hoursUntilVisitByRemainders f_X11_requireZone f_X11_requireGuards
  have e1 : idx (nI z) 8 = true := by
    rcases idx_c (nI z) 8 (by omega) with ⟨j, h1, h2, h3⟩ | ⟨-, h | ⟨j, h1, h2, h3⟩⟩
    · exact h3
    · exact absurd h (nI_pos (by omega))
    · rw [nI_eqE (by omega) (by omega)] at h3; omega
  by_cases h0 : α 10 = 0
  · simp (disch := omega) only [lit_17, lit_18, lit_19, lit_21, lit_22, lit_25, lit_26, lit_28, lit_29, lit_38, lit_42, lit_46, lit_50, lit_54, lit_70, lit_74, lit_75, lit_76, lit_77, lit_78, lit_79, lit_40503, mcatp_l, mcatp_r, eq_self, lit_0, lit_1, lit_2, lit_3, lit_4, lit_5, lit_6, lit_7, lit_8, lit_9, lit_10, lit_11, lit_12, lit_13, lit_14, lit_15, lit_16, lit_20, lit_23, lit_24, lit_31, lit_32, lit_39, lit_43, lit_45, lit_47, lit_48, lit_56, lit_57, lit_59, lit_60, lit_62, lit_63, lit_89, lit_92, lit_96, lit_97, lit_99, lit_100, lit_102, lit_103, lit_104, lit_110, lit_111, lit_115, lit_117, lit_194, lit_200, lit_644, lit_736, lit_999, lit_1000, lit_9999, lit_10000, lit_1000000000, ↓wp_mlet, ↓wp_mbp, ↓wp_ite, ↓wp_mix, ↓wp_mdiv, ↓wp_mnz, ↓wp_some, ↓wp_mbnd, ↓mlet_eq, ↓mbp_eq, ↓mbnd_eq, ↓mix_ite, ↓mdiv_ite, ↓mnz_ite, nI_add, nI_mul, nI_nat, nI_ltE, nI_leE, nI_eqE, nI_eqN, nI_Neq, nI_Nlt, nI_Nle, nI_ltN, nI_leN, ↓reduceIte, ↓Nat.reduceEqDiff, and_f, nt_e, nt_t, nl_t, nl_f, ne_t, ne_f, and_self, or_self, or_true, true_or, or_false, false_or, if_true, if_false, and_true, true_and, and_false, false_and, not_true, not_false_iff, toNat_0, Bool.false_and, Bool.true_and, Bool.and_false, Bool.and_true, Bool.false_eq_true, reduceCtorEq, Bool.true_eq_false, Bool.not_true, Bool.not_false, c_hasZone, e1, mbpx_l, mbpx_r, e4, h0]
  · have ec := c_visitR (M := M) hR hi hH hz
    simp (disch := omega) only [lit_17, lit_18, lit_19, lit_21, lit_22, lit_25, lit_26, lit_28, lit_29, lit_38, lit_42, lit_46, lit_50, lit_54, lit_70, lit_74, lit_75, lit_76, lit_77, lit_78, lit_79, lit_40503, mcatp_l, mcatp_r, eq_self, lit_0, lit_1, lit_2, lit_3, lit_4, lit_5, lit_6, lit_7, lit_8, lit_9, lit_10, lit_11, lit_12, lit_13, lit_14, lit_15, lit_16, lit_20, lit_23, lit_24, lit_31, lit_32, lit_39, lit_43, lit_45, lit_47, lit_48, lit_56, lit_57, lit_59, lit_60, lit_62, lit_63, lit_89, lit_92, lit_96, lit_97, lit_99, lit_100, lit_102, lit_103, lit_104, lit_110, lit_111, lit_115, lit_117, lit_194, lit_200, lit_644, lit_736, lit_999, lit_1000, lit_9999, lit_10000, lit_1000000000, ↓wp_mlet, ↓wp_mbp, ↓wp_ite, ↓wp_mix, ↓wp_mdiv, ↓wp_mnz, ↓wp_some, ↓wp_mbnd, ↓mlet_eq, ↓mbp_eq, ↓mbnd_eq, ↓mix_ite, ↓mdiv_ite, ↓mnz_ite, nI_add, nI_mul, nI_nat, nI_ltE, nI_leE, nI_eqE, nI_eqN, nI_Neq, nI_Nlt, nI_Nle, nI_ltN, nI_leN, ↓reduceIte, ↓Nat.reduceEqDiff, and_f, nt_e, nt_t, nl_t, nl_f, ne_t, ne_f, and_self, or_self, or_true, true_or, or_false, false_or, if_true, if_false, and_true, true_and, and_false, false_and, not_true, not_false_iff, toNat_0, Bool.false_and, Bool.true_and, Bool.and_false, Bool.and_true, Bool.false_eq_true, reduceCtorEq, Bool.true_eq_false, Bool.not_true, Bool.not_false, c_hasZone, e1, mbpx_l, mbpx_r, e4, h0, ec]
theorem v_alarmsIn (hR : RC (M 0) α) (hi : Inv H α) (hH : H < 900000) {h : Nat} (h1 : h ≤ 24) : ∃ M1, f_L_alarmsIn (nI h) M = some (nI (hrsN α h), M1) ∧ Kp M M1 := by
  unfold f_L_alarmsIn f_X11_alarmsIn
  generalize hN : (1000 : Nat) = N
  obtain ⟨r0, M1, e0, q1, q2, q3⟩ := c_copyB (M := M) (g := 11) (g1 := 0) (α := α) (by decide) hR.2.2.1
  have key := mloopP (F := fun m x s kk => f_X11_alarmsIn_L36 (nI h) m x s kk) (c := h) (fun x M2 => Rb (M2 11) (hrs α x) ∧ ∀ a, a ≠ 11 → M2 a = M a) (fun m x M2 kk hx h2 => by
    obtain ⟨r1, r2⟩ := h2
    obtain ⟨r, M3, w1, w2, w3, w4, w5⟩ := c_bhour r1 (inv_hrs hi x (by omega)) (by omega)
    refine ⟨M3, ⟨Rb.of (fun _ _ _ => rfl) (fun j q => hourSp_hz (by omega) (by omega)) w3, fun a ha => by rw [w5 a ha, r2 a ha]⟩, ?_⟩
    show f_X11_alarmsIn_L36 (nI h) (m + 1) (nI x) M2 kk = f_X11_alarmsIn_L36 (nI h) m (nI (x + 1)) M3 kk
    rw [f_X11_alarmsIn_L36.eq_2]
    simp (disch := omega) only [lit_0, lit_1, lit_2, lit_3, lit_4, lit_5, lit_6, lit_7, lit_8, lit_9, lit_10, lit_11, lit_12, lit_13, lit_14, lit_15, lit_16, lit_20, lit_23, lit_24, lit_31, lit_32, lit_39, lit_43, lit_45, lit_47, lit_48, lit_56, lit_57, lit_59, lit_60, lit_62, lit_63, lit_89, lit_92, lit_96, lit_97, lit_99, lit_100, lit_102, lit_103, lit_104, lit_110, lit_111, lit_115, lit_117, lit_194, lit_200, lit_644, lit_736, lit_999, lit_1000, lit_9999, lit_10000, lit_1000000000, ↓wp_mlet, ↓wp_mbp, ↓wp_ite, ↓wp_mix, ↓wp_mdiv, ↓wp_mnz, ↓wp_some, ↓wp_mbnd, ↓mlet_eq, ↓mbp_eq, ↓mbnd_eq, ↓mix_ite, ↓mdiv_ite, ↓mnz_ite, nI_add, nI_mul, nI_nat, nI_ltE, nI_leE, nI_eqE, nI_eqN, nI_Neq, nI_Nlt, nI_Nle, nI_ltN, nI_leN, ↓reduceIte, ↓Nat.reduceEqDiff, and_f, nt_e, nt_t, nl_t, nl_f, ne_t, ne_f, and_self, or_self, or_true, true_or, or_false, false_or, if_true, if_false, and_true, true_and, and_false, false_and, not_true, not_false_iff, w1]) (fun m M2 kk h2 => by
    show f_X11_alarmsIn_L36 (nI h) (m + 1) (nI h) M2 kk = kk M2
    rw [f_X11_alarmsIn_L36.eq_2]
    simp (disch := omega) only [lit_0, lit_1, lit_2, lit_3, lit_4, lit_5, lit_6, lit_7, lit_8, lit_9, lit_10, lit_11, lit_12, lit_13, lit_14, lit_15, lit_16, lit_20, lit_23, lit_24, lit_31, lit_32, lit_39, lit_43, lit_45, lit_47, lit_48, lit_56, lit_57, lit_59, lit_60, lit_62, lit_63, lit_89, lit_92, lit_96, lit_97, lit_99, lit_100, lit_102, lit_103, lit_104, lit_110, lit_111, lit_115, lit_117, lit_194, lit_200, lit_644, lit_736, lit_999, lit_1000, lit_9999, lit_10000, lit_1000000000, ↓wp_mlet, ↓wp_mbp, ↓wp_ite, ↓wp_mix, ↓wp_mdiv, ↓wp_mnz, ↓wp_some, ↓wp_mbnd, ↓mlet_eq, ↓mbp_eq, ↓mbnd_eq, ↓mix_ite, ↓mdiv_ite, ↓mnz_ite, nI_add, nI_mul, nI_nat, nI_ltE, nI_leE, nI_eqE, nI_eqN, nI_Neq, nI_Nlt, nI_Nle, nI_ltN, nI_leN, ↓reduceIte, ↓Nat.reduceEqDiff, and_f, nt_e, nt_t, nl_t, nl_f, ne_t, ne_f, and_self, or_self, or_true, true_or, or_false, false_or, if_true, if_false, and_true, true_and, and_false, false_and, not_true, not_false_iff]) h N 0 M1 (fun M12 => some (Sum.inr (M12 11 6 3 - M12 0 6 3), M12)) (by omega) (by omega) ⟨q1, q3⟩
  obtain ⟨M2, ⟨k1, k2⟩, k3⟩ := key
  have e13 : M2 11 6 3 - M2 0 6 3 = nI (hrsN α h) := by
    rw [k1.2.1, k2 0 (by decide), hR.2.2.1.2.1, hrs_13 hi h (by omega), nI_add_sub]
  rw [e13] at k3
  refine ⟨M2, ?_, Kp.of11 k2⟩
  have k4 : f_X11_alarmsIn_L36 (nI h) N 0 M1 (fun M12 => some (Sum.inr (M12 11 6 3 - M12 0 6 3), M12)) = some (Sum.inr (nI (hrsN α h)), M2) := k3
  simp (disch := omega) only [lit_17, lit_18, lit_19, lit_21, lit_22, lit_25, lit_26, lit_28, lit_29, lit_38, lit_42, lit_46, lit_50, lit_54, lit_70, lit_74, lit_75, lit_76, lit_77, lit_78, lit_79, lit_40503, mcatp_l, mcatp_r, eq_self, lit_0, lit_1, lit_2, lit_3, lit_4, lit_5, lit_6, lit_7, lit_8, lit_9, lit_10, lit_11, lit_12, lit_13, lit_14, lit_15, lit_16, lit_20, lit_23, lit_24, lit_31, lit_32, lit_39, lit_43, lit_45, lit_47, lit_48, lit_56, lit_57, lit_59, lit_60, lit_62, lit_63, lit_89, lit_92, lit_96, lit_97, lit_99, lit_100, lit_102, lit_103, lit_104, lit_110, lit_111, lit_115, lit_117, lit_194, lit_200, lit_644, lit_736, lit_999, lit_1000, lit_9999, lit_10000, lit_1000000000, ↓wp_mlet, ↓wp_mbp, ↓wp_ite, ↓wp_mix, ↓wp_mdiv, ↓wp_mnz, ↓wp_some, ↓wp_mbnd, ↓mlet_eq, ↓mbp_eq, ↓mbnd_eq, ↓mix_ite, ↓mdiv_ite, ↓mnz_ite, nI_add, nI_mul, nI_nat, nI_ltE, nI_leE, nI_eqE, nI_eqN, nI_Neq, nI_Nlt, nI_Nle, nI_ltN, nI_leN, ↓reduceIte, ↓Nat.reduceEqDiff, and_f, nt_e, nt_t, nl_t, nl_f, ne_t, ne_f, and_self, or_self, or_true, true_or, or_false, false_or, if_true, if_false, and_true, true_and, and_false, false_and, not_true, not_false_iff, e0, k3, mcat_r]
theorem v_zoneByNoise (hR : RC (M 0) α) (hi : Inv H α) (hH : H < 900000) {r : Nat} (hr : r < 8) : ∃ z, z < 8 ∧ cB α z 8 = r ∧ f_L_zoneByNoise (nI r) M = some (nI z) := by
  unfold f_L_zoneByNoise f_X11_zoneByNoise f_X1_zoneAtRank
  generalize hN : (1000 : Nat) = N
  obtain ⟨e, he⟩ : ∃ e, e = 8 := ⟨8, rfl⟩
  have kC := c_zoneL (M := M) (a1 := nI r) he hN hR hi (by omega) (fun _ => some (-nI 1))
  have ft := fun w => fnd_some (P := rkP α (nI r)) (d := e) (x := 0) (r := w)
  have fn := fnd_none (P := rkP α (nI r)) (d := e) (x := 0)
  have lt8 : ∀ z, z < 8 → cB α z 8 < 8 := fun z hz => cB_self 8 hz
  revert kC ft fn
  generalize fnd (rkP α (nI r)) 0 e = o
  intro kC ft fn
  simp only [lit_0, lit_1, lit_2, lit_3, lit_4, lit_5, lit_6, lit_7, lit_8, lit_9, lit_10, lit_11, lit_12, lit_13, lit_14, lit_15, lit_16, lit_20, lit_23, lit_24, lit_31, lit_32, lit_39, lit_43, lit_45, lit_47, lit_48, lit_56, lit_57, lit_59, lit_60, lit_62, lit_63, lit_89, lit_92, lit_96, lit_97, lit_99, lit_100, lit_102, lit_103, lit_104, lit_110, lit_111, lit_115, lit_117, lit_194, lit_200, lit_644, lit_736, lit_999, lit_1000, lit_9999, lit_10000, lit_1000000000, mlet_eq] at ⊢
  obtain ⟨z, z1, z2⟩ := rank_ex α hr
  cases o with
  | none =>
    exfalso
    have := fn rfl z (Nat.zero_le _) (by omega)
    have h2 : rkP α (nI r) z = true := by rw [rkP_at, z2]
    rw [h2] at this
    cases this
  | some w =>
    obtain ⟨-, w1, w2, -⟩ := ft w rfl
    have hw : w < 8 := by omega
    have := lt8 w hw
    refine ⟨w, hw, ?_, ?_⟩
    · have h3 := w2
      rw [rkP_at] at h3
      rw [nI_eqE (by omega) (by omega)] at h3
      exact h3
    · rw [if_neg (by rw [nI_ltE (by omega) (by omega)]; omega), if_pos (by rw [nI_ltE (by omega) (by omega)]; omega), kC.1 w rfl, mbp_eq, mcatp_r]
theorem v_isConsistent (hR : RC (M 0) α) (hi : Inv H α) (hH : H < 800000) : ∃ M1, f_X11_isConsistent M = some (nI 1, M1) ∧ Kp M M1 := by
  have e1 := c_sumOf (M := M) (ia := 8) (f := fun k => α (39 + k)) hR.2.2.1.2.2.2.2.1
  rw [sum_13 hi] at e1
  have e2 := hR.2.2.1.2.1
  obtain ⟨r3, M3, e3, rfl, f3⟩ := c_visitsMatch hR hi hH
  have hR3 : RC (M3 0) α := by rw [f3 0 (by decide)]; exact hR
  obtain ⟨r4, M4, e4, rfl, f4⟩ := c_tellings hR3.1 hi
  refine ⟨M4, ?_, (Kp.of11 f3).trans (Kp.of12 f4)⟩
  unfold f_X11_isConsistent
  simp (disch := omega) only [lit_17, lit_18, lit_19, lit_21, lit_22, lit_25, lit_26, lit_28, lit_29, lit_38, lit_42, lit_46, lit_50, lit_54, lit_70, lit_74, lit_75, lit_76, lit_77, lit_78, lit_79, lit_40503, mcatp_l, mcatp_r, eq_self, lit_0, lit_1, lit_2, lit_3, lit_4, lit_5, lit_6, lit_7, lit_8, lit_9, lit_10, lit_11, lit_12, lit_13, lit_14, lit_15, lit_16, lit_20, lit_23, lit_24, lit_31, lit_32, lit_39, lit_43, lit_45, lit_47, lit_48, lit_56, lit_57, lit_59, lit_60, lit_62, lit_63, lit_89, lit_92, lit_96, lit_97, lit_99, lit_100, lit_102, lit_103, lit_104, lit_110, lit_111, lit_115, lit_117, lit_194, lit_200, lit_644, lit_736, lit_999, lit_1000, lit_9999, lit_10000, lit_1000000000, ↓wp_mlet, ↓wp_mbp, ↓wp_ite, ↓wp_mix, ↓wp_mdiv, ↓wp_mnz, ↓wp_some, ↓wp_mbnd, ↓mlet_eq, ↓mbp_eq, ↓mbnd_eq, ↓mix_ite, ↓mdiv_ite, ↓mnz_ite, nI_add, nI_mul, nI_nat, nI_ltE, nI_leE, nI_eqE, nI_eqN, nI_Neq, nI_Nlt, nI_Nle, nI_ltN, nI_leN, ↓reduceIte, ↓Nat.reduceEqDiff, and_f, nt_e, nt_t, nl_t, nl_f, ne_t, ne_f, and_self, or_self, or_true, true_or, or_false, false_or, if_true, if_false, and_true, true_and, and_false, false_and, not_true, not_false_iff, e1, e2, e3, e4]
end THINK
