/-! THE LAW'S LOOK AT ALL OF A STATE -/
section WHOLE
variable {M : Mem} {α : Sp} {H : Nat}
theorem w_L6 (hR : RC (M 0) α) (hi : Inv H α) (kk : Int32 → Option (Int32 × Mem)) : f_L_isWhole_L6 M 9 (nI 0) (nI 0) kk = kk (nI (α 13)) := by
  have h := mloop (F := fun n x s kk => f_L_isWhole_L6 M n s x kk) (c := 8) (fun x => nI (sumN (fun k => α (39 + k)) x)) (fun m x kk hx => by
    show f_L_isWhole_L6 M (m + 1) (nI (sumN (fun k => α (39 + k)) x)) (nI x) kk = f_L_isWhole_L6 M m (nI (sumN (fun k => α (39 + k)) (x + 1))) (nI (x + 1)) kk
    have a1 := v_alarmsOf hR hi hx
    rw [f_L_isWhole_L6.eq_2, sumN_s]
    simp (disch := omega) only [lit_17, lit_18, lit_19, lit_21, lit_22, lit_25, lit_26, lit_28, lit_29, lit_38, lit_42, lit_46, lit_50, lit_54, lit_70, lit_74, lit_75, lit_76, lit_77, lit_78, lit_79, lit_40503, mcatp_l, mcatp_r, eq_self, lit_0, lit_1, lit_2, lit_3, lit_4, lit_5, lit_6, lit_7, lit_8, lit_9, lit_10, lit_11, lit_12, lit_13, lit_14, lit_15, lit_16, lit_20, lit_23, lit_24, lit_31, lit_32, lit_39, lit_43, lit_45, lit_47, lit_48, lit_56, lit_57, lit_59, lit_60, lit_62, lit_63, lit_89, lit_92, lit_96, lit_97, lit_99, lit_100, lit_102, lit_103, lit_104, lit_110, lit_111, lit_115, lit_117, lit_194, lit_200, lit_644, lit_736, lit_999, lit_1000, lit_9999, lit_10000, lit_1000000000, ↓wp_mlet, ↓wp_mbp, ↓wp_ite, ↓wp_mix, ↓wp_mdiv, ↓wp_mnz, ↓wp_some, ↓wp_mbnd, ↓mlet_eq, ↓mbp_eq, ↓mbnd_eq, ↓mix_ite, ↓mdiv_ite, ↓mnz_ite, nI_add, nI_mul, nI_nat, nI_ltE, nI_leE, nI_eqE, nI_eqN, nI_Neq, nI_Nlt, nI_Nle, nI_ltN, nI_leN, ↓reduceIte, ↓Nat.reduceEqDiff, and_f, nt_e, nt_t, nl_t, nl_f, ne_t, ne_f, and_self, or_self, or_true, true_or, or_false, false_or, if_true, if_false, and_true, true_and, and_false, false_and, not_true, not_false_iff, a1]) (fun m kk => by
    show f_L_isWhole_L6 M (m + 1) (nI (sumN (fun k => α (39 + k)) 8)) (nI 8) kk = _
    rw [f_L_isWhole_L6.eq_2]
    simp (disch := omega) only [lit_17, lit_18, lit_19, lit_21, lit_22, lit_25, lit_26, lit_28, lit_29, lit_38, lit_42, lit_46, lit_50, lit_54, lit_70, lit_74, lit_75, lit_76, lit_77, lit_78, lit_79, lit_40503, mcatp_l, mcatp_r, eq_self, lit_0, lit_1, lit_2, lit_3, lit_4, lit_5, lit_6, lit_7, lit_8, lit_9, lit_10, lit_11, lit_12, lit_13, lit_14, lit_15, lit_16, lit_20, lit_23, lit_24, lit_31, lit_32, lit_39, lit_43, lit_45, lit_47, lit_48, lit_56, lit_57, lit_59, lit_60, lit_62, lit_63, lit_89, lit_92, lit_96, lit_97, lit_99, lit_100, lit_102, lit_103, lit_104, lit_110, lit_111, lit_115, lit_117, lit_194, lit_200, lit_644, lit_736, lit_999, lit_1000, lit_9999, lit_10000, lit_1000000000, ↓wp_mlet, ↓wp_mbp, ↓wp_ite, ↓wp_mix, ↓wp_mdiv, ↓wp_mnz, ↓wp_some, ↓wp_mbnd, ↓mlet_eq, ↓mbp_eq, ↓mbnd_eq, ↓mix_ite, ↓mdiv_ite, ↓mnz_ite, nI_add, nI_mul, nI_nat, nI_ltE, nI_leE, nI_eqE, nI_eqN, nI_Neq, nI_Nlt, nI_Nle, nI_ltN, nI_leN, ↓reduceIte, ↓Nat.reduceEqDiff, and_f, nt_e, nt_t, nl_t, nl_f, ne_t, ne_f, and_self, or_self, or_true, true_or, or_false, false_or, if_true, if_false, and_true, true_and, and_false, false_and, not_true, not_false_iff]) 8 9 0 kk (by omega) (by omega)
  rw [sum_13 hi] at h
  exact h
theorem w_L39 (hR : RC (M 0) α) (hi : Inv H α) (h2 : In2 H α) (hH : H < 800000) (kk : Unit → Option (Int32 × Mem)) : f_L_isWhole_L39 M (nI (α 14)) 13 (nI 0) kk = kk () := by
  have b14 := hi.1.2.2.2.2.2.2.2.2.2.2.2.2
  have b11 := hi.1.2.2.2.2.2.2.2.2.2.2.2.1
  have bz := hi.2.2.2.2.2.2.1
  have bl := LI_of hi
  exact mloop (F := fun n x (_ : Unit) (kk : Unit → Option (Int32 × Mem)) => f_L_isWhole_L39 M (nI (α 14)) n x kk) (c := α 14) (fun _ => ()) (fun m x kk hx => by
    show f_L_isWhole_L39 M (nI (α 14)) (m + 1) (nI x) kk = f_L_isWhole_L39 M (nI (α 14)) m (nI (x + 1)) kk
    have a1 := v_logKind hR hi hx
    have a2 := v_logDetail hR hi hx
    have a3 := v_logHour hR hi hx
    obtain ⟨hE, hO⟩ := h2.1 x hx
    obtain ⟨l1, -, l3⟩ := bl x hx
    rw [f_L_isWhole_L39.eq_2]
    simp only [lit_0, lit_1, lit_2, lit_3, lit_4, lit_5, lit_6, lit_7, lit_8, lit_9, lit_10, lit_11, lit_12, lit_13, lit_14, lit_15, lit_16, lit_20, lit_23, lit_24, lit_31, lit_32, lit_39, lit_43, lit_45, lit_47, lit_48, lit_56, lit_57, lit_59, lit_60, lit_62, lit_63, lit_89, lit_92, lit_96, lit_97, lit_99, lit_100, lit_102, lit_103, lit_104, lit_110, lit_111, lit_115, lit_117, lit_194, lit_200, lit_644, lit_736, lit_999, lit_1000, lit_9999, lit_10000, lit_1000000000, lit_8]
    rw [if_neg (by rw [nI_leE (by omega) (by omega)]; omega), a1, mbp_eq, a2, mbp_eq]
    refine mlet_k (v := nI 1) (fun k => ?_) ?_
    · rcases hE with ⟨q1, q2⟩ | ⟨q1, q2, q3⟩ | ⟨q1 | q1, q2, q3⟩
      · rw [q1, q2]
        simp (disch := omega) only [lit_17, lit_18, lit_19, lit_21, lit_22, lit_25, lit_26, lit_28, lit_29, lit_38, lit_42, lit_46, lit_50, lit_54, lit_70, lit_74, lit_75, lit_76, lit_77, lit_78, lit_79, lit_40503, mcatp_l, mcatp_r, eq_self, lit_0, lit_1, lit_2, lit_3, lit_4, lit_5, lit_6, lit_7, lit_8, lit_9, lit_10, lit_11, lit_12, lit_13, lit_14, lit_15, lit_16, lit_20, lit_23, lit_24, lit_31, lit_32, lit_39, lit_43, lit_45, lit_47, lit_48, lit_56, lit_57, lit_59, lit_60, lit_62, lit_63, lit_89, lit_92, lit_96, lit_97, lit_99, lit_100, lit_102, lit_103, lit_104, lit_110, lit_111, lit_115, lit_117, lit_194, lit_200, lit_644, lit_736, lit_999, lit_1000, lit_9999, lit_10000, lit_1000000000, ↓wp_mlet, ↓wp_mbp, ↓wp_ite, ↓wp_mix, ↓wp_mdiv, ↓wp_mnz, ↓wp_some, ↓wp_mbnd, ↓mlet_eq, ↓mbp_eq, ↓mbnd_eq, ↓mix_ite, ↓mdiv_ite, ↓mnz_ite, nI_add, nI_mul, nI_nat, nI_ltE, nI_leE, nI_eqE, nI_eqN, nI_Neq, nI_Nlt, nI_Nle, nI_ltN, nI_leN, ↓reduceIte, ↓Nat.reduceEqDiff, and_f, nt_e, nt_t, nl_t, nl_f, ne_t, ne_f, and_self, or_self, or_true, true_or, or_false, false_or, if_true, if_false, and_true, true_and, and_false, false_and, not_true, not_false_iff]
      · have a4 := v_alarmsOf hR hi q2
        have l5 := (bz _ q2).2
        have q3' : 0 < α (39 + α (58 + 3 * x)) := q3
        generalize α (39 + α (58 + 3 * x)) = w at a4 l5 q3'
        rw [q1]
        simp (disch := omega) only [lit_17, lit_18, lit_19, lit_21, lit_22, lit_25, lit_26, lit_28, lit_29, lit_38, lit_42, lit_46, lit_50, lit_54, lit_70, lit_74, lit_75, lit_76, lit_77, lit_78, lit_79, lit_40503, mcatp_l, mcatp_r, eq_self, lit_0, lit_1, lit_2, lit_3, lit_4, lit_5, lit_6, lit_7, lit_8, lit_9, lit_10, lit_11, lit_12, lit_13, lit_14, lit_15, lit_16, lit_20, lit_23, lit_24, lit_31, lit_32, lit_39, lit_43, lit_45, lit_47, lit_48, lit_56, lit_57, lit_59, lit_60, lit_62, lit_63, lit_89, lit_92, lit_96, lit_97, lit_99, lit_100, lit_102, lit_103, lit_104, lit_110, lit_111, lit_115, lit_117, lit_194, lit_200, lit_644, lit_736, lit_999, lit_1000, lit_9999, lit_10000, lit_1000000000, ↓wp_mlet, ↓wp_mbp, ↓wp_ite, ↓wp_mix, ↓wp_mdiv, ↓wp_mnz, ↓wp_some, ↓wp_mbnd, ↓mlet_eq, ↓mbp_eq, ↓mbnd_eq, ↓mix_ite, ↓mdiv_ite, ↓mnz_ite, nI_add, nI_mul, nI_nat, nI_ltE, nI_leE, nI_eqE, nI_eqN, nI_Neq, nI_Nlt, nI_Nle, nI_ltN, nI_leN, ↓reduceIte, ↓Nat.reduceEqDiff, and_f, nt_e, nt_t, nl_t, nl_f, ne_t, ne_f, and_self, or_self, or_true, true_or, or_false, false_or, if_true, if_false, and_true, true_and, and_false, false_and, not_true, not_false_iff, a4]
      · rw [q1]
        simp (disch := omega) only [lit_17, lit_18, lit_19, lit_21, lit_22, lit_25, lit_26, lit_28, lit_29, lit_38, lit_42, lit_46, lit_50, lit_54, lit_70, lit_74, lit_75, lit_76, lit_77, lit_78, lit_79, lit_40503, mcatp_l, mcatp_r, eq_self, lit_0, lit_1, lit_2, lit_3, lit_4, lit_5, lit_6, lit_7, lit_8, lit_9, lit_10, lit_11, lit_12, lit_13, lit_14, lit_15, lit_16, lit_20, lit_23, lit_24, lit_31, lit_32, lit_39, lit_43, lit_45, lit_47, lit_48, lit_56, lit_57, lit_59, lit_60, lit_62, lit_63, lit_89, lit_92, lit_96, lit_97, lit_99, lit_100, lit_102, lit_103, lit_104, lit_110, lit_111, lit_115, lit_117, lit_194, lit_200, lit_644, lit_736, lit_999, lit_1000, lit_9999, lit_10000, lit_1000000000, ↓wp_mlet, ↓wp_mbp, ↓wp_ite, ↓wp_mix, ↓wp_mdiv, ↓wp_mnz, ↓wp_some, ↓wp_mbnd, ↓mlet_eq, ↓mbp_eq, ↓mbnd_eq, ↓mix_ite, ↓mdiv_ite, ↓mnz_ite, nI_add, nI_mul, nI_nat, nI_ltE, nI_leE, nI_eqE, nI_eqN, nI_Neq, nI_Nlt, nI_Nle, nI_ltN, nI_leN, ↓reduceIte, ↓Nat.reduceEqDiff, and_f, nt_e, nt_t, nl_t, nl_f, ne_t, ne_f, and_self, or_self, or_true, true_or, or_false, false_or, if_true, if_false, and_true, true_and, and_false, false_and, not_true, not_false_iff]
      · rw [q1]
        simp (disch := omega) only [lit_17, lit_18, lit_19, lit_21, lit_22, lit_25, lit_26, lit_28, lit_29, lit_38, lit_42, lit_46, lit_50, lit_54, lit_70, lit_74, lit_75, lit_76, lit_77, lit_78, lit_79, lit_40503, mcatp_l, mcatp_r, eq_self, lit_0, lit_1, lit_2, lit_3, lit_4, lit_5, lit_6, lit_7, lit_8, lit_9, lit_10, lit_11, lit_12, lit_13, lit_14, lit_15, lit_16, lit_20, lit_23, lit_24, lit_31, lit_32, lit_39, lit_43, lit_45, lit_47, lit_48, lit_56, lit_57, lit_59, lit_60, lit_62, lit_63, lit_89, lit_92, lit_96, lit_97, lit_99, lit_100, lit_102, lit_103, lit_104, lit_110, lit_111, lit_115, lit_117, lit_194, lit_200, lit_644, lit_736, lit_999, lit_1000, lit_9999, lit_10000, lit_1000000000, ↓wp_mlet, ↓wp_mbp, ↓wp_ite, ↓wp_mix, ↓wp_mdiv, ↓wp_mnz, ↓wp_some, ↓wp_mbnd, ↓mlet_eq, ↓mbp_eq, ↓mbnd_eq, ↓mix_ite, ↓mdiv_ite, ↓mnz_ite, nI_add, nI_mul, nI_nat, nI_ltE, nI_leE, nI_eqE, nI_eqN, nI_Neq, nI_Nlt, nI_Nle, nI_ltN, nI_leN, ↓reduceIte, ↓Nat.reduceEqDiff, and_f, nt_e, nt_t, nl_t, nl_f, ne_t, ne_f, and_self, or_self, or_true, true_or, or_false, false_or, if_true, if_false, and_true, true_and, and_false, false_and, not_true, not_false_iff]
    rw [if_neg (by decide), a3, mbp_eq, g_hour hR, mbp_eq, if_neg (by rw [nI_ltE (by omega) (by omega)]; omega)]
    refine mlet_k (v := ()) (fun k => ?_) ?_
    · by_cases q : x = 0
      · rw [if_pos (by rw [q]; decide)]
      · have a5 := v_logHour hR hi (p := x - 1) (by omega)
        have l6 := (bl (x - 1) (by omega)).1
        rw [if_neg (by rw [nI_leE (by omega) (by decide)]; omega), nI_subE (by omega), a5, mbp_eq, mbp_eq, if_pos (by rw [nI_leE (by omega) (by omega)]; exact hO (by omega))]
    rw [mlet_eq, nI_add]) (fun m kk => by
    show f_L_isWhole_L39 M (nI (α 14)) (m + 1) (nI (α 14)) kk = _
    rw [f_L_isWhole_L39.eq_2]
    simp (disch := omega) only [lit_17, lit_18, lit_19, lit_21, lit_22, lit_25, lit_26, lit_28, lit_29, lit_38, lit_42, lit_46, lit_50, lit_54, lit_70, lit_74, lit_75, lit_76, lit_77, lit_78, lit_79, lit_40503, mcatp_l, mcatp_r, eq_self, lit_0, lit_1, lit_2, lit_3, lit_4, lit_5, lit_6, lit_7, lit_8, lit_9, lit_10, lit_11, lit_12, lit_13, lit_14, lit_15, lit_16, lit_20, lit_23, lit_24, lit_31, lit_32, lit_39, lit_43, lit_45, lit_47, lit_48, lit_56, lit_57, lit_59, lit_60, lit_62, lit_63, lit_89, lit_92, lit_96, lit_97, lit_99, lit_100, lit_102, lit_103, lit_104, lit_110, lit_111, lit_115, lit_117, lit_194, lit_200, lit_644, lit_736, lit_999, lit_1000, lit_9999, lit_10000, lit_1000000000, ↓wp_mlet, ↓wp_mbp, ↓wp_ite, ↓wp_mix, ↓wp_mdiv, ↓wp_mnz, ↓wp_some, ↓wp_mbnd, ↓mlet_eq, ↓mbp_eq, ↓mbnd_eq, ↓mix_ite, ↓mdiv_ite, ↓mnz_ite, nI_add, nI_mul, nI_nat, nI_ltE, nI_leE, nI_eqE, nI_eqN, nI_Neq, nI_Nlt, nI_Nle, nI_ltN, nI_leN, ↓reduceIte, ↓Nat.reduceEqDiff, and_f, nt_e, nt_t, nl_t, nl_f, ne_t, ne_f, and_self, or_self, or_true, true_or, or_false, false_or, if_true, if_false, and_true, true_and, and_false, false_and, not_true, not_false_iff]) (α 14) 13 0 kk (by omega) (by omega)
/-- whatever the law asks of a state, it finds -/
theorem v_isWhole (hR : RC (M 0) α) (hi : Inv H α) (h2 : In2 H α) (hd : DG α) (hH : H < 800000) {sec : Int32} (hs : α 1 = 1 → sec = nI (α 2)) {xl : Nat} {xs : Nat → Int32} {k : Int32} {x al : Nat} (hx : x < 97) (hp : f_L_pick xl xs (k + nI 1) (nI 97) M = some (nI x)) (hal : al < 2) : ∃ M1, f_L_isWhole xl xs k sec (nI al) M = some (nI 1, M1) ∧ Kp M M1 := by
  have hi' := hi
  obtain ⟨⟨b0, b1, b2, b3, b4, b5, b6, b7, b8, b9, b10, b11, b14⟩, i1, i2, -⟩ := hi'
  have a41 := g_isSealed hR hi
  have a42 := v_threshold hR hi
  have a47 := g_isOpen hR hi
  have a51 := g_openingCount hR
  have a53 := g_lockedHours hR
  have a58 := g_failedAttempts hR
  have a62 := g_presentedCount hR
  have a69 := g_alarmCount hR
  have a72 := v_logEnd hR hi
  have a74 := g_holderCount hR
  have a76 := g_guardCount hR
  obtain ⟨d0, d1, d2⟩ := id h2
  obtain ⟨M1, e1, k1⟩ := v_areKeys hR hi hd hx hs
  have hR1 := k1.R hR
  obtain ⟨M2, e2, k2⟩ := v_areZones hR1 hi hH
  have hR2 := k2.R hR1
  obtain ⟨M3, e3, k3⟩ := v_isConsistent hR2 hi hH
  refine ⟨if al = 0 then M1 else M3, ?_, ?_⟩
  · unfold f_L_isWhole
    simp only [lit_0, lit_1, lit_2, lit_3, lit_4, lit_5, lit_6, lit_7, lit_8, lit_9, lit_10, lit_11, lit_12, lit_13, lit_14, lit_15, lit_16, lit_20, lit_23, lit_24, lit_31, lit_32, lit_39, lit_43, lit_45, lit_47, lit_48, lit_56, lit_57, lit_59, lit_60, lit_62, lit_63, lit_89, lit_92, lit_96, lit_97, lit_99, lit_100, lit_102, lit_103, lit_104, lit_110, lit_111, lit_115, lit_117, lit_194, lit_200, lit_644, lit_736, lit_999, lit_1000, lit_9999, lit_10000, lit_1000000000, lit_75]
    rw [w_L6 hR hi, g_logCount hR, mbp_eq, w_L39 hR hi h2 hH, a41, mbp_eq, a42, mbp_eq]
    refine mlet_k (v := nI (α 1)) (fun k => ?_) ?_
    · rcases (show α 1 = 0 ∨ α 1 = 1 by omega) with q | q
      · rw [if_neg (show ¬ α 1 = 1 by omega), if_pos (by decide), q]
      · have := i2 q
        rw [if_pos q, if_neg (by rw [nI_leE (by omega) (by decide)]; omega), q]
    refine mlet_k (v := nI 1) (fun k => ?_) ?_
    · rcases (show α 6 = 0 ∨ α 6 = 1 by omega) with q | q
      · rcases (show α 1 = 0 ∨ α 1 = 1 by omega) with q1 | q1
        · have q9 := (i1 q1).2
          simp (disch := omega) only [lit_17, lit_18, lit_19, lit_21, lit_22, lit_25, lit_26, lit_28, lit_29, lit_38, lit_42, lit_46, lit_50, lit_54, lit_70, lit_74, lit_75, lit_76, lit_77, lit_78, lit_79, lit_40503, mcatp_l, mcatp_r, eq_self, lit_0, lit_1, lit_2, lit_3, lit_4, lit_5, lit_6, lit_7, lit_8, lit_9, lit_10, lit_11, lit_12, lit_13, lit_14, lit_15, lit_16, lit_20, lit_23, lit_24, lit_31, lit_32, lit_39, lit_43, lit_45, lit_47, lit_48, lit_56, lit_57, lit_59, lit_60, lit_62, lit_63, lit_89, lit_92, lit_96, lit_97, lit_99, lit_100, lit_102, lit_103, lit_104, lit_110, lit_111, lit_115, lit_117, lit_194, lit_200, lit_644, lit_736, lit_999, lit_1000, lit_9999, lit_10000, lit_1000000000, ↓wp_mlet, ↓wp_mbp, ↓wp_ite, ↓wp_mix, ↓wp_mdiv, ↓wp_mnz, ↓wp_some, ↓wp_mbnd, ↓mlet_eq, ↓mbp_eq, ↓mbnd_eq, ↓mix_ite, ↓mdiv_ite, ↓mnz_ite, nI_add, nI_mul, nI_nat, nI_ltE, nI_leE, nI_eqE, nI_eqN, nI_Neq, nI_Nlt, nI_Nle, nI_ltN, nI_leN, ↓reduceIte, ↓Nat.reduceEqDiff, and_f, nt_e, nt_t, nl_t, nl_f, ne_t, ne_f, and_self, or_self, or_true, true_or, or_false, false_or, if_true, if_false, and_true, true_and, and_false, false_and, not_true, not_false_iff, a47, a53, a58, a41, a62, q, q1, q9]
        · simp (disch := omega) only [lit_17, lit_18, lit_19, lit_21, lit_22, lit_25, lit_26, lit_28, lit_29, lit_38, lit_42, lit_46, lit_50, lit_54, lit_70, lit_74, lit_75, lit_76, lit_77, lit_78, lit_79, lit_40503, mcatp_l, mcatp_r, eq_self, lit_0, lit_1, lit_2, lit_3, lit_4, lit_5, lit_6, lit_7, lit_8, lit_9, lit_10, lit_11, lit_12, lit_13, lit_14, lit_15, lit_16, lit_20, lit_23, lit_24, lit_31, lit_32, lit_39, lit_43, lit_45, lit_47, lit_48, lit_56, lit_57, lit_59, lit_60, lit_62, lit_63, lit_89, lit_92, lit_96, lit_97, lit_99, lit_100, lit_102, lit_103, lit_104, lit_110, lit_111, lit_115, lit_117, lit_194, lit_200, lit_644, lit_736, lit_999, lit_1000, lit_9999, lit_10000, lit_1000000000, ↓wp_mlet, ↓wp_mbp, ↓wp_ite, ↓wp_mix, ↓wp_mdiv, ↓wp_mnz, ↓wp_some, ↓wp_mbnd, ↓mlet_eq, ↓mbp_eq, ↓mbnd_eq, ↓mix_ite, ↓mdiv_ite, ↓mnz_ite, nI_add, nI_mul, nI_nat, nI_ltE, nI_leE, nI_eqE, nI_eqN, nI_Neq, nI_Nlt, nI_Nle, nI_ltN, nI_leN, ↓reduceIte, ↓Nat.reduceEqDiff, and_f, nt_e, nt_t, nl_t, nl_f, ne_t, ne_f, and_self, or_self, or_true, true_or, or_false, false_or, if_true, if_false, and_true, true_and, and_false, false_and, not_true, not_false_iff, a47, a53, a58, a41, a62, q, q1]
      · obtain ⟨q1, q2, q3⟩ := d1 q
        simp (disch := omega) only [lit_17, lit_18, lit_19, lit_21, lit_22, lit_25, lit_26, lit_28, lit_29, lit_38, lit_42, lit_46, lit_50, lit_54, lit_70, lit_74, lit_75, lit_76, lit_77, lit_78, lit_79, lit_40503, mcatp_l, mcatp_r, eq_self, lit_0, lit_1, lit_2, lit_3, lit_4, lit_5, lit_6, lit_7, lit_8, lit_9, lit_10, lit_11, lit_12, lit_13, lit_14, lit_15, lit_16, lit_20, lit_23, lit_24, lit_31, lit_32, lit_39, lit_43, lit_45, lit_47, lit_48, lit_56, lit_57, lit_59, lit_60, lit_62, lit_63, lit_89, lit_92, lit_96, lit_97, lit_99, lit_100, lit_102, lit_103, lit_104, lit_110, lit_111, lit_115, lit_117, lit_194, lit_200, lit_644, lit_736, lit_999, lit_1000, lit_9999, lit_10000, lit_1000000000, ↓wp_mlet, ↓wp_mbp, ↓wp_ite, ↓wp_mix, ↓wp_mdiv, ↓wp_mnz, ↓wp_some, ↓wp_mbnd, ↓mlet_eq, ↓mbp_eq, ↓mbnd_eq, ↓mix_ite, ↓mdiv_ite, ↓mnz_ite, nI_add, nI_mul, nI_nat, nI_ltE, nI_leE, nI_eqE, nI_eqN, nI_Neq, nI_Nlt, nI_Nle, nI_ltN, nI_leN, ↓reduceIte, ↓Nat.reduceEqDiff, and_f, nt_e, nt_t, nl_t, nl_f, ne_t, ne_f, and_self, or_self, or_true, true_or, or_false, false_or, if_true, if_false, and_true, true_and, and_false, false_and, not_true, not_false_iff, a47, a53, a58, a41, a62, a51, q, q1, q3]
    rw [if_neg (by decide), a69, mbp_eq, if_pos rfl, if_neg (by rw [nI_ltE (by decide) (by omega)]; omega), a72, mbp_eq, if_pos rfl, a74, mbp_eq, if_neg (by rw [nI_ltE (by decide) (by omega)]; omega), a76, mbp_eq, if_neg (by rw [nI_ltE (by decide) (by omega)]; omega), hp, mbp_eq, e1, mbnd_eq, if_neg (by decide)]
    rcases (show al = 0 ∨ al = 1 by omega) with rfl | rfl
    · rw [mlet_eq, if_pos rfl, if_pos rfl]
    · rw [mlet_eq, if_neg (by decide), e2, mbnd_eq, if_neg (by decide), e3, mbnd_eq, if_neg (by decide), if_neg (by decide)]
  · split
    · exact k1
    · exact k1.trans (k2.trans k3)
end WHOLE
