def PairS (n : Nat) (M : Mem) (fc fm : Mem → Option (Int32 × Mem)) : Prop := wp (fc M) (fun v M1 => wp (fm M1) (fun r M2 => Rel (n + 1) M2 ∧ v = r))
theorem pair_save {n : Nat} {M : Mem} (hr : Rel n M) : PairS n M f_X11_save f_X12_save := by
  obtain ⟨α, αh, αs, K, nx, fed, b, H, hR, hS, hH, hs, ⟨hr1, hr2, hr3, hr4⟩, hi, hih, his, hbb⟩ := hr
  obtain ⟨s1, s2, s3, s4⟩ := hs
  unfold PairS f_X11_save f_X12_save
  generalize hN : (1000 : Nat) = N
  simp (disch := omega) only [lit_0, lit_1, lit_2, lit_3, lit_4, lit_5, lit_6, lit_7, lit_8, lit_9, lit_10, lit_11, lit_12, lit_13, lit_14, lit_15, lit_16, lit_20, lit_23, lit_24, lit_31, lit_32, lit_39, lit_43, lit_45, lit_47, lit_48, lit_56, lit_57, lit_59, lit_60, lit_62, lit_63, lit_89, lit_92, lit_96, lit_97, lit_99, lit_100, lit_102, lit_103, lit_104, lit_110, lit_111, lit_115, lit_117, lit_194, lit_200, lit_644, lit_736, lit_999, lit_1000, lit_9999, lit_10000, lit_1000000000, ↓wp_mlet, ↓wp_mbp, ↓wp_ite, ↓wp_mix, ↓wp_mdiv, ↓wp_mnz, ↓wp_some, ↓wp_mbnd, ↓mlet_eq, ↓mbp_eq, ↓mbnd_eq, ↓mix_ite, ↓mdiv_ite, ↓mnz_ite, nI_add, nI_mul, nI_nat, nI_ltE, nI_leE, nI_eqE, nI_eqN, nI_Neq, nI_Nlt, nI_Nle, nI_ltN, nI_leN, ↓reduceIte, ↓Nat.reduceEqDiff, and_f, nt_e, nt_t, nl_t, nl_f, ne_t, ne_f, and_self, or_self, or_true, true_or, or_false, false_or, if_true, if_false, and_true, true_and, and_false, false_and, not_true, not_false_iff]
  refine wp_mono (c_copy (g := 10) (g1 := 0) (by decide) hR hi.1.2.1 hi.1.2.2.2.2.2.2.1) ?_
  rintro - M1 ⟨q1, q2, q3⟩
  have e0 : M1 0 1 0 = nI (α 0) := by rw [q3 0 (by decide)]; exact hR.1.1
  have b0 := hi.1.1
  simp (disch := omega) only [lit_0, lit_1, lit_2, lit_3, lit_4, lit_5, lit_6, lit_7, lit_8, lit_9, lit_10, lit_11, lit_12, lit_13, lit_14, lit_15, lit_16, lit_20, lit_23, lit_24, lit_31, lit_32, lit_39, lit_43, lit_45, lit_47, lit_48, lit_56, lit_57, lit_59, lit_60, lit_62, lit_63, lit_89, lit_92, lit_96, lit_97, lit_99, lit_100, lit_102, lit_103, lit_104, lit_110, lit_111, lit_115, lit_117, lit_194, lit_200, lit_644, lit_736, lit_999, lit_1000, lit_9999, lit_10000, lit_1000000000, ↓wp_mlet, ↓wp_mbp, ↓wp_ite, ↓wp_mix, ↓wp_mdiv, ↓wp_mnz, ↓wp_some, ↓wp_mbnd, ↓mlet_eq, ↓mbp_eq, ↓mbnd_eq, ↓mix_ite, ↓mdiv_ite, ↓mnz_ite, nI_add, nI_mul, nI_nat, nI_ltE, nI_leE, nI_eqE, nI_eqN, nI_Neq, nI_Nlt, nI_Nle, nI_ltN, nI_leN, ↓reduceIte, ↓Nat.reduceEqDiff, and_f, nt_e, nt_t, nl_t, nl_f, ne_t, ne_f, and_self, or_self, or_true, true_or, or_false, false_or, if_true, if_false, and_true, true_and, and_false, false_and, not_true, not_false_iff, mup_at, up_at, fil_at, ↓reduceIte, ↓Nat.reduceEqDiff, and_f, nt_e, nt_t, nl_t, nl_f, ne_t, ne_f, and_self, or_self, or_true, true_or, or_false, false_or, if_true, if_false, and_true, true_and, and_false, false_and, not_true, not_false_iff, e0]
  rw [m_saveL hN]
  have f48 : (mup (mup M1 12 16 3 (nI 1)) 12 47 0 (nI 0)) 12 48 = enc α := by
    rw [pm_ne (by decide), pm_ne (by decide), q3 12 (by decide), hS]
  rw [f48]
  have go : ∀ a b, a ≠ 10 → ¬ (a = 12 ∧ (b = 16 ∨ b = 47 ∨ b = 50)) → (mup (fil (mup (mup M1 12 16 3 (nI 1)) 12 47 0 (nI 0)) 12 50 0 92 (enc α)) 12 47 7 (nI 1)) a b = M a b := fun a b h1 h2 => by
    rw [pm_ne (by omega), fil_ne (by omega), pm_ne (by omega), pm_ne (by omega), q3 a h1]
  have g16 : ∀ i, i ≠ 3 → (mup (fil (mup (mup M1 12 16 3 (nI 1)) 12 47 0 (nI 0)) 12 50 0 92 (enc α)) 12 47 7 (nI 1)) 12 16 i = M 12 16 i := fun i h => by
    rw [pm_ne (by decide), fil_ne (by decide), pm_ne (by decide), mup_at, if_neg (by omega), q3 12 (by decide)]
  have g47 : ∀ i, i ≠ 0 → i ≠ 7 → (mup (fil (mup (mup M1 12 16 3 (nI 1)) 12 47 0 (nI 0)) 12 50 0 92 (enc α)) 12 47 7 (nI 1)) 12 47 i = M 12 47 i := fun i h1 h2 => by
    rw [mup_at, if_neg (by omega), fil_ne (by decide), mup_at, if_neg (by omega), pm_ne (by decide), q3 12 (by decide)]
  have e48 : (mup (fil (mup (mup M1 12 16 3 (nI 1)) 12 47 0 (nI 0)) 12 50 0 92 (enc α)) 12 47 7 (nI 1)) 12 48 = enc α := by rw [go 12 48 (by decide) (by decide), hS]
  simp (disch := omega) only [lit_0, lit_1, lit_2, lit_3, lit_4, lit_5, lit_6, lit_7, lit_8, lit_9, lit_10, lit_11, lit_12, lit_13, lit_14, lit_15, lit_16, lit_20, lit_23, lit_24, lit_31, lit_32, lit_39, lit_43, lit_45, lit_47, lit_48, lit_56, lit_57, lit_59, lit_60, lit_62, lit_63, lit_89, lit_92, lit_96, lit_97, lit_99, lit_100, lit_102, lit_103, lit_104, lit_110, lit_111, lit_115, lit_117, lit_194, lit_200, lit_644, lit_736, lit_999, lit_1000, lit_9999, lit_10000, lit_1000000000, ↓wp_mlet, ↓wp_mbp, ↓wp_ite, ↓wp_mix, ↓wp_mdiv, ↓wp_mnz, ↓wp_some, ↓wp_mbnd, ↓mlet_eq, ↓mbp_eq, ↓mbnd_eq, ↓mix_ite, ↓mdiv_ite, ↓mnz_ite, nI_add, nI_mul, nI_nat, nI_ltE, nI_leE, nI_eqE, nI_eqN, nI_Neq, nI_Nlt, nI_Nle, nI_ltN, nI_leN, ↓reduceIte, ↓Nat.reduceEqDiff, and_f, nt_e, nt_t, nl_t, nl_f, ne_t, ne_f, and_self, or_self, or_true, true_or, or_false, false_or, if_true, if_false, and_true, true_and, and_false, false_and, not_true, not_false_iff, ms_n e48]
  refine ⟨⟨α, αh, α, K, nx, fed, 1, H, ?_, e48, ?_, ?_, ⟨?_, ?_, ?_, ?_⟩, hi, hih, fun _ => hi, by omega⟩, by rw [fil_ne (by decide), f48, enc_n (by decide)]⟩
  · rw [show (mup (fil (mup (mup M1 12 16 3 (nI 1)) 12 47 0 (nI 0)) 12 50 0 92 (enc α)) 12 47 7 (nI 1)) 0 = M 0 from funext fun b => go 0 b (by decide) (by omega)]; exact hR
  · exact Hs_same hH (go 12 17 (by decide) (by decide)) (g47 6 (by decide) (by decide)) (go 12 51 (by decide) (by decide)) (fun a _ _ _ => funext fun b => go a b (by omega) (by omega))
  · refine ⟨by decide, ?_, ?_, fun _ => ⟨?_, fun j hj => ?_⟩⟩
    · rw [pm_ne (by decide), fil_ne (by decide), pm_ne (by decide), mup_at, if_pos (by decide)]
    · rw [mup_at, if_pos (by decide)]
    · rw [pm_g (by decide), fil_g (by decide), pm_g (by decide), pm_g (by decide)]; exact q1
    · rw [pm_ne (by decide), fil_at, if_pos (by omega)]
  · exact Rr_same hr1 (fun i _ _ => g16 i (by omega)) (fun i _ _ => g47 i (by omega) (by omega))
  · exact Re_same hr2 (g16 11 (by decide)) (g47 14 (by decide) (by decide))
  · exact Ri_same hr3 (by rw [go 12 26 (by decide) (by decide)]) (g47 12 (by decide) (by decide)) (go 12 27 (by decide) (by decide)) (go 12 53 (by decide) (by decide))
  · exact Ro_same hr4 (go 12 45 (by decide) (by decide)) (g47 13 (by decide) (by decide)) (go 12 46 (by decide) (by decide)) (go 12 55 (by decide) (by decide))
theorem pair_restore {n : Nat} {M : Mem} (hr : Rel n M) : Pair n (fun x => if x = 5 then 1 else 0) M f_X11_restore f_X12_restore := by
  have hr' := Rel_thr hr
  obtain ⟨α, αh, αs, K, nx, fed, b, H, hR, hS, hH, ⟨s1, s2, s3, s4⟩, ⟨hr1, hr2, hr3, hr4⟩, hi, hih, his, hbb⟩ := hr
  unfold Pair f_X11_restore f_X12_restore f_X12_fails
  generalize hN : (1000 : Nat) = N
  by_cases hb0 : b = 0
  · simp (disch := omega) only [lit_0, lit_1, lit_2, lit_3, lit_4, lit_5, lit_6, lit_7, lit_8, lit_9, lit_10, lit_11, lit_12, lit_13, lit_14, lit_15, lit_16, lit_20, lit_23, lit_24, lit_31, lit_32, lit_39, lit_43, lit_45, lit_47, lit_48, lit_56, lit_57, lit_59, lit_60, lit_62, lit_63, lit_89, lit_92, lit_96, lit_97, lit_99, lit_100, lit_102, lit_103, lit_104, lit_110, lit_111, lit_115, lit_117, lit_194, lit_200, lit_644, lit_736, lit_999, lit_1000, lit_9999, lit_10000, lit_1000000000, ↓wp_mlet, ↓wp_mbp, ↓wp_ite, ↓wp_mix, ↓wp_mdiv, ↓wp_mnz, ↓wp_some, ↓wp_mbnd, ↓mlet_eq, ↓mbp_eq, ↓mbnd_eq, ↓mix_ite, ↓mdiv_ite, ↓mnz_ite, nI_add, nI_mul, nI_nat, nI_ltE, nI_leE, nI_eqE, nI_eqN, nI_Neq, nI_Nlt, nI_Nle, nI_ltN, nI_leN, ↓reduceIte, ↓Nat.reduceEqDiff, and_f, nt_e, nt_t, nl_t, nl_f, ne_t, ne_f, and_self, or_self, or_true, true_or, or_false, false_or, if_true, if_false, and_true, true_and, and_false, false_and, not_true, not_false_iff, mup_at, up_at, fil_at, ↓reduceIte, ↓Nat.reduceEqDiff, and_f, nt_e, nt_t, nl_t, nl_f, ne_t, ne_f, and_self, or_self, or_true, true_or, or_false, false_or, if_true, if_false, and_true, true_and, and_false, false_and, not_true, not_false_iff, s2, s3, hb0]
    refine ⟨?_, rfl, by decide, by decide⟩
    rw [thr2]
    exact hr' _
  · have hb1 : b = 1 := by omega
    subst hb1
    obtain ⟨sR, sE⟩ := s4 rfl
    have sI := his rfl
    simp (disch := omega) only [lit_0, lit_1, lit_2, lit_3, lit_4, lit_5, lit_6, lit_7, lit_8, lit_9, lit_10, lit_11, lit_12, lit_13, lit_14, lit_15, lit_16, lit_20, lit_23, lit_24, lit_31, lit_32, lit_39, lit_43, lit_45, lit_47, lit_48, lit_56, lit_57, lit_59, lit_60, lit_62, lit_63, lit_89, lit_92, lit_96, lit_97, lit_99, lit_100, lit_102, lit_103, lit_104, lit_110, lit_111, lit_115, lit_117, lit_194, lit_200, lit_644, lit_736, lit_999, lit_1000, lit_9999, lit_10000, lit_1000000000, ↓wp_mlet, ↓wp_mbp, ↓wp_ite, ↓wp_mix, ↓wp_mdiv, ↓wp_mnz, ↓wp_some, ↓wp_mbnd, ↓mlet_eq, ↓mbp_eq, ↓mbnd_eq, ↓mix_ite, ↓mdiv_ite, ↓mnz_ite, nI_add, nI_mul, nI_nat, nI_ltE, nI_leE, nI_eqE, nI_eqN, nI_Neq, nI_Nlt, nI_Nle, nI_ltN, nI_leN, ↓reduceIte, ↓Nat.reduceEqDiff, and_f, nt_e, nt_t, nl_t, nl_f, ne_t, ne_f, and_self, or_self, or_true, true_or, or_false, false_or, if_true, if_false, and_true, true_and, and_false, false_and, not_true, not_false_iff, s2]
    refine wp_mono (c_copy (g := 0) (g1 := 10) (by decide) sR sI.1.2.1 sI.1.2.2.2.2.2.2.1) ?_
    rintro - M1 ⟨q1, q2, q3⟩
    have e0 : M1 0 1 0 = nI (αs 0) := q1.1.1
    have b0 := sI.1.1
    have e7 : M1 12 47 7 = nI 1 := by rw [q3 12 (by decide), s3]
    simp (disch := omega) only [lit_0, lit_1, lit_2, lit_3, lit_4, lit_5, lit_6, lit_7, lit_8, lit_9, lit_10, lit_11, lit_12, lit_13, lit_14, lit_15, lit_16, lit_20, lit_23, lit_24, lit_31, lit_32, lit_39, lit_43, lit_45, lit_47, lit_48, lit_56, lit_57, lit_59, lit_60, lit_62, lit_63, lit_89, lit_92, lit_96, lit_97, lit_99, lit_100, lit_102, lit_103, lit_104, lit_110, lit_111, lit_115, lit_117, lit_194, lit_200, lit_644, lit_736, lit_999, lit_1000, lit_9999, lit_10000, lit_1000000000, ↓wp_mlet, ↓wp_mbp, ↓wp_ite, ↓wp_mix, ↓wp_mdiv, ↓wp_mnz, ↓wp_some, ↓wp_mbnd, ↓mlet_eq, ↓mbp_eq, ↓mbnd_eq, ↓mix_ite, ↓mdiv_ite, ↓mnz_ite, nI_add, nI_mul, nI_nat, nI_ltE, nI_leE, nI_eqE, nI_eqN, nI_Neq, nI_Nlt, nI_Nle, nI_ltN, nI_leN, ↓reduceIte, ↓Nat.reduceEqDiff, and_f, nt_e, nt_t, nl_t, nl_f, ne_t, ne_f, and_self, or_self, or_true, true_or, or_false, false_or, if_true, if_false, and_true, true_and, and_false, false_and, not_true, not_false_iff, mup_at, up_at, fil_at, ↓reduceIte, ↓Nat.reduceEqDiff, and_f, nt_e, nt_t, nl_t, nl_f, ne_t, ne_f, and_self, or_self, or_true, true_or, or_false, false_or, if_true, if_false, and_true, true_and, and_false, false_and, not_true, not_false_iff, f_X4_clear, e0, e7]
    rw [m_restoreL hN]
    have f50 : (mup (mup M1 12 17 2 (nI 0)) 12 47 0 (nI 0)) 12 50 = M 12 50 := by
      rw [pm_ne (by decide), pm_ne (by decide), q3 12 (by decide)]
    have f48 : (mup (mup M1 12 17 2 (nI 0)) 12 47 0 (nI 0)) 12 48 = enc α := by
      rw [pm_ne (by decide), pm_ne (by decide), q3 12 (by decide), hS]
    rw [f50]
    have hE := enc_cut (lo := 0) f48 sE
    have go : ∀ a b, a ≠ 0 → ¬ (a = 12 ∧ (b = 17 ∨ b = 47 ∨ b = 48)) → (mup (fil (mup (mup M1 12 17 2 (nI 0)) 12 47 0 (nI 0)) 12 48 0 92 (M 12 50)) 12 47 6 (nI 0)) a b = M a b := fun a b h1 h2 => by
      rw [pm_ne (by omega), fil_ne (by omega), pm_ne (by omega), pm_ne (by omega), q3 a h1]
    have g47 : ∀ i, i ≠ 0 → i ≠ 6 → (mup (fil (mup (mup M1 12 17 2 (nI 0)) 12 47 0 (nI 0)) 12 48 0 92 (M 12 50)) 12 47 6 (nI 0)) 12 47 i = M 12 47 i := fun i h1 h2 => by
      rw [mup_at, if_neg (by omega), fil_ne (by decide), mup_at, if_neg (by omega), pm_ne (by decide), q3 12 (by decide)]
    have e48 : (mup (fil (mup (mup M1 12 17 2 (nI 0)) 12 47 0 (nI 0)) 12 48 0 92 (M 12 50)) 12 47 6 (nI 0)) 12 48 = enc (cutSp αs α) := by rw [pm_ne (by decide), hE]
    have g17 : ∀ i, i ≠ 2 → (mup (fil (mup (mup M1 12 17 2 (nI 0)) 12 47 0 (nI 0)) 12 48 0 92 (M 12 50)) 12 47 6 (nI 0)) 12 17 i = M 12 17 i := fun i h => by
      rw [pm_ne (by decide), fil_ne (by decide), pm_ne (by decide), mup_at, if_neg (by omega), q3 12 (by decide)]
    have c0 : cutSp αs α 0 = αs 0 := cutSp_lt (by decide)
    simp (disch := omega) only [lit_0, lit_1, lit_2, lit_3, lit_4, lit_5, lit_6, lit_7, lit_8, lit_9, lit_10, lit_11, lit_12, lit_13, lit_14, lit_15, lit_16, lit_20, lit_23, lit_24, lit_31, lit_32, lit_39, lit_43, lit_45, lit_47, lit_48, lit_56, lit_57, lit_59, lit_60, lit_62, lit_63, lit_89, lit_92, lit_96, lit_97, lit_99, lit_100, lit_102, lit_103, lit_104, lit_110, lit_111, lit_115, lit_117, lit_194, lit_200, lit_644, lit_736, lit_999, lit_1000, lit_9999, lit_10000, lit_1000000000, ↓wp_mlet, ↓wp_mbp, ↓wp_ite, ↓wp_mix, ↓wp_mdiv, ↓wp_mnz, ↓wp_some, ↓wp_mbnd, ↓mlet_eq, ↓mbp_eq, ↓mbnd_eq, ↓mix_ite, ↓mdiv_ite, ↓mnz_ite, nI_add, nI_mul, nI_nat, nI_ltE, nI_leE, nI_eqE, nI_eqN, nI_Neq, nI_Nlt, nI_Nle, nI_ltN, nI_leN, ↓reduceIte, ↓Nat.reduceEqDiff, and_f, nt_e, nt_t, nl_t, nl_f, ne_t, ne_f, and_self, or_self, or_true, true_or, or_false, false_or, if_true, if_false, and_true, true_and, and_false, false_and, not_true, not_false_iff, ms_n e48, c0]
    obtain ⟨x1, x2, x3, x4, x5, x6, x7⟩ := hH
    refine ⟨⟨cutSp αs α, αh, αs, 0, nx, fed, 1, H, ?_, e48, ?_, ?_, ⟨?_, ?_, ?_, ?_⟩, Inv_cg sI, fun k hk => absurd hk (Nat.not_lt_zero _), his, by omega⟩, ?_, by show nI (αs 0) = _; rw [hE, enc_n (by decide), c0]⟩
    · rw [show (mup (fil (mup (mup M1 12 17 2 (nI 0)) 12 47 0 (nI 0)) 12 48 0 92 (M 12 50)) 12 47 6 (nI 0)) 0 = M1 0 from by rw [pm_g (by decide), fil_g (by decide), pm_g (by decide), pm_g (by decide)]]
      exact RC_cg q1
    · refine ⟨x1, by decide, by rw [g17 1 (by decide), x3], ?_, ?_, fun k hk => absurd hk (Nat.not_lt_zero _), fun k hk => absurd hk (Nat.not_lt_zero _)⟩
      · rw [pm_ne (by decide), fil_ne (by decide), pm_ne (by decide), mup_at, if_pos (by decide)]
      · rw [mup_at, if_pos (by decide)]
    · refine ⟨by decide, by rw [go 12 16 (by decide) (by decide), s2], by rw [g47 7 (by decide) (by decide), s3], fun _ => ⟨?_, fun j hj => ?_⟩⟩
      · rw [show (mup (fil (mup (mup M1 12 17 2 (nI 0)) 12 47 0 (nI 0)) 12 48 0 92 (M 12 50)) 12 47 6 (nI 0)) 10 = M 10 from funext fun b => go 10 b (by decide) (by omega)]; exact sR
      · rw [go 12 50 (by decide) (by decide)]; exact sE j hj
    · exact Rr_same hr1 (fun i _ _ => by rw [go 12 16 (by decide) (by decide)]) (fun i _ _ => g47 i (by omega) (by omega))
    · exact Re_same hr2 (by rw [go 12 16 (by decide) (by decide)]) (g47 14 (by decide) (by decide))
    · exact Ri_same hr3 (by rw [go 12 26 (by decide) (by decide)]) (g47 12 (by decide) (by decide)) (go 12 27 (by decide) (by decide)) (go 12 53 (by decide) (by decide))
    · exact Ro_same hr4 (go 12 45 (by decide) (by decide)) (g47 13 (by decide) (by decide)) (go 12 46 (by decide) (by decide)) (go 12 55 (by decide) (by decide))
    · rw [mup_at, if_neg (by decide), fil_ne (by decide), mup_at, if_pos (by decide)]
