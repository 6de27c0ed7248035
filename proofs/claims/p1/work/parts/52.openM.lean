theorem m_tries {M : Mem} {α : Sp} {H : Nat} (hS : M 12 48 = enc α) (hi : Inv H α) : MT M 1 (sOpen α) (f_X12_tries M) := by
  have hi' := hi
  obtain ⟨⟨b0, b1, b2, b3, b4, b5, b6, b7, b8, b9, b10, b11, b14⟩, i1, i2, bs, bk, bn, bz, bt, bg, bl⟩ := hi'
  have hz := m_inZ0 (z := 0) hS b10 (by decide) (fun k hk => by have := (bg k hk).1; omega)
  unfold sOpen f_X12_tries
  by_cases q1 : α 1 = 0
  · simp (disch := omega) only [lit_0, lit_1, lit_2, lit_3, lit_4, lit_5, lit_6, lit_7, lit_8, lit_9, lit_10, lit_11, lit_12, lit_13, lit_14, lit_15, lit_16, lit_20, lit_23, lit_24, lit_31, lit_32, lit_39, lit_43, lit_45, lit_47, lit_48, lit_56, lit_57, lit_59, lit_60, lit_62, lit_63, lit_89, lit_92, lit_96, lit_97, lit_99, lit_100, lit_102, lit_103, lit_104, lit_110, lit_111, lit_115, lit_117, lit_194, lit_200, lit_644, lit_736, lit_999, lit_1000, lit_9999, lit_10000, lit_1000000000, ↓wp_mlet, ↓wp_mbp, ↓wp_ite, ↓wp_mix, ↓wp_mdiv, ↓wp_mnz, ↓wp_some, ↓wp_mbnd, ↓mlet_eq, ↓mbp_eq, ↓mbnd_eq, ↓mix_ite, ↓mdiv_ite, ↓mnz_ite, nI_add, nI_mul, nI_nat, nI_ltE, nI_leE, nI_eqE, nI_eqN, nI_Neq, nI_Nlt, nI_Nle, nI_ltN, nI_leN, ↓reduceIte, ↓Nat.reduceEqDiff, and_f, nt_e, nt_t, nl_t, nl_f, ne_t, ne_f, and_self, or_self, or_true, true_or, or_false, false_or, if_true, if_false, and_true, true_and, and_false, false_and, not_true, not_false_iff, ms_n hS, q1]
    exact MT_refused (by decide)
  by_cases q2 : α 6 = 1
  · simp (disch := omega) only [lit_0, lit_1, lit_2, lit_3, lit_4, lit_5, lit_6, lit_7, lit_8, lit_9, lit_10, lit_11, lit_12, lit_13, lit_14, lit_15, lit_16, lit_20, lit_23, lit_24, lit_31, lit_32, lit_39, lit_43, lit_45, lit_47, lit_48, lit_56, lit_57, lit_59, lit_60, lit_62, lit_63, lit_89, lit_92, lit_96, lit_97, lit_99, lit_100, lit_102, lit_103, lit_104, lit_110, lit_111, lit_115, lit_117, lit_194, lit_200, lit_644, lit_736, lit_999, lit_1000, lit_9999, lit_10000, lit_1000000000, ↓wp_mlet, ↓wp_mbp, ↓wp_ite, ↓wp_mix, ↓wp_mdiv, ↓wp_mnz, ↓wp_some, ↓wp_mbnd, ↓mlet_eq, ↓mbp_eq, ↓mbnd_eq, ↓mix_ite, ↓mdiv_ite, ↓mnz_ite, nI_add, nI_mul, nI_nat, nI_ltE, nI_leE, nI_eqE, nI_eqN, nI_Neq, nI_Nlt, nI_Nle, nI_ltN, nI_leN, ↓reduceIte, ↓Nat.reduceEqDiff, and_f, nt_e, nt_t, nl_t, nl_f, ne_t, ne_f, and_self, or_self, or_true, true_or, or_false, false_or, if_true, if_false, and_true, true_and, and_false, false_and, not_true, not_false_iff, ms_n hS, q2]
    exact MT_refused (by decide)
  by_cases q3 : 0 < α 7
  · simp (disch := omega) only [lit_0, lit_1, lit_2, lit_3, lit_4, lit_5, lit_6, lit_7, lit_8, lit_9, lit_10, lit_11, lit_12, lit_13, lit_14, lit_15, lit_16, lit_20, lit_23, lit_24, lit_31, lit_32, lit_39, lit_43, lit_45, lit_47, lit_48, lit_56, lit_57, lit_59, lit_60, lit_62, lit_63, lit_89, lit_92, lit_96, lit_97, lit_99, lit_100, lit_102, lit_103, lit_104, lit_110, lit_111, lit_115, lit_117, lit_194, lit_200, lit_644, lit_736, lit_999, lit_1000, lit_9999, lit_10000, lit_1000000000, ↓wp_mlet, ↓wp_mbp, ↓wp_ite, ↓wp_mix, ↓wp_mdiv, ↓wp_mnz, ↓wp_some, ↓wp_mbnd, ↓mlet_eq, ↓mbp_eq, ↓mbnd_eq, ↓mix_ite, ↓mdiv_ite, ↓mnz_ite, nI_add, nI_mul, nI_nat, nI_ltE, nI_leE, nI_eqE, nI_eqN, nI_Neq, nI_Nlt, nI_Nle, nI_ltN, nI_leN, ↓reduceIte, ↓Nat.reduceEqDiff, and_f, nt_e, nt_t, nl_t, nl_f, ne_t, ne_f, and_self, or_self, or_true, true_or, or_false, false_or, if_true, if_false, and_true, true_and, and_false, false_and, not_true, not_false_iff, ms_n hS]
    exact MT_refused (by decide)
  by_cases q4 : α 9 < α 5
  · simp (disch := omega) only [lit_0, lit_1, lit_2, lit_3, lit_4, lit_5, lit_6, lit_7, lit_8, lit_9, lit_10, lit_11, lit_12, lit_13, lit_14, lit_15, lit_16, lit_20, lit_23, lit_24, lit_31, lit_32, lit_39, lit_43, lit_45, lit_47, lit_48, lit_56, lit_57, lit_59, lit_60, lit_62, lit_63, lit_89, lit_92, lit_96, lit_97, lit_99, lit_100, lit_102, lit_103, lit_104, lit_110, lit_111, lit_115, lit_117, lit_194, lit_200, lit_644, lit_736, lit_999, lit_1000, lit_9999, lit_10000, lit_1000000000, ↓wp_mlet, ↓wp_mbp, ↓wp_ite, ↓wp_mix, ↓wp_mdiv, ↓wp_mnz, ↓wp_some, ↓wp_mbnd, ↓mlet_eq, ↓mbp_eq, ↓mbnd_eq, ↓mix_ite, ↓mdiv_ite, ↓mnz_ite, nI_add, nI_mul, nI_nat, nI_ltE, nI_leE, nI_eqE, nI_eqN, nI_Neq, nI_Nlt, nI_Nle, nI_ltN, nI_leN, ↓reduceIte, ↓Nat.reduceEqDiff, and_f, nt_e, nt_t, nl_t, nl_f, ne_t, ne_f, and_self, or_self, or_true, true_or, or_false, false_or, if_true, if_false, and_true, true_and, and_false, false_and, not_true, not_false_iff, ms_n hS, nI_subE]
    exact MT_refused (by decide)
  have he := en_of q1 b1 q4
  by_cases q5 : inZ α 0 = false
  · rw [q5] at hz
    simp (disch := omega) only [lit_0, lit_1, lit_2, lit_3, lit_4, lit_5, lit_6, lit_7, lit_8, lit_9, lit_10, lit_11, lit_12, lit_13, lit_14, lit_15, lit_16, lit_20, lit_23, lit_24, lit_31, lit_32, lit_39, lit_43, lit_45, lit_47, lit_48, lit_56, lit_57, lit_59, lit_60, lit_62, lit_63, lit_89, lit_92, lit_96, lit_97, lit_99, lit_100, lit_102, lit_103, lit_104, lit_110, lit_111, lit_115, lit_117, lit_194, lit_200, lit_644, lit_736, lit_999, lit_1000, lit_9999, lit_10000, lit_1000000000, ↓wp_mlet, ↓wp_mbp, ↓wp_ite, ↓wp_mix, ↓wp_mdiv, ↓wp_mnz, ↓wp_some, ↓wp_mbnd, ↓mlet_eq, ↓mbp_eq, ↓mbnd_eq, ↓mix_ite, ↓mdiv_ite, ↓mnz_ite, nI_add, nI_mul, nI_nat, nI_ltE, nI_leE, nI_eqE, nI_eqN, nI_Neq, nI_Nlt, nI_Nle, nI_ltN, nI_leN, ↓reduceIte, ↓Nat.reduceEqDiff, and_f, nt_e, nt_t, nl_t, nl_f, ne_t, ne_f, and_self, or_self, or_true, true_or, or_false, false_or, if_true, if_false, and_true, true_and, and_false, false_and, not_true, not_false_iff, ms_n hS, hz, q5, Bool.toNat_false]
    exact MT_refused (by decide)
  have q5' : inZ α 0 = true := by simpa using q5
  rw [q5'] at hz
  have hf := m_first hS hi he
  have hS8 : (fil M 12 56 0 (α 5) (fun k => nI (ky α k))) 12 48 = enc α := by rw [fil_ne (by decide)]; exact hS
  have hl := Lm0 (M := M) hS8 hi he rfl
  have fr8 : ∀ a b, ¬ (a = 12 ∧ b = 56) → (fil M 12 56 0 (α 5) (fun k => nI (ky α k))) a b = M a b := fun a b h => fil_ne h
  simp (disch := omega) only [lit_0, lit_1, lit_2, lit_3, lit_4, lit_5, lit_6, lit_7, lit_8, lit_9, lit_10, lit_11, lit_12, lit_13, lit_14, lit_15, lit_16, lit_20, lit_23, lit_24, lit_31, lit_32, lit_39, lit_43, lit_45, lit_47, lit_48, lit_56, lit_57, lit_59, lit_60, lit_62, lit_63, lit_89, lit_92, lit_96, lit_97, lit_99, lit_100, lit_102, lit_103, lit_104, lit_110, lit_111, lit_115, lit_117, lit_194, lit_200, lit_644, lit_736, lit_999, lit_1000, lit_9999, lit_10000, lit_1000000000, ↓wp_mlet, ↓wp_mbp, ↓wp_ite, ↓wp_mix, ↓wp_mdiv, ↓wp_mnz, ↓wp_some, ↓wp_mbnd, ↓mlet_eq, ↓mbp_eq, ↓mbnd_eq, ↓mix_ite, ↓mdiv_ite, ↓mnz_ite, nI_add, nI_mul, nI_nat, nI_ltE, nI_leE, nI_eqE, nI_eqN, nI_Neq, nI_Nlt, nI_Nle, nI_ltN, nI_leN, ↓reduceIte, ↓Nat.reduceEqDiff, and_f, nt_e, nt_t, nl_t, nl_f, ne_t, ne_f, and_self, or_self, or_true, true_or, or_false, false_or, if_true, if_false, and_true, true_and, and_false, false_and, not_true, not_false_iff, ms_n hS, hz, q5', hf, Bool.toNat_true, toNat_0, Bool.false_and, Bool.true_and, Bool.and_false, Bool.and_true, Bool.false_eq_true, reduceCtorEq, Bool.true_eq_false, Bool.not_true, Bool.not_false]
  generalize fil M 12 56 0 (α 5) (fun k => nI (ky α k)) = M8 at *
  have e1 := m_onIt hl (ky := ky α) (n := α 9) (ms_n hS8 (by decide)) (by omega) (fun k hk => ⟨ms_n hS8 (by omega), by have := bk k hk; show α (23 + k) < 8; omega⟩)
  have e2 := m_thr hl (x := 0) (by decide)
  have e3 := one_cnt (T := α 5) (s := sh α) (t := ky α) (n := α 9)
  have l := cnt_le (P := fun k => onC (α 5) (sh α) (ky α) (ky α k)) (α 9)
  have lt := thr_lt (T := α 5) (s := sh α) (t := ky α) (x := 0)
  have n8 := fun (j : Nat) (h : ¬ (j = 48 ∨ j = 51 ∨ j = 54)) => ms_n hS8 h
  have tail : ∀ {MF : Mem} {β : Sp} {v : Nat}, MF 12 48 = enc β → (∀ a b, ¬ (a = 12 ∧ b = 48) → MF a b = M8 a b) → MT M 1 (.inr (v, β)) (some (nI 0, mup MF 12 47 15 (nI v))) := fun {MF β v} h1 h2 => by
    unfold MT
    refine ⟨nI 0, _, rfl, rfl, ?_, fun k hk => ?_, ?_, fun a b hab => ?_⟩
    · rw [pm_ne (by decide)]; exact h1
    · rw [mup_at, if_neg (by omega), h2 12 47 (by decide), fr8 12 47 (by decide)]
    · rw [mup_at, if_pos (by decide)]
    · rw [pm_ne (by omega), h2 a b (by omega), fr8 a b (by omega)]
  unfold okA at *
  generalize cnt (fun k => onC (α 5) (sh α) (ky α) (ky α k)) (α 9) = c at *
  generalize hth : thr (α 5) (sh α) (ky α) 0 = th at *
  have n82 := n8 2 (by decide)
  have n89 := n8 9 (by decide)
  by_cases q6 : one (α 5) (sh α) (ky α) (α 9) = true ∧ th = α 2
  · obtain ⟨q6a, q6b⟩ := q6
    have e4 : c = α 9 := e3 ▸ q6a
    have hD : (one (α 5) (sh α) (ky α) (α 9) && decide (th = α 2)) = true := by rw [q6a, decide_eq_true q6b]; rfl
    obtain ⟨⟨⟩, M2, e, h2⟩ := m_logs (k := 111) (w := α 9) hS8 b14
    have g8 := h2.of_up (k := 8) (v := 0) (by decide)
    have g6 := g8.of_up (k := 6) (v := 1) (by decide)
    have g12 := g6.of_up (k := 12) (v := α 12 + 1) (by decide)
    have hfin : up (up (up (sLog α 111 (α 9)) 8 0) 6 1) 12 (α 12 + 1) = sLog (openSp α) 111 (α 9) := by
      funext j
      rw [sLog_door (fun j hj => openSp_ne hj) b14, up_at, up_at, up_at, openSp_at]
      by_cases r12 : j = 12
      · rw [if_pos r12, if_pos (by omega), if_neg (by omega), if_neg (by omega), if_pos r12]
      by_cases r6 : j = 6
      · rw [if_neg r12, if_pos r6, if_pos (by omega), if_pos r6]
      by_cases r8 : j = 8
      · rw [if_neg r12, if_neg r6, if_pos r8, if_pos (by omega), if_neg r6, if_pos r8]
      by_cases r7 : j = 7
      · rw [if_neg r12, if_neg r6, if_neg r8, if_pos (by omega), if_neg r6, if_neg r8, if_neg r12]
        exact sLog_ne b14 (by omega) (by omega)
      · rw [if_neg r12, if_neg r6, if_neg r8, if_neg (by omega)]
    rw [hfin] at g12
    have x8 : (mup M2 12 48 8 (nI 0)) 12 48 8 = nI 0 := by rw [mup_at, if_pos (by decide)]
    have x12 : (mup (mup M2 12 48 8 (nI 0)) 12 48 6 (nI 1)) 12 48 12 = nI (α 12) := by
      rw [ms_n g6.1 (by decide), up_at, if_neg (by decide), up_at, if_neg (by decide), sLog_ne b14 (by decide) (by decide)]
    have y8 : (mup (mup (mup M2 12 48 8 (nI 0)) 12 48 6 (nI 1)) 12 48 12 (nI (α 12 + 1))) 12 48 8 = nI 0 := by
      rw [mup_at, if_neg (by decide), mup_at, if_neg (by decide)]; exact x8
    unfold f_X12_done
    rw [if_pos hD]
    simp (disch := omega) only [lit_0, lit_1, lit_2, lit_3, lit_4, lit_5, lit_6, lit_7, lit_8, lit_9, lit_10, lit_11, lit_12, lit_13, lit_14, lit_15, lit_16, lit_20, lit_23, lit_24, lit_31, lit_32, lit_39, lit_43, lit_45, lit_47, lit_48, lit_56, lit_57, lit_59, lit_60, lit_62, lit_63, lit_89, lit_92, lit_96, lit_97, lit_99, lit_100, lit_102, lit_103, lit_104, lit_110, lit_111, lit_115, lit_117, lit_194, lit_200, lit_644, lit_736, lit_999, lit_1000, lit_9999, lit_10000, lit_1000000000, ↓wp_mlet, ↓wp_mbp, ↓wp_ite, ↓wp_mix, ↓wp_mdiv, ↓wp_mnz, ↓wp_some, ↓wp_mbnd, ↓mlet_eq, ↓mbp_eq, ↓mbnd_eq, ↓mix_ite, ↓mdiv_ite, ↓mnz_ite, nI_add, nI_mul, nI_nat, nI_ltE, nI_leE, nI_eqE, nI_eqN, nI_Neq, nI_Nlt, nI_Nle, nI_ltN, nI_leN, ↓reduceIte, ↓Nat.reduceEqDiff, and_f, nt_e, nt_t, nl_t, nl_f, ne_t, ne_f, and_self, or_self, or_true, true_or, or_false, false_or, if_true, if_false, and_true, true_and, and_false, false_and, not_true, not_false_iff, e1, e2, n89, n82, e4, e, x12, y8]
    exact tail g12.1 (fun a b h => g12.2 a b h)
  · have hD : ¬ (one (α 5) (sh α) (ky α) (α 9) && decide (th = α 2)) = true := by
      intro h
      rw [Bool.and_eq_true, decide_eq_true_iff] at h
      exact q6 h
    obtain ⟨⟨⟩, M2, e, h2⟩ := m_logs (k := 102) (w := α 9) hS8 b14
    have g8 := h2.of_up (k := 8) (v := α 8 + 1) (by decide)
    have x8 : M2 12 48 8 = nI (α 8) := by rw [ms_n h2.1 (by decide), sLog_ne b14 (by decide) (by decide)]
    have y8 : (mup M2 12 48 8 (nI (α 8 + 1))) 12 48 8 = nI (α 8 + 1) := by rw [mup_at, if_pos (by decide)]
    have main : ∀ (K : Option (Int32 × Mem)), K = (if nI (α 8 + 1) = nI 3 then some (nI 0, mup (mup (mup (mup M2 12 48 8 (nI (α 8 + 1))) 12 48 8 (nI 0)) 12 48 7 (nI 6)) 12 47 15 (nI 0)) else some (nI 0, mup (mup M2 12 48 8 (nI (α 8 + 1))) 12 47 15 (nI 0))) → MT M 1 (.inr (0, sLog (failSp α) 102 (α 9))) K := by
      intro K hK
      subst hK
      by_cases q7 : α 8 = 2
      · rw [if_pos (by rw [q7])]
        have g80 := g8.of_up (k := 8) (v := 0) (by decide)
        have g7 := g80.of_up (k := 7) (v := 6) (by decide)
        have hfin : up (up (up (sLog α 102 (α 9)) 8 (α 8 + 1)) 8 0) 7 6 = sLog (failSp α) 102 (α 9) := by
          funext j
          rw [sLog_door (fun j hj => failSp_ne hj) b14, up_at, up_at, up_at, failSp_at, if_pos q7, if_pos q7]
          by_cases r7 : j = 7
          · rw [if_pos r7, if_pos (by omega), if_neg (by omega), if_pos r7]
          by_cases r8 : j = 8
          · rw [if_neg r7, if_pos r8, if_pos (by omega), if_pos r8]
          by_cases r6 : j = 6 ∨ j = 12
          · rw [if_neg r7, if_neg r8, if_neg r8, if_pos (by omega), if_neg r8, if_neg r7]
            exact sLog_ne b14 (by omega) (by omega)
          · rw [if_neg r7, if_neg r8, if_neg r8, if_neg (by omega)]
        rw [hfin] at g7
        exact tail g7.1 (fun a b h => g7.2 a b h)
      · rw [if_neg (by rw [nI_eqE (by omega) (by decide)]; omega)]
        have hfin : up (sLog α 102 (α 9)) 8 (α 8 + 1) = sLog (failSp α) 102 (α 9) := by
          funext j
          rw [sLog_door (fun j hj => failSp_ne hj) b14, up_at, failSp_at, if_neg q7, if_neg q7]
          by_cases r8 : j = 8
          · rw [if_pos r8, if_pos (by omega), if_pos r8]
          by_cases r6 : j = 6 ∨ j = 7 ∨ j = 12
          · rw [if_neg r8, if_pos (by omega), if_neg r8]
            rw [sLog_ne b14 (by omega) (by omega)]
            by_cases r7 : j = 7
            · rw [if_pos r7, r7]
            · rw [if_neg r7]
          · rw [if_neg r8, if_neg (by omega)]
        rw [hfin] at g8
        exact tail g8.1 (fun a b h => g8.2 a b h)
    unfold f_X12_done
    rw [if_neg hD]
    refine main _ ?_
    have y3 : (mup M2 12 48 8 (nI 3)) 12 48 8 = nI 3 := by rw [mup_at, if_pos (by decide)]
    by_cases q8 : one (α 5) (sh α) (ky α) (α 9) = true
    · have e4 : c = α 9 := e3 ▸ q8
      have q9 : th ≠ α 2 := fun h => q6 ⟨q8, h⟩
      by_cases q7 : α 8 = 2
      · simp (disch := omega) only [lit_0, lit_1, lit_2, lit_3, lit_4, lit_5, lit_6, lit_7, lit_8, lit_9, lit_10, lit_11, lit_12, lit_13, lit_14, lit_15, lit_16, lit_20, lit_23, lit_24, lit_31, lit_32, lit_39, lit_43, lit_45, lit_47, lit_48, lit_56, lit_57, lit_59, lit_60, lit_62, lit_63, lit_89, lit_92, lit_96, lit_97, lit_99, lit_100, lit_102, lit_103, lit_104, lit_110, lit_111, lit_115, lit_117, lit_194, lit_200, lit_644, lit_736, lit_999, lit_1000, lit_9999, lit_10000, lit_1000000000, ↓wp_mlet, ↓wp_mbp, ↓wp_ite, ↓wp_mix, ↓wp_mdiv, ↓wp_mnz, ↓wp_some, ↓wp_mbnd, ↓mlet_eq, ↓mbp_eq, ↓mbnd_eq, ↓mix_ite, ↓mdiv_ite, ↓mnz_ite, nI_add, nI_mul, nI_nat, nI_ltE, nI_leE, nI_eqE, nI_eqN, nI_Neq, nI_Nlt, nI_Nle, nI_ltN, nI_leN, ↓reduceIte, ↓Nat.reduceEqDiff, and_f, nt_e, nt_t, nl_t, nl_f, ne_t, ne_f, and_self, or_self, or_true, true_or, or_false, false_or, if_true, if_false, and_true, true_and, and_false, false_and, not_true, not_false_iff, e1, e2, n89, n82, e4, e, x8, y3, q7, Nat.reduceAdd]
      · simp (disch := omega) only [lit_0, lit_1, lit_2, lit_3, lit_4, lit_5, lit_6, lit_7, lit_8, lit_9, lit_10, lit_11, lit_12, lit_13, lit_14, lit_15, lit_16, lit_20, lit_23, lit_24, lit_31, lit_32, lit_39, lit_43, lit_45, lit_47, lit_48, lit_56, lit_57, lit_59, lit_60, lit_62, lit_63, lit_89, lit_92, lit_96, lit_97, lit_99, lit_100, lit_102, lit_103, lit_104, lit_110, lit_111, lit_115, lit_117, lit_194, lit_200, lit_644, lit_736, lit_999, lit_1000, lit_9999, lit_10000, lit_1000000000, ↓wp_mlet, ↓wp_mbp, ↓wp_ite, ↓wp_mix, ↓wp_mdiv, ↓wp_mnz, ↓wp_some, ↓wp_mbnd, ↓mlet_eq, ↓mbp_eq, ↓mbnd_eq, ↓mix_ite, ↓mdiv_ite, ↓mnz_ite, nI_add, nI_mul, nI_nat, nI_ltE, nI_leE, nI_eqE, nI_eqN, nI_Neq, nI_Nlt, nI_Nle, nI_ltN, nI_leN, ↓reduceIte, ↓Nat.reduceEqDiff, and_f, nt_e, nt_t, nl_t, nl_f, ne_t, ne_f, and_self, or_self, or_true, true_or, or_false, false_or, if_true, if_false, and_true, true_and, and_false, false_and, not_true, not_false_iff, e1, e2, n89, n82, e4, e, x8, y8]
    · have e4 : c ≠ α 9 := fun h => q8 (e3 ▸ h)
      by_cases q7 : α 8 = 2
      · simp (disch := omega) only [lit_0, lit_1, lit_2, lit_3, lit_4, lit_5, lit_6, lit_7, lit_8, lit_9, lit_10, lit_11, lit_12, lit_13, lit_14, lit_15, lit_16, lit_20, lit_23, lit_24, lit_31, lit_32, lit_39, lit_43, lit_45, lit_47, lit_48, lit_56, lit_57, lit_59, lit_60, lit_62, lit_63, lit_89, lit_92, lit_96, lit_97, lit_99, lit_100, lit_102, lit_103, lit_104, lit_110, lit_111, lit_115, lit_117, lit_194, lit_200, lit_644, lit_736, lit_999, lit_1000, lit_9999, lit_10000, lit_1000000000, ↓wp_mlet, ↓wp_mbp, ↓wp_ite, ↓wp_mix, ↓wp_mdiv, ↓wp_mnz, ↓wp_some, ↓wp_mbnd, ↓mlet_eq, ↓mbp_eq, ↓mbnd_eq, ↓mix_ite, ↓mdiv_ite, ↓mnz_ite, nI_add, nI_mul, nI_nat, nI_ltE, nI_leE, nI_eqE, nI_eqN, nI_Neq, nI_Nlt, nI_Nle, nI_ltN, nI_leN, ↓reduceIte, ↓Nat.reduceEqDiff, and_f, nt_e, nt_t, nl_t, nl_f, ne_t, ne_f, and_self, or_self, or_true, true_or, or_false, false_or, if_true, if_false, and_true, true_and, and_false, false_and, not_true, not_false_iff, e1, e2, n89, n82, e, x8, y3, q7, Nat.reduceAdd]
      · simp (disch := omega) only [lit_0, lit_1, lit_2, lit_3, lit_4, lit_5, lit_6, lit_7, lit_8, lit_9, lit_10, lit_11, lit_12, lit_13, lit_14, lit_15, lit_16, lit_20, lit_23, lit_24, lit_31, lit_32, lit_39, lit_43, lit_45, lit_47, lit_48, lit_56, lit_57, lit_59, lit_60, lit_62, lit_63, lit_89, lit_92, lit_96, lit_97, lit_99, lit_100, lit_102, lit_103, lit_104, lit_110, lit_111, lit_115, lit_117, lit_194, lit_200, lit_644, lit_736, lit_999, lit_1000, lit_9999, lit_10000, lit_1000000000, ↓wp_mlet, ↓wp_mbp, ↓wp_ite, ↓wp_mix, ↓wp_mdiv, ↓wp_mnz, ↓wp_some, ↓wp_mbnd, ↓mlet_eq, ↓mbp_eq, ↓mbnd_eq, ↓mix_ite, ↓mdiv_ite, ↓mnz_ite, nI_add, nI_mul, nI_nat, nI_ltE, nI_leE, nI_eqE, nI_eqN, nI_Neq, nI_Nlt, nI_Nle, nI_ltN, nI_leN, ↓reduceIte, ↓Nat.reduceEqDiff, and_f, nt_e, nt_t, nl_t, nl_f, ne_t, ne_f, and_self, or_self, or_true, true_or, or_false, false_or, if_true, if_false, and_true, true_and, and_false, false_and, not_true, not_false_iff, e1, e2, n89, n82, e, x8, y8]
theorem pair_openVault {n : Nat} {M : Mem} (hr : Rel n M) (hn : n < 512) : Pair n (fun x => if x = 3 then 1 else 0) M f_X11_openVault f_X12_openVault := by
  have h := pair_op (e := sOpen) (subj := nI 0) (tr := f_X9_tryOpen 0) (op := f_X12_tries) (g := fun r => if r = 1 then 1 else 0) (kc := fun r M => if r = (1 : Int32) then some (.inr (1 : Int32), M) else some (.inr (0 : Int32), M)) (km := fun r M => if r = (1 : Int32) then some ((1 : Int32), M) else some ((0 : Int32), M)) (cat := fun x => if x = 3 then 1 else 0) (place := 1) (c21 := 1) hr hn (by decide) (by decide) (fun M2 α H a b _ => c_open a b) (fun M2 α H a b _ => m_tries a b) (fun α H ans β a _ b => (inv_open a b).mono (by omega)) (fun α k d he => by
    unfold sOpen at he
    split at he
    · cases he; exact ⟨by decide, rfl⟩
    split at he
    · cases he; exact ⟨by decide, rfl⟩
    split at he
    · cases he; exact ⟨by decide, rfl⟩
    split at he
    · cases he; exact ⟨by decide, rfl⟩
    split at he
    · cases he; exact ⟨by decide, rfl⟩
    split at he
    · cases he
    · cases he) (fun r M => by show (if r = 1 then _ else _) = _; split <;> rfl) (fun r M => by show (if r = 1 then _ else _) = _; split <;> rfl)
  exact h
