theorem chain_cnt {tx : Nat → Nat} {L : Nat} : ∀ (cs : List Int32) (r : Rdr), (∀ c, c ∈ cs → c = 32 ∨ c = 100 ∨ c = 110 ∨ c = 115) → (chain tx L cs r).1 = true → r.1 = true ∧ (chain tx L cs r).2.2.1 = r.2.2.1 + nnum cs
  | [], r, _, h => ⟨h, rfl⟩
  | c :: cs, r, hc, h => by
    rw [chain_c] at h ⊢
    obtain ⟨h1, h2⟩ := chain_cnt cs _ (fun c' hc' => hc c' (by simp [hc'])) h
    rw [h2, nnum_c]
    rcases hc c (by simp) with rfl | rfl | rfl | rfl
    · rw [op32] at h1 ⊢
      rw [lit_cnt, if_pos rfl]
      exact ⟨lit_ok1 h1, by omega⟩
    · rw [op100] at h1 ⊢
      obtain ⟨g1, g2⟩ := num_ok h1
      rw [g2, if_neg (by decide)]
      exact ⟨g1, by omega⟩
    · rw [op110] at h1 ⊢
      obtain ⟨g1, g2⟩ := num_ok h1
      rw [g2, if_neg (by decide)]
      exact ⟨g1, by omega⟩
    · rw [op115] at h1 ⊢
      obtain ⟨g1, g2⟩ := dir_ok h1
      rw [g2, if_neg (by decide)]
      exact ⟨g1, by omega⟩
theorem frm_all : ∀ w : Fin 11, w.val ≠ 10 → ∀ c, c ∈ frm w.val → c ≠ 63 ∧ (c = 32 ∨ c = 100 ∨ c = 110 ∨ c = 115) := by decide +kernel
/-- how many numbers a well-formed command has -/
theorem cmd_num {tx : Nat → Nat} {L p w : Nat} (hw : wsel tx L p = some w) (h : (cmdS tx L p z0).1 = true) : (w ≠ 10 → (cmdS tx L p z0).2.2.1 = nnum (frm w)) ∧ (w = 10 → (cmdS tx L p z0).2.2.1 = 1) := by
  have w11 := (rwS_sel.1 w hw).1
  refine ⟨fun h10 => ?_, fun h10 => ?_⟩
  · have fa := frm_all ⟨w, w11⟩ h10
    rw [cmd_chain hw (fun c hc => (fa c hc).1)] at h ⊢
    obtain ⟨-, g2⟩ := chain_cnt _ _ (fun c hc => (fa c hc).2) h
    rw [g2, lit_cnt]
    exact Nat.zero_add _
  · subst h10
    rw [cmd_some hw] at h ⊢
    have hz : (lit tx L (ltr 10) (r0 p z0)).2.2.1 = 0 := by rw [lit_cnt]; rfl
    generalize lit tx L (ltr 10) (r0 p z0) = s at *
    by_cases q : s.1 = true
    · rw [if_pos q, show frm 10 = [63, 32, 110] from rfl, frm_c, if_pos rfl] at h ⊢
      by_cases q2 : isAt tx L s.2.1 32 = true
      · rw [if_pos q2, frmS_chain _ _ (by decide)] at h ⊢
        obtain ⟨-, g2⟩ := chain_cnt _ _ (by decide) h
        rw [g2, hz]
        rfl
      · rw [if_neg q2]
        show s.2.2.1 + 1 = 1
        rw [hz]
    · rw [if_neg q] at h
      exact absurd h q
theorem open_ans {α : Sp} {ans : Nat} {β : Sp} (h : sOpen α = .inr (ans, β)) : ans ≤ 1 := by
  unfold sOpen at h
  split at h
  · cases h
  split at h
  · cases h
  split at h
  · cases h
  split at h
  · cases h
  split at h
  · cases h
  split at h
  · cases h; decide
  · cases h; decide
theorem c_cmd {M : Mem} {tx : Nat → Nat} {L p i w H : Nat} {α : Sp} (hi15 : i < 15) (hw : wsel tx L p = some w) (hok : (cmdS tx L p z0).1 = true) (hrec : ∀ j, j < (cmdS tx L p z0).2.2.1 → M 12 (30 + i) j = nI ((cmdS tx L p z0).2.2.2 j)) (hR : RC (M 0) α) (hi : Inv H α) (hH : H < 900000) : CmdC M (exR w (sCmd α w (cmdS tx L p z0).2.2.2)) (f_X9_tryCommand 0 w 12 (30 + i) M) := by
  have w11 := (rwS_sel.1 w hw).1
  obtain ⟨n1, n2⟩ := cmd_num hw hok
  generalize hns : (cmdS tx L p z0).2.2.2 = ns at *
  generalize (cmdS tx L p z0).2.2.1 = cn at *
  have kk := kOK_cmd α w ns
  unfold f_X9_tryCommand
  rcases (show w = 0 ∨ w = 1 ∨ w = 2 ∨ w = 3 ∨ w = 4 ∨ w = 5 ∨ w = 6 ∨ w = 7 ∨ w = 8 ∨ w = 9 ∨ w = 10 by omega) with rfl | rfl | rfl | rfl | rfl | rfl | rfl | rfl | rfl | rfl | rfl
  · show CmdC M _ (mbnd (f_X9_tryHolder 0 M) fun r m => some (r, m))
    rw [mbnd_id]
    exact CmdC_of (by decide) kk (c_add hR hi)
  · have e := n1 (by decide)
    have e0 := hrec 0 (by rw [e]; decide)
    have e1 := hrec 1 (by rw [e]; decide)
    have e2 := hrec 2 (by rw [e]; decide)
    have e3 := hrec 3 (by rw [e]; decide)
    show CmdC M _ (mbnd (f_X9_trySeal 0 (M 12 (30 + i) 0) (M 12 (30 + i) 1) (M 12 (30 + i) 2) (M 12 (30 + i) 3) M) fun r m => some (r, m))
    rw [mbnd_id, e0, e1, e2, e3]
    exact CmdC_of (by decide) kk (c_seal hR hi _ _ _ _)
  · have e := n1 (by decide)
    have e0 := hrec 0 (by rw [e]; decide)
    have e1 := hrec 1 (by rw [e]; decide)
    show CmdC M _ (mbnd (f_X9_tryShare 0 (M 12 (30 + i) 0) (M 12 (30 + i) 1) M) fun r m => some (r, m))
    rw [mbnd_id, e0, e1]
    exact CmdC_of (by decide) kk (c_share hR hi _ _)
  · have e := n1 (by decide)
    have e0 := hrec 0 (by rw [e]; decide)
    show CmdC M _ (mbnd (f_X9_tryPresent 0 (M 12 (30 + i) 0) M) fun r m => some (r, m))
    rw [mbnd_id, e0]
    exact CmdC_of (by decide) kk (c_give hR hi _)
  · have e := n1 (by decide)
    have e0 := hrec 0 (by rw [e]; decide)
    show CmdC M _ (mbnd (f_X9_tryTakeBack 0 (M 12 (30 + i) 0) M) fun r m => some (r, m))
    rw [mbnd_id, e0]
    exact CmdC_of (by decide) kk (c_back hR hi _)
  · show CmdC M _ (mbnd (f_X9_tryOpen 0 M) fun r18 M19 => (mbp (f_X9_verdictOnOutcome 0 r18 M19) fun r20 => (some (r20, M19))))
    have h := c_open hR hi
    have es : sCmd α 5 ns = sOpen α := rfl
    rw [es] at kk ⊢
    have ha := fun ans β => open_ans (α := α) (ans := ans) (β := β)
    generalize sOpen α = e at h kk ha
    unfold f_X9_verdictOnOutcome
    rcases e with ⟨k, d⟩ | ⟨ans, β⟩
    · obtain ⟨h1, h2⟩ := h
      rw [h1, mbnd_eq]
      have hv : ¬ vc k = 0 := by
        rcases kk k d rfl with hk1 | rfl | rfl
        · have ev : vc k = nI k := by unfold vc; rw [if_neg (by omega), if_neg (by omega)]
          rw [ev]
          show ¬ nI k = nI 0
          rw [nI_eqE (by omega) (by decide)]; omega
        · decide
        · decide
      rw [if_neg hv, mbp_eq]
      exact CmdC_of (w := 0) (subj := 0) (by decide) kk ⟨rfl, h2⟩
    · obtain ⟨r, M1, g0, rfl, g1, g2, g3⟩ := h
      rw [g0, mbnd_eq, if_pos (show nI 0 = 0 from rfl), g2]
      by_cases q : ans = 0
      · subst q
        rw [if_pos (show nI 0 = 0 from rfl), mbp_eq]
        exact ⟨_, _, rfl, by decide, by decide, g3⟩
      · have l := ha ans β rfl
        have e1 : exR 5 (.inr (ans, β)) = .inr β := if_neg (fun h => q h.2)
        rw [if_neg (show ¬ nI ans = 0 by show ¬ nI ans = nI 0; rw [nI_eqE (by omega) (by decide)]; exact q), mbp_eq, e1]
        exact ⟨_, _, rfl, rfl, g1, g3⟩
  · show CmdC M _ (mbnd (f_X9_tryClose 0 M) fun r m => some (r, m))
    rw [mbnd_id]
    exact CmdC_of (by decide) kk (c_close hR hi)
  · have e := n1 (by decide)
    have e0 := hrec 0 (by rw [e]; decide)
    have e1 := hrec 1 (by rw [e]; decide)
    have e2 := hrec 2 (by rw [e]; decide)
    show CmdC M _ (if M 12 (30 + i) 1 = 1 then (mbnd (f_X9_tryGuard 0 (M 12 (30 + i) 0) 1 (M 12 (30 + i) 2) M) fun r m => some (r, m)) else (mbnd (f_X9_tryGuard 0 (M 12 (30 + i) 0) 0 (M 12 (30 + i) 2) M) fun r m => some (r, m)))
    rw [mbnd_id, mbnd_id, e0, e1, e2]
    have es : sCmd α 7 ns = sGuard α (nI (ns 0)) (nI (if nI (ns 1) = nI 1 then 1 else 0)) (nI (ns 2)) := rfl
    rw [es] at kk ⊢
    by_cases q : nI (ns 1) = nI 1
    · rw [if_pos q] at kk ⊢
      rw [if_pos (show nI (ns 1) = 1 from q)]
      exact CmdC_of (by decide) kk (c_guard hR hi _ _ (by decide))
    · rw [if_neg q] at kk ⊢
      rw [if_neg (show ¬ nI (ns 1) = 1 from q)]
      exact CmdC_of (by decide) kk (c_guard hR hi _ _ (by decide))
  · have e := n1 (by decide)
    have e0 := hrec 0 (by rw [e]; decide)
    show CmdC M _ (mbnd (f_X9_tryTurn 0 (M 12 (30 + i) 0) M) fun r m => some (r, m))
    rw [mbnd_id, e0]
    exact CmdC_of (by decide) kk (c_turn hR hi _)
  · have e := n1 (by decide)
    have e0 := hrec 0 (by rw [e]; decide)
    have e1 := hrec 1 (by rw [e]; decide)
    show CmdC M _ (mbnd (f_X9_tryHum 0 (M 12 (30 + i) 0) (M 12 (30 + i) 1) M) fun r m => some (r, m))
    rw [mbnd_id, e0, e1]
    exact CmdC_of (by decide) kk (c_hum hR hi _ _)
  · have e := n2 rfl
    have e0 := hrec 0 (by rw [e]; decide)
    show CmdC M _ (mbnd (f_X9_tryHours 0 (M 12 (30 + i) 0) M) fun r m => some (r, m))
    rw [mbnd_id, e0]
    exact CmdC_of (by decide) kk (c_hours hR hi hH _)
theorem m_cmd {M : Mem} {tx : Nat → Nat} {L p i w H : Nat} {α : Sp} (hi15 : i < 15) (hw : wsel tx L p = some w) (hok : (cmdS tx L p z0).1 = true) (hcode : M 12 54 (6 * i) = nI (codeW w)) (hrec : ∀ j, j < (cmdS tx L p z0).2.2.1 → M 12 54 (6 * i + 1 + j) = nI ((cmdS tx L p z0).2.2.2 j)) (hS : M 12 48 = enc α) (hi : Inv H α) (hH : H < 900000) : CmdM M (exR w (sCmd α w (cmdS tx L p z0).2.2.2)) (f_X12_does (nI i) M) := by
  have w11 := (rwS_sel.1 w hw).1
  obtain ⟨n1, n2⟩ := cmd_num hw hok
  generalize hns : (cmdS tx L p z0).2.2.2 = ns at *
  generalize (cmdS tx L p z0).2.2.1 = cn at *
  have kk := kOK_cmd α w ns
  have l98 : (98 : Int32) = nI 98 := rfl
  have l116 : (116 : Int32) = nI 116 := rfl
  have l203 : (203 : Int32) = nI 203 := rfl
  have l204 : (204 : Int32) = nI 204 := rfl
  have l215 : (215 : Int32) = nI 215 := rfl
  unfold f_X12_does
  rcases (show w = 0 ∨ w = 1 ∨ w = 2 ∨ w = 3 ∨ w = 4 ∨ w = 5 ∨ w = 6 ∨ w = 7 ∨ w = 8 ∨ w = 9 ∨ w = 10 by omega) with rfl | rfl | rfl | rfl | rfl | rfl | rfl | rfl | rfl | rfl | rfl
  · have hc : M 12 54 (6 * i) = nI 104 := hcode
    simp (disch := omega) only [lit_0, lit_1, lit_2, lit_3, lit_4, lit_5, lit_6, lit_7, lit_8, lit_9, lit_10, lit_11, lit_12, lit_13, lit_14, lit_15, lit_16, lit_20, lit_23, lit_24, lit_31, lit_32, lit_39, lit_43, lit_45, lit_47, lit_48, lit_56, lit_57, lit_59, lit_60, lit_62, lit_63, lit_89, lit_92, lit_96, lit_97, lit_99, lit_100, lit_102, lit_103, lit_104, lit_110, lit_111, lit_115, lit_117, lit_194, lit_200, lit_644, lit_736, lit_999, lit_1000, lit_9999, lit_10000, lit_1000000000, ↓wp_mlet, ↓wp_mbp, ↓wp_ite, ↓wp_mix, ↓wp_mdiv, ↓wp_mnz, ↓wp_some, ↓wp_mbnd, ↓mlet_eq, ↓mbp_eq, ↓mbnd_eq, ↓mix_ite, ↓mdiv_ite, ↓mnz_ite, nI_add, nI_mul, nI_nat, nI_ltE, nI_leE, nI_eqE, nI_eqN, nI_Neq, nI_Nlt, nI_Nle, nI_ltN, nI_leN, ↓reduceIte, ↓Nat.reduceEqDiff, and_f, nt_e, nt_t, nl_t, nl_f, ne_t, ne_f, and_self, or_self, or_true, true_or, or_false, false_or, if_true, if_false, and_true, true_and, and_false, false_and, not_true, not_false_iff, hc, l98, l116, l203, l204, l215]
    rw [mbnd_id]
    exact CmdM_of (by decide) kk (by decide) hS (m_add hS hi)
  · have hc : M 12 54 (6 * i) = nI 115 := hcode
    have e := n1 (by decide)
    have e0 : M 12 54 (6 * i + 1) = nI (ns 0) := hrec 0 (by rw [e]; decide)
    have e1 : M 12 54 (6 * i + 2) = nI (ns 1) := hrec 1 (by rw [e]; decide)
    have e2 : M 12 54 (6 * i + 3) = nI (ns 2) := hrec 2 (by rw [e]; decide)
    have e3 : M 12 54 (6 * i + 4) = nI (ns 3) := hrec 3 (by rw [e]; decide)
    simp (disch := omega) only [lit_0, lit_1, lit_2, lit_3, lit_4, lit_5, lit_6, lit_7, lit_8, lit_9, lit_10, lit_11, lit_12, lit_13, lit_14, lit_15, lit_16, lit_20, lit_23, lit_24, lit_31, lit_32, lit_39, lit_43, lit_45, lit_47, lit_48, lit_56, lit_57, lit_59, lit_60, lit_62, lit_63, lit_89, lit_92, lit_96, lit_97, lit_99, lit_100, lit_102, lit_103, lit_104, lit_110, lit_111, lit_115, lit_117, lit_194, lit_200, lit_644, lit_736, lit_999, lit_1000, lit_9999, lit_10000, lit_1000000000, ↓wp_mlet, ↓wp_mbp, ↓wp_ite, ↓wp_mix, ↓wp_mdiv, ↓wp_mnz, ↓wp_some, ↓wp_mbnd, ↓mlet_eq, ↓mbp_eq, ↓mbnd_eq, ↓mix_ite, ↓mdiv_ite, ↓mnz_ite, nI_add, nI_mul, nI_nat, nI_ltE, nI_leE, nI_eqE, nI_eqN, nI_Neq, nI_Nlt, nI_Nle, nI_ltN, nI_leN, ↓reduceIte, ↓Nat.reduceEqDiff, and_f, nt_e, nt_t, nl_t, nl_f, ne_t, ne_f, and_self, or_self, or_true, true_or, or_false, false_or, if_true, if_false, and_true, true_and, and_false, false_and, not_true, not_false_iff, hc, l98, l116, l203, l204, l215, e0, e1, e2, e3]
    rw [mbnd_id]
    exact CmdM_of (by decide) kk (by decide) hS (m_seal hS hi _ _ _ _)
  · have hc : M 12 54 (6 * i) = nI 215 := hcode
    have e := n1 (by decide)
    have e0 : M 12 54 (6 * i + 1) = nI (ns 0) := hrec 0 (by rw [e]; decide)
    have e1 : M 12 54 (6 * i + 2) = nI (ns 1) := hrec 1 (by rw [e]; decide)
    simp (disch := omega) only [lit_0, lit_1, lit_2, lit_3, lit_4, lit_5, lit_6, lit_7, lit_8, lit_9, lit_10, lit_11, lit_12, lit_13, lit_14, lit_15, lit_16, lit_20, lit_23, lit_24, lit_31, lit_32, lit_39, lit_43, lit_45, lit_47, lit_48, lit_56, lit_57, lit_59, lit_60, lit_62, lit_63, lit_89, lit_92, lit_96, lit_97, lit_99, lit_100, lit_102, lit_103, lit_104, lit_110, lit_111, lit_115, lit_117, lit_194, lit_200, lit_644, lit_736, lit_999, lit_1000, lit_9999, lit_10000, lit_1000000000, ↓wp_mlet, ↓wp_mbp, ↓wp_ite, ↓wp_mix, ↓wp_mdiv, ↓wp_mnz, ↓wp_some, ↓wp_mbnd, ↓mlet_eq, ↓mbp_eq, ↓mbnd_eq, ↓mix_ite, ↓mdiv_ite, ↓mnz_ite, nI_add, nI_mul, nI_nat, nI_ltE, nI_leE, nI_eqE, nI_eqN, nI_Neq, nI_Nlt, nI_Nle, nI_ltN, nI_leN, ↓reduceIte, ↓Nat.reduceEqDiff, and_f, nt_e, nt_t, nl_t, nl_f, ne_t, ne_f, and_self, or_self, or_true, true_or, or_false, false_or, if_true, if_false, and_true, true_and, and_false, false_and, not_true, not_false_iff, hc, l98, l116, l203, l204, l215, e0, e1]
    rw [mbnd_id]
    exact CmdM_of (by decide) kk (by decide) hS (m_shares hS hi _ _)
  · have hc : M 12 54 (6 * i) = nI 103 := hcode
    have e := n1 (by decide)
    have e0 : M 12 54 (6 * i + 1) = nI (ns 0) := hrec 0 (by rw [e]; decide)
    simp (disch := omega) only [lit_0, lit_1, lit_2, lit_3, lit_4, lit_5, lit_6, lit_7, lit_8, lit_9, lit_10, lit_11, lit_12, lit_13, lit_14, lit_15, lit_16, lit_20, lit_23, lit_24, lit_31, lit_32, lit_39, lit_43, lit_45, lit_47, lit_48, lit_56, lit_57, lit_59, lit_60, lit_62, lit_63, lit_89, lit_92, lit_96, lit_97, lit_99, lit_100, lit_102, lit_103, lit_104, lit_110, lit_111, lit_115, lit_117, lit_194, lit_200, lit_644, lit_736, lit_999, lit_1000, lit_9999, lit_10000, lit_1000000000, ↓wp_mlet, ↓wp_mbp, ↓wp_ite, ↓wp_mix, ↓wp_mdiv, ↓wp_mnz, ↓wp_some, ↓wp_mbnd, ↓mlet_eq, ↓mbp_eq, ↓mbnd_eq, ↓mix_ite, ↓mdiv_ite, ↓mnz_ite, nI_add, nI_mul, nI_nat, nI_ltE, nI_leE, nI_eqE, nI_eqN, nI_Neq, nI_Nlt, nI_Nle, nI_ltN, nI_leN, ↓reduceIte, ↓Nat.reduceEqDiff, and_f, nt_e, nt_t, nl_t, nl_f, ne_t, ne_f, and_self, or_self, or_true, true_or, or_false, false_or, if_true, if_false, and_true, true_and, and_false, false_and, not_true, not_false_iff, hc, l98, l116, l203, l204, l215, e0]
    rw [mbnd_id]
    exact CmdM_of (by decide) kk (by decide) hS (m_presents hS hi _)
  · have hc : M 12 54 (6 * i) = nI 98 := hcode
    have e := n1 (by decide)
    have e0 : M 12 54 (6 * i + 1) = nI (ns 0) := hrec 0 (by rw [e]; decide)
    simp (disch := omega) only [lit_0, lit_1, lit_2, lit_3, lit_4, lit_5, lit_6, lit_7, lit_8, lit_9, lit_10, lit_11, lit_12, lit_13, lit_14, lit_15, lit_16, lit_20, lit_23, lit_24, lit_31, lit_32, lit_39, lit_43, lit_45, lit_47, lit_48, lit_56, lit_57, lit_59, lit_60, lit_62, lit_63, lit_89, lit_92, lit_96, lit_97, lit_99, lit_100, lit_102, lit_103, lit_104, lit_110, lit_111, lit_115, lit_117, lit_194, lit_200, lit_644, lit_736, lit_999, lit_1000, lit_9999, lit_10000, lit_1000000000, ↓wp_mlet, ↓wp_mbp, ↓wp_ite, ↓wp_mix, ↓wp_mdiv, ↓wp_mnz, ↓wp_some, ↓wp_mbnd, ↓mlet_eq, ↓mbp_eq, ↓mbnd_eq, ↓mix_ite, ↓mdiv_ite, ↓mnz_ite, nI_add, nI_mul, nI_nat, nI_ltE, nI_leE, nI_eqE, nI_eqN, nI_Neq, nI_Nlt, nI_Nle, nI_ltN, nI_leN, ↓reduceIte, ↓Nat.reduceEqDiff, and_f, nt_e, nt_t, nl_t, nl_f, ne_t, ne_f, and_self, or_self, or_true, true_or, or_false, false_or, if_true, if_false, and_true, true_and, and_false, false_and, not_true, not_false_iff, hc, l98, l116, l203, l204, l215, e0]
    rw [mbnd_id]
    exact CmdM_of (by decide) kk (by decide) hS (m_takes hS hi _)
  · have hc : M 12 54 (6 * i) = nI 111 := hcode
    simp (disch := omega) only [lit_0, lit_1, lit_2, lit_3, lit_4, lit_5, lit_6, lit_7, lit_8, lit_9, lit_10, lit_11, lit_12, lit_13, lit_14, lit_15, lit_16, lit_20, lit_23, lit_24, lit_31, lit_32, lit_39, lit_43, lit_45, lit_47, lit_48, lit_56, lit_57, lit_59, lit_60, lit_62, lit_63, lit_89, lit_92, lit_96, lit_97, lit_99, lit_100, lit_102, lit_103, lit_104, lit_110, lit_111, lit_115, lit_117, lit_194, lit_200, lit_644, lit_736, lit_999, lit_1000, lit_9999, lit_10000, lit_1000000000, ↓wp_mlet, ↓wp_mbp, ↓wp_ite, ↓wp_mix, ↓wp_mdiv, ↓wp_mnz, ↓wp_some, ↓wp_mbnd, ↓mlet_eq, ↓mbp_eq, ↓mbnd_eq, ↓mix_ite, ↓mdiv_ite, ↓mnz_ite, nI_add, nI_mul, nI_nat, nI_ltE, nI_leE, nI_eqE, nI_eqN, nI_Neq, nI_Nlt, nI_Nle, nI_ltN, nI_leN, ↓reduceIte, ↓Nat.reduceEqDiff, and_f, nt_e, nt_t, nl_t, nl_f, ne_t, ne_f, and_self, or_self, or_true, true_or, or_false, false_or, if_true, if_false, and_true, true_and, and_false, false_and, not_true, not_false_iff, hc, l98, l116, l203, l204, l215]
    rw [mbnd_id]
    have h := m_tries hS hi
    have es : sCmd α 5 ns = sOpen α := rfl
    rw [es] at kk ⊢
    have ha := fun ans β => open_ans (α := α) (ans := ans) (β := β)
    unfold f_X12_opens
    generalize sOpen α = e at h kk ha
    rcases e with ⟨k, d⟩ | ⟨ans, β⟩
    · have h2 := CmdM_of (w := 0) (by decide) kk (by decide) hS h
      show wp _ _
      obtain ⟨r, M1, g0, g1, g2⟩ := h2
      rw [g0, mbnd_eq, if_neg (show ¬ r = 0 from g1), wp_some]
      exact ⟨g1, g2⟩
    · have hz : ¬ ((5 = 5 ∧ ans = 0) ∧ ans ≠ 0) := fun hh => hh.2 hh.1.2
      obtain ⟨r, M1, g0, rfl, g1, g2, g3, g4⟩ := h
      rw [g0, mbnd_eq, if_pos (show nI 0 = 0 from rfl), g3]
      by_cases q : ans = 0
      · subst q
        rw [if_pos (show nI 0 = 0 from rfl)]
        exact ⟨_, _, rfl, by decide, by decide, ⟨β, g1⟩, fun k h15 _ _ _ => g2 k h15, g4⟩
      · have l := ha ans β rfl
        have e1 : exR 5 (.inr (ans, β)) = .inr β := if_neg (fun h => q h.2)
        rw [if_neg (show ¬ nI ans = 0 by show ¬ nI ans = nI 0; rw [nI_eqE (by omega) (by decide)]; exact q), e1]
        exact ⟨_, _, rfl, rfl, g1, g2, g4⟩
  · have hc : M 12 54 (6 * i) = nI 99 := hcode
    simp (disch := omega) only [lit_0, lit_1, lit_2, lit_3, lit_4, lit_5, lit_6, lit_7, lit_8, lit_9, lit_10, lit_11, lit_12, lit_13, lit_14, lit_15, lit_16, lit_20, lit_23, lit_24, lit_31, lit_32, lit_39, lit_43, lit_45, lit_47, lit_48, lit_56, lit_57, lit_59, lit_60, lit_62, lit_63, lit_89, lit_92, lit_96, lit_97, lit_99, lit_100, lit_102, lit_103, lit_104, lit_110, lit_111, lit_115, lit_117, lit_194, lit_200, lit_644, lit_736, lit_999, lit_1000, lit_9999, lit_10000, lit_1000000000, ↓wp_mlet, ↓wp_mbp, ↓wp_ite, ↓wp_mix, ↓wp_mdiv, ↓wp_mnz, ↓wp_some, ↓wp_mbnd, ↓mlet_eq, ↓mbp_eq, ↓mbnd_eq, ↓mix_ite, ↓mdiv_ite, ↓mnz_ite, nI_add, nI_mul, nI_nat, nI_ltE, nI_leE, nI_eqE, nI_eqN, nI_Neq, nI_Nlt, nI_Nle, nI_ltN, nI_leN, ↓reduceIte, ↓Nat.reduceEqDiff, and_f, nt_e, nt_t, nl_t, nl_f, ne_t, ne_f, and_self, or_self, or_true, true_or, or_false, false_or, if_true, if_false, and_true, true_and, and_false, false_and, not_true, not_false_iff, hc, l98, l116, l203, l204, l215]
    rw [mbnd_id]
    exact CmdM_of (by decide) kk (by decide) hS (m_closes hS hi)
  · have hc : M 12 54 (6 * i) = nI 203 := hcode
    have e := n1 (by decide)
    have e0 : M 12 54 (6 * i + 1) = nI (ns 0) := hrec 0 (by rw [e]; decide)
    have e1 : M 12 54 (6 * i + 2) = nI (ns 1) := hrec 1 (by rw [e]; decide)
    have e2 : M 12 54 (6 * i + 3) = nI (ns 2) := hrec 2 (by rw [e]; decide)
    have es : sCmd α 7 ns = sGuard α (nI (ns 0)) (nI (if nI (ns 1) = nI 1 then 1 else 0)) (nI (ns 2)) := rfl
    rw [es] at kk ⊢
    by_cases q : nI (ns 1) = nI 1
    · rw [if_pos q] at kk ⊢
      simp (disch := omega) only [lit_0, lit_1, lit_2, lit_3, lit_4, lit_5, lit_6, lit_7, lit_8, lit_9, lit_10, lit_11, lit_12, lit_13, lit_14, lit_15, lit_16, lit_20, lit_23, lit_24, lit_31, lit_32, lit_39, lit_43, lit_45, lit_47, lit_48, lit_56, lit_57, lit_59, lit_60, lit_62, lit_63, lit_89, lit_92, lit_96, lit_97, lit_99, lit_100, lit_102, lit_103, lit_104, lit_110, lit_111, lit_115, lit_117, lit_194, lit_200, lit_644, lit_736, lit_999, lit_1000, lit_9999, lit_10000, lit_1000000000, ↓wp_mlet, ↓wp_mbp, ↓wp_ite, ↓wp_mix, ↓wp_mdiv, ↓wp_mnz, ↓wp_some, ↓wp_mbnd, ↓mlet_eq, ↓mbp_eq, ↓mbnd_eq, ↓mix_ite, ↓mdiv_ite, ↓mnz_ite, nI_add, nI_mul, nI_nat, nI_ltE, nI_leE, nI_eqE, nI_eqN, nI_Neq, nI_Nlt, nI_Nle, nI_ltN, nI_leN, ↓reduceIte, ↓Nat.reduceEqDiff, and_f, nt_e, nt_t, nl_t, nl_f, ne_t, ne_f, and_self, or_self, or_true, true_or, or_false, false_or, if_true, if_false, and_true, true_and, and_false, false_and, not_true, not_false_iff, hc, l98, l116, l203, l204, l215, e0, e1, e2, q]
      rw [mbnd_id]
      exact CmdM_of (by decide) kk (by decide) hS (m_guards hS hi _ _ (by decide))
    · have q' := eq_false q
      rw [if_neg q] at kk ⊢
      simp (disch := omega) only [lit_0, lit_1, lit_2, lit_3, lit_4, lit_5, lit_6, lit_7, lit_8, lit_9, lit_10, lit_11, lit_12, lit_13, lit_14, lit_15, lit_16, lit_20, lit_23, lit_24, lit_31, lit_32, lit_39, lit_43, lit_45, lit_47, lit_48, lit_56, lit_57, lit_59, lit_60, lit_62, lit_63, lit_89, lit_92, lit_96, lit_97, lit_99, lit_100, lit_102, lit_103, lit_104, lit_110, lit_111, lit_115, lit_117, lit_194, lit_200, lit_644, lit_736, lit_999, lit_1000, lit_9999, lit_10000, lit_1000000000, ↓wp_mlet, ↓wp_mbp, ↓wp_ite, ↓wp_mix, ↓wp_mdiv, ↓wp_mnz, ↓wp_some, ↓wp_mbnd, ↓mlet_eq, ↓mbp_eq, ↓mbnd_eq, ↓mix_ite, ↓mdiv_ite, ↓mnz_ite, nI_add, nI_mul, nI_nat, nI_ltE, nI_leE, nI_eqE, nI_eqN, nI_Neq, nI_Nlt, nI_Nle, nI_ltN, nI_leN, ↓reduceIte, ↓Nat.reduceEqDiff, and_f, nt_e, nt_t, nl_t, nl_f, ne_t, ne_f, and_self, or_self, or_true, true_or, or_false, false_or, if_true, if_false, and_true, true_and, and_false, false_and, not_true, not_false_iff, hc, l98, l116, l203, l204, l215, e0, e1, e2, q']
      rw [mbnd_id]
      exact CmdM_of (by decide) kk (by decide) hS (m_guards hS hi _ _ (by decide))
  · have hc : M 12 54 (6 * i) = nI 116 := hcode
    have e := n1 (by decide)
    have e0 : M 12 54 (6 * i + 1) = nI (ns 0) := hrec 0 (by rw [e]; decide)
    simp (disch := omega) only [lit_0, lit_1, lit_2, lit_3, lit_4, lit_5, lit_6, lit_7, lit_8, lit_9, lit_10, lit_11, lit_12, lit_13, lit_14, lit_15, lit_16, lit_20, lit_23, lit_24, lit_31, lit_32, lit_39, lit_43, lit_45, lit_47, lit_48, lit_56, lit_57, lit_59, lit_60, lit_62, lit_63, lit_89, lit_92, lit_96, lit_97, lit_99, lit_100, lit_102, lit_103, lit_104, lit_110, lit_111, lit_115, lit_117, lit_194, lit_200, lit_644, lit_736, lit_999, lit_1000, lit_9999, lit_10000, lit_1000000000, ↓wp_mlet, ↓wp_mbp, ↓wp_ite, ↓wp_mix, ↓wp_mdiv, ↓wp_mnz, ↓wp_some, ↓wp_mbnd, ↓mlet_eq, ↓mbp_eq, ↓mbnd_eq, ↓mix_ite, ↓mdiv_ite, ↓mnz_ite, nI_add, nI_mul, nI_nat, nI_ltE, nI_leE, nI_eqE, nI_eqN, nI_Neq, nI_Nlt, nI_Nle, nI_ltN, nI_leN, ↓reduceIte, ↓Nat.reduceEqDiff, and_f, nt_e, nt_t, nl_t, nl_f, ne_t, ne_f, and_self, or_self, or_true, true_or, or_false, false_or, if_true, if_false, and_true, true_and, and_false, false_and, not_true, not_false_iff, hc, l98, l116, l203, l204, l215, e0]
    rw [mbnd_id]
    exact CmdM_of (by decide) kk (by decide) hS (m_turns hS hi _)
  · have hc : M 12 54 (6 * i) = nI 204 := hcode
    have e := n1 (by decide)
    have e0 : M 12 54 (6 * i + 1) = nI (ns 0) := hrec 0 (by rw [e]; decide)
    have e1 : M 12 54 (6 * i + 2) = nI (ns 1) := hrec 1 (by rw [e]; decide)
    simp (disch := omega) only [lit_0, lit_1, lit_2, lit_3, lit_4, lit_5, lit_6, lit_7, lit_8, lit_9, lit_10, lit_11, lit_12, lit_13, lit_14, lit_15, lit_16, lit_20, lit_23, lit_24, lit_31, lit_32, lit_39, lit_43, lit_45, lit_47, lit_48, lit_56, lit_57, lit_59, lit_60, lit_62, lit_63, lit_89, lit_92, lit_96, lit_97, lit_99, lit_100, lit_102, lit_103, lit_104, lit_110, lit_111, lit_115, lit_117, lit_194, lit_200, lit_644, lit_736, lit_999, lit_1000, lit_9999, lit_10000, lit_1000000000, ↓wp_mlet, ↓wp_mbp, ↓wp_ite, ↓wp_mix, ↓wp_mdiv, ↓wp_mnz, ↓wp_some, ↓wp_mbnd, ↓mlet_eq, ↓mbp_eq, ↓mbnd_eq, ↓mix_ite, ↓mdiv_ite, ↓mnz_ite, nI_add, nI_mul, nI_nat, nI_ltE, nI_leE, nI_eqE, nI_eqN, nI_Neq, nI_Nlt, nI_Nle, nI_ltN, nI_leN, ↓reduceIte, ↓Nat.reduceEqDiff, and_f, nt_e, nt_t, nl_t, nl_f, ne_t, ne_f, and_self, or_self, or_true, true_or, or_false, false_or, if_true, if_false, and_true, true_and, and_false, false_and, not_true, not_false_iff, hc, l98, l116, l203, l204, l215, e0, e1]
    rw [mbnd_id]
    exact CmdM_of (by decide) kk (by decide) hS (m_hums hS hi _ _)
  · have hc : M 12 54 (6 * i) = nI 119 := hcode
    have e := n2 rfl
    have e0 : M 12 54 (6 * i + 1) = nI (ns 0) := hrec 0 (by rw [e]; decide)
    simp (disch := omega) only [lit_0, lit_1, lit_2, lit_3, lit_4, lit_5, lit_6, lit_7, lit_8, lit_9, lit_10, lit_11, lit_12, lit_13, lit_14, lit_15, lit_16, lit_20, lit_23, lit_24, lit_31, lit_32, lit_39, lit_43, lit_45, lit_47, lit_48, lit_56, lit_57, lit_59, lit_60, lit_62, lit_63, lit_89, lit_92, lit_96, lit_97, lit_99, lit_100, lit_102, lit_103, lit_104, lit_110, lit_111, lit_115, lit_117, lit_194, lit_200, lit_644, lit_736, lit_999, lit_1000, lit_9999, lit_10000, lit_1000000000, ↓wp_mlet, ↓wp_mbp, ↓wp_ite, ↓wp_mix, ↓wp_mdiv, ↓wp_mnz, ↓wp_some, ↓wp_mbnd, ↓mlet_eq, ↓mbp_eq, ↓mbnd_eq, ↓mix_ite, ↓mdiv_ite, ↓mnz_ite, nI_add, nI_mul, nI_nat, nI_ltE, nI_leE, nI_eqE, nI_eqN, nI_Neq, nI_Nlt, nI_Nle, nI_ltN, nI_leN, ↓reduceIte, ↓Nat.reduceEqDiff, and_f, nt_e, nt_t, nl_t, nl_f, ne_t, ne_f, and_self, or_self, or_true, true_or, or_false, false_or, if_true, if_false, and_true, true_and, and_false, false_and, not_true, not_false_iff, hc, l98, l116, l203, l204, l215, e0]
    rw [mbnd_id]
    exact CmdM_of (by decide) kk (by decide) hS (m_passes hS hi hH _)
