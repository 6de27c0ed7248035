/-! TEXTS FED AND RUN -/
theorem z_feed {M : Mem} {k c : Nat} (hk : k < 60) (h1 : M 12 26 1 = nI k) (hc : c < 65536) : f_L_feed (nI c) M = some (nI (k + 1), mup (mup M 12 27 k (nI c)) 12 26 1 (nI (k + 1))) := by
  unfold f_L_feed f_X11_feed f_X2_append
  simp (disch := omega) only [lit_17, lit_18, lit_19, lit_21, lit_22, lit_25, lit_26, lit_28, lit_29, lit_38, lit_42, lit_46, lit_50, lit_54, lit_70, lit_74, lit_75, lit_76, lit_77, lit_78, lit_79, lit_40503, mcatp_l, mcatp_r, eq_self, lit_0, lit_1, lit_2, lit_3, lit_4, lit_5, lit_6, lit_7, lit_8, lit_9, lit_10, lit_11, lit_12, lit_13, lit_14, lit_15, lit_16, lit_20, lit_23, lit_24, lit_31, lit_32, lit_39, lit_43, lit_45, lit_47, lit_48, lit_56, lit_57, lit_59, lit_60, lit_62, lit_63, lit_89, lit_92, lit_96, lit_97, lit_99, lit_100, lit_102, lit_103, lit_104, lit_110, lit_111, lit_115, lit_117, lit_194, lit_200, lit_644, lit_736, lit_999, lit_1000, lit_9999, lit_10000, lit_1000000000, ↓wp_mlet, ↓wp_mbp, ↓wp_ite, ↓wp_mix, ↓wp_mdiv, ↓wp_mnz, ↓wp_some, ↓wp_mbnd, ↓mlet_eq, ↓mbp_eq, ↓mbnd_eq, ↓mix_ite, ↓mdiv_ite, ↓mnz_ite, nI_add, nI_mul, nI_nat, nI_ltE, nI_leE, nI_eqE, nI_eqN, nI_Neq, nI_Nlt, nI_Nle, nI_ltN, nI_leN, ↓reduceIte, ↓Nat.reduceEqDiff, and_f, nt_e, nt_t, nl_t, nl_f, ne_t, ne_f, and_self, or_self, or_true, true_or, or_false, false_or, if_true, if_false, and_true, true_and, and_false, false_and, not_true, not_false_iff, mup_at, up_at, fil_at, ↓reduceIte, ↓Nat.reduceEqDiff, and_f, nt_e, nt_t, nl_t, nl_f, ne_t, ne_f, and_self, or_self, or_true, true_or, or_false, false_or, if_true, if_false, and_true, true_and, and_false, false_and, not_true, not_false_iff, h1, vnar_char, mcat_r]
def fedM (M : Mem) (tx : Nat → Nat) (k : Nat) : Mem := mup (fil M 12 27 0 k (fun i => nI (tx i))) 12 26 1 (nI k)
theorem fedM_0 {M : Mem} {tx : Nat → Nat} (h : M 12 26 1 = nI 0) : fedM M tx 0 = M := by
  unfold fedM
  rw [fil_0]
  funext a b c
  rw [mup_at]
  split
  · rename_i q
    rw [q.1, q.2.1, q.2.2, h]
  · rfl
theorem fedM_s {M : Mem} {tx : Nat → Nat} {k : Nat} : mup (mup (fedM M tx k) 12 27 k (nI (tx k))) 12 26 1 (nI (k + 1)) = fedM M tx (k + 1) := by
  unfold fedM
  funext a b c
  simp only [mup_at, fil_at]
  by_cases q : a = 12 ∧ b = 26 ∧ c = 1
  · rw [if_pos q, if_pos q]
  · rw [if_neg q, if_neg q, if_neg q]
    by_cases q2 : a = 12 ∧ b = 27 ∧ c = k
    · rw [if_pos q2, if_pos (by omega), q2.2.2]
    · rw [if_neg q2]
      by_cases q3 : a = 12 ∧ b = 27 ∧ 0 ≤ c ∧ c < k
      · rw [if_pos q3, if_pos (by omega)]
      · rw [if_neg q3, if_neg (by omega)]
theorem fedM_ne {M : Mem} {tx : Nat → Nat} {k a b : Nat} (h : ¬ (a = 12 ∧ (b = 26 ∨ b = 27))) : fedM M tx k a b = M a b := by
  unfold fedM
  rw [pm_ne (by omega), fil_ne (by omega)]
theorem fedM_txt {M : Mem} {tx : Nat → Nat} {L : Nat} (hL : L ≤ 60) (ht : ∀ i, i < L → tx i < 65536) : Txt (fedM M tx L) tx L := by
  refine ⟨hL, ?_, fun i hi => ⟨?_, ht i hi⟩⟩
  · unfold fedM
    rw [mup_at, if_pos (by decide)]
  · unfold fedM
    rw [pm_ne (by decide), fil_at, if_pos (by omega)]
theorem z_feeds {M : Mem} {tx : Nat → Nat} {L : Nat} (h : M 12 26 1 = nI 0) (hL : L ≤ 20) (ht : ∀ i, i < L → tx i < 65536) (kk : Mem → Option (Int32 × Mem)) : f_L_runs_L2 L (fun i => nI (tx i)) 21 (nI 0) M kk = kk (fedM M tx L) := by
  have key := mloop (F := fun n x s kk => f_L_runs_L2 L (fun i => nI (tx i)) n x s kk) (c := L) (fun x => fedM M tx x) (fun m x kk hx => by
    show f_L_runs_L2 L (fun i => nI (tx i)) (m + 1) (nI x) (fedM M tx x) kk = f_L_runs_L2 L (fun i => nI (tx i)) m (nI (x + 1)) (fedM M tx (x + 1)) kk
    have e1 : (fedM M tx x) 12 26 1 = nI x := by unfold fedM; rw [mup_at, if_pos (by decide)]
    have e2 := z_feed (M := fedM M tx x) (k := x) (c := tx x) (by omega) e1 (ht x hx)
    rw [fedM_s] at e2
    rw [f_L_runs_L2.eq_2, show Int32.ofNat L = nI L from rfl]
    simp (disch := omega) only [lit_17, lit_18, lit_19, lit_21, lit_22, lit_25, lit_26, lit_28, lit_29, lit_38, lit_42, lit_46, lit_50, lit_54, lit_70, lit_74, lit_75, lit_76, lit_77, lit_78, lit_79, lit_40503, mcatp_l, mcatp_r, eq_self, lit_0, lit_1, lit_2, lit_3, lit_4, lit_5, lit_6, lit_7, lit_8, lit_9, lit_10, lit_11, lit_12, lit_13, lit_14, lit_15, lit_16, lit_20, lit_23, lit_24, lit_31, lit_32, lit_39, lit_43, lit_45, lit_47, lit_48, lit_56, lit_57, lit_59, lit_60, lit_62, lit_63, lit_89, lit_92, lit_96, lit_97, lit_99, lit_100, lit_102, lit_103, lit_104, lit_110, lit_111, lit_115, lit_117, lit_194, lit_200, lit_644, lit_736, lit_999, lit_1000, lit_9999, lit_10000, lit_1000000000, ↓wp_mlet, ↓wp_mbp, ↓wp_ite, ↓wp_mix, ↓wp_mdiv, ↓wp_mnz, ↓wp_some, ↓wp_mbnd, ↓mlet_eq, ↓mbp_eq, ↓mbnd_eq, ↓mix_ite, ↓mdiv_ite, ↓mnz_ite, nI_add, nI_mul, nI_nat, nI_ltE, nI_leE, nI_eqE, nI_eqN, nI_Neq, nI_Nlt, nI_Nle, nI_ltN, nI_leN, ↓reduceIte, ↓Nat.reduceEqDiff, and_f, nt_e, nt_t, nl_t, nl_f, ne_t, ne_f, and_self, or_self, or_true, true_or, or_false, false_or, if_true, if_false, and_true, true_and, and_false, false_and, not_true, not_false_iff, e2]) (fun m kk => by
    show f_L_runs_L2 L (fun i => nI (tx i)) (m + 1) (nI L) (fedM M tx L) kk = _
    rw [f_L_runs_L2.eq_2, show Int32.ofNat L = nI L from rfl]
    simp (disch := omega) only [lit_17, lit_18, lit_19, lit_21, lit_22, lit_25, lit_26, lit_28, lit_29, lit_38, lit_42, lit_46, lit_50, lit_54, lit_70, lit_74, lit_75, lit_76, lit_77, lit_78, lit_79, lit_40503, mcatp_l, mcatp_r, eq_self, lit_0, lit_1, lit_2, lit_3, lit_4, lit_5, lit_6, lit_7, lit_8, lit_9, lit_10, lit_11, lit_12, lit_13, lit_14, lit_15, lit_16, lit_20, lit_23, lit_24, lit_31, lit_32, lit_39, lit_43, lit_45, lit_47, lit_48, lit_56, lit_57, lit_59, lit_60, lit_62, lit_63, lit_89, lit_92, lit_96, lit_97, lit_99, lit_100, lit_102, lit_103, lit_104, lit_110, lit_111, lit_115, lit_117, lit_194, lit_200, lit_644, lit_736, lit_999, lit_1000, lit_9999, lit_10000, lit_1000000000, ↓wp_mlet, ↓wp_mbp, ↓wp_ite, ↓wp_mix, ↓wp_mdiv, ↓wp_mnz, ↓wp_some, ↓wp_mbnd, ↓mlet_eq, ↓mbp_eq, ↓mbnd_eq, ↓mix_ite, ↓mdiv_ite, ↓mnz_ite, nI_add, nI_mul, nI_nat, nI_ltE, nI_leE, nI_eqE, nI_eqN, nI_Neq, nI_Nlt, nI_Nle, nI_ltN, nI_leN, ↓reduceIte, ↓Nat.reduceEqDiff, and_f, nt_e, nt_t, nl_t, nl_f, ne_t, ne_f, and_self, or_self, or_true, true_or, or_false, false_or, if_true, if_false, and_true, true_and, and_false, false_and, not_true, not_false_iff]) L 21 0 kk (by omega) (by omega)
  have k2 : f_L_runs_L2 L (fun i => nI (tx i)) 21 (nI 0) (fedM M tx 0) kk = kk (fedM M tx L) := key
  rw [fedM_0 h] at k2
  exact k2
/-- what a run of a text comes to -/
theorem z_runs {M : Mem} {α : Sp} {αh : Nat → Sp} {K nx H L : Nat} {tx : Nat → Nat} (hz : RZ M α αh K nx) (hi : Inv H α) (hH : H < 800000) (hL : L ≤ 20) (ht : ∀ i, i < L → tx i < 65536) : ∃ r M1, f_L_runs L (fun i => nI (tx i)) M = some (r, M1) ∧
    ((∃ n β, (prS tx L 13 0).1 = true ∧ n = (prS tx L 13 0).2.2 ∧ 1 ≤ n ∧ n ≤ 13 ∧ exS tx L n 0 α = .inr β ∧ r = nI n ∧ Inv (H + 24 * n) β ∧ RZ M1 β (pushH αh K α) (minK K) ((nx + 1) % 9)) ∨ ((∃ c, 71 ≤ c ∧ c ≤ 79 ∧ r = -nI c) ∧ RZ M1 α αh K nx)) := by
  obtain ⟨hR, hH2, hF⟩ := hz
  have hH3 : RH (fedM M tx L) αh K nx := RH_same hH2 (fedM_ne (by decide)) (fun a _ _ _ => funext fun b => fedM_ne (by omega))
  have hR3 : RC ((fedM M tx L) 0) α := by rw [show (fedM M tx L) 0 = M 0 from funext fun b => fedM_ne (by omega)]; exact hR
  obtain ⟨x1, x2, x3, x4, x6⟩ := id hH3
  obtain ⟨k1, k2⟩ := c_run (fedM_txt (M := M) (by omega) ht) x1 x2 x3 x4 hR3 hi hH
  unfold f_L_runs
  simp only [lit_0, lit_1, lit_2, lit_3, lit_4, lit_5, lit_6, lit_7, lit_8, lit_9, lit_10, lit_11, lit_12, lit_13, lit_14, lit_15, lit_16, lit_20, lit_23, lit_24, lit_31, lit_32, lit_39, lit_43, lit_45, lit_47, lit_48, lit_56, lit_57, lit_59, lit_60, lit_62, lit_63, lit_89, lit_92, lit_96, lit_97, lit_99, lit_100, lit_102, lit_103, lit_104, lit_110, lit_111, lit_115, lit_117, lit_194, lit_200, lit_644, lit_736, lit_999, lit_1000, lit_9999, lit_10000, lit_1000000000]
  rw [z_feeds hF hL ht]
  unfold f_L_runCommands
  cases q : (prS tx L 13 0).1 with
  | false =>
    obtain ⟨o, M1, e1, rfl, p1, p2, p3, p4, p5⟩ := k1 q
    refine ⟨-nI 78, M1, ?_, Or.inr ⟨⟨78, by decide, by decide, rfl⟩, ?_, RH_same hH3 (p5 12 17 (by decide)) (fun a _ _ _ => funext fun b => p5 a b (by omega)), p3⟩⟩
    · rw [e1]; rfl
    · rw [show M1 0 = (fedM M tx L) 0 from funext fun b => p5 0 b (by omega)]; exact hR3
  | true =>
    obtain ⟨⟨n1, n2, -⟩, k3, k4⟩ := k2 q
    cases e : exS tx L (prS tx L 13 0).2.2 0 α with
    | inr β =>
      obtain ⟨hb, o, M1, e1, rfl, p1, p2, p3, p4, p5, p6⟩ := k3 β e
      refine ⟨nI (prS tx L 13 0).2.2, M1, ?_, Or.inl ⟨_, β, rfl, rfl, n1, by omega, e, rfl, hb, p1, RH_push hH3 p2 p3 p4 (fun a q1 q2 q3 => funext fun b => p6 a b (by omega) q3 (by omega)), p5⟩⟩
      rw [e1]; rfl
    | inl jc =>
      obtain ⟨j, cz⟩ := jc
      obtain ⟨c1, c2, o, M1, e1, rfl, p1, p2, p3, p4⟩ := k4 j cz e
      refine ⟨-nI 76, M1, ?_, Or.inr ⟨⟨76, by decide, by decide, rfl⟩, p1, RH_same hH3 (p4 12 17 (by decide) (by omega) (by decide)) (fun a q1 q2 q3 => funext fun b => p4 a b (by omega) q3 (by omega)), p3⟩⟩
      rw [e1]; rfl
