theorem c_bhour {M : Mem} {α : Sp} {H g : Nat} (hb : Rb (M g) α) (hi : Inv H α) (hH : H < 999999) : wp (f_X1_passOneHour g M) (fun r M1 => r = nI (msk (walkSp α) 8) ∧ Rb (M1 g) (hz (walkSp α) 8) ∧ (∀ i, ¬ (6 ≤ i ∧ i ≤ 11) → M1 g i = M g i) ∧ ∀ a, a ≠ g → M1 a = M a) := by
  have g1 := Gd_inc hi hH
  have g2 := Gd_walk hi hH
  obtain ⟨⟨b0, b1, b2, b3, b4, b5, b6, b7, b8, b9, b10, b11, b14⟩, -, -, bs, bk, -, bz, -, bg, -⟩ := hi
  obtain ⟨r0, r3, r4, r5, r6, r7, r8⟩ := id hb
  unfold f_X1_passOneHour f_X1_beginHour
  generalize hN : (1000 : Nat) = N
  have hI : Rb ((mup M g 6 0 (nI (α 11 + 1))) g) (incSp α) := by
    unfold incSp
    refine ⟨?_, ?_, ?_, fun k hk => ?_, fun k hk => ?_, fun k hk hk9 => ?_, fun k hk => ?_⟩
    · simp (disch := omega) only [mup_at, up_at, fil_at, ↓reduceIte, ↓Nat.reduceEqDiff, and_f, nt_e, nt_t, nl_t, nl_f, ne_t, ne_f, and_self, or_self, or_true, true_or, or_false, false_or, if_true, if_false, and_true, true_and, and_false, false_and, not_true, not_false_iff]
    · simp (disch := omega) only [mup_at, up_at, fil_at, ↓reduceIte, ↓Nat.reduceEqDiff, and_f, nt_e, nt_t, nl_t, nl_f, ne_t, ne_f, and_self, or_self, or_true, true_or, or_false, false_or, if_true, if_false, and_true, true_and, and_false, false_and, not_true, not_false_iff, r3]
    · simp (disch := omega) only [mup_at, up_at, fil_at, ↓reduceIte, ↓Nat.reduceEqDiff, and_f, nt_e, nt_t, nl_t, nl_f, ne_t, ne_f, and_self, or_self, or_true, true_or, or_false, false_or, if_true, if_false, and_true, true_and, and_false, false_and, not_true, not_false_iff, r4]
    · simp (disch := omega) only [mup_at, up_at, fil_at, ↓reduceIte, ↓Nat.reduceEqDiff, and_f, nt_e, nt_t, nl_t, nl_f, ne_t, ne_f, and_self, or_self, or_true, true_or, or_false, false_or, if_true, if_false, and_true, true_and, and_false, false_and, not_true, not_false_iff, r5 k hk]
    · simp (disch := omega) only [mup_at, up_at, fil_at, ↓reduceIte, ↓Nat.reduceEqDiff, and_f, nt_e, nt_t, nl_t, nl_f, ne_t, ne_f, and_self, or_self, or_true, true_or, or_false, false_or, if_true, if_false, and_true, true_and, and_false, false_and, not_true, not_false_iff, r6 k hk]
    · simp (disch := omega) only [mup_at, up_at, fil_at, ↓reduceIte, ↓Nat.reduceEqDiff, and_f, nt_e, nt_t, nl_t, nl_f, ne_t, ne_f, and_self, or_self, or_true, true_or, or_false, false_or, if_true, if_false, and_true, true_and, and_false, false_and, not_true, not_false_iff] at hk9
      have q := r7 k hk hk9
      refine ⟨?_, ?_, ?_⟩
      · simp (disch := omega) only [mup_at, up_at, fil_at, ↓reduceIte, ↓Nat.reduceEqDiff, and_f, nt_e, nt_t, nl_t, nl_f, ne_t, ne_f, and_self, or_self, or_true, true_or, or_false, false_or, if_true, if_false, and_true, true_and, and_false, false_and, not_true, not_false_iff, q.1]
      · simp (disch := omega) only [mup_at, up_at, fil_at, ↓reduceIte, ↓Nat.reduceEqDiff, and_f, nt_e, nt_t, nl_t, nl_f, ne_t, ne_f, and_self, or_self, or_true, true_or, or_false, false_or, if_true, if_false, and_true, true_and, and_false, false_and, not_true, not_false_iff, q.2.1]
      · simp (disch := omega) only [mup_at, up_at, fil_at, ↓reduceIte, ↓Nat.reduceEqDiff, and_f, nt_e, nt_t, nl_t, nl_f, ne_t, ne_f, and_self, or_self, or_true, true_or, or_false, false_or, if_true, if_false, and_true, true_and, and_false, false_and, not_true, not_false_iff, q.2.2]
    · obtain ⟨c, c1, c2⟩ := r8 k hk
      exact ⟨c, c1, by simp (disch := omega) only [mup_at, up_at, fil_at, ↓reduceIte, ↓Nat.reduceEqDiff, and_f, nt_e, nt_t, nl_t, nl_f, ne_t, ne_f, and_self, or_self, or_true, true_or, or_false, false_or, if_true, if_false, and_true, true_and, and_false, false_and, not_true, not_false_iff, c2]⟩
  obtain ⟨M1, ⟨h1, h2, h3⟩, e1⟩ := c_walk hN hI g1 (fun M13 => some ((), M13))
  have e10 : incSp α 10 = α 10 := by unfold incSp; rw [up_at, if_neg (by decide)]
  rw [e10] at h1
  obtain ⟨M2, ⟨k1, k2, k3⟩, e2⟩ := c_zones hN h1 g2 (fun k hk => by
    show walkSp α (31 + k) ≤ 20
    rw [walkSp_ne (by omega) (by omega) b10]; exact (bz k hk).1) (fun x24 M25 => some (x24, M25))
  simp only [lit_0, lit_1, lit_2, lit_3, lit_4, lit_5, lit_6, lit_7, lit_8, lit_9, lit_10, lit_11, lit_12, lit_13, lit_14, lit_15, lit_16, lit_20, lit_23, lit_24, lit_31, lit_32, lit_39, lit_43, lit_45, lit_47, lit_48, lit_56, lit_57, lit_59, lit_60, lit_62, lit_63, lit_89, lit_92, lit_96, lit_97, lit_99, lit_100, lit_102, lit_103, lit_104, lit_110, lit_111, lit_115, lit_117, lit_194, lit_200, lit_644, lit_736, lit_999, lit_1000, lit_9999, lit_10000, lit_1000000000, r0, nI_add, mlet_eq]
  rw [e1, wp_mbnd, wp_some, e2, wp_some]
  refine ⟨rfl, k1, fun i h => ?_, fun a h => ?_⟩
  · rw [k2 i (by omega), h2 i (by omega), pm_ne (by omega)]
  · rw [k3 a h, h3 a h, pm_g h]
/-- the class's entries of the alarms of an hour -/
theorem c_alarms {M : Mem} {γ δ : Sp} {N : Nat} (hN : 1000 = N) (hj : Rj (M 0) γ) (h14 : γ 14 ≤ 12) (h11 : M 0 6 0 = nI (γ 11)) (kk : Mem → Option (Unit × Mem)) : ∃ M1, (Rj (M1 0) (lgs γ 8) ∧ (∀ i, ¬ (12 ≤ i ∧ i ≤ 15) → M1 0 i = M 0 i) ∧ ∀ a, a ≠ 0 → M1 a = M a) ∧ f_X9_enterAlarms_L2 0 (nI (msk γ 8)) N (nI 0) M kk = kk M1 := by
  refine mloopP (F := fun n x s kk => f_X9_enterAlarms_L2 0 (nI (msk γ 8)) n x s kk) (c := 8) (fun x M1 => Rj (M1 0) (lgs γ x) ∧ (∀ i, ¬ (12 ≤ i ∧ i ≤ 15) → M1 0 i = M 0 i) ∧ ∀ a, a ≠ 0 → M1 a = M a) (fun n x M1 kk hx h => ?_) (fun n M1 kk h => ?_) 8 N 0 M kk (by omega) (by omega) ⟨hj, fun _ _ => rfl, fun _ _ => rfl⟩
  · obtain ⟨hJ, hI, hne⟩ := h
    have eb := msk_bit γ hx
    show ∃ s', _ ∧ f_X9_enterAlarms_L2 0 (nI (msk γ 8)) (n + 1) (nI x) M1 kk = f_X9_enterAlarms_L2 0 (nI (msk γ 8)) n (nI (x + 1)) s' kk
    rw [f_X9_enterAlarms_L2.eq_2]
    have e6 : M1 0 6 0 = nI (lgs γ x 11) := by rw [hI 6 (by decide), h11, lgs_ne h14 (by decide) (by decide)]
    by_cases ha : isAl γ x = true
    · obtain ⟨⟨⟩, M2, e, q1, q2, q3⟩ := c_enter (k := 97) (w := x) hJ (lgs_14 h14 x) (by decide)
      refine ⟨M2, ⟨?_, fun i h => by rw [q2 i h, hI i h], fun a h => by rw [q3 a h, hne a h]⟩, ?_⟩
      · show Rj (M2 0) (if isAl γ x then sLog (lgs γ x) 97 x else lgs γ x)
        rw [ha]
        exact q1
      · rw [ha] at eb
        simp (disch := omega) only [lit_0, lit_1, lit_2, lit_3, lit_4, lit_5, lit_6, lit_7, lit_8, lit_9, lit_10, lit_11, lit_12, lit_13, lit_14, lit_15, lit_16, lit_20, lit_23, lit_24, lit_31, lit_32, lit_39, lit_43, lit_45, lit_47, lit_48, lit_56, lit_57, lit_59, lit_60, lit_62, lit_63, lit_89, lit_92, lit_96, lit_97, lit_99, lit_100, lit_102, lit_103, lit_104, lit_110, lit_111, lit_115, lit_117, lit_194, lit_200, lit_644, lit_736, lit_999, lit_1000, lit_9999, lit_10000, lit_1000000000, ↓wp_mlet, ↓wp_mbp, ↓wp_ite, ↓wp_mix, ↓wp_mdiv, ↓wp_mnz, ↓wp_some, ↓wp_mbnd, ↓mlet_eq, ↓mbp_eq, ↓mbnd_eq, ↓mix_ite, ↓mdiv_ite, ↓mnz_ite, nI_add, nI_mul, nI_nat, nI_ltE, nI_leE, nI_eqE, nI_eqN, nI_Neq, nI_Nlt, nI_Nle, nI_ltN, nI_leN, ↓reduceIte, ↓Nat.reduceEqDiff, and_f, nt_e, nt_t, nl_t, nl_f, ne_t, ne_f, and_self, or_self, or_true, true_or, or_false, false_or, if_true, if_false, and_true, true_and, and_false, false_and, not_true, not_false_iff, eb, e6, e, Bool.toNat_true]
    · have ha' : isAl γ x = false := by simpa using ha
      refine ⟨M1, ⟨?_, hI, hne⟩, ?_⟩
      · show Rj (M1 0) (if isAl γ x then sLog (lgs γ x) 97 x else lgs γ x)
        rw [ha']
        exact hJ
      · rw [ha'] at eb
        simp (disch := omega) only [lit_0, lit_1, lit_2, lit_3, lit_4, lit_5, lit_6, lit_7, lit_8, lit_9, lit_10, lit_11, lit_12, lit_13, lit_14, lit_15, lit_16, lit_20, lit_23, lit_24, lit_31, lit_32, lit_39, lit_43, lit_45, lit_47, lit_48, lit_56, lit_57, lit_59, lit_60, lit_62, lit_63, lit_89, lit_92, lit_96, lit_97, lit_99, lit_100, lit_102, lit_103, lit_104, lit_110, lit_111, lit_115, lit_117, lit_194, lit_200, lit_644, lit_736, lit_999, lit_1000, lit_9999, lit_10000, lit_1000000000, ↓wp_mlet, ↓wp_mbp, ↓wp_ite, ↓wp_mix, ↓wp_mdiv, ↓wp_mnz, ↓wp_some, ↓wp_mbnd, ↓mlet_eq, ↓mbp_eq, ↓mbnd_eq, ↓mix_ite, ↓mdiv_ite, ↓mnz_ite, nI_add, nI_mul, nI_nat, nI_ltE, nI_leE, nI_eqE, nI_eqN, nI_Neq, nI_Nlt, nI_Nle, nI_ltN, nI_leN, ↓reduceIte, ↓Nat.reduceEqDiff, and_f, nt_e, nt_t, nl_t, nl_f, ne_t, ne_f, and_self, or_self, or_true, true_or, or_false, false_or, if_true, if_false, and_true, true_and, and_false, false_and, not_true, not_false_iff, eb, Bool.toNat_false]
  · show f_X9_enterAlarms_L2 0 (nI (msk γ 8)) (n + 1) (nI 8) M1 kk = kk M1
    rw [f_X9_enterAlarms_L2.eq_2]
    simp (disch := omega) only [lit_0, lit_1, lit_2, lit_3, lit_4, lit_5, lit_6, lit_7, lit_8, lit_9, lit_10, lit_11, lit_12, lit_13, lit_14, lit_15, lit_16, lit_20, lit_23, lit_24, lit_31, lit_32, lit_39, lit_43, lit_45, lit_47, lit_48, lit_56, lit_57, lit_59, lit_60, lit_62, lit_63, lit_89, lit_92, lit_96, lit_97, lit_99, lit_100, lit_102, lit_103, lit_104, lit_110, lit_111, lit_115, lit_117, lit_194, lit_200, lit_644, lit_736, lit_999, lit_1000, lit_9999, lit_10000, lit_1000000000, ↓wp_mlet, ↓wp_mbp, ↓wp_ite, ↓wp_mix, ↓wp_mdiv, ↓wp_mnz, ↓wp_some, ↓wp_mbnd, ↓mlet_eq, ↓mbp_eq, ↓mbnd_eq, ↓mix_ite, ↓mdiv_ite, ↓mnz_ite, nI_add, nI_mul, nI_nat, nI_ltE, nI_leE, nI_eqE, nI_eqN, nI_Neq, nI_Nlt, nI_Nle, nI_ltN, nI_leN, ↓reduceIte, ↓Nat.reduceEqDiff, and_f, nt_e, nt_t, nl_t, nl_f, ne_t, ne_f, and_self, or_self, or_true, true_or, or_false, false_or, if_true, if_false, and_true, true_and, and_false, false_and, not_true, not_false_iff]
theorem hourSp_hz {α : Sp} {j : Nat} (h : j ≠ 7) (h2 : ¬ (j = 14 ∨ 56 ≤ j ∧ j < 92)) : hourSp α j = hz (walkSp α) 8 j := by
  unfold hourSp
  rw [up_at, if_neg h, hT_at, if_neg h2]
theorem hourSp_k {α : Sp} {j : Nat} (h10 : α 10 ≤ 3) (h : j < 7 ∨ 8 ≤ j ∧ j ≤ 10 ∨ j = 12 ∨ 15 ≤ j ∧ j < 31) : hourSp α j = α j := by
  rw [hourSp_hz (by omega) (by omega), hz_at, if_neg (by omega), if_neg (by omega), if_neg (by omega), walkSp_ne (by omega) (by omega) h10]
theorem hourSp_lg {α : Sp} {j : Nat} (h2 : j = 14 ∨ 56 ≤ j ∧ j < 92) : hourSp α j = lgs (walkSp α) 8 j := by
  unfold hourSp
  rw [up_at, if_neg (by omega), hT_at, if_pos h2]
theorem hourSp_7 {α : Sp} (h10 : α 10 ≤ 3) : hourSp α 7 = α 7 - 1 := by
  unfold hourSp
  rw [up_at, if_pos rfl, walkSp_ne (by decide) (by decide) h10]
/-- an hour of the class, as passHours has it -/
theorem c_hour {M : Mem} {α : Sp} {H : Nat} {Q : Unit → Mem → Prop} (hR : RC (M 0) α) (hi : Inv H α) (hH : H < 999999) (hQ : ∀ M1, RC (M1 0) (hourSp α) → (∀ a, a ≠ 0 → M1 a = M a) → (∀ i, M1 0 0 i = M 0 0 i) → Q () M1) :
    wp (f_X1_passOneHour 0 M) (fun r7 M8 => wp (f_X9_enterAlarms 0 r7 M8) (fun _ M10 => wp (f_X3_passOneHour 0 M10) Q)) := by
  obtain ⟨hk, hd, hb, hj⟩ := hR
  have hw := c_bhour hb hi hH
  obtain ⟨⟨b0, b1, b2, b3, b4, b5, b6, b7, b8, b9, b10, b11, b14⟩, -, -, bs, bk, -, bz, -, bg, -⟩ := hi
  refine wp_mono hw ?_
  rintro r M1 ⟨rfl, h1, h2, h3⟩
  unfold f_X9_enterAlarms
  generalize hN : (1000 : Nat) = N
  have w14 : walkSp α 14 = α 14 := walkSp_ne (by decide) (by decide) b10
  have hj1 : Rj (M1 0) (walkSp α) := Rj.of (fun i q1 q2 => h2 i (by omega)) (fun j q => walkSp_ne (by omega) (by omega) b10) hj
  have e11 : M1 0 6 0 = nI (walkSp α 11) := by
    rw [h1.1, hz_g (by decide) (by decide)]
  obtain ⟨M2, ⟨k1, k2, k3⟩, e2⟩ := c_alarms (δ := α) hN hj1 (by rw [w14]; exact b14) e11 (fun M10 => some ((), M10))
  simp only [lit_0, lit_1, lit_2, lit_3, lit_4, lit_5, lit_6, lit_7, lit_8, lit_9, lit_10, lit_11, lit_12, lit_13, lit_14, lit_15, lit_16, lit_20, lit_23, lit_24, lit_31, lit_32, lit_39, lit_43, lit_45, lit_47, lit_48, lit_56, lit_57, lit_59, lit_60, lit_62, lit_63, lit_89, lit_92, lit_96, lit_97, lit_99, lit_100, lit_102, lit_103, lit_104, lit_110, lit_111, lit_115, lit_117, lit_194, lit_200, lit_644, lit_736, lit_999, lit_1000, lit_9999, lit_10000, lit_1000000000]
  rw [e2, wp_some]
  unfold f_X3_passOneHour
  have e7 : M2 0 5 1 = nI (α 7) := by rw [k2 5 (by decide), h2 5 (by decide)]; exact hd.2.1
  have fin : ∀ M3 : Mem, (∀ i, i ≠ 5 → M3 0 i = M2 0 i) → (∀ k, k ≠ 1 → M3 0 5 k = M2 0 5 k) → M3 0 5 1 = nI (α 7 - 1) → (∀ a, a ≠ 0 → M3 a = M2 a) → Q () M3 := by
    intro M3 q1 q2 q3 q4
    refine hQ M3 ⟨?_, ?_, ?_, ?_⟩ (fun a h => by rw [q4 a h, k3 a h, h3 a h]) (fun i => by rw [q1 0 (by decide), k2 0 (by decide), h2 0 (by decide)])
    · exact Rk.of (fun i _ _ => by rw [q1 i (by omega), k2 i (by omega), h2 i (by omega)]) (fun j q => hourSp_k b10 (by omega)) hk
    · refine ⟨?_, ?_, ?_, ?_⟩
      · rw [q2 0 (by decide), k2 5 (by decide), h2 5 (by decide), hourSp_k b10 (by omega)]; exact hd.1
      · rw [q3, hourSp_7 b10]
      · rw [q2 2 (by decide), k2 5 (by decide), h2 5 (by decide), hourSp_k b10 (by omega)]; exact hd.2.2.1
      · rw [q2 3 (by decide), k2 5 (by decide), h2 5 (by decide), hourSp_k b10 (by omega)]; exact hd.2.2.2
    · exact Rb.of (fun i _ _ => by rw [q1 i (by omega), k2 i (by omega)]) (fun j q => hourSp_hz (by omega) (by omega)) h1
    · exact Rj.of (fun i _ _ => q1 i (by omega)) (fun j q => hourSp_lg (by omega)) k1
  by_cases q : α 7 = 0
  · simp (disch := omega) only [lit_0, lit_1, lit_2, lit_3, lit_4, lit_5, lit_6, lit_7, lit_8, lit_9, lit_10, lit_11, lit_12, lit_13, lit_14, lit_15, lit_16, lit_20, lit_23, lit_24, lit_31, lit_32, lit_39, lit_43, lit_45, lit_47, lit_48, lit_56, lit_57, lit_59, lit_60, lit_62, lit_63, lit_89, lit_92, lit_96, lit_97, lit_99, lit_100, lit_102, lit_103, lit_104, lit_110, lit_111, lit_115, lit_117, lit_194, lit_200, lit_644, lit_736, lit_999, lit_1000, lit_9999, lit_10000, lit_1000000000, ↓wp_mlet, ↓wp_mbp, ↓wp_ite, ↓wp_mix, ↓wp_mdiv, ↓wp_mnz, ↓wp_some, ↓wp_mbnd, ↓mlet_eq, ↓mbp_eq, ↓mbnd_eq, ↓mix_ite, ↓mdiv_ite, ↓mnz_ite, nI_add, nI_mul, nI_nat, nI_ltE, nI_leE, nI_eqE, nI_eqN, nI_Neq, nI_Nlt, nI_Nle, nI_ltN, nI_leN, ↓reduceIte, ↓Nat.reduceEqDiff, and_f, nt_e, nt_t, nl_t, nl_f, ne_t, ne_f, and_self, or_self, or_true, true_or, or_false, false_or, if_true, if_false, and_true, true_and, and_false, false_and, not_true, not_false_iff, e7, q]
    exact fin M2 (fun _ _ => rfl) (fun _ _ => rfl) (by rw [e7, q]) (fun _ _ => rfl)
  · simp (disch := omega) only [lit_0, lit_1, lit_2, lit_3, lit_4, lit_5, lit_6, lit_7, lit_8, lit_9, lit_10, lit_11, lit_12, lit_13, lit_14, lit_15, lit_16, lit_20, lit_23, lit_24, lit_31, lit_32, lit_39, lit_43, lit_45, lit_47, lit_48, lit_56, lit_57, lit_59, lit_60, lit_62, lit_63, lit_89, lit_92, lit_96, lit_97, lit_99, lit_100, lit_102, lit_103, lit_104, lit_110, lit_111, lit_115, lit_117, lit_194, lit_200, lit_644, lit_736, lit_999, lit_1000, lit_9999, lit_10000, lit_1000000000, ↓wp_mlet, ↓wp_mbp, ↓wp_ite, ↓wp_mix, ↓wp_mdiv, ↓wp_mnz, ↓wp_some, ↓wp_mbnd, ↓mlet_eq, ↓mbp_eq, ↓mbnd_eq, ↓mix_ite, ↓mdiv_ite, ↓mnz_ite, nI_add, nI_mul, nI_nat, nI_ltE, nI_leE, nI_eqE, nI_eqN, nI_Neq, nI_Nlt, nI_Nle, nI_ltN, nI_leN, ↓reduceIte, ↓Nat.reduceEqDiff, and_f, nt_e, nt_t, nl_t, nl_f, ne_t, ne_f, and_self, or_self, or_true, true_or, or_false, false_or, if_true, if_false, and_true, true_and, and_false, false_and, not_true, not_false_iff, e7, nI_subE]
    exact fin _ (fun i h => by rw [pm_ne (by omega)]) (fun k h => by rw [mup_at, if_neg (by omega)]) (by rw [mup_at, if_pos (by decide)]) (fun a h => pm_g h)
