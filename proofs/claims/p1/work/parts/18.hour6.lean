/-- the bounds an hour later -/
theorem inv_hour {α : Sp} {H : Nat} (hi : Inv H α) (hH : H < 999999) : Inv (H + 1) (hourSp α) := by
  have g2 := Gd_walk hi hH
  obtain ⟨⟨b0, b1, b2, b3, b4, b5, b6, b7, b8, b9, b10, b11, b14⟩, i1, i2, bs, bk, bn, bz, bt, bg, bl⟩ := hi
  have w14 : walkSp α 14 = α 14 := walkSp_ne (by decide) (by decide) b10
  have kz : ∀ z, z < 8 → (isAl (walkSp α) z).toNat ≤ 1 := fun z _ => by cases isAl (walkSp α) z <;> decide
  have e11 : hourSp α 11 = α 11 + 1 := by rw [hourSp_hz (by decide) (by decide), hz_g (by decide) (by decide), walkSp_11]
  have eA : ∀ k, k < 8 → hourSp α (39 + k) = α (39 + k) + (isAl (walkSp α) k).toNat := fun k hk => by
    rw [hourSp_hz (by omega) (by omega), hz_at, if_neg (by omega), if_neg (by omega), if_pos (by omega), walkSp_ne (by omega) (by omega) b10, show 39 + k - 39 = k by omega]
  have e13 : hourSp α 13 = α 13 + cntA (walkSp α) 8 := by rw [hourSp_hz (by decide) (by decide), hz_at, if_pos rfl, walkSp_ne (by decide) (by decide) b10]
  refine ⟨⟨?_, ?_, ?_, ?_, ?_, ?_, ?_, ?_, ?_, ?_, ?_, ?_, ?_⟩, ?_, ?_, fun k hk => ?_, fun k hk => ?_, fun i k h1 hk => ?_, fun k hk => ?_, ?_, fun k hk => ?_, fun k hk => ?_⟩
  · rw [hourSp_k b10 (by omega)]; exact b0
  · rw [hourSp_k b10 (by omega)]; exact b1
  · rw [hourSp_k b10 (by omega)]; exact b2
  · rw [hourSp_k b10 (by omega)]; exact b3
  · rw [hourSp_k b10 (by omega)]; exact b4
  · rw [hourSp_k b10 (by omega)]; exact b5
  · rw [hourSp_k b10 (by omega)]; exact b6
  · rw [hourSp_7 b10]; omega
  · rw [hourSp_k b10 (by omega)]; exact b8
  · rw [hourSp_k b10 (by omega), hourSp_k b10 (by omega)]; exact b9
  · rw [hourSp_k b10 (by omega)]; exact b10
  · rw [e11]; omega
  · rw [hourSp_lg (by omega)]; exact lgs_14 (by rw [w14]; exact b14) 8
  · rw [hourSp_k b10 (by omega), hourSp_k b10 (by omega), hourSp_k b10 (by omega)]; exact i1
  · rw [hourSp_k b10 (by omega), hourSp_k b10 (by omega)]; exact i2
  · rw [hourSp_k b10 (by omega)]; exact bs k hk
  · rw [hourSp_k b10 (by omega)] at hk
    rw [hourSp_k b10 (by omega), hourSp_k b10 (by omega)]; exact bk k hk
  · rw [hourSp_k b10 (by omega)] at hk
    rw [hourSp_k b10 (by omega), hourSp_k b10 (by omega)]; exact bn i k h1 hk
  · refine ⟨?_, ?_⟩
    · rw [hourSp_hz (by omega) (by omega), hz_at, if_neg (by omega), if_pos (by omega), show 31 + k - 31 = k by omega]
      unfold nzV
      rw [walkSp_ne (by omega) (by omega) b10]
      have := (bz k hk).1
      split <;> omega
    · rw [eA k hk, e11]
      have := (bz k hk).2
      have := kz k hk
      omega
  · have A0 : hourSp α 39 = α 39 + (isAl (walkSp α) 0).toNat := eA 0 (by decide)
    have A1 : hourSp α 40 = α 40 + (isAl (walkSp α) 1).toNat := eA 1 (by decide)
    have A2 : hourSp α 41 = α 41 + (isAl (walkSp α) 2).toNat := eA 2 (by decide)
    have A3 : hourSp α 42 = α 42 + (isAl (walkSp α) 3).toNat := eA 3 (by decide)
    have A4 : hourSp α 43 = α 43 + (isAl (walkSp α) 4).toNat := eA 4 (by decide)
    have A5 : hourSp α 44 = α 44 + (isAl (walkSp α) 5).toNat := eA 5 (by decide)
    have A6 : hourSp α 45 = α 45 + (isAl (walkSp α) 6).toNat := eA 6 (by decide)
    have A7 : hourSp α 46 = α 46 + (isAl (walkSp α) 7).toNat := eA 7 (by decide)
    rw [e13, A0, A1, A2, A3, A4, A5, A6, A7, bt]
    show α 39 + α 40 + α 41 + α 42 + α 43 + α 44 + α 45 + α 46 + (0 + (isAl (walkSp α) 0).toNat + (isAl (walkSp α) 1).toNat + (isAl (walkSp α) 2).toNat + (isAl (walkSp α) 3).toNat + (isAl (walkSp α) 4).toNat + (isAl (walkSp α) 5).toNat + (isAl (walkSp α) 6).toNat + (isAl (walkSp α) 7).toNat) = _
    omega
  · rw [hourSp_k b10 (by omega)] at hk
    have q := g2.2.2 k (by rw [walkSp_ne (by decide) (by decide) b10]; exact hk)
    rw [hourSp_hz (by omega) (by omega), hz_g (by omega) (by omega), hourSp_hz (by omega) (by omega), hz_g (by omega) (by omega), hourSp_hz (by omega) (by omega), hz_g (by omega) (by omega)]
    exact q
  · have hl : LI (walkSp α) := fun i hi => by
      rw [w14] at hi
      rw [walkSp_ne (j := 56 + 3 * i) (by omega) (by omega) b10, walkSp_ne (j := 57 + 3 * i) (by omega) (by omega) b10, walkSp_ne (j := 58 + 3 * i) (by omega) (by omega) b10, walkSp_11]
      have := bl i hi
      exact ⟨by omega, this.2⟩
    have hl8 := LI_lgs (by rw [w14]; exact b14) hl 8 (by decide)
    have h14 := lgs_14 (γ := walkSp α) (by rw [w14]; exact b14) 8
    rw [hourSp_lg (by omega)] at hk
    rw [hourSp_lg (j := 56 + 3 * k) (by omega), hourSp_lg (j := 57 + 3 * k) (by omega), hourSp_lg (j := 58 + 3 * k) (by omega), e11]
    have := hl8 k hk
    rw [lgs_ne (j := 11) (by rw [w14]; exact b14) (by decide) (by decide), walkSp_11] at this
    exact this
/-! hours, one after the other -/
def hrs (α : Sp) : Nat → Sp
  | 0 => α
  | n + 1 => hourSp (hrs α n)
def hrsN (α : Sp) : Nat → Nat
  | 0 => 0
  | n + 1 => hrsN α n + cntA (walkSp (hrs α n)) 8
theorem inv_hrs {α : Sp} {H : Nat} (hi : Inv H α) : ∀ n, H + n < 999999 → Inv (H + n) (hrs α n) := by
  intro n
  induction n with
  | zero => intro _; exact hi
  | succ n ih =>
    intro h
    exact inv_hour (H := H + n) (ih (by omega)) (by omega)
theorem hrs_13 {α : Sp} {H : Nat} (hi : Inv H α) : ∀ n, H + n < 999999 → hrs α n 13 = α 13 + hrsN α n := by
  intro n
  induction n with
  | zero => intro _; rfl
  | succ n ih =>
    intro h
    have hn := inv_hrs hi n (by omega)
    show hourSp (hrs α n) 13 = α 13 + (hrsN α n + cntA (walkSp (hrs α n)) 8)
    rw [hourSp_hz (by decide) (by decide), hz_at, if_pos rfl, walkSp_ne (by decide) (by decide) hn.1.2.2.2.2.2.2.2.2.2.2.1, ih (by omega)]
    omega
def sHours (α : Sp) (a1 : Int32) : Ex := if rng1 a1 24 then .inr (hrsN α a1.toNatClampNeg, hrs α a1.toNatClampNeg) else .inl (21, 0)
theorem c_hours {M : Mem} {α : Sp} {H : Nat} (hR : RC (M 0) α) (hi : Inv H α) (hH : H < 900000) (a1 : Int32) : CT M 0 (sHours α a1) (f_X9_tryHours 0 a1 M) := by
  unfold sHours f_X9_tryHours
  generalize hN : (1000 : Nat) = N
  rcases rng1_c a1 24 with ⟨n, h1, h2, rfl, e⟩ | ⟨e, h4⟩
  case inr =>
    rcases h4 with h4 | ⟨j, hj, h4, rfl⟩
    · simp (disch := omega) only [lit_0, lit_1, lit_2, lit_3, lit_4, lit_5, lit_6, lit_7, lit_8, lit_9, lit_10, lit_11, lit_12, lit_13, lit_14, lit_15, lit_16, lit_20, lit_23, lit_24, lit_31, lit_32, lit_39, lit_43, lit_45, lit_47, lit_48, lit_56, lit_57, lit_59, lit_60, lit_62, lit_63, lit_89, lit_92, lit_96, lit_97, lit_99, lit_100, lit_102, lit_103, lit_104, lit_110, lit_111, lit_115, lit_117, lit_194, lit_200, lit_644, lit_736, lit_999, lit_1000, lit_9999, lit_10000, lit_1000000000, ↓wp_mlet, ↓wp_mbp, ↓wp_ite, ↓wp_mix, ↓wp_mdiv, ↓wp_mnz, ↓wp_some, ↓wp_mbnd, ↓mlet_eq, ↓mbp_eq, ↓mbnd_eq, ↓mix_ite, ↓mdiv_ite, ↓mnz_ite, nI_add, nI_mul, nI_nat, nI_ltE, nI_leE, nI_eqE, nI_eqN, nI_Neq, nI_Nlt, nI_Nle, nI_ltN, nI_leN, ↓reduceIte, ↓Nat.reduceEqDiff, and_f, nt_e, nt_t, nl_t, nl_f, ne_t, ne_f, and_self, or_self, or_true, true_or, or_false, false_or, if_true, if_false, and_true, true_and, and_false, false_and, not_true, not_false_iff, toNat_0, Bool.false_and, Bool.true_and, Bool.and_false, Bool.and_true, Bool.false_eq_true, reduceCtorEq, Bool.true_eq_false, Bool.not_true, Bool.not_false, e, (neg_of h4 (n := 1) (by decide)).2.1]
      exact CT_21
    · rcases h4 with h4 | h4
      · simp (disch := omega) only [lit_0, lit_1, lit_2, lit_3, lit_4, lit_5, lit_6, lit_7, lit_8, lit_9, lit_10, lit_11, lit_12, lit_13, lit_14, lit_15, lit_16, lit_20, lit_23, lit_24, lit_31, lit_32, lit_39, lit_43, lit_45, lit_47, lit_48, lit_56, lit_57, lit_59, lit_60, lit_62, lit_63, lit_89, lit_92, lit_96, lit_97, lit_99, lit_100, lit_102, lit_103, lit_104, lit_110, lit_111, lit_115, lit_117, lit_194, lit_200, lit_644, lit_736, lit_999, lit_1000, lit_9999, lit_10000, lit_1000000000, ↓wp_mlet, ↓wp_mbp, ↓wp_ite, ↓wp_mix, ↓wp_mdiv, ↓wp_mnz, ↓wp_some, ↓wp_mbnd, ↓mlet_eq, ↓mbp_eq, ↓mbnd_eq, ↓mix_ite, ↓mdiv_ite, ↓mnz_ite, nI_add, nI_mul, nI_nat, nI_ltE, nI_leE, nI_eqE, nI_eqN, nI_Neq, nI_Nlt, nI_Nle, nI_ltN, nI_leN, ↓reduceIte, ↓Nat.reduceEqDiff, and_f, nt_e, nt_t, nl_t, nl_f, ne_t, ne_f, and_self, or_self, or_true, true_or, or_false, false_or, if_true, if_false, and_true, true_and, and_false, false_and, not_true, not_false_iff, toNat_0, Bool.false_and, Bool.true_and, Bool.and_false, Bool.and_true, Bool.false_eq_true, reduceCtorEq, Bool.true_eq_false, Bool.not_true, Bool.not_false, e]
        exact CT_21
      · simp (disch := omega) only [lit_0, lit_1, lit_2, lit_3, lit_4, lit_5, lit_6, lit_7, lit_8, lit_9, lit_10, lit_11, lit_12, lit_13, lit_14, lit_15, lit_16, lit_20, lit_23, lit_24, lit_31, lit_32, lit_39, lit_43, lit_45, lit_47, lit_48, lit_56, lit_57, lit_59, lit_60, lit_62, lit_63, lit_89, lit_92, lit_96, lit_97, lit_99, lit_100, lit_102, lit_103, lit_104, lit_110, lit_111, lit_115, lit_117, lit_194, lit_200, lit_644, lit_736, lit_999, lit_1000, lit_9999, lit_10000, lit_1000000000, ↓wp_mlet, ↓wp_mbp, ↓wp_ite, ↓wp_mix, ↓wp_mdiv, ↓wp_mnz, ↓wp_some, ↓wp_mbnd, ↓mlet_eq, ↓mbp_eq, ↓mbnd_eq, ↓mix_ite, ↓mdiv_ite, ↓mnz_ite, nI_add, nI_mul, nI_nat, nI_ltE, nI_leE, nI_eqE, nI_eqN, nI_Neq, nI_Nlt, nI_Nle, nI_ltN, nI_leN, ↓reduceIte, ↓Nat.reduceEqDiff, and_f, nt_e, nt_t, nl_t, nl_f, ne_t, ne_f, and_self, or_self, or_true, true_or, or_false, false_or, if_true, if_false, and_true, true_and, and_false, false_and, not_true, not_false_iff, toNat_0, Bool.false_and, Bool.true_and, Bool.and_false, Bool.and_true, Bool.false_eq_true, reduceCtorEq, Bool.true_eq_false, Bool.not_true, Bool.not_false, e]
        exact CT_21
  simp (disch := omega) only [lit_0, lit_1, lit_2, lit_3, lit_4, lit_5, lit_6, lit_7, lit_8, lit_9, lit_10, lit_11, lit_12, lit_13, lit_14, lit_15, lit_16, lit_20, lit_23, lit_24, lit_31, lit_32, lit_39, lit_43, lit_45, lit_47, lit_48, lit_56, lit_57, lit_59, lit_60, lit_62, lit_63, lit_89, lit_92, lit_96, lit_97, lit_99, lit_100, lit_102, lit_103, lit_104, lit_110, lit_111, lit_115, lit_117, lit_194, lit_200, lit_644, lit_736, lit_999, lit_1000, lit_9999, lit_10000, lit_1000000000, ↓wp_mlet, ↓wp_mbp, ↓wp_ite, ↓wp_mix, ↓wp_mdiv, ↓wp_mnz, ↓wp_some, ↓wp_mbnd, ↓mlet_eq, ↓mbp_eq, ↓mbnd_eq, ↓mix_ite, ↓mdiv_ite, ↓mnz_ite, nI_add, nI_mul, nI_nat, nI_ltE, nI_leE, nI_eqE, nI_eqN, nI_Neq, nI_Nlt, nI_Nle, nI_ltN, nI_leN, ↓reduceIte, ↓Nat.reduceEqDiff, and_f, nt_e, nt_t, nl_t, nl_f, ne_t, ne_f, and_self, or_self, or_true, true_or, or_false, false_or, if_true, if_false, and_true, true_and, and_false, false_and, not_true, not_false_iff, e]
  have e13 : M 0 6 3 = nI (α 13) := hR.2.2.1.2.1
  have key := mloopP (F := fun m x s kk => f_X9_tryHours_L24 0 (nI n) m x s kk) (c := n) (fun x M1 => RC (M1 0) (hrs α x) ∧ (∀ a, a ≠ 0 → M1 a = M a)) (fun m x M1 kk hx h => by
    obtain ⟨hR1, hne⟩ := h
    have hi1 := inv_hrs hi x (by omega)
    have hw := c_hour (Q := fun _ M2 => RC (M2 0) (hrs α (x + 1)) ∧ (∀ a, a ≠ 0 → M2 a = M a)) hR1 hi1 (by omega) (fun M2 q1 q2 _ => ⟨q1, fun a h => by rw [q2 a h, hne a h]⟩)
    obtain ⟨r1, M2, w1, r2, M3, w2, r3, M4, w3, w4⟩ := hw
    refine ⟨M4, w4, ?_⟩
    show f_X9_tryHours_L24 0 (nI n) (m + 1) (nI x) M1 kk = f_X9_tryHours_L24 0 (nI n) m (nI (x + 1)) M4 kk
    rw [f_X9_tryHours_L24.eq_2, w1]
    simp (disch := omega) only [lit_0, lit_1, lit_2, lit_3, lit_4, lit_5, lit_6, lit_7, lit_8, lit_9, lit_10, lit_11, lit_12, lit_13, lit_14, lit_15, lit_16, lit_20, lit_23, lit_24, lit_31, lit_32, lit_39, lit_43, lit_45, lit_47, lit_48, lit_56, lit_57, lit_59, lit_60, lit_62, lit_63, lit_89, lit_92, lit_96, lit_97, lit_99, lit_100, lit_102, lit_103, lit_104, lit_110, lit_111, lit_115, lit_117, lit_194, lit_200, lit_644, lit_736, lit_999, lit_1000, lit_9999, lit_10000, lit_1000000000, ↓wp_mlet, ↓wp_mbp, ↓wp_ite, ↓wp_mix, ↓wp_mdiv, ↓wp_mnz, ↓wp_some, ↓wp_mbnd, ↓mlet_eq, ↓mbp_eq, ↓mbnd_eq, ↓mix_ite, ↓mdiv_ite, ↓mnz_ite, nI_add, nI_mul, nI_nat, nI_ltE, nI_leE, nI_eqE, nI_eqN, nI_Neq, nI_Nlt, nI_Nle, nI_ltN, nI_leN, ↓reduceIte, ↓Nat.reduceEqDiff, and_f, nt_e, nt_t, nl_t, nl_f, ne_t, ne_f, and_self, or_self, or_true, true_or, or_false, false_or, if_true, if_false, and_true, true_and, and_false, false_and, not_true, not_false_iff, w2, w3]) (fun m M1 kk h => by
    show f_X9_tryHours_L24 0 (nI n) (m + 1) (nI n) M1 kk = kk M1
    rw [f_X9_tryHours_L24.eq_2]
    simp (disch := omega) only [lit_0, lit_1, lit_2, lit_3, lit_4, lit_5, lit_6, lit_7, lit_8, lit_9, lit_10, lit_11, lit_12, lit_13, lit_14, lit_15, lit_16, lit_20, lit_23, lit_24, lit_31, lit_32, lit_39, lit_43, lit_45, lit_47, lit_48, lit_56, lit_57, lit_59, lit_60, lit_62, lit_63, lit_89, lit_92, lit_96, lit_97, lit_99, lit_100, lit_102, lit_103, lit_104, lit_110, lit_111, lit_115, lit_117, lit_194, lit_200, lit_644, lit_736, lit_999, lit_1000, lit_9999, lit_10000, lit_1000000000, ↓wp_mlet, ↓wp_mbp, ↓wp_ite, ↓wp_mix, ↓wp_mdiv, ↓wp_mnz, ↓wp_some, ↓wp_mbnd, ↓mlet_eq, ↓mbp_eq, ↓mbnd_eq, ↓mix_ite, ↓mdiv_ite, ↓mnz_ite, nI_add, nI_mul, nI_nat, nI_ltE, nI_leE, nI_eqE, nI_eqN, nI_Neq, nI_Nlt, nI_Nle, nI_ltN, nI_leN, ↓reduceIte, ↓Nat.reduceEqDiff, and_f, nt_e, nt_t, nl_t, nl_f, ne_t, ne_f, and_self, or_self, or_true, true_or, or_false, false_or, if_true, if_false, and_true, true_and, and_false, false_and, not_true, not_false_iff]) n N 0 M (fun M14 => some (nI 0, mup M14 0 0 4 (M14 0 6 3 - M 0 6 3))) (by omega) (by omega) ⟨hR, fun _ _ => rfl⟩
  obtain ⟨M1, ⟨hR1, hne⟩, e1⟩ := key
  unfold CT
  rw [e1]
  simp (disch := omega) only [lit_0, lit_1, lit_2, lit_3, lit_4, lit_5, lit_6, lit_7, lit_8, lit_9, lit_10, lit_11, lit_12, lit_13, lit_14, lit_15, lit_16, lit_20, lit_23, lit_24, lit_31, lit_32, lit_39, lit_43, lit_45, lit_47, lit_48, lit_56, lit_57, lit_59, lit_60, lit_62, lit_63, lit_89, lit_92, lit_96, lit_97, lit_99, lit_100, lit_102, lit_103, lit_104, lit_110, lit_111, lit_115, lit_117, lit_194, lit_200, lit_644, lit_736, lit_999, lit_1000, lit_9999, lit_10000, lit_1000000000, ↓wp_mlet, ↓wp_mbp, ↓wp_ite, ↓wp_mix, ↓wp_mdiv, ↓wp_mnz, ↓wp_some, ↓wp_mbnd, ↓mlet_eq, ↓mbp_eq, ↓mbnd_eq, ↓mix_ite, ↓mdiv_ite, ↓mnz_ite, nI_add, nI_mul, nI_nat, nI_ltE, nI_leE, nI_eqE, nI_eqN, nI_Neq, nI_Nlt, nI_Nle, nI_ltN, nI_leN, ↓reduceIte, ↓Nat.reduceEqDiff, and_f, nt_e, nt_t, nl_t, nl_f, ne_t, ne_f, and_self, or_self, or_true, true_or, or_false, false_or, if_true, if_false, and_true, true_and, and_false, false_and, not_true, not_false_iff]
  have q13 : M1 0 6 3 = nI (α 13 + hrsN α n) := by rw [hR1.2.2.1.2.1, hrs_13 hi n (by omega)]
  obtain ⟨hk, hd, hb, hj⟩ := hR1
  refine ⟨⟨?_, ?_, ?_, ?_⟩, ?_, ?_⟩
  · exact Rk.of (fun i _ _ => by rw [pm_ne (by omega)]) (fun _ _ => rfl) hk
  · exact Rd.of (by rw [pm_ne (by omega)]) (fun _ _ => rfl) hd
  · exact Rb.of (fun i _ _ => by rw [pm_ne (by omega)]) (fun _ _ => rfl) hb
  · exact Rj.of (fun i _ _ => by rw [pm_ne (by omega)]) (fun _ _ => rfl) hj
  · rw [mup_at, if_pos (by decide), q13, e13, nI_add_sub]
  · intro a ha
    rw [pm_g ha, hne a ha]
theorem m_passes {M : Mem} {α : Sp} {H : Nat} (hS : M 12 48 = enc α) (hi : Inv H α) (hH : H < 900000) (a1 : Int32) : MT M 1 (sHours α a1) (f_X12_passes a1 M) := by
  unfold sHours f_X12_passes
  generalize hN : (1000 : Nat) = N
  simp only [lit_0, lit_1, lit_2, lit_3, lit_4, lit_5, lit_6, lit_7, lit_8, lit_9, lit_10, lit_11, lit_12, lit_13, lit_14, lit_15, lit_16, lit_20, lit_23, lit_24, lit_31, lit_32, lit_39, lit_43, lit_45, lit_47, lit_48, lit_56, lit_57, lit_59, lit_60, lit_62, lit_63, lit_89, lit_92, lit_96, lit_97, lit_99, lit_100, lit_102, lit_103, lit_104, lit_110, lit_111, lit_115, lit_117, lit_194, lit_200, lit_644, lit_736, lit_999, lit_1000, lit_9999, lit_10000, lit_1000000000]
  rw [rng_1 a1 24 (by decide)]
  rcases rng1_c a1 24 with ⟨n, h1, h2, rfl, e⟩ | ⟨e, h4⟩
  case inr =>
    simp (disch := omega) only [lit_0, lit_1, lit_2, lit_3, lit_4, lit_5, lit_6, lit_7, lit_8, lit_9, lit_10, lit_11, lit_12, lit_13, lit_14, lit_15, lit_16, lit_20, lit_23, lit_24, lit_31, lit_32, lit_39, lit_43, lit_45, lit_47, lit_48, lit_56, lit_57, lit_59, lit_60, lit_62, lit_63, lit_89, lit_92, lit_96, lit_97, lit_99, lit_100, lit_102, lit_103, lit_104, lit_110, lit_111, lit_115, lit_117, lit_194, lit_200, lit_644, lit_736, lit_999, lit_1000, lit_9999, lit_10000, lit_1000000000, ↓wp_mlet, ↓wp_mbp, ↓wp_ite, ↓wp_mix, ↓wp_mdiv, ↓wp_mnz, ↓wp_some, ↓wp_mbnd, ↓mlet_eq, ↓mbp_eq, ↓mbnd_eq, ↓mix_ite, ↓mdiv_ite, ↓mnz_ite, nI_add, nI_mul, nI_nat, nI_ltE, nI_leE, nI_eqE, nI_eqN, nI_Neq, nI_Nlt, nI_Nle, nI_ltN, nI_leN, ↓reduceIte, ↓Nat.reduceEqDiff, and_f, nt_e, nt_t, nl_t, nl_f, ne_t, ne_f, and_self, or_self, or_true, true_or, or_false, false_or, if_true, if_false, and_true, true_and, and_false, false_and, not_true, not_false_iff, toNat_0, Bool.false_and, Bool.true_and, Bool.and_false, Bool.and_true, Bool.false_eq_true, reduceCtorEq, Bool.true_eq_false, Bool.not_true, Bool.not_false, e]
    exact MT_21
  simp (disch := omega) only [lit_0, lit_1, lit_2, lit_3, lit_4, lit_5, lit_6, lit_7, lit_8, lit_9, lit_10, lit_11, lit_12, lit_13, lit_14, lit_15, lit_16, lit_20, lit_23, lit_24, lit_31, lit_32, lit_39, lit_43, lit_45, lit_47, lit_48, lit_56, lit_57, lit_59, lit_60, lit_62, lit_63, lit_89, lit_92, lit_96, lit_97, lit_99, lit_100, lit_102, lit_103, lit_104, lit_110, lit_111, lit_115, lit_117, lit_194, lit_200, lit_644, lit_736, lit_999, lit_1000, lit_9999, lit_10000, lit_1000000000, ↓wp_mlet, ↓wp_mbp, ↓wp_ite, ↓wp_mix, ↓wp_mdiv, ↓wp_mnz, ↓wp_some, ↓wp_mbnd, ↓mlet_eq, ↓mbp_eq, ↓mbnd_eq, ↓mix_ite, ↓mdiv_ite, ↓mnz_ite, nI_add, nI_mul, nI_nat, nI_ltE, nI_leE, nI_eqE, nI_eqN, nI_Neq, nI_Nlt, nI_Nle, nI_ltN, nI_leN, ↓reduceIte, ↓Nat.reduceEqDiff, and_f, nt_e, nt_t, nl_t, nl_f, ne_t, ne_f, and_self, or_self, or_true, true_or, or_false, false_or, if_true, if_false, and_true, true_and, and_false, false_and, not_true, not_false_iff, toNat_0, Bool.false_and, Bool.true_and, Bool.and_false, Bool.and_true, Bool.false_eq_true, reduceCtorEq, Bool.true_eq_false, Bool.not_true, Bool.not_false, e]
  have key := mloopP (F := fun m x (s : Int32 × Mem) kk => f_X12_passes_L16 (nI n) m s.1 x s.2 (fun a b => kk (a, b))) (c := n) (fun x s => s.1 = nI (hrsN α x) ∧ mS M s.2 (hrs α x)) (fun m x s kk hx h => by
    obtain ⟨a, M1⟩ := s
    obtain ⟨q1, q2⟩ := h
    have q1' : a = nI (hrsN α x) := q1
    subst q1'
    have q2' : mS M M1 (hrs α x) := q2
    have hi1 := inv_hrs hi x (by omega)
    obtain ⟨r, M2, w1, w2, w3⟩ := m_hour q2'.1 hi1 (by omega)
    subst w2
    refine ⟨(nI (hrsN α x + cntA (walkSp (hrs α x)) 8), M2), ⟨rfl, q2'.trans w3⟩, ?_⟩
    show f_X12_passes_L16 (nI n) (m + 1) (nI (hrsN α x)) (nI x) M1 (fun a b => kk (a, b)) = f_X12_passes_L16 (nI n) m (nI (hrsN α x + cntA (walkSp (hrs α x)) 8)) (nI (x + 1)) M2 (fun a b => kk (a, b))
    rw [f_X12_passes_L16.eq_2]
    simp (disch := omega) only [lit_0, lit_1, lit_2, lit_3, lit_4, lit_5, lit_6, lit_7, lit_8, lit_9, lit_10, lit_11, lit_12, lit_13, lit_14, lit_15, lit_16, lit_20, lit_23, lit_24, lit_31, lit_32, lit_39, lit_43, lit_45, lit_47, lit_48, lit_56, lit_57, lit_59, lit_60, lit_62, lit_63, lit_89, lit_92, lit_96, lit_97, lit_99, lit_100, lit_102, lit_103, lit_104, lit_110, lit_111, lit_115, lit_117, lit_194, lit_200, lit_644, lit_736, lit_999, lit_1000, lit_9999, lit_10000, lit_1000000000, ↓wp_mlet, ↓wp_mbp, ↓wp_ite, ↓wp_mix, ↓wp_mdiv, ↓wp_mnz, ↓wp_some, ↓wp_mbnd, ↓mlet_eq, ↓mbp_eq, ↓mbnd_eq, ↓mix_ite, ↓mdiv_ite, ↓mnz_ite, nI_add, nI_mul, nI_nat, nI_ltE, nI_leE, nI_eqE, nI_eqN, nI_Neq, nI_Nlt, nI_Nle, nI_ltN, nI_leN, ↓reduceIte, ↓Nat.reduceEqDiff, and_f, nt_e, nt_t, nl_t, nl_f, ne_t, ne_f, and_self, or_self, or_true, true_or, or_false, false_or, if_true, if_false, and_true, true_and, and_false, false_and, not_true, not_false_iff, w1]) (fun m s kk h => by
    obtain ⟨a, M1⟩ := s
    show f_X12_passes_L16 (nI n) (m + 1) a (nI n) M1 (fun a b => kk (a, b)) = kk (a, M1)
    rw [f_X12_passes_L16.eq_2]
    simp (disch := omega) only [lit_0, lit_1, lit_2, lit_3, lit_4, lit_5, lit_6, lit_7, lit_8, lit_9, lit_10, lit_11, lit_12, lit_13, lit_14, lit_15, lit_16, lit_20, lit_23, lit_24, lit_31, lit_32, lit_39, lit_43, lit_45, lit_47, lit_48, lit_56, lit_57, lit_59, lit_60, lit_62, lit_63, lit_89, lit_92, lit_96, lit_97, lit_99, lit_100, lit_102, lit_103, lit_104, lit_110, lit_111, lit_115, lit_117, lit_194, lit_200, lit_644, lit_736, lit_999, lit_1000, lit_9999, lit_10000, lit_1000000000, ↓wp_mlet, ↓wp_mbp, ↓wp_ite, ↓wp_mix, ↓wp_mdiv, ↓wp_mnz, ↓wp_some, ↓wp_mbnd, ↓mlet_eq, ↓mbp_eq, ↓mbnd_eq, ↓mix_ite, ↓mdiv_ite, ↓mnz_ite, nI_add, nI_mul, nI_nat, nI_ltE, nI_leE, nI_eqE, nI_eqN, nI_Neq, nI_Nlt, nI_Nle, nI_ltN, nI_leN, ↓reduceIte, ↓Nat.reduceEqDiff, and_f, nt_e, nt_t, nl_t, nl_f, ne_t, ne_f, and_self, or_self, or_true, true_or, or_false, false_or, if_true, if_false, and_true, true_and, and_false, false_and, not_true, not_false_iff]) n N 0 (nI 0, M) (fun s => mbnd (f_X12_done s.1 s.2) fun r M1 => some (r, M1)) (by omega) (by omega) ⟨rfl, hS, fun _ _ _ => rfl⟩
  obtain ⟨⟨a, M1⟩, ⟨q1, q2⟩, e1⟩ := key
  have q1' : a = nI (hrsN α n) := q1
  subst q1'
  have e1' : (f_X12_passes_L16 (nI n) N (nI 0) (nI 0) M fun a b => mbnd (f_X12_done a b) fun r M1 => some (r, M1)) = mbnd (f_X12_done (nI (hrsN α n)) M1) fun r M1 => some (r, M1) := e1
  unfold MT
  rw [e1']
  unfold f_X12_done
  simp (disch := omega) only [lit_0, lit_1, lit_2, lit_3, lit_4, lit_5, lit_6, lit_7, lit_8, lit_9, lit_10, lit_11, lit_12, lit_13, lit_14, lit_15, lit_16, lit_20, lit_23, lit_24, lit_31, lit_32, lit_39, lit_43, lit_45, lit_47, lit_48, lit_56, lit_57, lit_59, lit_60, lit_62, lit_63, lit_89, lit_92, lit_96, lit_97, lit_99, lit_100, lit_102, lit_103, lit_104, lit_110, lit_111, lit_115, lit_117, lit_194, lit_200, lit_644, lit_736, lit_999, lit_1000, lit_9999, lit_10000, lit_1000000000, ↓wp_mlet, ↓wp_mbp, ↓wp_ite, ↓wp_mix, ↓wp_mdiv, ↓wp_mnz, ↓wp_some, ↓wp_mbnd, ↓mlet_eq, ↓mbp_eq, ↓mbnd_eq, ↓mix_ite, ↓mdiv_ite, ↓mnz_ite, nI_add, nI_mul, nI_nat, nI_ltE, nI_leE, nI_eqE, nI_eqN, nI_Neq, nI_Nlt, nI_Nle, nI_ltN, nI_leN, ↓reduceIte, ↓Nat.reduceEqDiff, and_f, nt_e, nt_t, nl_t, nl_f, ne_t, ne_f, and_self, or_self, or_true, true_or, or_false, false_or, if_true, if_false, and_true, true_and, and_false, false_and, not_true, not_false_iff]
  have q2' : mS M M1 (hrs α n) := q2
  refine ⟨?_, ?_, ?_, ?_⟩
  · rw [pm_ne (by omega)]; exact q2'.1
  · intro k hk
    rw [mup_at, if_neg (by omega), q2'.2 12 47 (by omega)]
  · rw [mup_at, if_pos (by decide)]
  · intro a b hab
    rw [pm_ne (by omega), q2'.2 a b (by omega)]
