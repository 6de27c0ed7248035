/-! AN HOUR, whole -/
def hourSp (α : Sp) : Sp := up (hT (walkSp α) 8) 7 (walkSp α 7 - 1)
def LI (α : Sp) : Prop := ∀ k, k < α 14 → α (56 + 3 * k) ≤ α 11 ∧ (α (57 + 3 * k) = 97 ∨ α (57 + 3 * k) = 99 ∨ α (57 + 3 * k) = 102 ∨ α (57 + 3 * k) = 111) ∧ α (58 + 3 * k) ≤ 8
theorem LI_B {α : Sp} (h14 : α 14 ≤ 12) (h : LI α) : LI (logB α) := by
  unfold logB
  split
  · rename_i q
    intro k hk
    rw [shiftSp_at, if_pos rfl] at hk
    have := h (k + 1) (by omega)
    rw [shiftSp_at, shiftSp_at, shiftSp_at, shiftSp_at, if_neg (by omega), if_pos (by omega), if_neg (by omega), if_neg (by omega), if_neg (by omega), if_pos (by omega), if_neg (by omega), if_pos (by omega)]
    rw [show 56 + 3 * k + 3 = 56 + 3 * (k + 1) by omega, show 57 + 3 * k + 3 = 57 + 3 * (k + 1) by omega, show 58 + 3 * k + 3 = 58 + 3 * (k + 1) by omega]
    exact this
  · exact h
theorem LI_put {β : Sp} {k w : Nat} (h14 : β 14 < 12) (h : LI β) (hk : k = 97 ∨ k = 99 ∨ k = 102 ∨ k = 111) (hw : w ≤ 8) : LI (putSp β k w) := by
  intro i hi
  rw [putSp_at, if_pos rfl] at hi
  have e11 : putSp β k w 11 = β 11 := by rw [putSp_at, if_neg (by omega), if_neg (by omega), if_neg (by omega), if_neg (by omega)]
  rw [e11]
  by_cases q : i = β 14
  · subst q
    have e1 : putSp β k w (56 + 3 * β 14) = β 11 := by rw [putSp_at, if_neg (by omega), if_neg (by omega), if_neg (by omega), if_pos rfl]
    have e2 : putSp β k w (57 + 3 * β 14) = k := by rw [putSp_at, if_neg (by omega), if_neg (by omega), if_pos rfl]
    have e3 : putSp β k w (58 + 3 * β 14) = w := by rw [putSp_at, if_neg (by omega), if_pos rfl]
    rw [e1, e2, e3]
    exact ⟨Nat.le_refl _, hk, hw⟩
  · have e1 : ∀ j, 56 ≤ j → j < 56 + 3 * β 14 → putSp β k w j = β j := fun j h1 h2 => by
      rw [putSp_at, if_neg (by omega), if_neg (by omega), if_neg (by omega), if_neg (by omega)]
    rw [e1 _ (by omega) (by omega), e1 _ (by omega) (by omega), e1 _ (by omega) (by omega)]
    exact h i (by omega)
theorem LI_log {α : Sp} {k w : Nat} (h14 : α 14 ≤ 12) (h : LI α) (hk : k = 97 ∨ k = 99 ∨ k = 102 ∨ k = 111) (hw : w ≤ 8) : LI (sLog α k w) := LI_put (logB_14 h14) (LI_B h14 h) hk hw
theorem LI_lgs {γ : Sp} (h14 : γ 14 ≤ 12) (h : LI γ) : ∀ x, x ≤ 8 → LI (lgs γ x) := by
  intro x
  induction x with
  | zero => intro _; exact h
  | succ x ih =>
    intro hx
    show LI (if isAl γ x then sLog (lgs γ x) 97 x else lgs γ x)
    split
    · exact LI_log (lgs_14 h14 x) (ih (by omega)) (Or.inl rfl) (by omega)
    · exact ih (by omega)
theorem walkSp_ne {α : Sp} {j : Nat} (h1 : j ≠ 11) (h2 : ¬ (47 ≤ j ∧ j < 56 ∧ (j - 47) % 3 = 0)) (h10 : α 10 ≤ 3) : walkSp α j = α j := by
  unfold walkSp incSp
  rw [walkTo_ne (by omega), up_at, if_neg h1]
theorem walkSp_11 {α : Sp} : walkSp α 11 = α 11 + 1 := by
  unfold walkSp incSp
  rw [walkTo_ne (by omega), up_at, if_pos rfl]
theorem walkZ_lt {β : Sp} {g : Nat} (h : β (47 + 3 * g) ≤ 7) : walkZ β g ≤ 7 := by
  unfold walkZ
  split <;> omega
theorem Gd_inc {H : Nat} {α : Sp} (hi : Inv H α) (hH : H < 999999) : Gd (incSp α) := by
  obtain ⟨⟨b0, b1, b2, b3, b4, b5, b6, b7, b8, b9, b10, b11, b14⟩, -, -, bs, bk, -, bz, -, bg, -⟩ := hi
  unfold incSp
  refine ⟨by rw [up_at, if_neg (by decide)]; exact b10, by rw [up_at, if_pos rfl]; omega, fun k hk => ?_⟩
  rw [up_at, if_neg (by decide)] at hk
  rw [up_at, up_at, up_at, if_neg (by omega), if_neg (by omega), if_neg (by omega)]
  exact bg k hk
theorem Gd_walk {H : Nat} {α : Sp} (hi : Inv H α) (hH : H < 999999) : Gd (walkSp α) := by
  have h0 := Gd_inc hi hH
  obtain ⟨⟨b0, b1, b2, b3, b4, b5, b6, b7, b8, b9, b10, b11, b14⟩, -, -, bs, bk, -, bz, -, bg, -⟩ := hi
  refine ⟨by rw [walkSp_ne (by decide) (by decide) b10]; exact b10, by rw [walkSp_11]; omega, fun k hk => ?_⟩
  rw [walkSp_ne (by decide) (by decide) b10] at hk
  have h2 := h0.2.2 k (by unfold incSp; rw [up_at, if_neg (by decide)]; exact hk)
  rw [walkSp_ne (j := 48 + 3 * k) (by omega) (by omega) b10, walkSp_ne (j := 49 + 3 * k) (by omega) (by omega) b10]
  refine ⟨?_, (bg k hk).2⟩
  unfold walkSp
  rw [walkTo_z hk]
  exact walkZ_lt h2.1
theorem m_hour {M : Mem} {α : Sp} {H : Nat} (hS : M 12 48 = enc α) (hi : Inv H α) (hH : H < 999999) : wp (f_X12_oneHour M) (fun r M1 => r = nI (cntA (walkSp α) 8) ∧ mS M M1 (hourSp α)) := by
  have g1 := Gd_inc hi hH
  have g2 := Gd_walk hi hH
  obtain ⟨⟨b0, b1, b2, b3, b4, b5, b6, b7, b8, b9, b10, b11, b14⟩, -, -, bs, bk, -, bz, -, bg, -⟩ := hi
  unfold f_X12_oneHour
  generalize hN : (1000 : Nat) = N
  simp (disch := omega) only [lit_0, lit_1, lit_2, lit_3, lit_4, lit_5, lit_6, lit_7, lit_8, lit_9, lit_10, lit_11, lit_12, lit_13, lit_14, lit_15, lit_16, lit_20, lit_23, lit_24, lit_31, lit_32, lit_39, lit_43, lit_45, lit_47, lit_48, lit_56, lit_57, lit_59, lit_60, lit_62, lit_63, lit_89, lit_92, lit_96, lit_97, lit_99, lit_100, lit_102, lit_103, lit_104, lit_110, lit_111, lit_115, lit_117, lit_194, lit_200, lit_644, lit_736, lit_999, lit_1000, lit_9999, lit_10000, lit_1000000000, ↓wp_mlet, ↓wp_mbp, ↓wp_ite, ↓wp_mix, ↓wp_mdiv, ↓wp_mnz, ↓wp_some, ↓wp_mbnd, ↓mlet_eq, ↓mbp_eq, ↓mbnd_eq, ↓mix_ite, ↓mdiv_ite, ↓mnz_ite, nI_add, nI_mul, nI_nat, nI_ltE, nI_leE, nI_eqE, nI_eqN, nI_Neq, nI_Nlt, nI_Nle, nI_ltN, nI_leN, ↓reduceIte, ↓Nat.reduceEqDiff, and_f, nt_e, nt_t, nl_t, nl_f, ne_t, ne_f, and_self, or_self, or_true, true_or, or_false, false_or, if_true, if_false, and_true, true_and, and_false, false_and, not_true, not_false_iff, ms_n hS]
  have hI : mS M (mup M 12 48 11 (nI (α 11 + 1))) (incSp α) := ⟨by rw [pm_self, hS, enc_up (by decide)]; rfl, fun a b h => by rw [pm_ne h]⟩
  obtain ⟨M1, h1, e1⟩ := m_walk hN hI.1 g1 (fun M13 => f_X12_oneHour_L81 N (nI 0) (nI 0) M13 fun x45 M46 => if M46 12 48 7 ≤ nI 0 then some (x45, mup M46 12 48 7 (M46 12 48 7 - nI 0)) else some (x45, mup M46 12 48 7 (M46 12 48 7 - nI 1)))
  have h1' : mS M M1 (walkSp α) := by
    have := hI.trans h1
    have e : incSp α 10 = α 10 := by unfold incSp; rw [up_at, if_neg (by decide)]
    rw [e] at this
    exact this
  have h14 : walkSp α 14 ≤ 12 := by rw [walkSp_ne (by decide) (by decide) b10]; exact b14
  obtain ⟨M2, h2, e2⟩ := m_zones hN h1'.1 g2 h14 (fun k hk => by rw [walkSp_ne (by omega) (by omega) b10]; exact (bz k hk).1) (fun x45 M46 => if M46 12 48 7 ≤ nI 0 then some (x45, mup M46 12 48 7 (M46 12 48 7 - nI 0)) else some (x45, mup M46 12 48 7 (M46 12 48 7 - nI 1)))
  have h3 := h1'.trans h2
  have e7 : M2 12 48 7 = nI (walkSp α 7) := by
    rw [ms_n h3.1 (by decide), hT_at, if_neg (by decide), hz_at, if_neg (by decide), if_neg (by decide), if_neg (by decide)]
  have hw7 : walkSp α 7 ≤ 6 := by rw [walkSp_ne (by decide) (by decide) b10]; exact b7
  have fin : wp (if M2 12 48 7 ≤ nI 0 then some (nI (cntA (walkSp α) 8), mup M2 12 48 7 (M2 12 48 7 - nI 0)) else some (nI (cntA (walkSp α) 8), mup M2 12 48 7 (M2 12 48 7 - nI 1))) (fun r M1 => r = nI (cntA (walkSp α) 8) ∧ mS M M1 (hourSp α)) := by
    by_cases q : walkSp α 7 = 0
    · have e : hourSp α = up (hT (walkSp α) 8) 7 0 := by unfold hourSp; rw [show walkSp α 7 - 1 = 0 by omega]
      rw [e]
      simp (disch := omega) only [lit_0, lit_1, lit_2, lit_3, lit_4, lit_5, lit_6, lit_7, lit_8, lit_9, lit_10, lit_11, lit_12, lit_13, lit_14, lit_15, lit_16, lit_20, lit_23, lit_24, lit_31, lit_32, lit_39, lit_43, lit_45, lit_47, lit_48, lit_56, lit_57, lit_59, lit_60, lit_62, lit_63, lit_89, lit_92, lit_96, lit_97, lit_99, lit_100, lit_102, lit_103, lit_104, lit_110, lit_111, lit_115, lit_117, lit_194, lit_200, lit_644, lit_736, lit_999, lit_1000, lit_9999, lit_10000, lit_1000000000, ↓wp_mlet, ↓wp_mbp, ↓wp_ite, ↓wp_mix, ↓wp_mdiv, ↓wp_mnz, ↓wp_some, ↓wp_mbnd, ↓mlet_eq, ↓mbp_eq, ↓mbnd_eq, ↓mix_ite, ↓mdiv_ite, ↓mnz_ite, nI_add, nI_mul, nI_nat, nI_ltE, nI_leE, nI_eqE, nI_eqN, nI_Neq, nI_Nlt, nI_Nle, nI_ltN, nI_leN, ↓reduceIte, ↓Nat.reduceEqDiff, and_f, nt_e, nt_t, nl_t, nl_f, ne_t, ne_f, and_self, or_self, or_true, true_or, or_false, false_or, if_true, if_false, and_true, true_and, and_false, false_and, not_true, not_false_iff, e7, q, nI_subE, Nat.sub_zero]
      exact h3.of_up (k := 7) (v := 0) (by decide)
    · simp (disch := omega) only [lit_0, lit_1, lit_2, lit_3, lit_4, lit_5, lit_6, lit_7, lit_8, lit_9, lit_10, lit_11, lit_12, lit_13, lit_14, lit_15, lit_16, lit_20, lit_23, lit_24, lit_31, lit_32, lit_39, lit_43, lit_45, lit_47, lit_48, lit_56, lit_57, lit_59, lit_60, lit_62, lit_63, lit_89, lit_92, lit_96, lit_97, lit_99, lit_100, lit_102, lit_103, lit_104, lit_110, lit_111, lit_115, lit_117, lit_194, lit_200, lit_644, lit_736, lit_999, lit_1000, lit_9999, lit_10000, lit_1000000000, ↓wp_mlet, ↓wp_mbp, ↓wp_ite, ↓wp_mix, ↓wp_mdiv, ↓wp_mnz, ↓wp_some, ↓wp_mbnd, ↓mlet_eq, ↓mbp_eq, ↓mbnd_eq, ↓mix_ite, ↓mdiv_ite, ↓mnz_ite, nI_add, nI_mul, nI_nat, nI_ltE, nI_leE, nI_eqE, nI_eqN, nI_Neq, nI_Nlt, nI_Nle, nI_ltN, nI_leN, ↓reduceIte, ↓Nat.reduceEqDiff, and_f, nt_e, nt_t, nl_t, nl_f, ne_t, ne_f, and_self, or_self, or_true, true_or, or_false, false_or, if_true, if_false, and_true, true_and, and_false, false_and, not_true, not_false_iff, e7, nI_subE]
      exact h3.of_up (k := 7) (v := walkSp α 7 - 1) (by decide)
  obtain ⟨r, M9, q1, q2⟩ := fin
  refine ⟨r, M9, ?_, q2⟩
  rw [← q1, ← e2, ← e1]
