/-! THE LOG -/
def shiftSp (α : Sp) : Sp := fun j => if j = 14 then 11 else if 56 ≤ j ∧ j < 89 then α (j + 3) else α j
theorem shiftSp_at (α : Sp) (j : Nat) : shiftSp α j = if j = 14 then 11 else if 56 ≤ j ∧ j < 89 then α (j + 3) else α j := Eq.trans rfl rfl
def putSp (β : Sp) (k w : Nat) : Sp := fun j => if j = 14 then β 14 + 1 else if j = 58 + 3 * β 14 then w else if j = 57 + 3 * β 14 then k else if j = 56 + 3 * β 14 then β 11 else β j
theorem putSp_at (β : Sp) (k w j : Nat) : putSp β k w j = if j = 14 then β 14 + 1 else if j = 58 + 3 * β 14 then w else if j = 57 + 3 * β 14 then k else if j = 56 + 3 * β 14 then β 11 else β j := Eq.trans rfl rfl
def logB (α : Sp) : Sp := if α 14 = 12 then shiftSp α else α
def sLog (α : Sp) (k w : Nat) : Sp := putSp (logB α) k w
theorem logB_14 {α : Sp} (h : α 14 ≤ 12) : logB α 14 < 12 := by
  unfold logB
  split
  · rw [shiftSp_at, if_pos rfl]; decide
  · omega
theorem logB_ne {α : Sp} {j : Nat} (h1 : j ≠ 14) (h2 : ¬ (56 ≤ j ∧ j < 92)) : logB α j = α j := by
  unfold logB
  split
  · rw [shiftSp_at, if_neg h1, if_neg (by omega)]
  · rfl
theorem sLog_ne {α : Sp} {k w j : Nat} (h14 : α 14 ≤ 12) (h1 : j ≠ 14) (h2 : ¬ (56 ≤ j ∧ j < 92)) : sLog α k w j = α j := by
  have := logB_14 h14
  unfold sLog
  rw [putSp_at, if_neg h1, if_neg (by omega), if_neg (by omega), if_neg (by omega), logB_ne h1 h2]
/-- the model's row alone has changed, to β -/
def mS (M M1 : Mem) (β : Sp) : Prop := M1 12 48 = enc β ∧ ∀ a b, ¬ (a = 12 ∧ b = 48) → M1 a b = M a b
theorem mS.trans {M M1 M2 : Mem} {β γ : Sp} (h1 : mS M M1 β) (h2 : mS M1 M2 γ) : mS M M2 γ := ⟨h2.1, fun a b h => (h2.2 a b h).trans (h1.2 a b h)⟩
theorem wp_mcpy {β : Type} {ty : FieldType} {M : Mem} {g0 i0 n0 sp g1 i1 n1 dp n : Nat} {k : Mem → Option (β × Mem)} {Q : β → Mem → Prop} (h1 : sp + n ≤ n0) (h2 : dp + n ≤ n1) (hb : n0 < 2147483648 ∧ n1 < 2147483648) (hf : ∀ j, j < n → fits ty (.int (M g0 i0 (sp + j))) = true) :
    wp (mcpy ty M g0 i0 n0 (nI sp) g1 i1 n1 (nI dp) (nI n) k) Q = wp (k (mcp M g0 i0 g1 i1 sp dp n)) Q := by
  unfold mcpy
  rw [if_pos]
  · rw [nI_nat (by omega), nI_nat (by omega), nI_nat (by omega)]
  · rw [nI_nat (by omega), nI_nat (by omega), nI_nat (by omega)]
    exact ⟨nI_pos (by omega), nI_pos (by omega), nI_pos (by omega), h1, h2, hf⟩
theorem m_logTail {M : Mem} {β : Sp} {k w : Nat} (hS : M 12 48 = enc β) (h14 : β 14 < 12) : mS M (mup (mup (mup (mup M 12 48 (56 + 3 * β 14) (nI (β 11))) 12 48 (56 + 3 * β 14 + 1) (nI k)) 12 48 (56 + 3 * β 14 + 2) (nI w)) 12 48 14 (nI (β 14 + 1))) (putSp β k w) := by
  refine ⟨?_, fun a b h => by rw [pm_ne h, pm_ne h, pm_ne h, pm_ne h]⟩
  refine enc_ext (α := β) fun j => ?_
  by_cases q1 : j = 14
  · subst q1
    exact Or.inr ⟨by decide, by simp (disch := omega) only [mup_at, up_at, fil_at, ↓reduceIte, ↓Nat.reduceEqDiff, and_f, nt_e, nt_t, nl_t, nl_f, ne_t, ne_f, and_self, or_self, or_true, true_or, or_false, false_or, if_true, if_false, and_true, true_and, and_false, false_and, not_true, not_false_iff, putSp_at]⟩
  · by_cases q2 : j = 58 + 3 * β 14
    · exact Or.inr ⟨by omega, by simp (disch := omega) only [mup_at, up_at, fil_at, ↓reduceIte, ↓Nat.reduceEqDiff, and_f, nt_e, nt_t, nl_t, nl_f, ne_t, ne_f, and_self, or_self, or_true, true_or, or_false, false_or, if_true, if_false, and_true, true_and, and_false, false_and, not_true, not_false_iff, putSp_at]⟩
    · by_cases q3 : j = 57 + 3 * β 14
      · exact Or.inr ⟨by omega, by simp (disch := omega) only [mup_at, up_at, fil_at, ↓reduceIte, ↓Nat.reduceEqDiff, and_f, nt_e, nt_t, nl_t, nl_f, ne_t, ne_f, and_self, or_self, or_true, true_or, or_false, false_or, if_true, if_false, and_true, true_and, and_false, false_and, not_true, not_false_iff, putSp_at]⟩
      · by_cases q4 : j = 56 + 3 * β 14
        · exact Or.inr ⟨by omega, by simp (disch := omega) only [mup_at, up_at, fil_at, ↓reduceIte, ↓Nat.reduceEqDiff, and_f, nt_e, nt_t, nl_t, nl_f, ne_t, ne_f, and_self, or_self, or_true, true_or, or_false, false_or, if_true, if_false, and_true, true_and, and_false, false_and, not_true, not_false_iff, putSp_at]⟩
        · exact Or.inl ⟨by simp (disch := omega) only [putSp_at, ↓reduceIte, ↓Nat.reduceEqDiff, and_f, nt_e, nt_t, nl_t, nl_f, ne_t, ne_f, and_self, or_self, or_true, true_or, or_false, false_or, if_true, if_false, and_true, true_and, and_false, false_and, not_true, not_false_iff], by simp (disch := omega) only [mup_at, up_at, fil_at, ↓reduceIte, ↓Nat.reduceEqDiff, and_f, nt_e, nt_t, nl_t, nl_f, ne_t, ne_f, and_self, or_self, or_true, true_or, or_false, false_or, if_true, if_false, and_true, true_and, and_false, false_and, not_true, not_false_iff, hS]⟩
theorem m_logShift {M : Mem} {α : Sp} {N : Nat} (hN : 1000 = N) (kk : Mem → Option (Unit × Mem)) : f_X12_logs_L15 N (nI 56) M kk = kk (fil M 12 48 56 89 (fun j => M 12 48 (j + 3))) := by
  have key := mloopL (F := fun n x s kk => f_X12_logs_L15 n x s kk) (c := 89) 56 (fun x => fil M 12 48 56 x (fun j => M 12 48 (j + 3))) (fun m x kk hkx hx => by
    have q4 : (fil M 12 48 56 x (fun j => M 12 48 (j + 3))) 12 48 (x + 3) = M 12 48 (x + 3) := by
      rw [fil_at, if_neg (by omega)]
    rw [f_X12_logs_L15.eq_2]
    simp (disch := omega) only [lit_0, lit_1, lit_2, lit_3, lit_4, lit_5, lit_6, lit_7, lit_8, lit_9, lit_10, lit_11, lit_12, lit_13, lit_14, lit_15, lit_16, lit_20, lit_23, lit_24, lit_31, lit_32, lit_39, lit_43, lit_45, lit_47, lit_48, lit_56, lit_57, lit_59, lit_60, lit_62, lit_63, lit_89, lit_92, lit_96, lit_97, lit_99, lit_100, lit_102, lit_103, lit_104, lit_110, lit_111, lit_115, lit_117, lit_194, lit_200, lit_644, lit_736, lit_999, lit_1000, lit_9999, lit_10000, lit_1000000000, ↓wp_mlet, ↓wp_mbp, ↓wp_ite, ↓wp_mix, ↓wp_mdiv, ↓wp_mnz, ↓wp_some, ↓wp_mbnd, ↓mlet_eq, ↓mbp_eq, ↓mbnd_eq, ↓mix_ite, ↓mdiv_ite, ↓mnz_ite, nI_add, nI_mul, nI_nat, nI_ltE, nI_leE, nI_eqE, nI_eqN, nI_Neq, nI_Nlt, nI_Nle, nI_ltN, nI_leN, ↓reduceIte, ↓Nat.reduceEqDiff, and_f, nt_e, nt_t, nl_t, nl_f, ne_t, ne_f, and_self, or_self, or_true, true_or, or_false, false_or, if_true, if_false, and_true, true_and, and_false, false_and, not_true, not_false_iff, q4]
    rw [fil_s (by omega) rfl]) (fun m kk => by
    rw [f_X12_logs_L15.eq_2]
    simp (disch := omega) only [lit_0, lit_1, lit_2, lit_3, lit_4, lit_5, lit_6, lit_7, lit_8, lit_9, lit_10, lit_11, lit_12, lit_13, lit_14, lit_15, lit_16, lit_20, lit_23, lit_24, lit_31, lit_32, lit_39, lit_43, lit_45, lit_47, lit_48, lit_56, lit_57, lit_59, lit_60, lit_62, lit_63, lit_89, lit_92, lit_96, lit_97, lit_99, lit_100, lit_102, lit_103, lit_104, lit_110, lit_111, lit_115, lit_117, lit_194, lit_200, lit_644, lit_736, lit_999, lit_1000, lit_9999, lit_10000, lit_1000000000, ↓wp_mlet, ↓wp_mbp, ↓wp_ite, ↓wp_mix, ↓wp_mdiv, ↓wp_mnz, ↓wp_some, ↓wp_mbnd, ↓mlet_eq, ↓mbp_eq, ↓mbnd_eq, ↓mix_ite, ↓mdiv_ite, ↓mnz_ite, nI_add, nI_mul, nI_nat, nI_ltE, nI_leE, nI_eqE, nI_eqN, nI_Neq, nI_Nlt, nI_Nle, nI_ltN, nI_leN, ↓reduceIte, ↓Nat.reduceEqDiff, and_f, nt_e, nt_t, nl_t, nl_f, ne_t, ne_f, and_self, or_self, or_true, true_or, or_false, false_or, if_true, if_false, and_true, true_and, and_false, false_and, not_true, not_false_iff])
  have := key 33 N 56 kk (Nat.le_refl _) (by omega) (by omega)
  rw [fil_0] at this
  exact this
theorem m_logs {M : Mem} {α : Sp} {k w : Nat} (hS : M 12 48 = enc α) (h14 : α 14 ≤ 12) : wp (f_X12_logs (nI k) (nI w) M) (fun _ M1 => mS M M1 (sLog α k w)) := by
  unfold f_X12_logs
  generalize hN : (1000 : Nat) = N
  by_cases h : α 14 = 12
  · have eB : logB α = shiftSp α := by unfold logB; rw [if_pos h]
    simp (disch := omega) only [lit_0, lit_1, lit_2, lit_3, lit_4, lit_5, lit_6, lit_7, lit_8, lit_9, lit_10, lit_11, lit_12, lit_13, lit_14, lit_15, lit_16, lit_20, lit_23, lit_24, lit_31, lit_32, lit_39, lit_43, lit_45, lit_47, lit_48, lit_56, lit_57, lit_59, lit_60, lit_62, lit_63, lit_89, lit_92, lit_96, lit_97, lit_99, lit_100, lit_102, lit_103, lit_104, lit_110, lit_111, lit_115, lit_117, lit_194, lit_200, lit_644, lit_736, lit_999, lit_1000, lit_9999, lit_10000, lit_1000000000, ↓wp_mlet, ↓wp_mbp, ↓wp_ite, ↓wp_mix, ↓wp_mdiv, ↓wp_mnz, ↓wp_some, ↓wp_mbnd, ↓mlet_eq, ↓mbp_eq, ↓mbnd_eq, ↓mix_ite, ↓mdiv_ite, ↓mnz_ite, nI_add, nI_mul, nI_nat, nI_ltE, nI_leE, nI_eqE, nI_eqN, nI_Neq, nI_Nlt, nI_Nle, nI_ltN, nI_leN, ↓reduceIte, ↓Nat.reduceEqDiff, and_f, nt_e, nt_t, nl_t, nl_f, ne_t, ne_f, and_self, or_self, or_true, true_or, or_false, false_or, if_true, if_false, and_true, true_and, and_false, false_and, not_true, not_false_iff, ms_n hS, h]
    rw [m_logShift (α := α) hN]
    have hF : (mup (fil M 12 48 56 89 (fun j => M 12 48 (j + 3))) 12 48 14 (nI 11)) 12 48 = enc (shiftSp α) := by
      refine enc_ext (α := α) fun j => ?_
      by_cases q1 : j = 14
      · subst q1
        exact Or.inr ⟨by decide, by simp (disch := omega) only [mup_at, up_at, fil_at, ↓reduceIte, ↓Nat.reduceEqDiff, and_f, nt_e, nt_t, nl_t, nl_f, ne_t, ne_f, and_self, or_self, or_true, true_or, or_false, false_or, if_true, if_false, and_true, true_and, and_false, false_and, not_true, not_false_iff, shiftSp_at]⟩
      · by_cases q2 : 56 ≤ j ∧ j < 89
        · exact Or.inr ⟨by omega, by simp (disch := omega) only [mup_at, up_at, fil_at, ↓reduceIte, ↓Nat.reduceEqDiff, and_f, nt_e, nt_t, nl_t, nl_f, ne_t, ne_f, and_self, or_self, or_true, true_or, or_false, false_or, if_true, if_false, and_true, true_and, and_false, false_and, not_true, not_false_iff, shiftSp_at, ms_n hS]⟩
        · exact Or.inl ⟨by simp (disch := omega) only [shiftSp_at, ↓reduceIte, ↓Nat.reduceEqDiff, and_f, nt_e, nt_t, nl_t, nl_f, ne_t, ne_f, and_self, or_self, or_true, true_or, or_false, false_or, if_true, if_false, and_true, true_and, and_false, false_and, not_true, not_false_iff], by simp (disch := omega) only [mup_at, up_at, fil_at, ↓reduceIte, ↓Nat.reduceEqDiff, and_f, nt_e, nt_t, nl_t, nl_f, ne_t, ne_f, and_self, or_self, or_true, true_or, or_false, false_or, if_true, if_false, and_true, true_and, and_false, false_and, not_true, not_false_iff, hS]⟩
    have e14 : (fil M 12 48 56 89 (fun j => M 12 48 (j + 3))) 12 48 14 = nI 12 := by
      rw [fil_at, if_neg (by omega), ms_n hS (by decide), h]
    simp (disch := omega) only [lit_0, lit_1, lit_2, lit_3, lit_4, lit_5, lit_6, lit_7, lit_8, lit_9, lit_10, lit_11, lit_12, lit_13, lit_14, lit_15, lit_16, lit_20, lit_23, lit_24, lit_31, lit_32, lit_39, lit_43, lit_45, lit_47, lit_48, lit_56, lit_57, lit_59, lit_60, lit_62, lit_63, lit_89, lit_92, lit_96, lit_97, lit_99, lit_100, lit_102, lit_103, lit_104, lit_110, lit_111, lit_115, lit_117, lit_194, lit_200, lit_644, lit_736, lit_999, lit_1000, lit_9999, lit_10000, lit_1000000000, ↓wp_mlet, ↓wp_mbp, ↓wp_ite, ↓wp_mix, ↓wp_mdiv, ↓wp_mnz, ↓wp_some, ↓wp_mbnd, ↓mlet_eq, ↓mbp_eq, ↓mbnd_eq, ↓mix_ite, ↓mdiv_ite, ↓mnz_ite, nI_add, nI_mul, nI_nat, nI_ltE, nI_leE, nI_eqE, nI_eqN, nI_Neq, nI_Nlt, nI_Nle, nI_ltN, nI_leN, ↓reduceIte, ↓Nat.reduceEqDiff, and_f, nt_e, nt_t, nl_t, nl_f, ne_t, ne_f, and_self, or_self, or_true, true_or, or_false, false_or, if_true, if_false, and_true, true_and, and_false, false_and, not_true, not_false_iff, e14, nI_subE, Nat.reduceSub]
    have q14 : shiftSp α 14 = 11 := by rw [shiftSp_at, if_pos rfl]
    have q11 : shiftSp α 11 = α 11 := by rw [shiftSp_at, if_neg (by decide), if_neg (by decide)]
    have key := m_logTail (k := k) (w := w) hF (by rw [q14]; decide)
    rw [q14, q11] at key
    simp (disch := omega) only [lit_0, lit_1, lit_2, lit_3, lit_4, lit_5, lit_6, lit_7, lit_8, lit_9, lit_10, lit_11, lit_12, lit_13, lit_14, lit_15, lit_16, lit_20, lit_23, lit_24, lit_31, lit_32, lit_39, lit_43, lit_45, lit_47, lit_48, lit_56, lit_57, lit_59, lit_60, lit_62, lit_63, lit_89, lit_92, lit_96, lit_97, lit_99, lit_100, lit_102, lit_103, lit_104, lit_110, lit_111, lit_115, lit_117, lit_194, lit_200, lit_644, lit_736, lit_999, lit_1000, lit_9999, lit_10000, lit_1000000000, ↓wp_mlet, ↓wp_mbp, ↓wp_ite, ↓wp_mix, ↓wp_mdiv, ↓wp_mnz, ↓wp_some, ↓wp_mbnd, ↓mlet_eq, ↓mbp_eq, ↓mbnd_eq, ↓mix_ite, ↓mdiv_ite, ↓mnz_ite, nI_add, nI_mul, nI_nat, nI_ltE, nI_leE, nI_eqE, nI_eqN, nI_Neq, nI_Nlt, nI_Nle, nI_ltN, nI_leN, ↓reduceIte, ↓Nat.reduceEqDiff, and_f, nt_e, nt_t, nl_t, nl_f, ne_t, ne_f, and_self, or_self, or_true, true_or, or_false, false_or, if_true, if_false, and_true, true_and, and_false, false_and, not_true, not_false_iff, mup_at, up_at, fil_at, ↓reduceIte, ↓Nat.reduceEqDiff, and_f, nt_e, nt_t, nl_t, nl_f, ne_t, ne_f, and_self, or_self, or_true, true_or, or_false, false_or, if_true, if_false, and_true, true_and, and_false, false_and, not_true, not_false_iff, ms_n hS, Nat.reduceMul]
    have st : mS M (mup (fil M 12 48 56 89 (fun j => M 12 48 (j + 3))) 12 48 14 (nI 11)) (shiftSp α) := ⟨hF, fun a b hab => by rw [pm_ne hab, fil_ne hab]⟩
    have := st.trans key
    unfold sLog
    rw [eB]
    exact this
  · have eB : logB α = α := by unfold logB; rw [if_neg h]
    simp (disch := omega) only [lit_0, lit_1, lit_2, lit_3, lit_4, lit_5, lit_6, lit_7, lit_8, lit_9, lit_10, lit_11, lit_12, lit_13, lit_14, lit_15, lit_16, lit_20, lit_23, lit_24, lit_31, lit_32, lit_39, lit_43, lit_45, lit_47, lit_48, lit_56, lit_57, lit_59, lit_60, lit_62, lit_63, lit_89, lit_92, lit_96, lit_97, lit_99, lit_100, lit_102, lit_103, lit_104, lit_110, lit_111, lit_115, lit_117, lit_194, lit_200, lit_644, lit_736, lit_999, lit_1000, lit_9999, lit_10000, lit_1000000000, ↓wp_mlet, ↓wp_mbp, ↓wp_ite, ↓wp_mix, ↓wp_mdiv, ↓wp_mnz, ↓wp_some, ↓wp_mbnd, ↓mlet_eq, ↓mbp_eq, ↓mbnd_eq, ↓mix_ite, ↓mdiv_ite, ↓mnz_ite, nI_add, nI_mul, nI_nat, nI_ltE, nI_leE, nI_eqE, nI_eqN, nI_Neq, nI_Nlt, nI_Nle, nI_ltN, nI_leN, ↓reduceIte, ↓Nat.reduceEqDiff, and_f, nt_e, nt_t, nl_t, nl_f, ne_t, ne_f, and_self, or_self, or_true, true_or, or_false, false_or, if_true, if_false, and_true, true_and, and_false, false_and, not_true, not_false_iff, mup_at, up_at, fil_at, ↓reduceIte, ↓Nat.reduceEqDiff, and_f, nt_e, nt_t, nl_t, nl_f, ne_t, ne_f, and_self, or_self, or_true, true_or, or_false, false_or, if_true, if_false, and_true, true_and, and_false, false_and, not_true, not_false_iff, ms_n hS]
    have key := m_logTail (k := k) (w := w) hS (show α 14 < 12 by omega)
    unfold sLog
    rw [eB]
    exact key
theorem c_entTail {M : Mem} {β : Sp} {k w : Nat} (hj : Rj (M 0) β) (h14 : β 14 < 12) (hk : k < 65536) : Rj ((mup (mup (mup (mup M 0 13 (β 14) (nI (β 11))) 0 14 (β 14) (nI k)) 0 15 (β 14) (nI w)) 0 12 0 (nI (β 14 + 1))) 0) (putSp β k w) := by
  obtain ⟨j0, j1, j2⟩ := hj
  refine ⟨?_, fun i hi h9 => ?_, fun i hi => ?_⟩
  · simp (disch := omega) only [mup_at, up_at, fil_at, ↓reduceIte, ↓Nat.reduceEqDiff, and_f, nt_e, nt_t, nl_t, nl_f, ne_t, ne_f, and_self, or_self, or_true, true_or, or_false, false_or, if_true, if_false, and_true, true_and, and_false, false_and, not_true, not_false_iff, putSp_at]
  · simp (disch := omega) only [putSp_at, ↓reduceIte, ↓Nat.reduceEqDiff, and_f, nt_e, nt_t, nl_t, nl_f, ne_t, ne_f, and_self, or_self, or_true, true_or, or_false, false_or, if_true, if_false, and_true, true_and, and_false, false_and, not_true, not_false_iff] at h9
    by_cases q : i = β 14
    · subst q
      refine ⟨?_, ?_, ?_⟩ <;> simp (disch := omega) only [mup_at, up_at, fil_at, ↓reduceIte, ↓Nat.reduceEqDiff, and_f, nt_e, nt_t, nl_t, nl_f, ne_t, ne_f, and_self, or_self, or_true, true_or, or_false, false_or, if_true, if_false, and_true, true_and, and_false, false_and, not_true, not_false_iff, putSp_at]
    · obtain ⟨a1, a2, a3⟩ := j1 i hi (by omega)
      refine ⟨?_, ?_, ?_⟩
      · simp (disch := omega) only [mup_at, up_at, fil_at, ↓reduceIte, ↓Nat.reduceEqDiff, and_f, nt_e, nt_t, nl_t, nl_f, ne_t, ne_f, and_self, or_self, or_true, true_or, or_false, false_or, if_true, if_false, and_true, true_and, and_false, false_and, not_true, not_false_iff, putSp_at, a1]
      · simp (disch := omega) only [mup_at, up_at, fil_at, ↓reduceIte, ↓Nat.reduceEqDiff, and_f, nt_e, nt_t, nl_t, nl_f, ne_t, ne_f, and_self, or_self, or_true, true_or, or_false, false_or, if_true, if_false, and_true, true_and, and_false, false_and, not_true, not_false_iff, putSp_at, a2]
      · simp (disch := omega) only [mup_at, up_at, fil_at, ↓reduceIte, ↓Nat.reduceEqDiff, and_f, nt_e, nt_t, nl_t, nl_f, ne_t, ne_f, and_self, or_self, or_true, true_or, or_false, false_or, if_true, if_false, and_true, true_and, and_false, false_and, not_true, not_false_iff, putSp_at, a3]
  · by_cases q : i = β 14
    · subst q
      exact ⟨k, hk, by simp (disch := omega) only [mup_at, up_at, fil_at, ↓reduceIte, ↓Nat.reduceEqDiff, and_f, nt_e, nt_t, nl_t, nl_f, ne_t, ne_f, and_self, or_self, or_true, true_or, or_false, false_or, if_true, if_false, and_true, true_and, and_false, false_and, not_true, not_false_iff]⟩
    · obtain ⟨c, c1, c2⟩ := j2 i hi
      exact ⟨c, c1, by simp (disch := omega) only [mup_at, up_at, fil_at, ↓reduceIte, ↓Nat.reduceEqDiff, and_f, nt_e, nt_t, nl_t, nl_f, ne_t, ne_f, and_self, or_self, or_true, true_or, or_false, false_or, if_true, if_false, and_true, true_and, and_false, false_and, not_true, not_false_iff, c2]⟩
def dropM (M : Mem) : Mem := mcp (mcp (mcp (mup M 0 12 0 (nI 11)) 0 13 0 13 1 0 11) 0 14 0 14 1 0 11) 0 15 0 15 1 0 11
theorem c_drop {M : Mem} {α : Sp} (hj : Rj (M 0) α) (h : α 14 = 12) (Q : Unit → Mem → Prop) : wp (f_X5_dropOldest 0 M) Q = Q () (dropM M) := by
  obtain ⟨j0, j1, j2⟩ := hj
  unfold f_X5_dropOldest
  simp (disch := omega) only [lit_0, lit_1, lit_2, lit_3, lit_4, lit_5, lit_6, lit_7, lit_8, lit_9, lit_10, lit_11, lit_12, lit_13, lit_14, lit_15, lit_16, lit_20, lit_23, lit_24, lit_31, lit_32, lit_39, lit_43, lit_45, lit_47, lit_48, lit_56, lit_57, lit_59, lit_60, lit_62, lit_63, lit_89, lit_92, lit_96, lit_97, lit_99, lit_100, lit_102, lit_103, lit_104, lit_110, lit_111, lit_115, lit_117, lit_194, lit_200, lit_644, lit_736, lit_999, lit_1000, lit_9999, lit_10000, lit_1000000000, ↓wp_mlet, ↓wp_mbp, ↓wp_ite, ↓wp_mix, ↓wp_mdiv, ↓wp_mnz, ↓wp_some, ↓wp_mbnd, ↓mlet_eq, ↓mbp_eq, ↓mbnd_eq, ↓mix_ite, ↓mdiv_ite, ↓mnz_ite, nI_add, nI_mul, nI_nat, nI_ltE, nI_leE, nI_eqE, nI_eqN, nI_Neq, nI_Nlt, nI_Nle, nI_ltN, nI_leN, ↓reduceIte, ↓Nat.reduceEqDiff, and_f, nt_e, nt_t, nl_t, nl_f, ne_t, ne_f, and_self, or_self, or_true, true_or, or_false, false_or, if_true, if_false, and_true, true_and, and_false, false_and, not_true, not_false_iff, j0, h, nI_subE, Nat.reduceSub]
  have a0 : (mup M 0 12 0 (nI 11)) 0 12 0 = nI 11 := by rw [mup_at, if_pos (by decide)]
  rw [a0, wp_mcpy (by decide) (by decide) (by decide) (fun j hj => rfl)]
  have a1 : (mcp (mup M 0 12 0 (nI 11)) 0 13 0 13 1 0 11) 0 12 0 = nI 11 := by rw [mcp_at, if_neg (by decide), a0]
  rw [a1, wp_mcpy (by decide) (by decide) (by decide) (fun j hj => by
    obtain ⟨c, c1, c2⟩ := j2 (1 + j) (by omega)
    rw [mcp_at, if_neg (by decide), mup_at, if_neg (by omega), c2]
    exact fits_char c1)]
  have a2 : (mcp (mcp (mup M 0 12 0 (nI 11)) 0 13 0 13 1 0 11) 0 14 0 14 1 0 11) 0 12 0 = nI 11 := by rw [mcp_at, if_neg (by decide), a1]
  rw [a2, wp_mcpy (by decide) (by decide) (by decide) (fun j hj => rfl), wp_some]
  rfl
theorem dropM_Rj {M : Mem} {α : Sp} (hj : Rj (M 0) α) (h : α 14 = 12) : Rj ((dropM M) 0) (shiftSp α) := by
  obtain ⟨j0, j1, j2⟩ := hj
  unfold dropM
  refine ⟨?_, fun i hi h9 => ?_, fun i hi => ?_⟩
  · simp (disch := omega) only [mcp_at, mup_at, up_at, fil_at, ↓reduceIte, ↓Nat.reduceEqDiff, and_f, nt_e, nt_t, nl_t, nl_f, ne_t, ne_f, and_self, or_self, or_true, true_or, or_false, false_or, if_true, if_false, and_true, true_and, and_false, false_and, not_true, not_false_iff, shiftSp_at]
  · simp (disch := omega) only [shiftSp_at, ↓reduceIte, ↓Nat.reduceEqDiff, and_f, nt_e, nt_t, nl_t, nl_f, ne_t, ne_f, and_self, or_self, or_true, true_or, or_false, false_or, if_true, if_false, and_true, true_and, and_false, false_and, not_true, not_false_iff] at h9
    obtain ⟨a1, a2, a3⟩ := j1 (i + 1) (by omega) (by omega)
    have e : 1 + (i - 0) = i + 1 := by omega
    refine ⟨?_, ?_, ?_⟩
    · simp (disch := omega) only [mcp_at, mup_at, up_at, fil_at, ↓reduceIte, ↓Nat.reduceEqDiff, and_f, nt_e, nt_t, nl_t, nl_f, ne_t, ne_f, and_self, or_self, or_true, true_or, or_false, false_or, if_true, if_false, and_true, true_and, and_false, false_and, not_true, not_false_iff, shiftSp_at, e, a1]
      rfl
    · simp (disch := omega) only [mcp_at, mup_at, up_at, fil_at, ↓reduceIte, ↓Nat.reduceEqDiff, and_f, nt_e, nt_t, nl_t, nl_f, ne_t, ne_f, and_self, or_self, or_true, true_or, or_false, false_or, if_true, if_false, and_true, true_and, and_false, false_and, not_true, not_false_iff, shiftSp_at, e, a2]
      rfl
    · simp (disch := omega) only [mcp_at, mup_at, up_at, fil_at, ↓reduceIte, ↓Nat.reduceEqDiff, and_f, nt_e, nt_t, nl_t, nl_f, ne_t, ne_f, and_self, or_self, or_true, true_or, or_false, false_or, if_true, if_false, and_true, true_and, and_false, false_and, not_true, not_false_iff, shiftSp_at, e, a3]
      rfl
  · by_cases q : i < 11
    · obtain ⟨c, c1, c2⟩ := j2 (i + 1) (by omega)
      have e : 1 + (i - 0) = i + 1 := by omega
      exact ⟨c, c1, by simp (disch := omega) only [mcp_at, mup_at, up_at, fil_at, ↓reduceIte, ↓Nat.reduceEqDiff, and_f, nt_e, nt_t, nl_t, nl_f, ne_t, ne_f, and_self, or_self, or_true, true_or, or_false, false_or, if_true, if_false, and_true, true_and, and_false, false_and, not_true, not_false_iff, e, c2]⟩
    · obtain ⟨c, c1, c2⟩ := j2 i hi
      exact ⟨c, c1, by simp (disch := omega) only [mcp_at, mup_at, up_at, fil_at, ↓reduceIte, ↓Nat.reduceEqDiff, and_f, nt_e, nt_t, nl_t, nl_f, ne_t, ne_f, and_self, or_self, or_true, true_or, or_false, false_or, if_true, if_false, and_true, true_and, and_false, false_and, not_true, not_false_iff, c2]⟩
theorem dropM_i {M : Mem} {i : Nat} (hi : ¬ (12 ≤ i ∧ i ≤ 15)) : (dropM M) 0 i = M 0 i := by
  unfold dropM
  funext c
  simp (disch := omega) only [mcp_at, mup_at, up_at, fil_at, ↓reduceIte, ↓Nat.reduceEqDiff, and_f, nt_e, nt_t, nl_t, nl_f, ne_t, ne_f, and_self, or_self, or_true, true_or, or_false, false_or, if_true, if_false, and_true, true_and, and_false, false_and, not_true, not_false_iff]
theorem dropM_g {M : Mem} {a : Nat} (ha : a ≠ 0) : (dropM M) a = M a := by
  unfold dropM
  rw [pc_g ha, pc_g ha, pc_g ha, pm_g ha]
theorem c_enter {M : Mem} {α : Sp} {k w : Nat} (hj : Rj (M 0) α) (h14 : α 14 ≤ 12) (hk : k < 65536) : wp (f_X5_enter 0 (nI (α 11)) (nI k) (nI w) M) (fun _ M1 => Rj (M1 0) (sLog α k w) ∧ (∀ i, ¬ (12 ≤ i ∧ i ≤ 15) → M1 0 i = M 0 i) ∧ ∀ a, a ≠ 0 → M1 a = M a) := by
  unfold f_X5_enter
  have j0 := hj.1
  by_cases h : α 14 = 12
  · have eB : logB α = shiftSp α := by unfold logB; rw [if_pos h]
    have hD := dropM_Rj hj h
    have d0 := hD.1
    have q14 : shiftSp α 14 = 11 := by rw [shiftSp_at, if_pos rfl]
    have q11 : shiftSp α 11 = α 11 := by rw [shiftSp_at, if_neg (by decide), if_neg (by decide)]
    rw [q14] at d0
    have key := c_entTail (k := k) (w := w) hD (by rw [q14]; decide) hk
    rw [q14, q11] at key
    simp (disch := omega) only [lit_0, lit_1, lit_2, lit_3, lit_4, lit_5, lit_6, lit_7, lit_8, lit_9, lit_10, lit_11, lit_12, lit_13, lit_14, lit_15, lit_16, lit_20, lit_23, lit_24, lit_31, lit_32, lit_39, lit_43, lit_45, lit_47, lit_48, lit_56, lit_57, lit_59, lit_60, lit_62, lit_63, lit_89, lit_92, lit_96, lit_97, lit_99, lit_100, lit_102, lit_103, lit_104, lit_110, lit_111, lit_115, lit_117, lit_194, lit_200, lit_644, lit_736, lit_999, lit_1000, lit_9999, lit_10000, lit_1000000000, ↓wp_mlet, ↓wp_mbp, ↓wp_ite, ↓wp_mix, ↓wp_mdiv, ↓wp_mnz, ↓wp_some, ↓wp_mbnd, ↓mlet_eq, ↓mbp_eq, ↓mbnd_eq, ↓mix_ite, ↓mdiv_ite, ↓mnz_ite, nI_add, nI_mul, nI_nat, nI_ltE, nI_leE, nI_eqE, nI_eqN, nI_Neq, nI_Nlt, nI_Nle, nI_ltN, nI_leN, ↓reduceIte, ↓Nat.reduceEqDiff, and_f, nt_e, nt_t, nl_t, nl_f, ne_t, ne_f, and_self, or_self, or_true, true_or, or_false, false_or, if_true, if_false, and_true, true_and, and_false, false_and, not_true, not_false_iff, j0, h]
    rw [c_drop hj h]
    simp (disch := omega) only [lit_0, lit_1, lit_2, lit_3, lit_4, lit_5, lit_6, lit_7, lit_8, lit_9, lit_10, lit_11, lit_12, lit_13, lit_14, lit_15, lit_16, lit_20, lit_23, lit_24, lit_31, lit_32, lit_39, lit_43, lit_45, lit_47, lit_48, lit_56, lit_57, lit_59, lit_60, lit_62, lit_63, lit_89, lit_92, lit_96, lit_97, lit_99, lit_100, lit_102, lit_103, lit_104, lit_110, lit_111, lit_115, lit_117, lit_194, lit_200, lit_644, lit_736, lit_999, lit_1000, lit_9999, lit_10000, lit_1000000000, ↓wp_mlet, ↓wp_mbp, ↓wp_ite, ↓wp_mix, ↓wp_mdiv, ↓wp_mnz, ↓wp_some, ↓wp_mbnd, ↓mlet_eq, ↓mbp_eq, ↓mbnd_eq, ↓mix_ite, ↓mdiv_ite, ↓mnz_ite, nI_add, nI_mul, nI_nat, nI_ltE, nI_leE, nI_eqE, nI_eqN, nI_Neq, nI_Nlt, nI_Nle, nI_ltN, nI_leN, ↓reduceIte, ↓Nat.reduceEqDiff, and_f, nt_e, nt_t, nl_t, nl_f, ne_t, ne_f, and_self, or_self, or_true, true_or, or_false, false_or, if_true, if_false, and_true, true_and, and_false, false_and, not_true, not_false_iff, mup_at, up_at, fil_at, ↓reduceIte, ↓Nat.reduceEqDiff, and_f, nt_e, nt_t, nl_t, nl_f, ne_t, ne_f, and_self, or_self, or_true, true_or, or_false, false_or, if_true, if_false, and_true, true_and, and_false, false_and, not_true, not_false_iff, d0, vnar_char]
    unfold sLog
    rw [eB]
    refine ⟨key, fun i hi => ?_, fun a ha => ?_⟩
    · rw [pm_ne (by omega), pm_ne (by omega), pm_ne (by omega), pm_ne (by omega), dropM_i hi]
    · rw [pm_g ha, pm_g ha, pm_g ha, pm_g ha, dropM_g ha]
  · have eB : logB α = α := by unfold logB; rw [if_neg h]
    have key := c_entTail (k := k) (w := w) hj (by omega) hk
    simp (disch := omega) only [lit_0, lit_1, lit_2, lit_3, lit_4, lit_5, lit_6, lit_7, lit_8, lit_9, lit_10, lit_11, lit_12, lit_13, lit_14, lit_15, lit_16, lit_20, lit_23, lit_24, lit_31, lit_32, lit_39, lit_43, lit_45, lit_47, lit_48, lit_56, lit_57, lit_59, lit_60, lit_62, lit_63, lit_89, lit_92, lit_96, lit_97, lit_99, lit_100, lit_102, lit_103, lit_104, lit_110, lit_111, lit_115, lit_117, lit_194, lit_200, lit_644, lit_736, lit_999, lit_1000, lit_9999, lit_10000, lit_1000000000, ↓wp_mlet, ↓wp_mbp, ↓wp_ite, ↓wp_mix, ↓wp_mdiv, ↓wp_mnz, ↓wp_some, ↓wp_mbnd, ↓mlet_eq, ↓mbp_eq, ↓mbnd_eq, ↓mix_ite, ↓mdiv_ite, ↓mnz_ite, nI_add, nI_mul, nI_nat, nI_ltE, nI_leE, nI_eqE, nI_eqN, nI_Neq, nI_Nlt, nI_Nle, nI_ltN, nI_leN, ↓reduceIte, ↓Nat.reduceEqDiff, and_f, nt_e, nt_t, nl_t, nl_f, ne_t, ne_f, and_self, or_self, or_true, true_or, or_false, false_or, if_true, if_false, and_true, true_and, and_false, false_and, not_true, not_false_iff, mup_at, up_at, fil_at, ↓reduceIte, ↓Nat.reduceEqDiff, and_f, nt_e, nt_t, nl_t, nl_f, ne_t, ne_f, and_self, or_self, or_true, true_or, or_false, false_or, if_true, if_false, and_true, true_and, and_false, false_and, not_true, not_false_iff, j0, vnar_char]
    unfold sLog
    rw [eB]
    refine ⟨key, fun i hi => ?_, fun a ha => ?_⟩
    · rw [pm_ne (by omega), pm_ne (by omega), pm_ne (by omega), pm_ne (by omega)]
    · rw [pm_g ha, pm_g ha, pm_g ha, pm_g ha]
