/-! WHAT CAN BE UNDONE -/
theorem m_remembers {M : Mem} : f_X12_remembers M = some ((), fil (mup M 12 47 0 (nI 0)) 12 49 0 92 (M 12 48)) := by
  unfold f_X12_remembers
  generalize hN : (1000 : Nat) = N
  have key := mloop (F := fun n x s kk => f_X12_remembers_L7 n x s kk) (c := 92) (fun x => fil (mup M 12 47 0 (nI 0)) 12 49 0 x (M 12 48)) (fun m x kk hx => by
    rw [f_X12_remembers_L7.eq_2]
    have e : (fil (mup M 12 47 0 (nI 0)) 12 49 0 x (M 12 48)) 12 48 x = M 12 48 x := by rw [fil_ne (by decide), pm_ne (by decide)]
    simp (disch := omega) only [lit_0, lit_1, lit_2, lit_3, lit_4, lit_5, lit_6, lit_7, lit_8, lit_9, lit_10, lit_11, lit_12, lit_13, lit_14, lit_15, lit_16, lit_20, lit_23, lit_24, lit_31, lit_32, lit_39, lit_43, lit_45, lit_47, lit_48, lit_56, lit_57, lit_59, lit_60, lit_62, lit_63, lit_89, lit_92, lit_96, lit_97, lit_99, lit_100, lit_102, lit_103, lit_104, lit_110, lit_111, lit_115, lit_117, lit_194, lit_200, lit_644, lit_736, lit_999, lit_1000, lit_9999, lit_10000, lit_1000000000, ↓wp_mlet, ↓wp_mbp, ↓wp_ite, ↓wp_mix, ↓wp_mdiv, ↓wp_mnz, ↓wp_some, ↓wp_mbnd, ↓mlet_eq, ↓mbp_eq, ↓mbnd_eq, ↓mix_ite, ↓mdiv_ite, ↓mnz_ite, nI_add, nI_mul, nI_nat, nI_ltE, nI_leE, nI_eqE, nI_eqN, nI_Neq, nI_Nlt, nI_Nle, nI_ltN, nI_leN, ↓reduceIte, ↓Nat.reduceEqDiff, and_f, nt_e, nt_t, nl_t, nl_f, ne_t, ne_f, and_self, or_self, or_true, true_or, or_false, false_or, if_true, if_false, and_true, true_and, and_false, false_and, not_true, not_false_iff, e]
    rw [fil_s (Nat.zero_le _) rfl]) (fun m kk => by
    rw [f_X12_remembers_L7.eq_2]
    simp (disch := omega) only [lit_0, lit_1, lit_2, lit_3, lit_4, lit_5, lit_6, lit_7, lit_8, lit_9, lit_10, lit_11, lit_12, lit_13, lit_14, lit_15, lit_16, lit_20, lit_23, lit_24, lit_31, lit_32, lit_39, lit_43, lit_45, lit_47, lit_48, lit_56, lit_57, lit_59, lit_60, lit_62, lit_63, lit_89, lit_92, lit_96, lit_97, lit_99, lit_100, lit_102, lit_103, lit_104, lit_110, lit_111, lit_115, lit_117, lit_194, lit_200, lit_644, lit_736, lit_999, lit_1000, lit_9999, lit_10000, lit_1000000000, ↓wp_mlet, ↓wp_mbp, ↓wp_ite, ↓wp_mix, ↓wp_mdiv, ↓wp_mnz, ↓wp_some, ↓wp_mbnd, ↓mlet_eq, ↓mbp_eq, ↓mbnd_eq, ↓mix_ite, ↓mdiv_ite, ↓mnz_ite, nI_add, nI_mul, nI_nat, nI_ltE, nI_leE, nI_eqE, nI_eqN, nI_Neq, nI_Nlt, nI_Nle, nI_ltN, nI_leN, ↓reduceIte, ↓Nat.reduceEqDiff, and_f, nt_e, nt_t, nl_t, nl_f, ne_t, ne_f, and_self, or_self, or_true, true_or, or_false, false_or, if_true, if_false, and_true, true_and, and_false, false_and, not_true, not_false_iff])
  have := key 92 N 0 (fun M7 => some ((), M7)) (by omega) (by omega)
  rw [fil_0] at this
  simp only [lit_0, lit_1, lit_2, lit_3, lit_4, lit_5, lit_6, lit_7, lit_8, lit_9, lit_10, lit_11, lit_12, lit_13, lit_14, lit_15, lit_16, lit_20, lit_23, lit_24, lit_31, lit_32, lit_39, lit_43, lit_45, lit_47, lit_48, lit_56, lit_57, lit_59, lit_60, lit_62, lit_63, lit_89, lit_92, lit_96, lit_97, lit_99, lit_100, lit_102, lit_103, lit_104, lit_110, lit_111, lit_115, lit_117, lit_194, lit_200, lit_644, lit_736, lit_999, lit_1000, lit_9999, lit_10000, lit_1000000000, mlet_eq]
  exact this
theorem m_shift {M : Mem} {N : Nat} (hN : 1000 = N) (kk : Mem → Option (Int32 × Mem)) : f_X12_changed_L11 N (nI 0) M kk = kk (fil M 12 51 0 644 (fun j => M 12 51 (j + 92))) := by
  have key := mloop (F := fun n x s kk => f_X12_changed_L11 n x s kk) (c := 644) (fun x => fil M 12 51 0 x (fun j => M 12 51 (j + 92))) (fun m x kk hx => by
    rw [f_X12_changed_L11.eq_2]
    have e : (fil M 12 51 0 x (fun j => M 12 51 (j + 92))) 12 51 (x + 92) = M 12 51 (x + 92) := by rw [fil_at, if_neg (by omega)]
    simp (disch := omega) only [lit_0, lit_1, lit_2, lit_3, lit_4, lit_5, lit_6, lit_7, lit_8, lit_9, lit_10, lit_11, lit_12, lit_13, lit_14, lit_15, lit_16, lit_20, lit_23, lit_24, lit_31, lit_32, lit_39, lit_43, lit_45, lit_47, lit_48, lit_56, lit_57, lit_59, lit_60, lit_62, lit_63, lit_89, lit_92, lit_96, lit_97, lit_99, lit_100, lit_102, lit_103, lit_104, lit_110, lit_111, lit_115, lit_117, lit_194, lit_200, lit_644, lit_736, lit_999, lit_1000, lit_9999, lit_10000, lit_1000000000, ↓wp_mlet, ↓wp_mbp, ↓wp_ite, ↓wp_mix, ↓wp_mdiv, ↓wp_mnz, ↓wp_some, ↓wp_mbnd, ↓mlet_eq, ↓mbp_eq, ↓mbnd_eq, ↓mix_ite, ↓mdiv_ite, ↓mnz_ite, nI_add, nI_mul, nI_nat, nI_ltE, nI_leE, nI_eqE, nI_eqN, nI_Neq, nI_Nlt, nI_Nle, nI_ltN, nI_leN, ↓reduceIte, ↓Nat.reduceEqDiff, and_f, nt_e, nt_t, nl_t, nl_f, ne_t, ne_f, and_self, or_self, or_true, true_or, or_false, false_or, if_true, if_false, and_true, true_and, and_false, false_and, not_true, not_false_iff, e]
    rw [fil_s (Nat.zero_le _) rfl]) (fun m kk => by
    rw [f_X12_changed_L11.eq_2]
    simp (disch := omega) only [lit_0, lit_1, lit_2, lit_3, lit_4, lit_5, lit_6, lit_7, lit_8, lit_9, lit_10, lit_11, lit_12, lit_13, lit_14, lit_15, lit_16, lit_20, lit_23, lit_24, lit_31, lit_32, lit_39, lit_43, lit_45, lit_47, lit_48, lit_56, lit_57, lit_59, lit_60, lit_62, lit_63, lit_89, lit_92, lit_96, lit_97, lit_99, lit_100, lit_102, lit_103, lit_104, lit_110, lit_111, lit_115, lit_117, lit_194, lit_200, lit_644, lit_736, lit_999, lit_1000, lit_9999, lit_10000, lit_1000000000, ↓wp_mlet, ↓wp_mbp, ↓wp_ite, ↓wp_mix, ↓wp_mdiv, ↓wp_mnz, ↓wp_some, ↓wp_mbnd, ↓mlet_eq, ↓mbp_eq, ↓mbnd_eq, ↓mix_ite, ↓mdiv_ite, ↓mnz_ite, nI_add, nI_mul, nI_nat, nI_ltE, nI_leE, nI_eqE, nI_eqN, nI_Neq, nI_Nlt, nI_Nle, nI_ltN, nI_leN, ↓reduceIte, ↓Nat.reduceEqDiff, and_f, nt_e, nt_t, nl_t, nl_f, ne_t, ne_f, and_self, or_self, or_true, true_or, or_false, false_or, if_true, if_false, and_true, true_and, and_false, false_and, not_true, not_false_iff])
  have := key 644 N 0 kk (by omega) (by omega)
  rw [fil_0] at this
  exact this
theorem m_push {M : Mem} {N K : Nat} {a : Int32} (hN : 1000 = N) (hK : K < 8) (h6 : M 12 47 6 = nI (K + 1)) : f_X12_changed_L54 N (nI 0) M (fun M16 => some (a, M16)) = some (a, fil M 12 51 (92 * K) (92 * K + 92) (fun j => M 12 49 (j - 92 * K))) := by
  have key := mloop (F := fun n x s kk => f_X12_changed_L54 n x s kk) (c := 92) (fun x => fil M 12 51 (92 * K) (92 * K + x) (fun j => M 12 49 (j - 92 * K))) (fun m x kk hx => by
    rw [f_X12_changed_L54.eq_2]
    have e : (fil M 12 51 (92 * K) (92 * K + x) (fun j => M 12 49 (j - 92 * K))) 12 49 x = M 12 49 x := by rw [fil_ne (by decide)]
    have e6 : (fil M 12 51 (92 * K) (92 * K + x) (fun j => M 12 49 (j - 92 * K))) 12 47 6 = nI (K + 1) := by rw [fil_ne (by decide), h6]
    simp (disch := omega) only [lit_0, lit_1, lit_2, lit_3, lit_4, lit_5, lit_6, lit_7, lit_8, lit_9, lit_10, lit_11, lit_12, lit_13, lit_14, lit_15, lit_16, lit_20, lit_23, lit_24, lit_31, lit_32, lit_39, lit_43, lit_45, lit_47, lit_48, lit_56, lit_57, lit_59, lit_60, lit_62, lit_63, lit_89, lit_92, lit_96, lit_97, lit_99, lit_100, lit_102, lit_103, lit_104, lit_110, lit_111, lit_115, lit_117, lit_194, lit_200, lit_644, lit_736, lit_999, lit_1000, lit_9999, lit_10000, lit_1000000000, ↓wp_mlet, ↓wp_mbp, ↓wp_ite, ↓wp_mix, ↓wp_mdiv, ↓wp_mnz, ↓wp_some, ↓wp_mbnd, ↓mlet_eq, ↓mbp_eq, ↓mbnd_eq, ↓mix_ite, ↓mdiv_ite, ↓mnz_ite, nI_add, nI_mul, nI_nat, nI_ltE, nI_leE, nI_eqE, nI_eqN, nI_Neq, nI_Nlt, nI_Nle, nI_ltN, nI_leN, ↓reduceIte, ↓Nat.reduceEqDiff, and_f, nt_e, nt_t, nl_t, nl_f, ne_t, ne_f, and_self, or_self, or_true, true_or, or_false, false_or, if_true, if_false, and_true, true_and, and_false, false_and, not_true, not_false_iff, e, e6, nI_subE, Nat.add_sub_cancel]
    rw [fil_s (by omega) (by rw [show 92 * K + x - 92 * K = x by omega])]
    rfl) (fun m kk => by
    rw [f_X12_changed_L54.eq_2]
    simp (disch := omega) only [lit_0, lit_1, lit_2, lit_3, lit_4, lit_5, lit_6, lit_7, lit_8, lit_9, lit_10, lit_11, lit_12, lit_13, lit_14, lit_15, lit_16, lit_20, lit_23, lit_24, lit_31, lit_32, lit_39, lit_43, lit_45, lit_47, lit_48, lit_56, lit_57, lit_59, lit_60, lit_62, lit_63, lit_89, lit_92, lit_96, lit_97, lit_99, lit_100, lit_102, lit_103, lit_104, lit_110, lit_111, lit_115, lit_117, lit_194, lit_200, lit_644, lit_736, lit_999, lit_1000, lit_9999, lit_10000, lit_1000000000, ↓wp_mlet, ↓wp_mbp, ↓wp_ite, ↓wp_mix, ↓wp_mdiv, ↓wp_mnz, ↓wp_some, ↓wp_mbnd, ↓mlet_eq, ↓mbp_eq, ↓mbnd_eq, ↓mix_ite, ↓mdiv_ite, ↓mnz_ite, nI_add, nI_mul, nI_nat, nI_ltE, nI_leE, nI_eqE, nI_eqN, nI_Neq, nI_Nlt, nI_Nle, nI_ltN, nI_leN, ↓reduceIte, ↓Nat.reduceEqDiff, and_f, nt_e, nt_t, nl_t, nl_f, ne_t, ne_f, and_self, or_self, or_true, true_or, or_false, false_or, if_true, if_false, and_true, true_and, and_false, false_and, not_true, not_false_iff])
  have := key 92 N 0 (fun M16 => some (a, M16)) (by omega) (by omega)
  rw [show 92 * K + 0 = 92 * K from rfl, fil_0] at this
  exact this
/-- the states that can be undone: k of them, the oldest first -/
def Hs (M : Mem) (αh : Nat → Sp) (K nx : Nat) : Prop := nx < 9 ∧ K ≤ 8 ∧ M 12 17 1 = nI nx ∧ M 12 17 2 = nI K ∧ M 12 47 6 = nI K ∧ (∀ k, k < K → RC (M (1 + (nx + 9 - K + k) % 9)) (αh k)) ∧ ∀ k, k < K → ∀ j, j < 92 → M 12 51 (92 * k + j) = enc (αh k) j
def pushH (αh : Nat → Sp) (K : Nat) (α : Sp) : Nat → Sp := fun k => if K = 8 then (if k = 7 then α else αh (k + 1)) else if k = K then α else αh k
def minK (K : Nat) : Nat := if K = 8 then 8 else K + 1
theorem m_changed {M : Mem} {αh : Nat → Sp} {α : Sp} {K nx : Nat} {a : Int32} (hK : K ≤ 8) (h6 : M 12 47 6 = nI K) (hh : ∀ k, k < K → ∀ j, j < 92 → M 12 51 (92 * k + j) = enc (αh k) j) (hf : ∀ j, j < 92 → M 12 49 j = enc α j) :
    wp (f_X12_changed a M) (fun r M1 => r = a ∧ M1 12 47 6 = nI (minK K) ∧ (∀ k, k < minK K → ∀ j, j < 92 → M1 12 51 (92 * k + j) = enc (pushH αh K α k) j) ∧ (∀ i, i ≠ 6 → M1 12 47 i = M 12 47 i) ∧ ∀ a b, ¬ (a = 12 ∧ (b = 47 ∨ b = 51)) → M1 a b = M a b) := by
  unfold f_X12_changed
  generalize hN : (1000 : Nat) = N
  by_cases h8 : K = 8
  · subst h8
    simp (disch := omega) only [lit_0, lit_1, lit_2, lit_3, lit_4, lit_5, lit_6, lit_7, lit_8, lit_9, lit_10, lit_11, lit_12, lit_13, lit_14, lit_15, lit_16, lit_20, lit_23, lit_24, lit_31, lit_32, lit_39, lit_43, lit_45, lit_47, lit_48, lit_56, lit_57, lit_59, lit_60, lit_62, lit_63, lit_89, lit_92, lit_96, lit_97, lit_99, lit_100, lit_102, lit_103, lit_104, lit_110, lit_111, lit_115, lit_117, lit_194, lit_200, lit_644, lit_736, lit_999, lit_1000, lit_9999, lit_10000, lit_1000000000, ↓wp_mlet, ↓wp_mbp, ↓wp_ite, ↓wp_mix, ↓wp_mdiv, ↓wp_mnz, ↓wp_some, ↓wp_mbnd, ↓mlet_eq, ↓mbp_eq, ↓mbnd_eq, ↓mix_ite, ↓mdiv_ite, ↓mnz_ite, nI_add, nI_mul, nI_nat, nI_ltE, nI_leE, nI_eqE, nI_eqN, nI_Neq, nI_Nlt, nI_Nle, nI_ltN, nI_leN, ↓reduceIte, ↓Nat.reduceEqDiff, and_f, nt_e, nt_t, nl_t, nl_f, ne_t, ne_f, and_self, or_self, or_true, true_or, or_false, false_or, if_true, if_false, and_true, true_and, and_false, false_and, not_true, not_false_iff, h6]
    rw [m_shift hN]
    rw [m_push (K := 7) hN (by decide) (by rw [fil_ne (by decide), h6])]
    rw [wp_some]
    refine ⟨rfl, ?_, fun k hk j hj => ?_, fun i hi => ?_, fun a b hab => ?_⟩
    · rw [fil_ne (by decide), fil_ne (by decide), h6]
      rfl
    · have hk8 : k < 8 := hk
      unfold pushH
      rw [if_pos rfl]
      by_cases q : k = 7
      · subst q
        rw [if_pos rfl, fil_at, if_pos (by omega), fil_ne (by decide), show 92 * 7 + j - 92 * 7 = j by omega]
        exact hf j hj
      · rw [if_neg q, fil_at, if_neg (by omega), fil_at, if_pos (by omega), show 92 * k + j + 92 = 92 * (k + 1) + j by omega]
        exact hh (k + 1) (by omega) j hj
    · rw [fil_ne (by decide), fil_ne (by decide)]
    · rw [fil_ne (by omega), fil_ne (by omega)]
  · simp (disch := omega) only [lit_0, lit_1, lit_2, lit_3, lit_4, lit_5, lit_6, lit_7, lit_8, lit_9, lit_10, lit_11, lit_12, lit_13, lit_14, lit_15, lit_16, lit_20, lit_23, lit_24, lit_31, lit_32, lit_39, lit_43, lit_45, lit_47, lit_48, lit_56, lit_57, lit_59, lit_60, lit_62, lit_63, lit_89, lit_92, lit_96, lit_97, lit_99, lit_100, lit_102, lit_103, lit_104, lit_110, lit_111, lit_115, lit_117, lit_194, lit_200, lit_644, lit_736, lit_999, lit_1000, lit_9999, lit_10000, lit_1000000000, ↓wp_mlet, ↓wp_mbp, ↓wp_ite, ↓wp_mix, ↓wp_mdiv, ↓wp_mnz, ↓wp_some, ↓wp_mbnd, ↓mlet_eq, ↓mbp_eq, ↓mbnd_eq, ↓mix_ite, ↓mdiv_ite, ↓mnz_ite, nI_add, nI_mul, nI_nat, nI_ltE, nI_leE, nI_eqE, nI_eqN, nI_Neq, nI_Nlt, nI_Nle, nI_ltN, nI_leN, ↓reduceIte, ↓Nat.reduceEqDiff, and_f, nt_e, nt_t, nl_t, nl_f, ne_t, ne_f, and_self, or_self, or_true, true_or, or_false, false_or, if_true, if_false, and_true, true_and, and_false, false_and, not_true, not_false_iff, h6]
    rw [m_push (K := K) hN (by omega) (by rw [mup_at, if_pos (by decide)])]
    rw [wp_some]
    have eK : minK K = K + 1 := by unfold minK; rw [if_neg h8]
    rw [eK]
    refine ⟨rfl, ?_, fun k hk j hj => ?_, fun i hi => ?_, fun a b hab => ?_⟩
    · rw [fil_ne (by decide), mup_at, if_pos (by decide)]
    · unfold pushH
      rw [if_neg h8]
      by_cases q : k = K
      · subst q
        rw [if_pos rfl, fil_at, if_pos (by omega), pm_ne (by decide), show 92 * k + j - 92 * k = j by omega]
        exact hf j hj
      · rw [if_neg q, fil_at, if_neg (by omega), pm_ne (by decide)]
        exact hh k (by omega) j hj
    · rw [fil_ne (by decide), mup_at, if_neg (by omega)]
    · rw [fil_ne (by omega), pm_ne (by omega)]
theorem c_prepare {M : Mem} {α : Sp} {nx : Nat} (hx : nx < 9) (h1 : M 12 17 1 = nI nx) (hR : RC (M 0) α) (b1 : α 1 ≤ 1) (b6 : α 6 ≤ 1) : wp (f_X4_prepare 0 M) (fun _ M1 => RC (M1 (1 + nx)) α ∧ ∀ a, a ≠ 1 + nx → M1 a = M a) := by
  unfold f_X4_prepare
  simp (disch := omega) only [lit_0, lit_1, lit_2, lit_3, lit_4, lit_5, lit_6, lit_7, lit_8, lit_9, lit_10, lit_11, lit_12, lit_13, lit_14, lit_15, lit_16, lit_20, lit_23, lit_24, lit_31, lit_32, lit_39, lit_43, lit_45, lit_47, lit_48, lit_56, lit_57, lit_59, lit_60, lit_62, lit_63, lit_89, lit_92, lit_96, lit_97, lit_99, lit_100, lit_102, lit_103, lit_104, lit_110, lit_111, lit_115, lit_117, lit_194, lit_200, lit_644, lit_736, lit_999, lit_1000, lit_9999, lit_10000, lit_1000000000, ↓wp_mlet, ↓wp_mbp, ↓wp_ite, ↓wp_mix, ↓wp_mdiv, ↓wp_mnz, ↓wp_some, ↓wp_mbnd, ↓mlet_eq, ↓mbp_eq, ↓mbnd_eq, ↓mix_ite, ↓mdiv_ite, ↓mnz_ite, nI_add, nI_mul, nI_nat, nI_ltE, nI_leE, nI_eqE, nI_eqN, nI_Neq, nI_Nlt, nI_Nle, nI_ltN, nI_leN, ↓reduceIte, ↓Nat.reduceEqDiff, and_f, nt_e, nt_t, nl_t, nl_f, ne_t, ne_f, and_self, or_self, or_true, true_or, or_false, false_or, if_true, if_false, and_true, true_and, and_false, false_and, not_true, not_false_iff, h1]
  refine wp_mono (c_copy (by omega) hR b1 b6) ?_
  rintro - M1 ⟨q1, -, q3⟩
  exact ⟨q1, q3⟩
theorem c_keep {M : Mem} {nx K : Nat} (hx : nx < 9) (hK : K ≤ 8) (h1 : M 12 17 1 = nI nx) (h2 : M 12 17 2 = nI K) : wp (f_X4_keep M) (fun _ M1 => M1 12 17 1 = nI ((nx + 1) % 9) ∧ M1 12 17 2 = nI (minK K) ∧ ∀ a b, ¬ (a = 12 ∧ b = 17) → M1 a b = M a b) := by
  unfold f_X4_keep minK
  by_cases h8 : K = 8
  · simp (disch := omega) only [lit_0, lit_1, lit_2, lit_3, lit_4, lit_5, lit_6, lit_7, lit_8, lit_9, lit_10, lit_11, lit_12, lit_13, lit_14, lit_15, lit_16, lit_20, lit_23, lit_24, lit_31, lit_32, lit_39, lit_43, lit_45, lit_47, lit_48, lit_56, lit_57, lit_59, lit_60, lit_62, lit_63, lit_89, lit_92, lit_96, lit_97, lit_99, lit_100, lit_102, lit_103, lit_104, lit_110, lit_111, lit_115, lit_117, lit_194, lit_200, lit_644, lit_736, lit_999, lit_1000, lit_9999, lit_10000, lit_1000000000, ↓wp_mlet, ↓wp_mbp, ↓wp_ite, ↓wp_mix, ↓wp_mdiv, ↓wp_mnz, ↓wp_some, ↓wp_mbnd, ↓mlet_eq, ↓mbp_eq, ↓mbnd_eq, ↓mix_ite, ↓mdiv_ite, ↓mnz_ite, nI_add, nI_mul, nI_nat, nI_ltE, nI_leE, nI_eqE, nI_eqN, nI_Neq, nI_Nlt, nI_Nle, nI_ltN, nI_leN, ↓reduceIte, ↓Nat.reduceEqDiff, and_f, nt_e, nt_t, nl_t, nl_f, ne_t, ne_f, and_self, or_self, or_true, true_or, or_false, false_or, if_true, if_false, and_true, true_and, and_false, false_and, not_true, not_false_iff, mup_at, up_at, fil_at, ↓reduceIte, ↓Nat.reduceEqDiff, and_f, nt_e, nt_t, nl_t, nl_f, ne_t, ne_f, and_self, or_self, or_true, true_or, or_false, false_or, if_true, if_false, and_true, true_and, and_false, false_and, not_true, not_false_iff, h1, h2, h8, nI_rem]
    intro a b hab
    rw [pm_ne hab, pm_ne hab]
  · simp (disch := omega) only [lit_0, lit_1, lit_2, lit_3, lit_4, lit_5, lit_6, lit_7, lit_8, lit_9, lit_10, lit_11, lit_12, lit_13, lit_14, lit_15, lit_16, lit_20, lit_23, lit_24, lit_31, lit_32, lit_39, lit_43, lit_45, lit_47, lit_48, lit_56, lit_57, lit_59, lit_60, lit_62, lit_63, lit_89, lit_92, lit_96, lit_97, lit_99, lit_100, lit_102, lit_103, lit_104, lit_110, lit_111, lit_115, lit_117, lit_194, lit_200, lit_644, lit_736, lit_999, lit_1000, lit_9999, lit_10000, lit_1000000000, ↓wp_mlet, ↓wp_mbp, ↓wp_ite, ↓wp_mix, ↓wp_mdiv, ↓wp_mnz, ↓wp_some, ↓wp_mbnd, ↓mlet_eq, ↓mbp_eq, ↓mbnd_eq, ↓mix_ite, ↓mdiv_ite, ↓mnz_ite, nI_add, nI_mul, nI_nat, nI_ltE, nI_leE, nI_eqE, nI_eqN, nI_Neq, nI_Nlt, nI_Nle, nI_ltN, nI_leN, ↓reduceIte, ↓Nat.reduceEqDiff, and_f, nt_e, nt_t, nl_t, nl_f, ne_t, ne_f, and_self, or_self, or_true, true_or, or_false, false_or, if_true, if_false, and_true, true_and, and_false, false_and, not_true, not_false_iff, mup_at, up_at, fil_at, ↓reduceIte, ↓Nat.reduceEqDiff, and_f, nt_e, nt_t, nl_t, nl_f, ne_t, ne_f, and_self, or_self, or_true, true_or, or_false, false_or, if_true, if_false, and_true, true_and, and_false, false_and, not_true, not_false_iff, h1, h2, h8, nI_rem]
    intro a b hab
    rw [pm_ne hab, pm_ne hab]
