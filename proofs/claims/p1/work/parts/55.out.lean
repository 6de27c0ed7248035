/-! THE OUTPUT. p: how many signs, and which -/
abbrev Out : Type := Nat × (Nat → Nat)
def pt (c : Nat) (p : Out) : Out := (p.1 + 1, fun i => if i = p.1 then c else p.2 i)
theorem pt_1 {c : Nat} {p : Out} : (pt c p).1 = p.1 + 1 := rfl
theorem pt_2 {c i : Nat} {p : Out} : (pt c p).2 i = if i = p.1 then c else p.2 i := Eq.trans rfl rfl
def Oc (M0 M : Mem) (p : Out) : Prop := (M 12 45 1 = nI p.1 ∧ ∀ i, i < p.1 → M 12 46 i = nI (p.2 i) ∧ p.2 i < 65536) ∧ ∀ a b, ¬ (a = 12 ∧ (b = 45 ∨ b = 46)) → M a b = M0 a b
def Om (M0 M : Mem) (p : Out) : Prop := (M 12 47 13 = nI p.1 ∧ ∀ i, i < p.1 → M 12 55 i = nI (p.2 i) ∧ p.2 i < 65536) ∧ (∀ k, k ≠ 13 → M 12 47 k = M0 12 47 k) ∧ ∀ a b, ¬ (a = 12 ∧ (b = 47 ∨ b = 55)) → M a b = M0 a b
theorem c_put {M0 M : Mem} {p : Out} {c : Nat} (h : Oc M0 M p) (hp : p.1 < 200) (hc : c < 65536) : wp (f_X7_put (nI c) M) fun _ M1 => Oc M0 M1 (pt c p) := by
  obtain ⟨⟨h1, h2⟩, h3⟩ := h
  have e1 := vnar_char hc
  unfold f_X7_put
  simp (disch := omega) only [lit_0, lit_1, lit_2, lit_3, lit_4, lit_5, lit_6, lit_7, lit_8, lit_9, lit_10, lit_11, lit_12, lit_13, lit_14, lit_15, lit_16, lit_20, lit_23, lit_24, lit_31, lit_32, lit_39, lit_43, lit_45, lit_47, lit_48, lit_56, lit_57, lit_59, lit_60, lit_62, lit_63, lit_89, lit_92, lit_96, lit_97, lit_99, lit_100, lit_102, lit_103, lit_104, lit_110, lit_111, lit_115, lit_117, lit_194, lit_200, lit_644, lit_736, lit_999, lit_1000, lit_9999, lit_10000, lit_1000000000, ↓wp_mlet, ↓wp_mbp, ↓wp_ite, ↓wp_mix, ↓wp_mdiv, ↓wp_mnz, ↓wp_some, ↓wp_mbnd, ↓mlet_eq, ↓mbp_eq, ↓mbnd_eq, ↓mix_ite, ↓mdiv_ite, ↓mnz_ite, nI_add, nI_mul, nI_nat, nI_ltE, nI_leE, nI_eqE, nI_eqN, nI_Neq, nI_Nlt, nI_Nle, nI_ltN, nI_leN, ↓reduceIte, ↓Nat.reduceEqDiff, and_f, nt_e, nt_t, nl_t, nl_f, ne_t, ne_f, and_self, or_self, or_true, true_or, or_false, false_or, if_true, if_false, and_true, true_and, and_false, false_and, not_true, not_false_iff, mup_at, up_at, fil_at, ↓reduceIte, ↓Nat.reduceEqDiff, and_f, nt_e, nt_t, nl_t, nl_f, ne_t, ne_f, and_self, or_self, or_true, true_or, or_false, false_or, if_true, if_false, and_true, true_and, and_false, false_and, not_true, not_false_iff, h1, e1]
  refine ⟨⟨?_, fun i hi => ?_⟩, fun a b hab => ?_⟩
  · rw [mup_at, if_pos (by decide), pt_1]
  · rw [pt_1] at hi
    rw [pm_ne (by decide), mup_at, pt_2]
    by_cases q : i = p.1
    · rw [if_pos (by omega), if_pos q]
      exact ⟨rfl, hc⟩
    · rw [if_neg (by omega), if_neg q]
      exact h2 i (by omega)
  · rw [pm_ne (by omega), pm_ne (by omega)]
    exact h3 a b hab
theorem m_put {M0 M : Mem} {p : Out} {c : Nat} (h : Om M0 M p) (hp : p.1 < 140) (hc : c < 65536) : wp (f_X12_writes (nI c) M) fun _ M1 => Om M0 M1 (pt c p) := by
  obtain ⟨⟨h1, h2⟩, h3, h4⟩ := h
  unfold f_X12_writes
  simp (disch := omega) only [lit_0, lit_1, lit_2, lit_3, lit_4, lit_5, lit_6, lit_7, lit_8, lit_9, lit_10, lit_11, lit_12, lit_13, lit_14, lit_15, lit_16, lit_20, lit_23, lit_24, lit_31, lit_32, lit_39, lit_43, lit_45, lit_47, lit_48, lit_56, lit_57, lit_59, lit_60, lit_62, lit_63, lit_89, lit_92, lit_96, lit_97, lit_99, lit_100, lit_102, lit_103, lit_104, lit_110, lit_111, lit_115, lit_117, lit_194, lit_200, lit_644, lit_736, lit_999, lit_1000, lit_9999, lit_10000, lit_1000000000, ↓wp_mlet, ↓wp_mbp, ↓wp_ite, ↓wp_mix, ↓wp_mdiv, ↓wp_mnz, ↓wp_some, ↓wp_mbnd, ↓mlet_eq, ↓mbp_eq, ↓mbnd_eq, ↓mix_ite, ↓mdiv_ite, ↓mnz_ite, nI_add, nI_mul, nI_nat, nI_ltE, nI_leE, nI_eqE, nI_eqN, nI_Neq, nI_Nlt, nI_Nle, nI_ltN, nI_leN, ↓reduceIte, ↓Nat.reduceEqDiff, and_f, nt_e, nt_t, nl_t, nl_f, ne_t, ne_f, and_self, or_self, or_true, true_or, or_false, false_or, if_true, if_false, and_true, true_and, and_false, false_and, not_true, not_false_iff, mup_at, up_at, fil_at, ↓reduceIte, ↓Nat.reduceEqDiff, and_f, nt_e, nt_t, nl_t, nl_f, ne_t, ne_f, and_self, or_self, or_true, true_or, or_false, false_or, if_true, if_false, and_true, true_and, and_false, false_and, not_true, not_false_iff, h1]
  refine ⟨⟨?_, fun i hi => ?_⟩, fun k hk => ?_, fun a b hab => ?_⟩
  · rw [mup_at, if_pos (by decide), pt_1]
  · rw [pt_1] at hi
    rw [pm_ne (by decide), mup_at, pt_2]
    by_cases q : i = p.1
    · rw [if_pos (by omega), if_pos q]
      exact ⟨rfl, hc⟩
    · rw [if_neg (by omega), if_neg q]
      exact h2 i (by omega)
  · rw [mup_at, if_neg (by omega), pm_ne (by decide)]
    exact h3 k hk
  · rw [pm_ne (by omega), pm_ne (by omega)]
    exact h4 a b hab
def pd4 (n : Nat) (p : Out) : Out := if 9999 < n then pt (48 + n / 10000 % 10) p else p
def pd3 (n : Nat) (p : Out) : Out := if 999 < n then pt (48 + n / 1000 % 10) (pd4 n p) else pd4 n p
def pd2 (n : Nat) (p : Out) : Out := if 99 < n then pt (48 + n / 100 % 10) (pd3 n p) else pd3 n p
def pd1 (n : Nat) (p : Out) : Out := if 9 < n then pt (48 + n / 10 % 10) (pd2 n p) else pd2 n p
def pnum (n : Nat) (p : Out) : Out := pt (48 + n % 10) (pd1 n p)
theorem pt_le {a b c : Nat} {q : Out} : (if a < b then pt c q else q).1 ≤ q.1 + 1 := by
  split
  · exact Nat.le_refl _
  · exact Nat.le_succ _
theorem pd4_1 {n : Nat} {p : Out} : (pd4 n p).1 ≤ p.1 + 1 := pt_le
theorem pd3_1 {n : Nat} {p : Out} : (pd3 n p).1 ≤ p.1 + 2 := Nat.le_trans pt_le (Nat.succ_le_succ pd4_1)
theorem pd2_1 {n : Nat} {p : Out} : (pd2 n p).1 ≤ p.1 + 3 := Nat.le_trans pt_le (Nat.succ_le_succ pd3_1)
theorem pd1_1 {n : Nat} {p : Out} : (pd1 n p).1 ≤ p.1 + 4 := Nat.le_trans pt_le (Nat.succ_le_succ pd2_1)
theorem pnum_1 {n : Nat} {p : Out} : (pnum n p).1 ≤ p.1 + 5 := by
  have := pd1_1 (n := n) (p := p)
  show (pd1 n p).1 + 1 ≤ _
  omega
theorem pnum_9 {n : Nat} {p : Out} (h : n ≤ 9) : (pnum n p).1 = p.1 + 1 := by
  unfold pnum pd1 pd2 pd3 pd4
  rw [if_neg (by omega), if_neg (by omega), if_neg (by omega), if_neg (by omega), pt_1]
theorem dig_char : ∀ d : Fin 10, ((nI 48 + nI d.val).toUInt32 % 65536).toInt32 = nI (48 + d.val) := by decide +kernel
/-- the class's loop, one unit -/
theorem c_unit {M0 M : Mem} {p : Out} {n u m : Nat} (h : Oc M0 M p) (hp : p.1 < 200) (hn : n < 100000) (hu : 0 < u) (hu2 : u ≤ 1000000000) (kk : Mem → Option (Unit × Mem)) : ∃ M1, Oc M0 M1 (if u ≤ n ∨ u = 1 then pt (48 + n / u % 10) p else p) ∧ f_X7_putNumber_L5 (nI n) (m + 1) (nI (decide (10 * u ≤ n)).toNat) (nI u) M kk = f_X7_putNumber_L5 (nI n) m (nI (decide (u ≤ n ∨ u = 1)).toNat) (nI (u / 10)) M1 kk := by
  have e1 := nI_div (a := n) (b := u) (by omega) (by omega)
  have l1 : n / u ≤ n := Nat.div_le_self n u
  have e2 := nI_rem (a := n / u) (b := 10) (by omega) (by decide)
  have e3 := nI_div (a := u) (b := 10) (by omega) (by decide)
  have l2 := Nat.mod_lt (n / u) (show 0 < 10 by decide)
  have e4 := dig_char ⟨n / u % 10, l2⟩
  simp only [] at e4
  rw [f_X7_putNumber_L5.eq_2]
  by_cases q : u ≤ n ∨ u = 1
  · obtain ⟨⟨⟩, M1, e5, h5⟩ := c_put (c := 48 + n / u % 10) h hp (by omega)
    refine ⟨M1, by rw [if_pos q]; exact h5, ?_⟩
    rw [decide_eq_true q, Bool.toNat_true]
    by_cases r : 10 * u ≤ n
    · rw [decide_eq_true r, Bool.toNat_true]
      simp (disch := omega) only [lit_0, lit_1, lit_2, lit_3, lit_4, lit_5, lit_6, lit_7, lit_8, lit_9, lit_10, lit_11, lit_12, lit_13, lit_14, lit_15, lit_16, lit_20, lit_23, lit_24, lit_31, lit_32, lit_39, lit_43, lit_45, lit_47, lit_48, lit_56, lit_57, lit_59, lit_60, lit_62, lit_63, lit_89, lit_92, lit_96, lit_97, lit_99, lit_100, lit_102, lit_103, lit_104, lit_110, lit_111, lit_115, lit_117, lit_194, lit_200, lit_644, lit_736, lit_999, lit_1000, lit_9999, lit_10000, lit_1000000000, ↓wp_mlet, ↓wp_mbp, ↓wp_ite, ↓wp_mix, ↓wp_mdiv, ↓wp_mnz, ↓wp_some, ↓wp_mbnd, ↓mlet_eq, ↓mbp_eq, ↓mbnd_eq, ↓mix_ite, ↓mdiv_ite, ↓mnz_ite, nI_add, nI_mul, nI_nat, nI_ltE, nI_leE, nI_eqE, nI_eqN, nI_Neq, nI_Nlt, nI_Nle, nI_ltN, nI_leN, ↓reduceIte, ↓Nat.reduceEqDiff, and_f, nt_e, nt_t, nl_t, nl_f, ne_t, ne_f, and_self, or_self, or_true, true_or, or_false, false_or, if_true, if_false, and_true, true_and, and_false, false_and, not_true, not_false_iff, e1, e2, e3]
      rw [← nI_add, e4]
      simp (disch := omega) only [lit_0, lit_1, lit_2, lit_3, lit_4, lit_5, lit_6, lit_7, lit_8, lit_9, lit_10, lit_11, lit_12, lit_13, lit_14, lit_15, lit_16, lit_20, lit_23, lit_24, lit_31, lit_32, lit_39, lit_43, lit_45, lit_47, lit_48, lit_56, lit_57, lit_59, lit_60, lit_62, lit_63, lit_89, lit_92, lit_96, lit_97, lit_99, lit_100, lit_102, lit_103, lit_104, lit_110, lit_111, lit_115, lit_117, lit_194, lit_200, lit_644, lit_736, lit_999, lit_1000, lit_9999, lit_10000, lit_1000000000, ↓wp_mlet, ↓wp_mbp, ↓wp_ite, ↓wp_mix, ↓wp_mdiv, ↓wp_mnz, ↓wp_some, ↓wp_mbnd, ↓mlet_eq, ↓mbp_eq, ↓mbnd_eq, ↓mix_ite, ↓mdiv_ite, ↓mnz_ite, nI_add, nI_mul, nI_nat, nI_ltE, nI_leE, nI_eqE, nI_eqN, nI_Neq, nI_Nlt, nI_Nle, nI_ltN, nI_leN, ↓reduceIte, ↓Nat.reduceEqDiff, and_f, nt_e, nt_t, nl_t, nl_f, ne_t, ne_f, and_self, or_self, or_true, true_or, or_false, false_or, if_true, if_false, and_true, true_and, and_false, false_and, not_true, not_false_iff, e5]
    · rw [decide_eq_false r, Bool.toNat_false]
      have l3 : n / u < 10 := by
        rw [Nat.div_lt_iff_lt_mul hu]; omega
      by_cases r2 : u ≤ n
      · have l4 : 0 < n / u := Nat.div_pos r2 hu
        simp (disch := omega) only [lit_0, lit_1, lit_2, lit_3, lit_4, lit_5, lit_6, lit_7, lit_8, lit_9, lit_10, lit_11, lit_12, lit_13, lit_14, lit_15, lit_16, lit_20, lit_23, lit_24, lit_31, lit_32, lit_39, lit_43, lit_45, lit_47, lit_48, lit_56, lit_57, lit_59, lit_60, lit_62, lit_63, lit_89, lit_92, lit_96, lit_97, lit_99, lit_100, lit_102, lit_103, lit_104, lit_110, lit_111, lit_115, lit_117, lit_194, lit_200, lit_644, lit_736, lit_999, lit_1000, lit_9999, lit_10000, lit_1000000000, ↓wp_mlet, ↓wp_mbp, ↓wp_ite, ↓wp_mix, ↓wp_mdiv, ↓wp_mnz, ↓wp_some, ↓wp_mbnd, ↓mlet_eq, ↓mbp_eq, ↓mbnd_eq, ↓mix_ite, ↓mdiv_ite, ↓mnz_ite, nI_add, nI_mul, nI_nat, nI_ltE, nI_leE, nI_eqE, nI_eqN, nI_Neq, nI_Nlt, nI_Nle, nI_ltN, nI_leN, ↓reduceIte, ↓Nat.reduceEqDiff, and_f, nt_e, nt_t, nl_t, nl_f, ne_t, ne_f, and_self, or_self, or_true, true_or, or_false, false_or, if_true, if_false, and_true, true_and, and_false, false_and, not_true, not_false_iff, e1, e2, e3]
        rw [← nI_add, e4]
        simp (disch := omega) only [lit_0, lit_1, lit_2, lit_3, lit_4, lit_5, lit_6, lit_7, lit_8, lit_9, lit_10, lit_11, lit_12, lit_13, lit_14, lit_15, lit_16, lit_20, lit_23, lit_24, lit_31, lit_32, lit_39, lit_43, lit_45, lit_47, lit_48, lit_56, lit_57, lit_59, lit_60, lit_62, lit_63, lit_89, lit_92, lit_96, lit_97, lit_99, lit_100, lit_102, lit_103, lit_104, lit_110, lit_111, lit_115, lit_117, lit_194, lit_200, lit_644, lit_736, lit_999, lit_1000, lit_9999, lit_10000, lit_1000000000, ↓wp_mlet, ↓wp_mbp, ↓wp_ite, ↓wp_mix, ↓wp_mdiv, ↓wp_mnz, ↓wp_some, ↓wp_mbnd, ↓mlet_eq, ↓mbp_eq, ↓mbnd_eq, ↓mix_ite, ↓mdiv_ite, ↓mnz_ite, nI_add, nI_mul, nI_nat, nI_ltE, nI_leE, nI_eqE, nI_eqN, nI_Neq, nI_Nlt, nI_Nle, nI_ltN, nI_leN, ↓reduceIte, ↓Nat.reduceEqDiff, and_f, nt_e, nt_t, nl_t, nl_f, ne_t, ne_f, and_self, or_self, or_true, true_or, or_false, false_or, if_true, if_false, and_true, true_and, and_false, false_and, not_true, not_false_iff, e5]
      · have r3 : u = 1 := by omega
        have l4 : n / u = 0 := Nat.div_eq_of_lt (by omega)
        simp (disch := omega) only [lit_0, lit_1, lit_2, lit_3, lit_4, lit_5, lit_6, lit_7, lit_8, lit_9, lit_10, lit_11, lit_12, lit_13, lit_14, lit_15, lit_16, lit_20, lit_23, lit_24, lit_31, lit_32, lit_39, lit_43, lit_45, lit_47, lit_48, lit_56, lit_57, lit_59, lit_60, lit_62, lit_63, lit_89, lit_92, lit_96, lit_97, lit_99, lit_100, lit_102, lit_103, lit_104, lit_110, lit_111, lit_115, lit_117, lit_194, lit_200, lit_644, lit_736, lit_999, lit_1000, lit_9999, lit_10000, lit_1000000000, ↓wp_mlet, ↓wp_mbp, ↓wp_ite, ↓wp_mix, ↓wp_mdiv, ↓wp_mnz, ↓wp_some, ↓wp_mbnd, ↓mlet_eq, ↓mbp_eq, ↓mbnd_eq, ↓mix_ite, ↓mdiv_ite, ↓mnz_ite, nI_add, nI_mul, nI_nat, nI_ltE, nI_leE, nI_eqE, nI_eqN, nI_Neq, nI_Nlt, nI_Nle, nI_ltN, nI_leN, ↓reduceIte, ↓Nat.reduceEqDiff, and_f, nt_e, nt_t, nl_t, nl_f, ne_t, ne_f, and_self, or_self, or_true, true_or, or_false, false_or, if_true, if_false, and_true, true_and, and_false, false_and, not_true, not_false_iff, e1, e2, e3]
        rw [← nI_add, e4]
        simp (disch := omega) only [lit_0, lit_1, lit_2, lit_3, lit_4, lit_5, lit_6, lit_7, lit_8, lit_9, lit_10, lit_11, lit_12, lit_13, lit_14, lit_15, lit_16, lit_20, lit_23, lit_24, lit_31, lit_32, lit_39, lit_43, lit_45, lit_47, lit_48, lit_56, lit_57, lit_59, lit_60, lit_62, lit_63, lit_89, lit_92, lit_96, lit_97, lit_99, lit_100, lit_102, lit_103, lit_104, lit_110, lit_111, lit_115, lit_117, lit_194, lit_200, lit_644, lit_736, lit_999, lit_1000, lit_9999, lit_10000, lit_1000000000, ↓wp_mlet, ↓wp_mbp, ↓wp_ite, ↓wp_mix, ↓wp_mdiv, ↓wp_mnz, ↓wp_some, ↓wp_mbnd, ↓mlet_eq, ↓mbp_eq, ↓mbnd_eq, ↓mix_ite, ↓mdiv_ite, ↓mnz_ite, nI_add, nI_mul, nI_nat, nI_ltE, nI_leE, nI_eqE, nI_eqN, nI_Neq, nI_Nlt, nI_Nle, nI_ltN, nI_leN, ↓reduceIte, ↓Nat.reduceEqDiff, and_f, nt_e, nt_t, nl_t, nl_f, ne_t, ne_f, and_self, or_self, or_true, true_or, or_false, false_or, if_true, if_false, and_true, true_and, and_false, false_and, not_true, not_false_iff, e5]
  · refine ⟨M, by rw [if_neg q]; exact h, ?_⟩
    have l4 : n / u = 0 := Nat.div_eq_of_lt (by omega)
    rw [decide_eq_false q, Bool.toNat_false, decide_eq_false (by omega), Bool.toNat_false]
    simp (disch := omega) only [lit_0, lit_1, lit_2, lit_3, lit_4, lit_5, lit_6, lit_7, lit_8, lit_9, lit_10, lit_11, lit_12, lit_13, lit_14, lit_15, lit_16, lit_20, lit_23, lit_24, lit_31, lit_32, lit_39, lit_43, lit_45, lit_47, lit_48, lit_56, lit_57, lit_59, lit_60, lit_62, lit_63, lit_89, lit_92, lit_96, lit_97, lit_99, lit_100, lit_102, lit_103, lit_104, lit_110, lit_111, lit_115, lit_117, lit_194, lit_200, lit_644, lit_736, lit_999, lit_1000, lit_9999, lit_10000, lit_1000000000, ↓wp_mlet, ↓wp_mbp, ↓wp_ite, ↓wp_mix, ↓wp_mdiv, ↓wp_mnz, ↓wp_some, ↓wp_mbnd, ↓mlet_eq, ↓mbp_eq, ↓mbnd_eq, ↓mix_ite, ↓mdiv_ite, ↓mnz_ite, nI_add, nI_mul, nI_nat, nI_ltE, nI_leE, nI_eqE, nI_eqN, nI_Neq, nI_Nlt, nI_Nle, nI_ltN, nI_leN, ↓reduceIte, ↓Nat.reduceEqDiff, and_f, nt_e, nt_t, nl_t, nl_f, ne_t, ne_f, and_self, or_self, or_true, true_or, or_false, false_or, if_true, if_false, and_true, true_and, and_false, false_and, not_true, not_false_iff, e1, e2, e3]
