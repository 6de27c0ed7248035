theorem pt_ite {a b : Prop} [Decidable a] [Decidable b] (h : a ↔ b) {x y : Out} : (if a then x else y) = if b then x else y := by
  by_cases q : a
  · rw [if_pos q, if_pos (h.mp q)]
  · rw [if_neg q, if_neg (fun r => q (h.mpr r))]
theorem dec_cg {a b : Prop} [Decidable a] [Decidable b] (h : a ↔ b) : decide a = decide b := by
  by_cases q : a
  · rw [decide_eq_true q, decide_eq_true (h.mp q)]
  · rw [decide_eq_false q, decide_eq_false (fun r => q (h.mpr r))]
/-- a unit above the number -/
theorem c_unit0 {M0 M : Mem} {p : Out} {n u v m : Nat} (h : Oc M0 M p) (hp : p.1 < 200) (hn : n < 100000) (hu : 100000 ≤ u) (hu2 : u ≤ 1000000000) (hv : u / 10 = v) (kk : Mem → Option (Unit × Mem)) : f_X7_putNumber_L5 (nI n) (m + 1) (nI 0) (nI u) M kk = f_X7_putNumber_L5 (nI n) m (nI 0) (nI v) M kk := by
  have e1 := nI_div (a := n) (b := u) (by omega) (by omega)
  have l4 : n / u = 0 := Nat.div_eq_of_lt (by omega)
  have e2 := nI_rem (a := n / u) (b := 10) (by omega) (by decide)
  have e3 := nI_div (a := u) (b := 10) (by omega) (by decide)
  rw [f_X7_putNumber_L5.eq_2, ← hv]
  simp (disch := omega) only [lit_0, lit_1, lit_2, lit_3, lit_4, lit_5, lit_6, lit_7, lit_8, lit_9, lit_10, lit_11, lit_12, lit_13, lit_14, lit_15, lit_16, lit_20, lit_23, lit_24, lit_31, lit_32, lit_39, lit_43, lit_45, lit_47, lit_48, lit_56, lit_57, lit_59, lit_60, lit_62, lit_63, lit_89, lit_92, lit_96, lit_97, lit_99, lit_100, lit_102, lit_103, lit_104, lit_110, lit_111, lit_115, lit_117, lit_194, lit_200, lit_644, lit_736, lit_999, lit_1000, lit_9999, lit_10000, lit_1000000000, ↓wp_mlet, ↓wp_mbp, ↓wp_ite, ↓wp_mix, ↓wp_mdiv, ↓wp_mnz, ↓wp_some, ↓wp_mbnd, ↓mlet_eq, ↓mbp_eq, ↓mbnd_eq, ↓mix_ite, ↓mdiv_ite, ↓mnz_ite, nI_add, nI_mul, nI_nat, nI_ltE, nI_leE, nI_eqE, nI_eqN, nI_Neq, nI_Nlt, nI_Nle, nI_ltN, nI_leN, ↓reduceIte, ↓Nat.reduceEqDiff, and_f, nt_e, nt_t, nl_t, nl_f, ne_t, ne_f, and_self, or_self, or_true, true_or, or_false, false_or, if_true, if_false, and_true, true_and, and_false, false_and, not_true, not_false_iff, e1, e2, e3]
theorem c_num {M0 M : Mem} {p : Out} {n : Nat} (h : Oc M0 M p) (hp : p.1 < 190) (hn : n < 100000) : wp (f_X7_putNumber (nI n) M) fun _ M1 => Oc M0 M1 (pnum n p) := by
  unfold f_X7_putNumber
  have e0 : ∀ m kk, f_X7_putNumber_L5 (nI n) (m + 5) (nI 0) (nI 1000000000) M kk = f_X7_putNumber_L5 (nI n) m (nI 0) (nI 10000) M kk := by
    intro m kk
    rw [c_unit0 (m := m + 4) h (by omega) hn (by decide) (by decide) (show 1000000000 / 10 = 100000000 from rfl), c_unit0 (m := m + 3) h (by omega) hn (by decide) (by decide) (show 100000000 / 10 = 10000000 from rfl), c_unit0 (m := m + 2) h (by omega) hn (by decide) (by decide) (show 10000000 / 10 = 1000000 from rfl), c_unit0 (m := m + 1) h (by omega) hn (by decide) (by decide) (show 1000000 / 10 = 100000 from rfl), c_unit0 (m := m) h (by omega) hn (by decide) (by decide) (show 100000 / 10 = 10000 from rfl)]
  generalize hN : (1000 : Nat) = N
  obtain ⟨m, hm⟩ : ∃ m, N = m + 1 + 1 + 1 + 1 + 1 + 1 + 5 := ⟨N - 11, by omega⟩
  have q4 : decide (10 * 10000 ≤ n) = false := decide_eq_false (by omega)
  obtain ⟨M4, h4, k4⟩ := c_unit (m := m + 1 + 1 + 1 + 1 + 1) h (by omega) hn (show 0 < 10000 by decide) (by decide) (fun M18 => some ((), M18))
  rw [pt_ite (show 10000 ≤ n ∨ 10000 = 1 ↔ 9999 < n by omega)] at h4
  have h4' : Oc M0 M4 (pd4 n p) := h4
  rw [q4, Bool.toNat_false, dec_cg (show 10000 ≤ n ∨ 10000 = 1 ↔ 10 * 1000 ≤ n by omega), show 10000 / 10 = 1000 from rfl] at k4
  obtain ⟨M3, h3, k3⟩ := c_unit (m := m + 1 + 1 + 1 + 1) h4' (by have := pd4_1 (n := n) (p := p); omega) hn (show 0 < 1000 by decide) (by decide) (fun M18 => some ((), M18))
  rw [pt_ite (show 1000 ≤ n ∨ 1000 = 1 ↔ 999 < n by omega)] at h3
  have h3' : Oc M0 M3 (pd3 n p) := h3
  rw [dec_cg (show 1000 ≤ n ∨ 1000 = 1 ↔ 10 * 100 ≤ n by omega), show 1000 / 10 = 100 from rfl] at k3
  obtain ⟨M2, h2, k2⟩ := c_unit (m := m + 1 + 1 + 1) h3' (by have := pd3_1 (n := n) (p := p); omega) hn (show 0 < 100 by decide) (by decide) (fun M18 => some ((), M18))
  rw [pt_ite (show 100 ≤ n ∨ 100 = 1 ↔ 99 < n by omega)] at h2
  have h2' : Oc M0 M2 (pd2 n p) := h2
  rw [dec_cg (show 100 ≤ n ∨ 100 = 1 ↔ 10 * 10 ≤ n by omega), show 100 / 10 = 10 from rfl] at k2
  obtain ⟨M1, h1, k1⟩ := c_unit (m := m + 1 + 1) h2' (by have := pd2_1 (n := n) (p := p); omega) hn (show 0 < 10 by decide) (by decide) (fun M18 => some ((), M18))
  rw [pt_ite (show 10 ≤ n ∨ 10 = 1 ↔ 9 < n by omega)] at h1
  have h1' : Oc M0 M1 (pd1 n p) := h1
  rw [dec_cg (show 10 ≤ n ∨ 10 = 1 ↔ 10 * 1 ≤ n by omega), show 10 / 10 = 1 from rfl] at k1
  obtain ⟨M0', h0, k0⟩ := c_unit (m := m + 1) h1' (by have := pd1_1 (n := n) (p := p); omega) hn (show 0 < 1 by decide) (by decide) (fun M18 => some ((), M18))
  rw [pt_ite (show 1 ≤ n ∨ 1 = 1 ↔ True by simp), if_pos trivial, Nat.div_one] at h0
  rw [show 1 / 10 = 0 from rfl] at k0
  have e1 : f_X7_putNumber_L5 (nI n) N 0 1000000000 M (fun M18 => some ((), M18)) = f_X7_putNumber_L5 (nI n) N (nI 0) (nI 1000000000) M (fun M18 => some ((), M18)) := rfl
  rw [e1, hm, e0, k4, k3, k2, k1, k0, f_X7_putNumber_L5.eq_2]
  simp (disch := omega) only [lit_0, lit_1, lit_2, lit_3, lit_4, lit_5, lit_6, lit_7, lit_8, lit_9, lit_10, lit_11, lit_12, lit_13, lit_14, lit_15, lit_16, lit_20, lit_23, lit_24, lit_31, lit_32, lit_39, lit_43, lit_45, lit_47, lit_48, lit_56, lit_57, lit_59, lit_60, lit_62, lit_63, lit_89, lit_92, lit_96, lit_97, lit_99, lit_100, lit_102, lit_103, lit_104, lit_110, lit_111, lit_115, lit_117, lit_194, lit_200, lit_644, lit_736, lit_999, lit_1000, lit_9999, lit_10000, lit_1000000000, ↓wp_mlet, ↓wp_mbp, ↓wp_ite, ↓wp_mix, ↓wp_mdiv, ↓wp_mnz, ↓wp_some, ↓wp_mbnd, ↓mlet_eq, ↓mbp_eq, ↓mbnd_eq, ↓mix_ite, ↓mdiv_ite, ↓mnz_ite, nI_add, nI_mul, nI_nat, nI_ltE, nI_leE, nI_eqE, nI_eqN, nI_Neq, nI_Nlt, nI_Nle, nI_ltN, nI_leN, ↓reduceIte, ↓Nat.reduceEqDiff, and_f, nt_e, nt_t, nl_t, nl_f, ne_t, ne_f, and_self, or_self, or_true, true_or, or_false, false_or, if_true, if_false, and_true, true_and, and_false, false_and, not_true, not_false_iff]
  exact h0
/-- the model's digits -/
theorem m_dig {M0 M : Mem} {p : Out} {n B D : Nat} (h : Om M0 M p) (hp : p.1 < 140) (hn : n < 100000) (hD : 0 < D ∧ D < 100000) (hB : B < 100000) : ∃ M1, Om M0 M1 (if B < n then pt (48 + n / D % 10) p else p) ∧ ∀ k : Mem → Option (Unit × Mem), (mlet k fun k => if nI n ≤ nI B then k M else mbnd (f_X12_writes (nI 48 + mrem (nI n / nI D) (nI 10)) M) fun _ M3 => k M3) = k M1 := by
  have e1 := nI_div (a := n) (b := D) (by omega) (by omega)
  have l1 : n / D ≤ n := Nat.div_le_self n D
  have e2 := nI_rem (a := n / D) (b := 10) (by omega) (by decide)
  have l2 := Nat.mod_lt (n / D) (show 0 < 10 by decide)
  by_cases q : B < n
  · obtain ⟨⟨⟩, M1, e5, h5⟩ := m_put (c := 48 + n / D % 10) h hp (by omega)
    refine ⟨M1, by rw [if_pos q]; exact h5, fun k => ?_⟩
    rw [mlet_eq, if_neg (by rw [nI_leE (by omega) (by omega)]; omega), e1, e2, nI_add, e5, mbnd_eq]
  · refine ⟨M, by rw [if_neg q]; exact h, fun k => ?_⟩
    rw [mlet_eq, if_pos (by rw [nI_leE (by omega) (by omega)]; omega)]
theorem m_num {M0 M : Mem} {p : Out} {n : Nat} (h : Om M0 M p) (hp : p.1 < 135) (hn : n < 100000) : wp (f_X12_writesNumber (nI n) M) fun _ M1 => Om M0 M1 (pnum n p) := by
  have l4 := pd4_1 (n := n) (p := p)
  have l3 := pd3_1 (n := n) (p := p)
  have l2 := pd2_1 (n := n) (p := p)
  have l1 := pd1_1 (n := n) (p := p)
  unfold f_X12_writesNumber
  simp only [lit_0, lit_1, lit_2, lit_3, lit_4, lit_5, lit_6, lit_7, lit_8, lit_9, lit_10, lit_11, lit_12, lit_13, lit_14, lit_15, lit_16, lit_20, lit_23, lit_24, lit_31, lit_32, lit_39, lit_43, lit_45, lit_47, lit_48, lit_56, lit_57, lit_59, lit_60, lit_62, lit_63, lit_89, lit_92, lit_96, lit_97, lit_99, lit_100, lit_102, lit_103, lit_104, lit_110, lit_111, lit_115, lit_117, lit_194, lit_200, lit_644, lit_736, lit_999, lit_1000, lit_9999, lit_10000, lit_1000000000]
  obtain ⟨M4, h4, k4⟩ := m_dig (B := 9999) (D := 10000) h (by omega) hn (by decide) (by decide)
  have h4' : Om M0 M4 (pd4 n p) := h4
  obtain ⟨M3, h3, k3⟩ := m_dig (B := 999) (D := 1000) h4' (by omega) hn (by decide) (by decide)
  have h3' : Om M0 M3 (pd3 n p) := h3
  obtain ⟨M2, h2, k2⟩ := m_dig (B := 99) (D := 100) h3' (by omega) hn (by decide) (by decide)
  have h2' : Om M0 M2 (pd2 n p) := h2
  obtain ⟨M1, h1, k1⟩ := m_dig (B := 9) (D := 10) h2' (by omega) hn (by decide) (by decide)
  have h1' : Om M0 M1 (pd1 n p) := h1
  obtain ⟨⟨⟩, M5, e5, h5⟩ := m_put (c := 48 + n % 10) h1' (by omega) (by omega)
  rw [k4, k3, k2, k1, nI_rem (by omega) (by decide), nI_add, e5, mbnd_eq, wp_some]
  exact h5
