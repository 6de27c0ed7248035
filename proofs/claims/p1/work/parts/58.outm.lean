theorem m_guardsIn {M0 M : Mem} {α : Sp} {H z N : Nat} {p : Out} (hN : 1000 = N) (hS : M0 12 48 = enc α) (hi : Inv H α) (h : Om M0 M p) (hp : p.1 < 130) (hz : z < 8) : ∃ M1, Om M0 M1 (gp α z p (α 10)) ∧ ∀ kk, f_X12_writeZones_L43 (nI z) N (nI 0) M kk = kk M1 := by
  have b10 := hi.1.2.2.2.2.2.2.2.2.2.2.1
  have bg := hi.2.2.2.2.2.2.2.2.1
  have st : ∀ m x M1, x < α 10 → Om M0 M1 (gp α z p x) → ∃ M3, Om M0 M3 (gp α z p (x + 1)) ∧ ∀ kk, f_X12_writeZones_L43 (nI z) (m + 1) (nI x) M1 kk = f_X12_writeZones_L43 (nI z) m (nI (x + 1)) M3 kk := by
    intro m x M1 hx h1
    have eS : M1 12 48 = enc α := by rw [h1.2.2 12 48 (by decide)]; exact hS
    have g1 := m_guard0 (k := x) eS (by omega)
    have g2 := m_guard (k := x) (what := 1) eS (by omega) (by decide)
    rw [show 47 + 3 * x + 1 = 48 + 3 * x by omega] at g2
    obtain ⟨w1, w2, w3, w4, w5⟩ := bg x hx
    have l := gp_1 (α := α) (z := z) (p := p) x
    rw [gp_s]
    by_cases q : α (47 + 3 * x) = z
    · rw [if_pos q]
      by_cases r : α (48 + 3 * x) = 1
      · obtain ⟨⟨⟩, M3, e, h3⟩ := m_put (c := 62) h1 (by omega) (by decide)
        refine ⟨M3, by rw [if_pos r]; exact h3, fun kk => ?_⟩
        rw [f_X12_writeZones_L43.eq_2]
        rw [enc_n2 (by omega), r] at g2
        simp (disch := omega) only [lit_0, lit_1, lit_2, lit_3, lit_4, lit_5, lit_6, lit_7, lit_8, lit_9, lit_10, lit_11, lit_12, lit_13, lit_14, lit_15, lit_16, lit_20, lit_23, lit_24, lit_31, lit_32, lit_39, lit_43, lit_45, lit_47, lit_48, lit_56, lit_57, lit_59, lit_60, lit_62, lit_63, lit_89, lit_92, lit_96, lit_97, lit_99, lit_100, lit_102, lit_103, lit_104, lit_110, lit_111, lit_115, lit_117, lit_194, lit_200, lit_644, lit_736, lit_999, lit_1000, lit_9999, lit_10000, lit_1000000000, ↓wp_mlet, ↓wp_mbp, ↓wp_ite, ↓wp_mix, ↓wp_mdiv, ↓wp_mnz, ↓wp_some, ↓wp_mbnd, ↓mlet_eq, ↓mbp_eq, ↓mbnd_eq, ↓mix_ite, ↓mdiv_ite, ↓mnz_ite, nI_add, nI_mul, nI_nat, nI_ltE, nI_leE, nI_eqE, nI_eqN, nI_Neq, nI_Nlt, nI_Nle, nI_ltN, nI_leN, ↓reduceIte, ↓Nat.reduceEqDiff, and_f, nt_e, nt_t, nl_t, nl_f, ne_t, ne_f, and_self, or_self, or_true, true_or, or_false, false_or, if_true, if_false, and_true, true_and, and_false, false_and, not_true, not_false_iff, ms_n eS, g1, g2, e]
      · obtain ⟨⟨⟩, M3, e, h3⟩ := m_put (c := 60) h1 (by omega) (by decide)
        refine ⟨M3, by rw [if_neg r]; exact h3, fun kk => ?_⟩
        have r2 : α (48 + 3 * x) = 2 := by omega
        rw [f_X12_writeZones_L43.eq_2]
        rw [enc_2 (by omega) r2] at g2
        simp (disch := omega) only [lit_0, lit_1, lit_2, lit_3, lit_4, lit_5, lit_6, lit_7, lit_8, lit_9, lit_10, lit_11, lit_12, lit_13, lit_14, lit_15, lit_16, lit_20, lit_23, lit_24, lit_31, lit_32, lit_39, lit_43, lit_45, lit_47, lit_48, lit_56, lit_57, lit_59, lit_60, lit_62, lit_63, lit_89, lit_92, lit_96, lit_97, lit_99, lit_100, lit_102, lit_103, lit_104, lit_110, lit_111, lit_115, lit_117, lit_194, lit_200, lit_644, lit_736, lit_999, lit_1000, lit_9999, lit_10000, lit_1000000000, ↓wp_mlet, ↓wp_mbp, ↓wp_ite, ↓wp_mix, ↓wp_mdiv, ↓wp_mnz, ↓wp_some, ↓wp_mbnd, ↓mlet_eq, ↓mbp_eq, ↓mbnd_eq, ↓mix_ite, ↓mdiv_ite, ↓mnz_ite, nI_add, nI_mul, nI_nat, nI_ltE, nI_leE, nI_eqE, nI_eqN, nI_Neq, nI_Nlt, nI_Nle, nI_ltN, nI_leN, ↓reduceIte, ↓Nat.reduceEqDiff, and_f, nt_e, nt_t, nl_t, nl_f, ne_t, ne_f, and_self, or_self, or_true, true_or, or_false, false_or, if_true, if_false, and_true, true_and, and_false, false_and, not_true, not_false_iff, ms_n eS, g1, g2, e]
    · rw [if_neg q]
      refine ⟨M1, h1, fun kk => ?_⟩
      rw [f_X12_writeZones_L43.eq_2]
      simp (disch := omega) only [lit_0, lit_1, lit_2, lit_3, lit_4, lit_5, lit_6, lit_7, lit_8, lit_9, lit_10, lit_11, lit_12, lit_13, lit_14, lit_15, lit_16, lit_20, lit_23, lit_24, lit_31, lit_32, lit_39, lit_43, lit_45, lit_47, lit_48, lit_56, lit_57, lit_59, lit_60, lit_62, lit_63, lit_89, lit_92, lit_96, lit_97, lit_99, lit_100, lit_102, lit_103, lit_104, lit_110, lit_111, lit_115, lit_117, lit_194, lit_200, lit_644, lit_736, lit_999, lit_1000, lit_9999, lit_10000, lit_1000000000, ↓wp_mlet, ↓wp_mbp, ↓wp_ite, ↓wp_mix, ↓wp_mdiv, ↓wp_mnz, ↓wp_some, ↓wp_mbnd, ↓mlet_eq, ↓mbp_eq, ↓mbnd_eq, ↓mix_ite, ↓mdiv_ite, ↓mnz_ite, nI_add, nI_mul, nI_nat, nI_ltE, nI_leE, nI_eqE, nI_eqN, nI_Neq, nI_Nlt, nI_Nle, nI_ltN, nI_leN, ↓reduceIte, ↓Nat.reduceEqDiff, and_f, nt_e, nt_t, nl_t, nl_f, ne_t, ne_f, and_self, or_self, or_true, true_or, or_false, false_or, if_true, if_false, and_true, true_and, and_false, false_and, not_true, not_false_iff, ms_n eS, g1]
  have en' : ∀ m M1 kk, Om M0 M1 (gp α z p (α 10)) → f_X12_writeZones_L43 (nI z) (m + 1) (nI (α 10)) M1 kk = kk M1 := by
    intro m M1 kk h1
    have eS : M1 12 48 = enc α := by rw [h1.2.2 12 48 (by decide)]; exact hS
    rw [f_X12_writeZones_L43.eq_2]
    simp (disch := omega) only [lit_0, lit_1, lit_2, lit_3, lit_4, lit_5, lit_6, lit_7, lit_8, lit_9, lit_10, lit_11, lit_12, lit_13, lit_14, lit_15, lit_16, lit_20, lit_23, lit_24, lit_31, lit_32, lit_39, lit_43, lit_45, lit_47, lit_48, lit_56, lit_57, lit_59, lit_60, lit_62, lit_63, lit_89, lit_92, lit_96, lit_97, lit_99, lit_100, lit_102, lit_103, lit_104, lit_110, lit_111, lit_115, lit_117, lit_194, lit_200, lit_644, lit_736, lit_999, lit_1000, lit_9999, lit_10000, lit_1000000000, ↓wp_mlet, ↓wp_mbp, ↓wp_ite, ↓wp_mix, ↓wp_mdiv, ↓wp_mnz, ↓wp_some, ↓wp_mbnd, ↓mlet_eq, ↓mbp_eq, ↓mbnd_eq, ↓mix_ite, ↓mdiv_ite, ↓mnz_ite, nI_add, nI_mul, nI_nat, nI_ltE, nI_leE, nI_eqE, nI_eqN, nI_Neq, nI_Nlt, nI_Nle, nI_ltN, nI_leN, ↓reduceIte, ↓Nat.reduceEqDiff, and_f, nt_e, nt_t, nl_t, nl_f, ne_t, ne_f, and_self, or_self, or_true, true_or, or_false, false_or, if_true, if_false, and_true, true_and, and_false, false_and, not_true, not_false_iff, ms_n eS]
  have go : ∀ d m x M1, x + d = α 10 → d < m → Om M0 M1 (gp α z p x) → ∃ M3, Om M0 M3 (gp α z p (α 10)) ∧ ∀ kk, f_X12_writeZones_L43 (nI z) m (nI x) M1 kk = kk M3 := by
    intro d
    induction d with
    | zero =>
      intro m x M1 h1 h2 h3
      obtain rfl : x = α 10 := by omega
      obtain ⟨m', rfl⟩ : ∃ m', m = m' + 1 := ⟨m - 1, by omega⟩
      exact ⟨M1, h3, fun kk => en' m' M1 kk h3⟩
    | succ d ih =>
      intro m x M1 h1 h2 h3
      obtain ⟨m', rfl⟩ : ∃ m', m = m' + 1 := ⟨m - 1, by omega⟩
      obtain ⟨M2, h4, k4⟩ := st m' x M1 (by omega) h3
      obtain ⟨M3, h5, k5⟩ := ih m' (x + 1) M2 (by omega) (by omega) h4
      exact ⟨M3, h5, fun kk => (k4 kk).trans (k5 kk)⟩
  exact go (α 10) N 0 M (by omega) (by omega) h
theorem m_writeZones {M : Mem} {α : Sp} {H : Nat} (hS : M 12 48 = enc α) (hi : Inv H α) : wp (f_X12_writeZones M) fun r M1 => r = nI (zp α 8).1 ∧ Om (mup M 12 47 0 (nI 0)) M1 (zp α 8) := by
  have b10 := hi.1.2.2.2.2.2.2.2.2.2.2.1
  have bz := hi.2.2.2.2.2.2.1
  unfold f_X12_writeZones
  generalize hN : (1000 : Nat) = N
  have hS' := ms_t (x := nI 0) hS
  have h0 : Om (mup M 12 47 0 (nI 0)) (mup (mup M 12 47 0 (nI 0)) 12 47 13 (nI 0)) (zp α 0) := ⟨⟨by rw [mup_at, if_pos (by decide)]; rfl, fun i hi => by exact absurd hi (Nat.not_lt_zero _)⟩, fun k hk => by rw [mup_at, if_neg (by omega)], fun a b hab => pm_ne (by omega)⟩
  obtain ⟨M2, h2, key⟩ := mloopP (F := fun m x M1 kk => f_X12_writeZones_L12 m x M1 kk) (c := 8) (fun x M1 => Om (mup M 12 47 0 (nI 0)) M1 (zp α x)) (fun m x M1 kk hx h1 => by
    have l1 := zp_1 b10 x
    have l2 := itm_1 (z := x) (p := zp α x)
    have l3 := pnum_1 (n := α (31 + x)) (p := itm x (zp α x))
    have lz := (bz x hx).1
    obtain ⟨M3, h3, k3⟩ := m_item (β := Int32) h1 (by omega) (show x < 100 by omega)
    have ez : M3 12 48 (31 + x) = nI (α (31 + x)) := ms_n (α := α) (by rw [h3.2.2 12 48 (by decide)]; exact hS') (by omega)
    obtain ⟨⟨⟩, M4, e4, h4⟩ := m_num (n := α (31 + x)) h3 (by omega) (by omega)
    obtain ⟨M5, h5, k5⟩ := m_guardsIn rfl hS' hi h4 (by omega) hx
    refine ⟨M5, by rw [zp_s]; exact h5, ?_⟩
    show f_X12_writeZones_L12 (m + 1) (nI x) M1 kk = _
    rw [f_X12_writeZones_L12.eq_2]
    simp only [lit_0, lit_1, lit_2, lit_3, lit_4, lit_5, lit_6, lit_7, lit_8, lit_9, lit_10, lit_11, lit_12, lit_13, lit_14, lit_15, lit_16, lit_20, lit_23, lit_24, lit_31, lit_32, lit_39, lit_43, lit_45, lit_47, lit_48, lit_56, lit_57, lit_59, lit_60, lit_62, lit_63, lit_89, lit_92, lit_96, lit_97, lit_99, lit_100, lit_102, lit_103, lit_104, lit_110, lit_111, lit_115, lit_117, lit_194, lit_200, lit_644, lit_736, lit_999, lit_1000, lit_9999, lit_10000, lit_1000000000]
    rw [if_neg (by rw [nI_leE (by decide) (by omega)]; omega), k3]
    simp (disch := omega) only [lit_0, lit_1, lit_2, lit_3, lit_4, lit_5, lit_6, lit_7, lit_8, lit_9, lit_10, lit_11, lit_12, lit_13, lit_14, lit_15, lit_16, lit_20, lit_23, lit_24, lit_31, lit_32, lit_39, lit_43, lit_45, lit_47, lit_48, lit_56, lit_57, lit_59, lit_60, lit_62, lit_63, lit_89, lit_92, lit_96, lit_97, lit_99, lit_100, lit_102, lit_103, lit_104, lit_110, lit_111, lit_115, lit_117, lit_194, lit_200, lit_644, lit_736, lit_999, lit_1000, lit_9999, lit_10000, lit_1000000000, ↓wp_mlet, ↓wp_mbp, ↓wp_ite, ↓wp_mix, ↓wp_mdiv, ↓wp_mnz, ↓wp_some, ↓wp_mbnd, ↓mlet_eq, ↓mbp_eq, ↓mbnd_eq, ↓mix_ite, ↓mdiv_ite, ↓mnz_ite, nI_add, nI_mul, nI_nat, nI_ltE, nI_leE, nI_eqE, nI_eqN, nI_Neq, nI_Nlt, nI_Nle, nI_ltN, nI_leN, ↓reduceIte, ↓Nat.reduceEqDiff, and_f, nt_e, nt_t, nl_t, nl_f, ne_t, ne_f, and_self, or_self, or_true, true_or, or_false, false_or, if_true, if_false, and_true, true_and, and_false, false_and, not_true, not_false_iff, ez, e4, k5]) (fun m M1 kk h1 => by
    show f_X12_writeZones_L12 (m + 1) (nI 8) M1 kk = _
    rw [f_X12_writeZones_L12.eq_2]
    rw [if_pos (show (8 : Int32) ≤ nI 8 by decide)]) 8 N 0 (mup (mup M 12 47 0 (nI 0)) 12 47 13 (nI 0)) (fun M29 => some (M29 12 47 13, M29)) (by omega) (by omega) h0
  simp (disch := omega) only [lit_0, lit_1, lit_2, lit_3, lit_4, lit_5, lit_6, lit_7, lit_8, lit_9, lit_10, lit_11, lit_12, lit_13, lit_14, lit_15, lit_16, lit_20, lit_23, lit_24, lit_31, lit_32, lit_39, lit_43, lit_45, lit_47, lit_48, lit_56, lit_57, lit_59, lit_60, lit_62, lit_63, lit_89, lit_92, lit_96, lit_97, lit_99, lit_100, lit_102, lit_103, lit_104, lit_110, lit_111, lit_115, lit_117, lit_194, lit_200, lit_644, lit_736, lit_999, lit_1000, lit_9999, lit_10000, lit_1000000000, ↓wp_mlet, ↓wp_mbp, ↓wp_ite, ↓wp_mix, ↓wp_mdiv, ↓wp_mnz, ↓wp_some, ↓wp_mbnd, ↓mlet_eq, ↓mbp_eq, ↓mbnd_eq, ↓mix_ite, ↓mdiv_ite, ↓mnz_ite, nI_add, nI_mul, nI_nat, nI_ltE, nI_leE, nI_eqE, nI_eqN, nI_Neq, nI_Nlt, nI_Nle, nI_ltN, nI_leN, ↓reduceIte, ↓Nat.reduceEqDiff, and_f, nt_e, nt_t, nl_t, nl_f, ne_t, ne_f, and_self, or_self, or_true, true_or, or_false, false_or, if_true, if_false, and_true, true_and, and_false, false_and, not_true, not_false_iff]
  rw [key, wp_some]
  exact ⟨h2.1.1, h2⟩
theorem m_writeLog {M : Mem} {α : Sp} {H : Nat} (hS : M 12 48 = enc α) (hi : Inv H α) (hH : H < 90000) : wp (f_X12_writeLog M) fun r M1 => r = nI (lp α (α 14)).1 ∧ Om (mup M 12 47 0 (nI 0)) M1 (lp α (α 14)) := by
  have b11 := hi.1.2.2.2.2.2.2.2.2.2.2.2.1
  have b14 := hi.1.2.2.2.2.2.2.2.2.2.2.2.2
  have bl := hi.2.2.2.2.2.2.2.2.2
  unfold f_X12_writeLog
  generalize hN : (1000 : Nat) = N
  have hS' := ms_t (x := nI 0) hS
  have h0 : Om (mup M 12 47 0 (nI 0)) (mup (mup M 12 47 0 (nI 0)) 12 47 13 (nI 0)) (lp α 0) := ⟨⟨by rw [mup_at, if_pos (by decide)]; rfl, fun i hi => by exact absurd hi (Nat.not_lt_zero _)⟩, fun k hk => by rw [mup_at, if_neg (by omega)], fun a b hab => pm_ne (by omega)⟩
  obtain ⟨M2, h2, key⟩ := mloopP (F := fun m x M1 kk => f_X12_writeLog_L12 m x M1 kk) (c := α 14) (fun x M1 => Om (mup M 12 47 0 (nI 0)) M1 (lp α x)) (fun m x M1 kk hx h1 => by
    have l1 := lp_1 (α := α) x (fun k hk => by have := (bl k (by omega)).2.2; omega)
    have l2 := itm_1 (z := x) (p := lp α x)
    have l3 := pnum_1 (n := α (56 + 3 * x)) (p := itm x (lp α x))
    obtain ⟨w1, w2, w3⟩ := bl x hx
    obtain ⟨M3, h3, k3⟩ := m_item (β := Int32) h1 (by omega) (show x < 100 by omega)
    have S1 : M1 12 48 = enc α := by rw [h1.2.2 12 48 (by decide)]; exact hS'
    have S3 : M3 12 48 = enc α := by rw [h3.2.2 12 48 (by decide)]; exact hS'
    have i3 : M3 12 48 (56 + 3 * x) = nI (α (56 + 3 * x)) := ms_n S3 (by omega)
    obtain ⟨⟨⟩, M4, e4, h4⟩ := m_num (n := α (56 + 3 * x)) h3 (by omega) (by omega)
    have S4 : M4 12 48 = enc α := by rw [h4.2.2 12 48 (by decide)]; exact hS'
    have i4 : M4 12 48 (56 + 3 * x + 1) = nI (α (57 + 3 * x)) := by rw [show 56 + 3 * x + 1 = 57 + 3 * x by omega]; exact ms_n S4 (by omega)
    obtain ⟨⟨⟩, M5, e5, h5⟩ := m_put (c := α (57 + 3 * x)) h4 (by omega) (by omega)
    have S5 : M5 12 48 = enc α := by rw [h5.2.2 12 48 (by decide)]; exact hS'
    have i5 : M5 12 48 (56 + 3 * x + 2) = nI (α (58 + 3 * x)) := by rw [show 56 + 3 * x + 2 = 58 + 3 * x by omega]; exact ms_n S5 (by omega)
    obtain ⟨⟨⟩, M6, e6, h6⟩ := m_num (n := α (58 + 3 * x)) h5 (by rw [pt_1]; omega) (by omega)
    refine ⟨M6, by rw [lp_s]; exact h6, ?_⟩
    show f_X12_writeLog_L12 (m + 1) (nI x) M1 kk = _
    have i1 : M1 12 48 14 = nI (α 14) := ms_n S1 (by decide)
    rw [f_X12_writeLog_L12.eq_2]
    simp only [lit_0, lit_1, lit_2, lit_3, lit_4, lit_5, lit_6, lit_7, lit_8, lit_9, lit_10, lit_11, lit_12, lit_13, lit_14, lit_15, lit_16, lit_20, lit_23, lit_24, lit_31, lit_32, lit_39, lit_43, lit_45, lit_47, lit_48, lit_56, lit_57, lit_59, lit_60, lit_62, lit_63, lit_89, lit_92, lit_96, lit_97, lit_99, lit_100, lit_102, lit_103, lit_104, lit_110, lit_111, lit_115, lit_117, lit_194, lit_200, lit_644, lit_736, lit_999, lit_1000, lit_9999, lit_10000, lit_1000000000]
    rw [nI_nat (show 14 < 2147483648 by decide), i1, nI_mix (by decide) (by decide), if_neg (by rw [nI_leE (by omega) (by omega)]; omega), k3]
    simp (disch := omega) only [lit_0, lit_1, lit_2, lit_3, lit_4, lit_5, lit_6, lit_7, lit_8, lit_9, lit_10, lit_11, lit_12, lit_13, lit_14, lit_15, lit_16, lit_20, lit_23, lit_24, lit_31, lit_32, lit_39, lit_43, lit_45, lit_47, lit_48, lit_56, lit_57, lit_59, lit_60, lit_62, lit_63, lit_89, lit_92, lit_96, lit_97, lit_99, lit_100, lit_102, lit_103, lit_104, lit_110, lit_111, lit_115, lit_117, lit_194, lit_200, lit_644, lit_736, lit_999, lit_1000, lit_9999, lit_10000, lit_1000000000, ↓wp_mlet, ↓wp_mbp, ↓wp_ite, ↓wp_mix, ↓wp_mdiv, ↓wp_mnz, ↓wp_some, ↓wp_mbnd, ↓mlet_eq, ↓mbp_eq, ↓mbnd_eq, ↓mix_ite, ↓mdiv_ite, ↓mnz_ite, nI_add, nI_mul, nI_nat, nI_ltE, nI_leE, nI_eqE, nI_eqN, nI_Neq, nI_Nlt, nI_Nle, nI_ltN, nI_leN, ↓reduceIte, ↓Nat.reduceEqDiff, and_f, nt_e, nt_t, nl_t, nl_f, ne_t, ne_f, and_self, or_self, or_true, true_or, or_false, false_or, if_true, if_false, and_true, true_and, and_false, false_and, not_true, not_false_iff, i3, e4, i4, e5, i5, e6]) (fun m M1 kk h1 => by
    have S1 : M1 12 48 = enc α := by rw [h1.2.2 12 48 (by decide)]; exact hS'
    have i1 : M1 12 48 14 = nI (α 14) := ms_n S1 (by decide)
    show f_X12_writeLog_L12 (m + 1) (nI (α 14)) M1 kk = _
    rw [f_X12_writeLog_L12.eq_2]
    simp only [lit_0, lit_1, lit_2, lit_3, lit_4, lit_5, lit_6, lit_7, lit_8, lit_9, lit_10, lit_11, lit_12, lit_13, lit_14, lit_15, lit_16, lit_20, lit_23, lit_24, lit_31, lit_32, lit_39, lit_43, lit_45, lit_47, lit_48, lit_56, lit_57, lit_59, lit_60, lit_62, lit_63, lit_89, lit_92, lit_96, lit_97, lit_99, lit_100, lit_102, lit_103, lit_104, lit_110, lit_111, lit_115, lit_117, lit_194, lit_200, lit_644, lit_736, lit_999, lit_1000, lit_9999, lit_10000, lit_1000000000]
    rw [nI_nat (show 14 < 2147483648 by decide), i1, nI_mix (by decide) (by decide), if_pos (by rw [nI_leE (by omega) (by omega)]; omega)]) (α 14) N 0 (mup (mup M 12 47 0 (nI 0)) 12 47 13 (nI 0)) (fun M18 => some (M18 12 47 13, M18)) (by omega) (by omega) h0
  simp (disch := omega) only [lit_0, lit_1, lit_2, lit_3, lit_4, lit_5, lit_6, lit_7, lit_8, lit_9, lit_10, lit_11, lit_12, lit_13, lit_14, lit_15, lit_16, lit_20, lit_23, lit_24, lit_31, lit_32, lit_39, lit_43, lit_45, lit_47, lit_48, lit_56, lit_57, lit_59, lit_60, lit_62, lit_63, lit_89, lit_92, lit_96, lit_97, lit_99, lit_100, lit_102, lit_103, lit_104, lit_110, lit_111, lit_115, lit_117, lit_194, lit_200, lit_644, lit_736, lit_999, lit_1000, lit_9999, lit_10000, lit_1000000000, ↓wp_mlet, ↓wp_mbp, ↓wp_ite, ↓wp_mix, ↓wp_mdiv, ↓wp_mnz, ↓wp_some, ↓wp_mbnd, ↓mlet_eq, ↓mbp_eq, ↓mbnd_eq, ↓mix_ite, ↓mdiv_ite, ↓mnz_ite, nI_add, nI_mul, nI_nat, nI_ltE, nI_leE, nI_eqE, nI_eqN, nI_Neq, nI_Nlt, nI_Nle, nI_ltN, nI_leN, ↓reduceIte, ↓Nat.reduceEqDiff, and_f, nt_e, nt_t, nl_t, nl_f, ne_t, ne_f, and_self, or_self, or_true, true_or, or_false, false_or, if_true, if_false, and_true, true_and, and_false, false_and, not_true, not_false_iff]
  rw [key, wp_some]
  exact ⟨h2.1.1, h2⟩
/-- what a writing call leaves -/
theorem Rel_out {n : Nat} {M M1 M2 : Mem} {p : Out} (h : Rel n M) (hp : p.1 ≤ 140) (hc : Oc M M1 p) (hm : Om (mup M1 12 47 0 (nI 0)) M2 p) : Rel (n + 1) M2 := by
  have h1 : ∀ i, i ≠ 0 → i ≠ 13 → M2 12 47 i = M 12 47 i := fun i h0 h13 => by rw [hm.2.1 i h13, mup_at, if_neg (by omega), hc.2 12 47 (by decide)]
  have h2 : ∀ a b, ¬ (a = 12 ∧ (b = 47 ∨ b = 55 ∨ b = 45 ∨ b = 46)) → M2 a b = M a b := fun a b hab => by rw [hm.2.2 a b (by omega), pm_ne (by omega), hc.2 a b (by omega)]
  have h45 : M2 12 45 = M1 12 45 := by rw [hm.2.2 12 45 (by decide), pm_ne (by decide)]
  have h46 : M2 12 46 = M1 12 46 := by rw [hm.2.2 12 46 (by decide), pm_ne (by decide)]
  obtain ⟨α, αh, αs, K, nx, fed, b, H, hR, hS, hH, hs, ⟨hr1, hr2, hr3, hr4⟩, hi, hih, his, hb⟩ := h
  refine ⟨α, αh, αs, K, nx, fed, b, H, ?_, ?_, ?_, ?_, ⟨?_, ?_, ?_, ?_⟩, hi, hih, his, by omega⟩
  · rw [show M2 0 = M 0 from funext fun b => h2 0 b (by omega)]; exact hR
  · rw [h2 12 48 (by decide)]; exact hS
  · exact Hs_same hH (h2 12 17 (by decide)) (h1 6 (by decide) (by decide)) (h2 12 51 (by decide)) (fun a _ _ _ => funext fun b => h2 a b (by omega))
  · exact Rs_same hs (by rw [h2 12 16 (by decide)]) (h1 7 (by decide) (by decide)) (funext fun b => h2 10 b (by omega)) (h2 12 50 (by decide))
  · exact Rr_same hr1 (fun i _ _ => by rw [h2 12 16 (by decide)]) (fun i _ _ => h1 i (by omega) (by omega))
  · exact Re_same hr2 (by rw [h2 12 16 (by decide)]) (h1 14 (by decide) (by decide))
  · exact Ri_same hr3 (by rw [h2 12 26 (by decide)]) (h1 12 (by decide) (by decide)) (h2 12 27 (by decide)) (h2 12 53 (by decide))
  · refine ⟨p.1, hp, by rw [h45]; exact hc.1.1, hm.1.1, fun i hi => ⟨p.2 i, (hc.1.2 i hi).2, by rw [h46]; exact (hc.1.2 i hi).1, (hm.1.2 i hi).1⟩⟩
theorem pair_writeZones {n : Nat} {M : Mem} (hr : Rel n M) : PairS n M f_X11_writeZones f_X12_writeZones := by
  have hr0 := hr
  obtain ⟨α, αh, αs, K, nx, fed, b, H, hR, hS, hH, hs, hx, hi, hih, his, hbb⟩ := hr
  obtain ⟨r1, M1, e1, rfl, h1⟩ := c_writeZones hR hi
  obtain ⟨r2, M2, e2, rfl, h2⟩ := m_writeZones (M := M1) (by rw [h1.2 12 48 (by decide)]; exact hS) hi
  have l := zp_1 hi.1.2.2.2.2.2.2.2.2.2.2.1 8
  exact ⟨_, M1, e1, _, M2, e2, Rel_out hr0 (by omega) h1 h2, rfl⟩
theorem pair_writeLog {n : Nat} {M : Mem} (hr : Rel n M) (hn : n < 512) : PairS n M f_X11_writeLog f_X12_writeLog := by
  have hr0 := hr
  obtain ⟨α, αh, αs, K, nx, fed, b, H, hR, hS, hH, hs, hx, hi, hih, his, hbb⟩ := hr
  obtain ⟨r1, M1, e1, rfl, h1⟩ := c_writeLog hR hi (by omega)
  obtain ⟨r2, M2, e2, rfl, h2⟩ := m_writeLog (M := M1) (by rw [h1.2 12 48 (by decide)]; exact hS) hi (by omega)
  have b14 := hi.1.2.2.2.2.2.2.2.2.2.2.2.2
  have bl := hi.2.2.2.2.2.2.2.2.2
  have l := lp_1 (α := α) (α 14) (fun k hk => by have := (bl k hk).2.2; omega)
  exact ⟨_, M1, e1, _, M2, e2, Rel_out hr0 (by omega) h1 h2, rfl⟩
