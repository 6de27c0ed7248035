theorem Rel_w0 {n : Nat} {M M2 : Mem} (h : Rel n M) (h1 : ∀ i, i ≠ 0 → M2 12 47 i = M 12 47 i) (h2 : ∀ a b, ¬ (a = 11 ∨ a = 12 ∧ (b = 47 ∨ b = 52 ∨ b = 56 ∨ 21 ≤ b ∧ b ≤ 25)) → M2 a b = M a b) : Rel n M2 := by
  obtain ⟨α, αh, αs, K, nx, fed, b, H, hR, hS, hH, hs, ⟨hr1, hr2, hr3, hr4⟩, hi, hih, his, hb⟩ := h
  refine ⟨α, αh, αs, K, nx, fed, b, H, ?_, ?_, ?_, ?_, ⟨?_, ?_, ?_, ?_⟩, hi, hih, his, hb⟩
  · rw [show M2 0 = M 0 from funext fun b => h2 0 b (by omega)]; exact hR
  · rw [h2 12 48 (by decide)]; exact hS
  · exact Hs_same hH (h2 12 17 (by decide)) (h1 6 (by decide)) (h2 12 51 (by decide)) (fun a _ _ _ => funext fun b => h2 a b (by omega))
  · exact Rs_same hs (by rw [h2 12 16 (by decide)]) (h1 7 (by decide)) (funext fun b => h2 10 b (by omega)) (h2 12 50 (by decide))
  · exact Rr_same hr1 (fun i _ _ => by rw [h2 12 16 (by decide)]) (fun i _ _ => h1 i (by omega))
  · exact Re_same hr2 (by rw [h2 12 16 (by decide)]) (h1 14 (by decide))
  · exact Ri_same hr3 (by rw [h2 12 26 (by decide)]) (h1 12 (by decide)) (h2 12 27 (by decide)) (h2 12 53 (by decide))
  · exact Ro_same hr4 (h2 12 45 (by decide)) (h1 13 (by decide)) (h2 12 46 (by decide)) (h2 12 55 (by decide))
theorem Rel.up {n : Nat} {M : Mem} (h : Rel n M) : Rel (n + 1) M := by
  obtain ⟨α, αh, αs, K, nx, fed, b, H, hR, hS, hH, hs, hx, hi, hih, his, hb⟩ := h
  exact ⟨α, αh, αs, K, nx, fed, b, H, hR, hS, hH, hs, hx, hi, hih, his, by omega⟩
theorem Rel_w {n : Nat} {M M2 : Mem} (h : Rel n M) (h1 : ∀ i, i ≠ 0 → M2 12 47 i = M 12 47 i) (h2 : ∀ a b, ¬ (a = 11 ∨ a = 12 ∧ (b = 47 ∨ b = 52 ∨ b = 56 ∨ 21 ≤ b ∧ b ≤ 25)) → M2 a b = M a b) : Rel (n + 1) M2 := (Rel_w0 h h1 h2).up
def sh (α : Sp) (k : Nat) : Nat := α (15 + k)
def ky (α : Sp) (k : Nat) : Nat := α (23 + k)
theorem ky_tu {H T : Nat} {α : Sp} (hi : Inv H α) (h : T ≤ α 9) : Tu T (ky α) := by
  obtain ⟨⟨b0, b1, b2, b3, b4, b5, b6, b7, b8, b9, b10, b11, b14⟩, i1, i2, bs, bk, bn, bz, bt, bg, bl⟩ := hi
  refine ⟨fun i hi => ?_, fun i j h1 h2 => bn i j h1 (by omega)⟩
  have := bk i (by omega)
  show α (23 + i) < 8
  omega
/-- enough keys -/
def en (α : Sp) : Prop := α 1 = 1 ∧ α 5 ≤ α 9
theorem Lk0 {M : Mem} {H : Nat} {α : Sp} (hk : Rk (M 0) α) (hi : Inv H α) (he : en α) : Lk M 0 0 4 (α 5) (sh α) (ky α) := by
  have hu := ky_tu hi he.2
  obtain ⟨h1, h2, h3, h4, h5, h6, h7⟩ := hk
  obtain ⟨⟨b0, b1, b2, b3, b4, b5, b6, b7, b8, b9, b10, b11, b14⟩, i1, i2, bs, bk, bn, bz, bt, bg, bl⟩ := hi
  have q := i2 he.1
  exact ⟨h3, ⟨q, b5⟩, fun k hk => ⟨h5 k hk, bs k hk⟩, fun i hi => h7 i (by have := he.2; omega) (by have := he.2; omega), hu⟩
theorem c_enough {M : Mem} {H : Nat} {α : Sp} (hk : Rk (M 0) α) (hi : Inv H α) : (en α → f_X6_areEnough 0 M = some (nI 1)) ∧ (¬ en α → f_X6_areEnough 0 M = some (nI 0)) := by
  obtain ⟨h1, h2, h3, h4, h5, h6, h7⟩ := hk
  obtain ⟨⟨b0, b1, b2, b3, b4, b5, b6, b7, b8, b9, b10, b11, b14⟩, i1, i2, bs, bk, bn, bz, bt, bg, bl⟩ := hi
  unfold f_X6_areEnough en
  refine ⟨fun h => ?_, fun h => ?_⟩
  · simp (disch := omega) only [lit_0, lit_1, lit_2, lit_3, lit_4, lit_5, lit_6, lit_7, lit_8, lit_9, lit_10, lit_11, lit_12, lit_13, lit_14, lit_15, lit_16, lit_20, lit_23, lit_24, lit_31, lit_32, lit_39, lit_43, lit_45, lit_47, lit_48, lit_56, lit_57, lit_59, lit_60, lit_62, lit_63, lit_89, lit_92, lit_96, lit_97, lit_99, lit_100, lit_102, lit_103, lit_104, lit_110, lit_111, lit_115, lit_117, lit_194, lit_200, lit_644, lit_736, lit_999, lit_1000, lit_9999, lit_10000, lit_1000000000, ↓wp_mlet, ↓wp_mbp, ↓wp_ite, ↓wp_mix, ↓wp_mdiv, ↓wp_mnz, ↓wp_some, ↓wp_mbnd, ↓mlet_eq, ↓mbp_eq, ↓mbnd_eq, ↓mix_ite, ↓mdiv_ite, ↓mnz_ite, nI_add, nI_mul, nI_nat, nI_ltE, nI_leE, nI_eqE, nI_eqN, nI_Neq, nI_Nlt, nI_Nle, nI_ltN, nI_leN, ↓reduceIte, ↓Nat.reduceEqDiff, and_f, nt_e, nt_t, nl_t, nl_f, ne_t, ne_f, and_self, or_self, or_true, true_or, or_false, false_or, if_true, if_false, and_true, true_and, and_false, false_and, not_true, not_false_iff, h2, h3, h4]
  · by_cases q : α 1 = 0
    · simp (disch := omega) only [lit_0, lit_1, lit_2, lit_3, lit_4, lit_5, lit_6, lit_7, lit_8, lit_9, lit_10, lit_11, lit_12, lit_13, lit_14, lit_15, lit_16, lit_20, lit_23, lit_24, lit_31, lit_32, lit_39, lit_43, lit_45, lit_47, lit_48, lit_56, lit_57, lit_59, lit_60, lit_62, lit_63, lit_89, lit_92, lit_96, lit_97, lit_99, lit_100, lit_102, lit_103, lit_104, lit_110, lit_111, lit_115, lit_117, lit_194, lit_200, lit_644, lit_736, lit_999, lit_1000, lit_9999, lit_10000, lit_1000000000, ↓wp_mlet, ↓wp_mbp, ↓wp_ite, ↓wp_mix, ↓wp_mdiv, ↓wp_mnz, ↓wp_some, ↓wp_mbnd, ↓mlet_eq, ↓mbp_eq, ↓mbnd_eq, ↓mix_ite, ↓mdiv_ite, ↓mnz_ite, nI_add, nI_mul, nI_nat, nI_ltE, nI_leE, nI_eqE, nI_eqN, nI_Neq, nI_Nlt, nI_Nle, nI_ltN, nI_leN, ↓reduceIte, ↓Nat.reduceEqDiff, and_f, nt_e, nt_t, nl_t, nl_f, ne_t, ne_f, and_self, or_self, or_true, true_or, or_false, false_or, if_true, if_false, and_true, true_and, and_false, false_and, not_true, not_false_iff, h2, h3, h4, q]
    · simp (disch := omega) only [lit_0, lit_1, lit_2, lit_3, lit_4, lit_5, lit_6, lit_7, lit_8, lit_9, lit_10, lit_11, lit_12, lit_13, lit_14, lit_15, lit_16, lit_20, lit_23, lit_24, lit_31, lit_32, lit_39, lit_43, lit_45, lit_47, lit_48, lit_56, lit_57, lit_59, lit_60, lit_62, lit_63, lit_89, lit_92, lit_96, lit_97, lit_99, lit_100, lit_102, lit_103, lit_104, lit_110, lit_111, lit_115, lit_117, lit_194, lit_200, lit_644, lit_736, lit_999, lit_1000, lit_9999, lit_10000, lit_1000000000, ↓wp_mlet, ↓wp_mbp, ↓wp_ite, ↓wp_mix, ↓wp_mdiv, ↓wp_mnz, ↓wp_some, ↓wp_mbnd, ↓mlet_eq, ↓mbp_eq, ↓mbnd_eq, ↓mix_ite, ↓mdiv_ite, ↓mnz_ite, nI_add, nI_mul, nI_nat, nI_ltE, nI_leE, nI_eqE, nI_eqN, nI_Neq, nI_Nlt, nI_Nle, nI_ltN, nI_leN, ↓reduceIte, ↓Nat.reduceEqDiff, and_f, nt_e, nt_t, nl_t, nl_f, ne_t, ne_f, and_self, or_self, or_true, true_or, or_false, false_or, if_true, if_false, and_true, true_and, and_false, false_and, not_true, not_false_iff, h2, h3, h4]
theorem c_require {M : Mem} {H : Nat} {α : Sp} (hk : Rk (M 0) α) (hi : Inv H α) : (en α → f_X11_requireEnoughKeys M = some (.inr ())) ∧ (¬ en α → f_X11_requireEnoughKeys M = some (.inl 4)) := by
  obtain ⟨h1, h2⟩ := c_enough hk hi
  unfold f_X11_requireEnoughKeys
  refine ⟨fun h => ?_, fun h => ?_⟩
  · rw [h1 h]
    simp (disch := omega) only [lit_0, lit_1, lit_2, lit_3, lit_4, lit_5, lit_6, lit_7, lit_8, lit_9, lit_10, lit_11, lit_12, lit_13, lit_14, lit_15, lit_16, lit_20, lit_23, lit_24, lit_31, lit_32, lit_39, lit_43, lit_45, lit_47, lit_48, lit_56, lit_57, lit_59, lit_60, lit_62, lit_63, lit_89, lit_92, lit_96, lit_97, lit_99, lit_100, lit_102, lit_103, lit_104, lit_110, lit_111, lit_115, lit_117, lit_194, lit_200, lit_644, lit_736, lit_999, lit_1000, lit_9999, lit_10000, lit_1000000000, ↓wp_mlet, ↓wp_mbp, ↓wp_ite, ↓wp_mix, ↓wp_mdiv, ↓wp_mnz, ↓wp_some, ↓wp_mbnd, ↓mlet_eq, ↓mbp_eq, ↓mbnd_eq, ↓mix_ite, ↓mdiv_ite, ↓mnz_ite, nI_add, nI_mul, nI_nat, nI_ltE, nI_leE, nI_eqE, nI_eqN, nI_Neq, nI_Nlt, nI_Nle, nI_ltN, nI_leN, ↓reduceIte, ↓Nat.reduceEqDiff, and_f, nt_e, nt_t, nl_t, nl_f, ne_t, ne_f, and_self, or_self, or_true, true_or, or_false, false_or, if_true, if_false, and_true, true_and, and_false, false_and, not_true, not_false_iff]
  · rw [h2 h]
    simp (disch := omega) only [lit_0, lit_1, lit_2, lit_3, lit_4, lit_5, lit_6, lit_7, lit_8, lit_9, lit_10, lit_11, lit_12, lit_13, lit_14, lit_15, lit_16, lit_20, lit_23, lit_24, lit_31, lit_32, lit_39, lit_43, lit_45, lit_47, lit_48, lit_56, lit_57, lit_59, lit_60, lit_62, lit_63, lit_89, lit_92, lit_96, lit_97, lit_99, lit_100, lit_102, lit_103, lit_104, lit_110, lit_111, lit_115, lit_117, lit_194, lit_200, lit_644, lit_736, lit_999, lit_1000, lit_9999, lit_10000, lit_1000000000, ↓wp_mlet, ↓wp_mbp, ↓wp_ite, ↓wp_mix, ↓wp_mdiv, ↓wp_mnz, ↓wp_some, ↓wp_mbnd, ↓mlet_eq, ↓mbp_eq, ↓mbnd_eq, ↓mix_ite, ↓mdiv_ite, ↓mnz_ite, nI_add, nI_mul, nI_nat, nI_ltE, nI_leE, nI_eqE, nI_eqN, nI_Neq, nI_Nlt, nI_Nle, nI_ltN, nI_leN, ↓reduceIte, ↓Nat.reduceEqDiff, and_f, nt_e, nt_t, nl_t, nl_f, ne_t, ne_f, and_self, or_self, or_true, true_or, or_false, false_or, if_true, if_false, and_true, true_and, and_false, false_and, not_true, not_false_iff]
theorem m_enough {M : Mem} {H : Nat} {α : Sp} (hS : M 12 48 = enc α) (hi : Inv H α) : (en α → f_X12_areEnough M = some (nI 1, mup M 12 47 0 (nI 0))) ∧ (¬ en α → f_X12_areEnough M = some (nI 0, mup M 12 47 0 (nI 1))) := by
  obtain ⟨⟨b0, b1, b2, b3, b4, b5, b6, b7, b8, b9, b10, b11, b14⟩, i1, i2, bs, bk, bn, bz, bt, bg, bl⟩ := hi
  have t0 : ∀ x, (mup M 12 47 0 x) 12 47 0 = x := fun x => thr0
  unfold f_X12_areEnough en
  refine ⟨fun h => ?_, fun h => ?_⟩
  · simp (disch := omega) only [lit_0, lit_1, lit_2, lit_3, lit_4, lit_5, lit_6, lit_7, lit_8, lit_9, lit_10, lit_11, lit_12, lit_13, lit_14, lit_15, lit_16, lit_20, lit_23, lit_24, lit_31, lit_32, lit_39, lit_43, lit_45, lit_47, lit_48, lit_56, lit_57, lit_59, lit_60, lit_62, lit_63, lit_89, lit_92, lit_96, lit_97, lit_99, lit_100, lit_102, lit_103, lit_104, lit_110, lit_111, lit_115, lit_117, lit_194, lit_200, lit_644, lit_736, lit_999, lit_1000, lit_9999, lit_10000, lit_1000000000, ↓wp_mlet, ↓wp_mbp, ↓wp_ite, ↓wp_mix, ↓wp_mdiv, ↓wp_mnz, ↓wp_some, ↓wp_mbnd, ↓mlet_eq, ↓mbp_eq, ↓mbnd_eq, ↓mix_ite, ↓mdiv_ite, ↓mnz_ite, nI_add, nI_mul, nI_nat, nI_ltE, nI_leE, nI_eqE, nI_eqN, nI_Neq, nI_Nlt, nI_Nle, nI_ltN, nI_leN, ↓reduceIte, ↓Nat.reduceEqDiff, and_f, nt_e, nt_t, nl_t, nl_f, ne_t, ne_f, and_self, or_self, or_true, true_or, or_false, false_or, if_true, if_false, and_true, true_and, and_false, false_and, not_true, not_false_iff, ms_n hS, t0]
  · by_cases q : α 1 = 1
    · simp (disch := omega) only [lit_0, lit_1, lit_2, lit_3, lit_4, lit_5, lit_6, lit_7, lit_8, lit_9, lit_10, lit_11, lit_12, lit_13, lit_14, lit_15, lit_16, lit_20, lit_23, lit_24, lit_31, lit_32, lit_39, lit_43, lit_45, lit_47, lit_48, lit_56, lit_57, lit_59, lit_60, lit_62, lit_63, lit_89, lit_92, lit_96, lit_97, lit_99, lit_100, lit_102, lit_103, lit_104, lit_110, lit_111, lit_115, lit_117, lit_194, lit_200, lit_644, lit_736, lit_999, lit_1000, lit_9999, lit_10000, lit_1000000000, ↓wp_mlet, ↓wp_mbp, ↓wp_ite, ↓wp_mix, ↓wp_mdiv, ↓wp_mnz, ↓wp_some, ↓wp_mbnd, ↓mlet_eq, ↓mbp_eq, ↓mbnd_eq, ↓mix_ite, ↓mdiv_ite, ↓mnz_ite, nI_add, nI_mul, nI_nat, nI_ltE, nI_leE, nI_eqE, nI_eqN, nI_Neq, nI_Nlt, nI_Nle, nI_ltN, nI_leN, ↓reduceIte, ↓Nat.reduceEqDiff, and_f, nt_e, nt_t, nl_t, nl_f, ne_t, ne_f, and_self, or_self, or_true, true_or, or_false, false_or, if_true, if_false, and_true, true_and, and_false, false_and, not_true, not_false_iff, ms_n hS, t0, q]
    · simp (disch := omega) only [lit_0, lit_1, lit_2, lit_3, lit_4, lit_5, lit_6, lit_7, lit_8, lit_9, lit_10, lit_11, lit_12, lit_13, lit_14, lit_15, lit_16, lit_20, lit_23, lit_24, lit_31, lit_32, lit_39, lit_43, lit_45, lit_47, lit_48, lit_56, lit_57, lit_59, lit_60, lit_62, lit_63, lit_89, lit_92, lit_96, lit_97, lit_99, lit_100, lit_102, lit_103, lit_104, lit_110, lit_111, lit_115, lit_117, lit_194, lit_200, lit_644, lit_736, lit_999, lit_1000, lit_9999, lit_10000, lit_1000000000, ↓wp_mlet, ↓wp_mbp, ↓wp_ite, ↓wp_mix, ↓wp_mdiv, ↓wp_mnz, ↓wp_some, ↓wp_mbnd, ↓mlet_eq, ↓mbp_eq, ↓mbnd_eq, ↓mix_ite, ↓mdiv_ite, ↓mnz_ite, nI_add, nI_mul, nI_nat, nI_ltE, nI_leE, nI_eqE, nI_eqN, nI_Neq, nI_Nlt, nI_Nle, nI_ltN, nI_leN, ↓reduceIte, ↓Nat.reduceEqDiff, and_f, nt_e, nt_t, nl_t, nl_f, ne_t, ne_f, and_self, or_self, or_true, true_or, or_false, false_or, if_true, if_false, and_true, true_and, and_false, false_and, not_true, not_false_iff, ms_n hS, t0]
theorem m_first {M : Mem} {H : Nat} {α : Sp} (hS : M 12 48 = enc α) (hi : Inv H α) (he : en α) : f_X12_takesFirst M = some ((), fil M 12 56 0 (α 5) (fun k => nI (ky α k))) := by
  have h5 : α 5 ≤ 3 := hi.1.2.2.2.2.2.1
  unfold f_X12_takesFirst
  generalize hN : (1000 : Nat) = N
  have key := mloop (F := fun n x s kk => f_X12_takesFirst_L2 n x s kk) (c := α 5) (fun x => fil M 12 56 0 x (fun k => nI (ky α k))) (fun m x kk hx => by
    show f_X12_takesFirst_L2 (m + 1) (nI x) (fil M 12 56 0 x (fun k => nI (ky α k))) kk = f_X12_takesFirst_L2 m (nI (x + 1)) (fil M 12 56 0 (x + 1) (fun k => nI (ky α k))) kk
    have e : ∀ j, ¬ (j = 48 ∨ j = 51 ∨ j = 54) → (fil M 12 56 0 x (fun k => nI (ky α k))) 12 48 j = nI (α j) := fun j hj => by rw [fil_ne (by decide)]; exact ms_n hS hj
    have ek : (fil M 12 56 0 x (fun k => nI (ky α k))) 12 48 (23 + x) = nI (ky α x) := e (23 + x) (by omega)
    rw [f_X12_takesFirst_L2.eq_2, ← fil_s (Nat.zero_le x) rfl]
    simp (disch := omega) only [lit_0, lit_1, lit_2, lit_3, lit_4, lit_5, lit_6, lit_7, lit_8, lit_9, lit_10, lit_11, lit_12, lit_13, lit_14, lit_15, lit_16, lit_20, lit_23, lit_24, lit_31, lit_32, lit_39, lit_43, lit_45, lit_47, lit_48, lit_56, lit_57, lit_59, lit_60, lit_62, lit_63, lit_89, lit_92, lit_96, lit_97, lit_99, lit_100, lit_102, lit_103, lit_104, lit_110, lit_111, lit_115, lit_117, lit_194, lit_200, lit_644, lit_736, lit_999, lit_1000, lit_9999, lit_10000, lit_1000000000, ↓wp_mlet, ↓wp_mbp, ↓wp_ite, ↓wp_mix, ↓wp_mdiv, ↓wp_mnz, ↓wp_some, ↓wp_mbnd, ↓mlet_eq, ↓mbp_eq, ↓mbnd_eq, ↓mix_ite, ↓mdiv_ite, ↓mnz_ite, nI_add, nI_mul, nI_nat, nI_ltE, nI_leE, nI_eqE, nI_eqN, nI_Neq, nI_Nlt, nI_Nle, nI_ltN, nI_leN, ↓reduceIte, ↓Nat.reduceEqDiff, and_f, nt_e, nt_t, nl_t, nl_f, ne_t, ne_f, and_self, or_self, or_true, true_or, or_false, false_or, if_true, if_false, and_true, true_and, and_false, false_and, not_true, not_false_iff, e 5 (by decide), ek]) (fun m kk => by
    show f_X12_takesFirst_L2 (m + 1) (nI (α 5)) (fil M 12 56 0 (α 5) (fun k => nI (ky α k))) kk = _
    have e : (fil M 12 56 0 (α 5) (fun k => nI (ky α k))) 12 48 5 = nI (α 5) := by rw [fil_ne (by decide)]; exact ms_n hS (by decide)
    rw [f_X12_takesFirst_L2.eq_2]
    simp (disch := omega) only [lit_0, lit_1, lit_2, lit_3, lit_4, lit_5, lit_6, lit_7, lit_8, lit_9, lit_10, lit_11, lit_12, lit_13, lit_14, lit_15, lit_16, lit_20, lit_23, lit_24, lit_31, lit_32, lit_39, lit_43, lit_45, lit_47, lit_48, lit_56, lit_57, lit_59, lit_60, lit_62, lit_63, lit_89, lit_92, lit_96, lit_97, lit_99, lit_100, lit_102, lit_103, lit_104, lit_110, lit_111, lit_115, lit_117, lit_194, lit_200, lit_644, lit_736, lit_999, lit_1000, lit_9999, lit_10000, lit_1000000000, ↓wp_mlet, ↓wp_mbp, ↓wp_ite, ↓wp_mix, ↓wp_mdiv, ↓wp_mnz, ↓wp_some, ↓wp_mbnd, ↓mlet_eq, ↓mbp_eq, ↓mbnd_eq, ↓mix_ite, ↓mdiv_ite, ↓mnz_ite, nI_add, nI_mul, nI_nat, nI_ltE, nI_leE, nI_eqE, nI_eqN, nI_Neq, nI_Nlt, nI_Nle, nI_ltN, nI_leN, ↓reduceIte, ↓Nat.reduceEqDiff, and_f, nt_e, nt_t, nl_t, nl_f, ne_t, ne_f, and_self, or_self, or_true, true_or, or_false, false_or, if_true, if_false, and_true, true_and, and_false, false_and, not_true, not_false_iff, e]) (α 5) N 0 (fun M6 => some ((), M6)) (by omega) (by omega)
  have e0 : f_X12_takesFirst_L2 N 0 M (fun M6 => some ((), M6)) = f_X12_takesFirst_L2 N (nI 0) (fil M 12 56 0 0 (fun k => nI (ky α k))) (fun M6 => some ((), M6)) := by rw [fil_0]; rfl
  rw [e0]
  exact key
theorem Lm0 {M M2 : Mem} {H : Nat} {α : Sp} (hS : M2 12 48 = enc α) (hi : Inv H α) (he : en α) (h2 : M2 = fil M 12 56 0 (α 5) (fun k => nI (ky α k))) : Lm M2 (α 5) (sh α) (ky α) := by
  have hu := ky_tu hi he.2
  obtain ⟨⟨b0, b1, b2, b3, b4, b5, b6, b7, b8, b9, b10, b11, b14⟩, i1, i2, bs, bk, bn, bz, bt, bg, bl⟩ := hi
  have q := i2 he.1
  refine ⟨ms_n hS (by decide), ⟨q, b5⟩, fun k hk => ⟨ms_n hS (by omega), bs k hk⟩, fun i hi => ?_, hu⟩
  rw [h2, fil_at, if_pos (by omega)]
theorem pair_toldSecret {n : Nat} {M : Mem} (hr : Rel n M) : PairG n (fun x => if x = 4 then 1 else 0) M f_X11_toldSecret f_X12_toldSecret := by
  have hr' := Rel_thr hr
  have hr0 := hr
  obtain ⟨α, αh, αs, K, nx, fed, b, H, ⟨hk, hd, hb, hj⟩, hS, hH, hs, hx, hi, hih, his, hbb⟩ := hr
  obtain ⟨c1, c2⟩ := c_require hk hi
  obtain ⟨m1, m2⟩ := m_enough hS hi
  unfold PairG f_X11_toldSecret f_X12_toldSecret
  by_cases he : en α
  · have hl := Lk0 hk hi he
    have hS' := ms_t (x := nI 0) hS
    have hf := m_first hS' hi he
    have e1 : f_X6_toldAt 0 (nI 0) M = some (nI (thr (α 5) (sh α) (ky α) 0)) := by
      unfold f_X6_toldAt
      rw [c_thr hl (by decide)]
      rfl
    refine ⟨.inr (nI (thr (α 5) (sh α) (ky α) 0)), ?_, ?_⟩
    · rw [c1 he, mbpx_r]
      simp only [lit_0, lit_1, lit_2, lit_3, lit_4, lit_5, lit_6, lit_7, lit_8, lit_9, lit_10, lit_11, lit_12, lit_13, lit_14, lit_15, lit_16, lit_20, lit_23, lit_24, lit_31, lit_32, lit_39, lit_43, lit_45, lit_47, lit_48, lit_56, lit_57, lit_59, lit_60, lit_62, lit_63, lit_89, lit_92, lit_96, lit_97, lit_99, lit_100, lit_102, lit_103, lit_104, lit_110, lit_111, lit_115, lit_117, lit_194, lit_200, lit_644, lit_736, lit_999, lit_1000, lit_9999, lit_10000, lit_1000000000]
      rw [e1, mbp_eq]
    · have hl2 := Lm0 (M := mup M 12 47 0 (nI 0)) (M2 := fil (mup M 12 47 0 (nI 0)) 12 56 0 (α 5) (fun k => nI (ky α k))) (by rw [fil_ne (by decide)]; exact hS') hi he rfl
      have e2 := m_thr hl2 (x := 0) (by decide)
      rw [m1 he]
      simp (disch := omega) only [lit_0, lit_1, lit_2, lit_3, lit_4, lit_5, lit_6, lit_7, lit_8, lit_9, lit_10, lit_11, lit_12, lit_13, lit_14, lit_15, lit_16, lit_20, lit_23, lit_24, lit_31, lit_32, lit_39, lit_43, lit_45, lit_47, lit_48, lit_56, lit_57, lit_59, lit_60, lit_62, lit_63, lit_89, lit_92, lit_96, lit_97, lit_99, lit_100, lit_102, lit_103, lit_104, lit_110, lit_111, lit_115, lit_117, lit_194, lit_200, lit_644, lit_736, lit_999, lit_1000, lit_9999, lit_10000, lit_1000000000, ↓wp_mlet, ↓wp_mbp, ↓wp_ite, ↓wp_mix, ↓wp_mdiv, ↓wp_mnz, ↓wp_some, ↓wp_mbnd, ↓mlet_eq, ↓mbp_eq, ↓mbnd_eq, ↓mix_ite, ↓mdiv_ite, ↓mnz_ite, nI_add, nI_mul, nI_nat, nI_ltE, nI_leE, nI_eqE, nI_eqN, nI_Neq, nI_Nlt, nI_Nle, nI_ltN, nI_leN, ↓reduceIte, ↓Nat.reduceEqDiff, and_f, nt_e, nt_t, nl_t, nl_f, ne_t, ne_f, and_self, or_self, or_true, true_or, or_false, false_or, if_true, if_false, and_true, true_and, and_false, false_and, not_true, not_false_iff, hf, e2]
      refine ⟨Rel_w hr0 (fun i hi => ?_) (fun a b hab => ?_), ?_, rfl⟩
      · rw [fil_ne (by decide), mup_at, if_neg (by omega)]
      · rw [fil_ne (by omega), pm_ne (by omega)]
      · rw [fil_ne (by decide)]; exact thr0
  · refine ⟨.inl 4, ?_, ?_⟩
    · rw [c2 he, mbpx_l]
    · rw [m2 he]
      simp (disch := omega) only [lit_0, lit_1, lit_2, lit_3, lit_4, lit_5, lit_6, lit_7, lit_8, lit_9, lit_10, lit_11, lit_12, lit_13, lit_14, lit_15, lit_16, lit_20, lit_23, lit_24, lit_31, lit_32, lit_39, lit_43, lit_45, lit_47, lit_48, lit_56, lit_57, lit_59, lit_60, lit_62, lit_63, lit_89, lit_92, lit_96, lit_97, lit_99, lit_100, lit_102, lit_103, lit_104, lit_110, lit_111, lit_115, lit_117, lit_194, lit_200, lit_644, lit_736, lit_999, lit_1000, lit_9999, lit_10000, lit_1000000000, ↓wp_mlet, ↓wp_mbp, ↓wp_ite, ↓wp_mix, ↓wp_mdiv, ↓wp_mnz, ↓wp_some, ↓wp_mbnd, ↓mlet_eq, ↓mbp_eq, ↓mbnd_eq, ↓mix_ite, ↓mdiv_ite, ↓mnz_ite, nI_add, nI_mul, nI_nat, nI_ltE, nI_leE, nI_eqE, nI_eqN, nI_Neq, nI_Nlt, nI_Nle, nI_ltN, nI_leN, ↓reduceIte, ↓Nat.reduceEqDiff, and_f, nt_e, nt_t, nl_t, nl_f, ne_t, ne_f, and_self, or_self, or_true, true_or, or_false, false_or, if_true, if_false, and_true, true_and, and_false, false_and, not_true, not_false_iff]
      exact ⟨hr' _, thr0, by decide, by decide⟩
theorem idx97 {a1 : Int32} : idx a1 97 = true ∨ idx a1 97 = false := by cases idx a1 97 <;> simp
theorem pair_toldValue {n : Nat} {M : Mem} (hr : Rel n M) (a1 : Int32) : PairG n (fun x => if x = 2 then 1 else if x = 4 then 2 else 0) M (f_X11_toldValue a1) (f_X12_toldValue a1) := by
  have hr' := Rel_thr hr
  have hr0 := hr
  obtain ⟨α, αh, αs, K, nx, fed, b, H, ⟨hk, hd, hb, hj⟩, hS, hH, hs, hx, hi, hih, his, hbb⟩ := hr
  obtain ⟨c1, c2⟩ := c_require hk hi
  obtain ⟨m1, m2⟩ := m_enough hS hi
  unfold PairG f_X11_toldValue f_X12_toldValue
  simp only [lit_0, lit_1, lit_2, lit_3, lit_4, lit_5, lit_6, lit_7, lit_8, lit_9, lit_10, lit_11, lit_12, lit_13, lit_14, lit_15, lit_16, lit_20, lit_23, lit_24, lit_31, lit_32, lit_39, lit_43, lit_45, lit_47, lit_48, lit_56, lit_57, lit_59, lit_60, lit_62, lit_63, lit_89, lit_92, lit_96, lit_97, lit_99, lit_100, lit_102, lit_103, lit_104, lit_110, lit_111, lit_115, lit_117, lit_194, lit_200, lit_644, lit_736, lit_999, lit_1000, lit_9999, lit_10000, lit_1000000000]
  have r96 := rng_c a1 96 (by decide)
  rcases idx_c a1 97 (by decide) with ⟨x, hx1, rfl, e1⟩ | ⟨e1, h⟩
  · by_cases he : en α
    · have hl := Lk0 hk hi he
      have hS' := ms_t (x := nI 0) hS
      have hS2 := ms_t (x := nI 0) hS'
      have hf := m_first hS2 hi he
      have e3 : f_X6_toldAt 0 (nI x) M = some (nI (thr (α 5) (sh α) (ky α) x)) := by
        unfold f_X6_toldAt
        rw [c_thr hl (by omega)]
        rfl
      refine ⟨.inr (nI (thr (α 5) (sh α) (ky α) x)), ?_, ?_⟩
      · simp (disch := omega) only [lit_0, lit_1, lit_2, lit_3, lit_4, lit_5, lit_6, lit_7, lit_8, lit_9, lit_10, lit_11, lit_12, lit_13, lit_14, lit_15, lit_16, lit_20, lit_23, lit_24, lit_31, lit_32, lit_39, lit_43, lit_45, lit_47, lit_48, lit_56, lit_57, lit_59, lit_60, lit_62, lit_63, lit_89, lit_92, lit_96, lit_97, lit_99, lit_100, lit_102, lit_103, lit_104, lit_110, lit_111, lit_115, lit_117, lit_194, lit_200, lit_644, lit_736, lit_999, lit_1000, lit_9999, lit_10000, lit_1000000000, ↓wp_mlet, ↓wp_mbp, ↓wp_ite, ↓wp_mix, ↓wp_mdiv, ↓wp_mnz, ↓wp_some, ↓wp_mbnd, ↓mlet_eq, ↓mbp_eq, ↓mbnd_eq, ↓mix_ite, ↓mdiv_ite, ↓mnz_ite, nI_add, nI_mul, nI_nat, nI_ltE, nI_leE, nI_eqE, nI_eqN, nI_Neq, nI_Nlt, nI_Nle, nI_ltN, nI_leN, ↓reduceIte, ↓Nat.reduceEqDiff, and_f, nt_e, nt_t, nl_t, nl_f, ne_t, ne_f, and_self, or_self, or_true, true_or, or_false, false_or, if_true, if_false, and_true, true_and, and_false, false_and, not_true, not_false_iff, c1 he, mbpx_r, e3, nI_pos]
      · have hl2 := Lm0 (M := mup (mup M 12 47 0 (nI 0)) 12 47 0 (nI 0)) (M2 := fil (mup (mup M 12 47 0 (nI 0)) 12 47 0 (nI 0)) 12 56 0 (α 5) (fun k => nI (ky α k))) (by rw [fil_ne (by decide)]; exact hS2) hi he rfl
        have e2 := m_thr hl2 (x := x) (by omega)
        have t0 : ∀ (M : Mem) x, (mup M 12 47 0 x) 12 47 0 = x := fun M x => thr0
        rw [m1 he, r96, e1]
        simp (disch := omega) only [lit_0, lit_1, lit_2, lit_3, lit_4, lit_5, lit_6, lit_7, lit_8, lit_9, lit_10, lit_11, lit_12, lit_13, lit_14, lit_15, lit_16, lit_20, lit_23, lit_24, lit_31, lit_32, lit_39, lit_43, lit_45, lit_47, lit_48, lit_56, lit_57, lit_59, lit_60, lit_62, lit_63, lit_89, lit_92, lit_96, lit_97, lit_99, lit_100, lit_102, lit_103, lit_104, lit_110, lit_111, lit_115, lit_117, lit_194, lit_200, lit_644, lit_736, lit_999, lit_1000, lit_9999, lit_10000, lit_1000000000, ↓wp_mlet, ↓wp_mbp, ↓wp_ite, ↓wp_mix, ↓wp_mdiv, ↓wp_mnz, ↓wp_some, ↓wp_mbnd, ↓mlet_eq, ↓mbp_eq, ↓mbnd_eq, ↓mix_ite, ↓mdiv_ite, ↓mnz_ite, nI_add, nI_mul, nI_nat, nI_ltE, nI_leE, nI_eqE, nI_eqN, nI_Neq, nI_Nlt, nI_Nle, nI_ltN, nI_leN, ↓reduceIte, ↓Nat.reduceEqDiff, and_f, nt_e, nt_t, nl_t, nl_f, ne_t, ne_f, and_self, or_self, or_true, true_or, or_false, false_or, if_true, if_false, and_true, true_and, and_false, false_and, not_true, not_false_iff, hf, e2, t0, Bool.toNat_true]
        refine ⟨Rel_w hr0 (fun i hi => ?_) (fun a b hab => ?_), ?_, rfl⟩
        · rw [fil_ne (by decide), mup_at, if_neg (by omega), mup_at, if_neg (by omega)]
        · rw [fil_ne (by omega), pm_ne (by omega), pm_ne (by omega)]
        · rw [fil_ne (by decide)]; exact thr0
    · refine ⟨.inl 4, ?_, ?_⟩
      · simp (disch := omega) only [lit_0, lit_1, lit_2, lit_3, lit_4, lit_5, lit_6, lit_7, lit_8, lit_9, lit_10, lit_11, lit_12, lit_13, lit_14, lit_15, lit_16, lit_20, lit_23, lit_24, lit_31, lit_32, lit_39, lit_43, lit_45, lit_47, lit_48, lit_56, lit_57, lit_59, lit_60, lit_62, lit_63, lit_89, lit_92, lit_96, lit_97, lit_99, lit_100, lit_102, lit_103, lit_104, lit_110, lit_111, lit_115, lit_117, lit_194, lit_200, lit_644, lit_736, lit_999, lit_1000, lit_9999, lit_10000, lit_1000000000, ↓wp_mlet, ↓wp_mbp, ↓wp_ite, ↓wp_mix, ↓wp_mdiv, ↓wp_mnz, ↓wp_some, ↓wp_mbnd, ↓mlet_eq, ↓mbp_eq, ↓mbnd_eq, ↓mix_ite, ↓mdiv_ite, ↓mnz_ite, nI_add, nI_mul, nI_nat, nI_ltE, nI_leE, nI_eqE, nI_eqN, nI_Neq, nI_Nlt, nI_Nle, nI_ltN, nI_leN, ↓reduceIte, ↓Nat.reduceEqDiff, and_f, nt_e, nt_t, nl_t, nl_f, ne_t, ne_f, and_self, or_self, or_true, true_or, or_false, false_or, if_true, if_false, and_true, true_and, and_false, false_and, not_true, not_false_iff, c2 he, mbpx_l, nI_pos]
      · have t0 : ∀ (M : Mem) x, (mup M 12 47 0 x) 12 47 0 = x := fun M x => thr0
        rw [m2 he, r96, e1]
        simp (disch := omega) only [lit_0, lit_1, lit_2, lit_3, lit_4, lit_5, lit_6, lit_7, lit_8, lit_9, lit_10, lit_11, lit_12, lit_13, lit_14, lit_15, lit_16, lit_20, lit_23, lit_24, lit_31, lit_32, lit_39, lit_43, lit_45, lit_47, lit_48, lit_56, lit_57, lit_59, lit_60, lit_62, lit_63, lit_89, lit_92, lit_96, lit_97, lit_99, lit_100, lit_102, lit_103, lit_104, lit_110, lit_111, lit_115, lit_117, lit_194, lit_200, lit_644, lit_736, lit_999, lit_1000, lit_9999, lit_10000, lit_1000000000, ↓wp_mlet, ↓wp_mbp, ↓wp_ite, ↓wp_mix, ↓wp_mdiv, ↓wp_mnz, ↓wp_some, ↓wp_mbnd, ↓mlet_eq, ↓mbp_eq, ↓mbnd_eq, ↓mix_ite, ↓mdiv_ite, ↓mnz_ite, nI_add, nI_mul, nI_nat, nI_ltE, nI_leE, nI_eqE, nI_eqN, nI_Neq, nI_Nlt, nI_Nle, nI_ltN, nI_leN, ↓reduceIte, ↓Nat.reduceEqDiff, and_f, nt_e, nt_t, nl_t, nl_f, ne_t, ne_f, and_self, or_self, or_true, true_or, or_false, false_or, if_true, if_false, and_true, true_and, and_false, false_and, not_true, not_false_iff, t0, Bool.toNat_true, thr2]
        exact ⟨hr' _, rfl, by decide, by decide⟩
  · have hm : ∃ w M2, f_X12_areEnough M = some (nI w, mup M 12 47 0 M2) := by
      by_cases he : en α
      · exact ⟨_, _, m1 he⟩
      · exact ⟨_, _, m2 he⟩
    obtain ⟨w, y, hm⟩ := hm
    refine ⟨.inl 2, ?_, ?_⟩
    · rcases h with h | ⟨j, hj, h, rfl⟩
      · rw [mlet_eq, if_pos (show a1 < nI 0 from h)]
      · rw [mlet_eq, if_neg (by rw [nI_ltE (by omega) (by omega)]; omega), if_neg (by rw [nI_ltE (by omega) (by omega)]; omega)]
    · have t0 : ∀ (M : Mem) x, (mup M 12 47 0 x) 12 47 0 = x := fun M x => thr0
      rw [hm, r96, e1]
      simp (disch := omega) only [lit_0, lit_1, lit_2, lit_3, lit_4, lit_5, lit_6, lit_7, lit_8, lit_9, lit_10, lit_11, lit_12, lit_13, lit_14, lit_15, lit_16, lit_20, lit_23, lit_24, lit_31, lit_32, lit_39, lit_43, lit_45, lit_47, lit_48, lit_56, lit_57, lit_59, lit_60, lit_62, lit_63, lit_89, lit_92, lit_96, lit_97, lit_99, lit_100, lit_102, lit_103, lit_104, lit_110, lit_111, lit_115, lit_117, lit_194, lit_200, lit_644, lit_736, lit_999, lit_1000, lit_9999, lit_10000, lit_1000000000, ↓wp_mlet, ↓wp_mbp, ↓wp_ite, ↓wp_mix, ↓wp_mdiv, ↓wp_mnz, ↓wp_some, ↓wp_mbnd, ↓mlet_eq, ↓mbp_eq, ↓mbnd_eq, ↓mix_ite, ↓mdiv_ite, ↓mnz_ite, nI_add, nI_mul, nI_nat, nI_ltE, nI_leE, nI_eqE, nI_eqN, nI_Neq, nI_Nlt, nI_Nle, nI_ltN, nI_leN, ↓reduceIte, ↓Nat.reduceEqDiff, and_f, nt_e, nt_t, nl_t, nl_f, ne_t, ne_f, and_self, or_self, or_true, true_or, or_false, false_or, if_true, if_false, and_true, true_and, and_false, false_and, not_true, not_false_iff, t0, Bool.toNat_false, thr2]
      exact ⟨hr' _, rfl, by decide, by decide⟩
theorem c_agree {M : Mem} {H : Nat} {α : Sp} (hk : Rk (M 0) α) (hi : Inv H α) (he : en α) : f_X6_isOneCurve 0 0 4 (M 0 1 5) M = some (nI (one (α 5) (sh α) (ky α) (α 9)).toNat) := by
  have hl := Lk0 hk hi he
  obtain ⟨h1, h2, h3, h4, h5, h6, h7⟩ := hk
  obtain ⟨⟨b0, b1, b2, b3, b4, b5, b6, b7, b8, b9, b10, b11, b14⟩, i1, i2, bs, bk, bn, bz, bt, bg, bl⟩ := hi
  rw [h4]
  exact c_one hl he.2 (by omega) (fun k hk => ⟨h7 k (by omega) hk, by have := bk k hk; show α (23 + k) < 8; omega⟩)
theorem one_cnt {T n : Nat} {s t : Nat → Nat} : (one T s t n = true) = (cnt (fun k => onC T s t (t k)) n = n) := by
  rw [one_t]
  exact propext (cnt_all n).symm
theorem pair_doAgree {n : Nat} {M : Mem} (hr : Rel n M) : PairG n (fun x => if x = 4 then 1 else 0) M f_X11_doAgree f_X12_doAgree := by
  have hr' := Rel_thr hr
  have hr0 := hr
  obtain ⟨α, αh, αs, K, nx, fed, b, H, ⟨hk, hd, hb, hj⟩, hS, hH, hs, hx, hi, hih, his, hbb⟩ := hr
  obtain ⟨c1, c2⟩ := c_require hk hi
  obtain ⟨m1, m2⟩ := m_enough hS hi
  unfold PairG f_X11_doAgree f_X12_doAgree f_X6_allAgree
  by_cases he : en α
  · have hS' := ms_t (x := nI 0) hS
    have hf := m_first hS' hi he
    have e1 := c_agree hk hi he
    have hl2 := Lm0 (M := mup M 12 47 0 (nI 0)) (M2 := fil (mup M 12 47 0 (nI 0)) 12 56 0 (α 5) (fun k => nI (ky α k))) (by rw [fil_ne (by decide)]; exact hS') hi he rfl
    have hS2 : (fil (mup M 12 47 0 (nI 0)) 12 56 0 (α 5) (fun k => nI (ky α k))) 12 48 = enc α := by rw [fil_ne (by decide)]; exact hS'
    have hR2 : Rel (n + 1) (fil (mup M 12 47 0 (nI 0)) 12 56 0 (α 5) (fun k => nI (ky α k))) := Rel_w hr0 (fun i hi => by rw [fil_ne (by decide), mup_at, if_neg (by omega)]) (fun a b hab => by rw [fil_ne (by omega), pm_ne (by omega)])
    have hT0 : (fil (mup M 12 47 0 (nI 0)) 12 56 0 (α 5) (fun k => nI (ky α k))) 12 47 0 = nI 0 := by rw [fil_ne (by decide)]; exact thr0
    generalize fil (mup M 12 47 0 (nI 0)) 12 56 0 (α 5) (fun k => nI (ky α k)) = M2 at *
    obtain ⟨⟨b0, b1, b2, b3, b4, b5, b6, b7, b8, b9, b10, b11, b14⟩, i1, i2, bs, bk, bn, bz, bt, bg, bl⟩ := hi
    have e2 := m_onIt hl2 (ky := ky α) (n := α 9) (ms_n hS2 (by decide)) (by omega) (fun k hk => ⟨ms_n hS2 (by omega), by have := bk k hk; show α (23 + k) < 8; omega⟩)
    have e3 := one_cnt (T := α 5) (s := sh α) (t := ky α) (n := α 9)
    have l := cnt_le (P := fun k => onC (α 5) (sh α) (ky α) (ky α k)) (α 9)
    rw [c1 he, m1 he]
    simp (disch := omega) only [lit_0, lit_1, lit_2, lit_3, lit_4, lit_5, lit_6, lit_7, lit_8, lit_9, lit_10, lit_11, lit_12, lit_13, lit_14, lit_15, lit_16, lit_20, lit_23, lit_24, lit_31, lit_32, lit_39, lit_43, lit_45, lit_47, lit_48, lit_56, lit_57, lit_59, lit_60, lit_62, lit_63, lit_89, lit_92, lit_96, lit_97, lit_99, lit_100, lit_102, lit_103, lit_104, lit_110, lit_111, lit_115, lit_117, lit_194, lit_200, lit_644, lit_736, lit_999, lit_1000, lit_9999, lit_10000, lit_1000000000, ↓wp_mlet, ↓wp_mbp, ↓wp_ite, ↓wp_mix, ↓wp_mdiv, ↓wp_mnz, ↓wp_some, ↓wp_mbnd, ↓mlet_eq, ↓mbp_eq, ↓mbnd_eq, ↓mix_ite, ↓mdiv_ite, ↓mnz_ite, nI_add, nI_mul, nI_nat, nI_ltE, nI_leE, nI_eqE, nI_eqN, nI_Neq, nI_Nlt, nI_Nle, nI_ltN, nI_leN, ↓reduceIte, ↓Nat.reduceEqDiff, and_f, nt_e, nt_t, nl_t, nl_f, ne_t, ne_f, and_self, or_self, or_true, true_or, or_false, false_or, if_true, if_false, and_true, true_and, and_false, false_and, not_true, not_false_iff, mbpx_r, hf, e1, e2, ms_n hS2]
    generalize cnt (fun k => onC (α 5) (sh α) (ky α) (ky α k)) (α 9) = c at *
    cases q : one (α 5) (sh α) (ky α) (α 9) with
    | true =>
      have e4 : c = α 9 := e3 ▸ q
      refine ⟨.inr (nI 1), rfl, ?_⟩
      simp (disch := omega) only [lit_0, lit_1, lit_2, lit_3, lit_4, lit_5, lit_6, lit_7, lit_8, lit_9, lit_10, lit_11, lit_12, lit_13, lit_14, lit_15, lit_16, lit_20, lit_23, lit_24, lit_31, lit_32, lit_39, lit_43, lit_45, lit_47, lit_48, lit_56, lit_57, lit_59, lit_60, lit_62, lit_63, lit_89, lit_92, lit_96, lit_97, lit_99, lit_100, lit_102, lit_103, lit_104, lit_110, lit_111, lit_115, lit_117, lit_194, lit_200, lit_644, lit_736, lit_999, lit_1000, lit_9999, lit_10000, lit_1000000000, ↓wp_mlet, ↓wp_mbp, ↓wp_ite, ↓wp_mix, ↓wp_mdiv, ↓wp_mnz, ↓wp_some, ↓wp_mbnd, ↓mlet_eq, ↓mbp_eq, ↓mbnd_eq, ↓mix_ite, ↓mdiv_ite, ↓mnz_ite, nI_add, nI_mul, nI_nat, nI_ltE, nI_leE, nI_eqE, nI_eqN, nI_Neq, nI_Nlt, nI_Nle, nI_ltN, nI_leN, ↓reduceIte, ↓Nat.reduceEqDiff, and_f, nt_e, nt_t, nl_t, nl_f, ne_t, ne_f, and_self, or_self, or_true, true_or, or_false, false_or, if_true, if_false, and_true, true_and, and_false, false_and, not_true, not_false_iff]
      exact ⟨hR2, hT0, rfl⟩
    | false =>
      have e4 : c ≠ α 9 := fun h => by
        have : one (α 5) (sh α) (ky α) (α 9) = true := e3 ▸ h
        rw [q] at this; cases this
      refine ⟨.inr (nI 0), rfl, ?_⟩
      simp (disch := omega) only [lit_0, lit_1, lit_2, lit_3, lit_4, lit_5, lit_6, lit_7, lit_8, lit_9, lit_10, lit_11, lit_12, lit_13, lit_14, lit_15, lit_16, lit_20, lit_23, lit_24, lit_31, lit_32, lit_39, lit_43, lit_45, lit_47, lit_48, lit_56, lit_57, lit_59, lit_60, lit_62, lit_63, lit_89, lit_92, lit_96, lit_97, lit_99, lit_100, lit_102, lit_103, lit_104, lit_110, lit_111, lit_115, lit_117, lit_194, lit_200, lit_644, lit_736, lit_999, lit_1000, lit_9999, lit_10000, lit_1000000000, ↓wp_mlet, ↓wp_mbp, ↓wp_ite, ↓wp_mix, ↓wp_mdiv, ↓wp_mnz, ↓wp_some, ↓wp_mbnd, ↓mlet_eq, ↓mbp_eq, ↓mbnd_eq, ↓mix_ite, ↓mdiv_ite, ↓mnz_ite, nI_add, nI_mul, nI_nat, nI_ltE, nI_leE, nI_eqE, nI_eqN, nI_Neq, nI_Nlt, nI_Nle, nI_ltN, nI_leN, ↓reduceIte, ↓Nat.reduceEqDiff, and_f, nt_e, nt_t, nl_t, nl_f, ne_t, ne_f, and_self, or_self, or_true, true_or, or_false, false_or, if_true, if_false, and_true, true_and, and_false, false_and, not_true, not_false_iff]
      exact ⟨hR2, hT0, rfl⟩
  · refine ⟨.inl 4, ?_, ?_⟩
    · rw [c2 he, mbpx_l]
    · rw [m2 he]
      simp (disch := omega) only [lit_0, lit_1, lit_2, lit_3, lit_4, lit_5, lit_6, lit_7, lit_8, lit_9, lit_10, lit_11, lit_12, lit_13, lit_14, lit_15, lit_16, lit_20, lit_23, lit_24, lit_31, lit_32, lit_39, lit_43, lit_45, lit_47, lit_48, lit_56, lit_57, lit_59, lit_60, lit_62, lit_63, lit_89, lit_92, lit_96, lit_97, lit_99, lit_100, lit_102, lit_103, lit_104, lit_110, lit_111, lit_115, lit_117, lit_194, lit_200, lit_644, lit_736, lit_999, lit_1000, lit_9999, lit_10000, lit_1000000000, ↓wp_mlet, ↓wp_mbp, ↓wp_ite, ↓wp_mix, ↓wp_mdiv, ↓wp_mnz, ↓wp_some, ↓wp_mbnd, ↓mlet_eq, ↓mbp_eq, ↓mbnd_eq, ↓mix_ite, ↓mdiv_ite, ↓mnz_ite, nI_add, nI_mul, nI_nat, nI_ltE, nI_leE, nI_eqE, nI_eqN, nI_Neq, nI_Nlt, nI_Nle, nI_ltN, nI_leN, ↓reduceIte, ↓Nat.reduceEqDiff, and_f, nt_e, nt_t, nl_t, nl_f, ne_t, ne_f, and_self, or_self, or_true, true_or, or_false, false_or, if_true, if_false, and_true, true_and, and_false, false_and, not_true, not_false_iff]
      exact ⟨hr' _, thr0, by decide, by decide⟩
theorem pair_toldSecretByElimination {n : Nat} {M : Mem} (hr : Rel n M) : Pair n (fun x => if x = 4 then 1 else 0) M f_X11_toldSecretByElimination f_X12_toldSecretByElimination := by
  have hr0 := hr
  obtain ⟨α, αh, αs, K, nx, fed, b, H, ⟨hk, hd, hb, hj⟩, hS, hH, hs, hx, hi, hih, his, hbb⟩ := hr
  obtain ⟨c1, c2⟩ := c_require hk hi
  unfold Pair f_X11_toldSecretByElimination f_X8_secretOf f_X12_toldSecretByElimination f_X12_toldSecret
  by_cases he : en α
  · have hl := Lk0 hk hi he
    obtain ⟨⟨⟩, M1, e1, f1, f2⟩ := c_fit hl (by decide) (by decide)
    have hS1 : M1 12 48 = enc α := by rw [f2 12 48 (by decide)]; exact hS
    have hS' := ms_t (x := nI 0) hS1
    have hf := m_first hS' hi he
    obtain ⟨m1, m2⟩ := m_enough hS1 hi
    have hl2 := Lm0 (M := mup M1 12 47 0 (nI 0)) (M2 := fil (mup M1 12 47 0 (nI 0)) 12 56 0 (α 5) (fun k => nI (ky α k))) (by rw [fil_ne (by decide)]; exact hS') hi he rfl
    have e2 := m_thr hl2 (x := 0) (by decide)
    have e3 : thr (α 5) (sh α) (ky α) 0 = (cf (α 5) (sh α) (ky α) 0).val := by
      unfold thr ev
      rw [zz_0, Fin.mul_zero, Fin.mul_zero, Fin.add_zero, Fin.add_zero]
    rw [c1 he]
    show wp (mbpxm (some (Sum.inr ())) M fun r1 => _) _
    unfold mbpxm
    simp (disch := omega) only [lit_0, lit_1, lit_2, lit_3, lit_4, lit_5, lit_6, lit_7, lit_8, lit_9, lit_10, lit_11, lit_12, lit_13, lit_14, lit_15, lit_16, lit_20, lit_23, lit_24, lit_31, lit_32, lit_39, lit_43, lit_45, lit_47, lit_48, lit_56, lit_57, lit_59, lit_60, lit_62, lit_63, lit_89, lit_92, lit_96, lit_97, lit_99, lit_100, lit_102, lit_103, lit_104, lit_110, lit_111, lit_115, lit_117, lit_194, lit_200, lit_644, lit_736, lit_999, lit_1000, lit_9999, lit_10000, lit_1000000000, ↓wp_mlet, ↓wp_mbp, ↓wp_ite, ↓wp_mix, ↓wp_mdiv, ↓wp_mnz, ↓wp_some, ↓wp_mbnd, ↓mlet_eq, ↓mbp_eq, ↓mbnd_eq, ↓mix_ite, ↓mdiv_ite, ↓mnz_ite, nI_add, nI_mul, nI_nat, nI_ltE, nI_leE, nI_eqE, nI_eqN, nI_Neq, nI_Nlt, nI_Nle, nI_ltN, nI_leN, ↓reduceIte, ↓Nat.reduceEqDiff, and_f, nt_e, nt_t, nl_t, nl_f, ne_t, ne_f, and_self, or_self, or_true, true_or, or_false, false_or, if_true, if_false, and_true, true_and, and_false, false_and, not_true, not_false_iff, e1, f1 0 (by decide)]
    rw [m1 he]
    simp (disch := omega) only [lit_0, lit_1, lit_2, lit_3, lit_4, lit_5, lit_6, lit_7, lit_8, lit_9, lit_10, lit_11, lit_12, lit_13, lit_14, lit_15, lit_16, lit_20, lit_23, lit_24, lit_31, lit_32, lit_39, lit_43, lit_45, lit_47, lit_48, lit_56, lit_57, lit_59, lit_60, lit_62, lit_63, lit_89, lit_92, lit_96, lit_97, lit_99, lit_100, lit_102, lit_103, lit_104, lit_110, lit_111, lit_115, lit_117, lit_194, lit_200, lit_644, lit_736, lit_999, lit_1000, lit_9999, lit_10000, lit_1000000000, ↓wp_mlet, ↓wp_mbp, ↓wp_ite, ↓wp_mix, ↓wp_mdiv, ↓wp_mnz, ↓wp_some, ↓wp_mbnd, ↓mlet_eq, ↓mbp_eq, ↓mbnd_eq, ↓mix_ite, ↓mdiv_ite, ↓mnz_ite, nI_add, nI_mul, nI_nat, nI_ltE, nI_leE, nI_eqE, nI_eqN, nI_Neq, nI_Nlt, nI_Nle, nI_ltN, nI_leN, ↓reduceIte, ↓Nat.reduceEqDiff, and_f, nt_e, nt_t, nl_t, nl_f, ne_t, ne_f, and_self, or_self, or_true, true_or, or_false, false_or, if_true, if_false, and_true, true_and, and_false, false_and, not_true, not_false_iff, hf, e2]
    refine ⟨Rel_w hr0 (fun i hi => ?_) (fun a b hab => ?_), ?_, ?_⟩
    · rw [fil_ne (by decide), mup_at, if_neg (by omega), f2 12 47 (by decide)]
    · rw [fil_ne (by omega), pm_ne (by omega), f2 a b (by omega)]
    · rw [fil_ne (by decide)]; exact thr0
    · rw [e3]
  · obtain ⟨m1, m2⟩ := m_enough hS hi
    rw [c2 he]
    show wp (mbpxm (some (Sum.inl 4)) M fun r1 => _) _
    unfold mbpxm
    simp only [wp_some]
    rw [m2 he]
    simp (disch := omega) only [lit_0, lit_1, lit_2, lit_3, lit_4, lit_5, lit_6, lit_7, lit_8, lit_9, lit_10, lit_11, lit_12, lit_13, lit_14, lit_15, lit_16, lit_20, lit_23, lit_24, lit_31, lit_32, lit_39, lit_43, lit_45, lit_47, lit_48, lit_56, lit_57, lit_59, lit_60, lit_62, lit_63, lit_89, lit_92, lit_96, lit_97, lit_99, lit_100, lit_102, lit_103, lit_104, lit_110, lit_111, lit_115, lit_117, lit_194, lit_200, lit_644, lit_736, lit_999, lit_1000, lit_9999, lit_10000, lit_1000000000, ↓wp_mlet, ↓wp_mbp, ↓wp_ite, ↓wp_mix, ↓wp_mdiv, ↓wp_mnz, ↓wp_some, ↓wp_mbnd, ↓mlet_eq, ↓mbp_eq, ↓mbnd_eq, ↓mix_ite, ↓mdiv_ite, ↓mnz_ite, nI_add, nI_mul, nI_nat, nI_ltE, nI_leE, nI_eqE, nI_eqN, nI_Neq, nI_Nlt, nI_Nle, nI_ltN, nI_leN, ↓reduceIte, ↓Nat.reduceEqDiff, and_f, nt_e, nt_t, nl_t, nl_f, ne_t, ne_f, and_self, or_self, or_true, true_or, or_false, false_or, if_true, if_false, and_true, true_and, and_false, false_and, not_true, not_false_iff]
    exact ⟨Rel_thr hr0 _, thr0, by decide, by decide⟩
