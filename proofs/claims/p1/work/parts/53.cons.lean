/-! SUMS, AND CONSISTENCE -/
def sumN (f : Nat → Nat) : Nat → Nat
  | 0 => 0
  | k + 1 => sumN f k + f k
theorem sumN_s {f : Nat → Nat} {k : Nat} : sumN f (k + 1) = sumN f k + f k := Eq.trans rfl rfl
theorem c_sumOf {M : Mem} {ia : Nat} {f : Nat → Nat} (h : ∀ k, k < 8 → M 0 ia k = nI (f k)) : f_X1_sumOf 0 ia M = some (nI (sumN f 8)) := by
  unfold f_X1_sumOf
  generalize hN : (1000 : Nat) = N
  have key := mloop (F := fun n x s kk => f_X1_sumOf_L10 0 ia M n s x kk) (c := 8) (fun x => nI (sumN f x)) (fun m x kk hx => by
    show f_X1_sumOf_L10 0 ia M (m + 1) (nI (sumN f x)) (nI x) kk = f_X1_sumOf_L10 0 ia M m (nI (sumN f (x + 1))) (nI (x + 1)) kk
    rw [f_X1_sumOf_L10.eq_2, sumN_s]
    simp (disch := omega) only [lit_0, lit_1, lit_2, lit_3, lit_4, lit_5, lit_6, lit_7, lit_8, lit_9, lit_10, lit_11, lit_12, lit_13, lit_14, lit_15, lit_16, lit_20, lit_23, lit_24, lit_31, lit_32, lit_39, lit_43, lit_45, lit_47, lit_48, lit_56, lit_57, lit_59, lit_60, lit_62, lit_63, lit_89, lit_92, lit_96, lit_97, lit_99, lit_100, lit_102, lit_103, lit_104, lit_110, lit_111, lit_115, lit_117, lit_194, lit_200, lit_644, lit_736, lit_999, lit_1000, lit_9999, lit_10000, lit_1000000000, ↓wp_mlet, ↓wp_mbp, ↓wp_ite, ↓wp_mix, ↓wp_mdiv, ↓wp_mnz, ↓wp_some, ↓wp_mbnd, ↓mlet_eq, ↓mbp_eq, ↓mbnd_eq, ↓mix_ite, ↓mdiv_ite, ↓mnz_ite, nI_add, nI_mul, nI_nat, nI_ltE, nI_leE, nI_eqE, nI_eqN, nI_Neq, nI_Nlt, nI_Nle, nI_ltN, nI_leN, ↓reduceIte, ↓Nat.reduceEqDiff, and_f, nt_e, nt_t, nl_t, nl_f, ne_t, ne_f, and_self, or_self, or_true, true_or, or_false, false_or, if_true, if_false, and_true, true_and, and_false, false_and, not_true, not_false_iff, h x hx]) (fun m kk => by
    show f_X1_sumOf_L10 0 ia M (m + 1) (nI (sumN f 8)) (nI 8) kk = _
    rw [f_X1_sumOf_L10.eq_2]
    simp (disch := omega) only [lit_0, lit_1, lit_2, lit_3, lit_4, lit_5, lit_6, lit_7, lit_8, lit_9, lit_10, lit_11, lit_12, lit_13, lit_14, lit_15, lit_16, lit_20, lit_23, lit_24, lit_31, lit_32, lit_39, lit_43, lit_45, lit_47, lit_48, lit_56, lit_57, lit_59, lit_60, lit_62, lit_63, lit_89, lit_92, lit_96, lit_97, lit_99, lit_100, lit_102, lit_103, lit_104, lit_110, lit_111, lit_115, lit_117, lit_194, lit_200, lit_644, lit_736, lit_999, lit_1000, lit_9999, lit_10000, lit_1000000000, ↓wp_mlet, ↓wp_mbp, ↓wp_ite, ↓wp_mix, ↓wp_mdiv, ↓wp_mnz, ↓wp_some, ↓wp_mbnd, ↓mlet_eq, ↓mbp_eq, ↓mbnd_eq, ↓mix_ite, ↓mdiv_ite, ↓mnz_ite, nI_add, nI_mul, nI_nat, nI_ltE, nI_leE, nI_eqE, nI_eqN, nI_Neq, nI_Nlt, nI_Nle, nI_ltN, nI_leN, ↓reduceIte, ↓Nat.reduceEqDiff, and_f, nt_e, nt_t, nl_t, nl_f, ne_t, ne_f, and_self, or_self, or_true, true_or, or_false, false_or, if_true, if_false, and_true, true_and, and_false, false_and, not_true, not_false_iff]) 8 N 0 (fun x7 => some x7) (by omega) (by omega)
  exact key
theorem sum_13 {H : Nat} {α : Sp} (hi : Inv H α) : sumN (fun k => α (39 + k)) 8 = α 13 := by
  obtain ⟨⟨b0, b1, b2, b3, b4, b5, b6, b7, b8, b9, b10, b11, b14⟩, i1, i2, bs, bk, bn, bz, bt, bg, bl⟩ := hi
  rw [bt]
  simp only [sumN_s]
  show 0 + α 39 + α 40 + α 41 + α 42 + α 43 + α 44 + α 45 + α 46 = _
  omega
theorem c_visitsMatch {M : Mem} {α : Sp} {H : Nat} (hR : RC (M 0) α) (hi : Inv H α) (hH : H < 800000) : wp (f_X11_doVisitsMatch M) fun r M1 => r = nI 1 ∧ ∀ a, a ≠ 11 → M1 a = M a := by
  have b10 := hi.1.2.2.2.2.2.2.2.2.2.2.1
  have e := hR.2.2.1.2.2.1
  unfold f_X11_doVisitsMatch
  generalize hN : (1000 : Nat) = N
  by_cases q : α 10 = 0
  · simp (disch := omega) only [lit_0, lit_1, lit_2, lit_3, lit_4, lit_5, lit_6, lit_7, lit_8, lit_9, lit_10, lit_11, lit_12, lit_13, lit_14, lit_15, lit_16, lit_20, lit_23, lit_24, lit_31, lit_32, lit_39, lit_43, lit_45, lit_47, lit_48, lit_56, lit_57, lit_59, lit_60, lit_62, lit_63, lit_89, lit_92, lit_96, lit_97, lit_99, lit_100, lit_102, lit_103, lit_104, lit_110, lit_111, lit_115, lit_117, lit_194, lit_200, lit_644, lit_736, lit_999, lit_1000, lit_9999, lit_10000, lit_1000000000, ↓wp_mlet, ↓wp_mbp, ↓wp_ite, ↓wp_mix, ↓wp_mdiv, ↓wp_mnz, ↓wp_some, ↓wp_mbnd, ↓mlet_eq, ↓mbp_eq, ↓mbnd_eq, ↓mix_ite, ↓mdiv_ite, ↓mnz_ite, nI_add, nI_mul, nI_nat, nI_ltE, nI_leE, nI_eqE, nI_eqN, nI_Neq, nI_Nlt, nI_Nle, nI_ltN, nI_leN, ↓reduceIte, ↓Nat.reduceEqDiff, and_f, nt_e, nt_t, nl_t, nl_f, ne_t, ne_f, and_self, or_self, or_true, true_or, or_false, false_or, if_true, if_false, and_true, true_and, and_false, false_and, not_true, not_false_iff, e, q]
    exact fun _ _ => trivial
  · obtain ⟨M2, hf, key⟩ := mloopP (F := fun m x (M1 : Mem) kk => f_X11_doVisitsMatch_L17 m x M1 kk) (c := 8) (fun x M1 => ∀ a, a ≠ 11 → M1 a = M a) (fun m x M1 kk hx hf => by
      have hR1 : RC (M1 0) α := by rw [hf 0 (by decide)]; exact hR
      obtain ⟨r, M3, e1, rfl, f3⟩ := c_visitH hR1 hi hH hx (by omega)
      have hR3 : RC (M3 0) α := by rw [f3 0 (by decide)]; exact hR1
      have e2 := c_visitR hR3 hi hH hx
      refine ⟨M3, fun a h => by rw [f3 a h, hf a h], ?_⟩
      show f_X11_doVisitsMatch_L17 (m + 1) (nI x) M1 kk = _
      rw [f_X11_doVisitsMatch_L17.eq_2]
      simp (disch := omega) only [lit_0, lit_1, lit_2, lit_3, lit_4, lit_5, lit_6, lit_7, lit_8, lit_9, lit_10, lit_11, lit_12, lit_13, lit_14, lit_15, lit_16, lit_20, lit_23, lit_24, lit_31, lit_32, lit_39, lit_43, lit_45, lit_47, lit_48, lit_56, lit_57, lit_59, lit_60, lit_62, lit_63, lit_89, lit_92, lit_96, lit_97, lit_99, lit_100, lit_102, lit_103, lit_104, lit_110, lit_111, lit_115, lit_117, lit_194, lit_200, lit_644, lit_736, lit_999, lit_1000, lit_9999, lit_10000, lit_1000000000, ↓wp_mlet, ↓wp_mbp, ↓wp_ite, ↓wp_mix, ↓wp_mdiv, ↓wp_mnz, ↓wp_some, ↓wp_mbnd, ↓mlet_eq, ↓mbp_eq, ↓mbnd_eq, ↓mix_ite, ↓mdiv_ite, ↓mnz_ite, nI_add, nI_mul, nI_nat, nI_ltE, nI_leE, nI_eqE, nI_eqN, nI_Neq, nI_Nlt, nI_Nle, nI_ltN, nI_leN, ↓reduceIte, ↓Nat.reduceEqDiff, and_f, nt_e, nt_t, nl_t, nl_f, ne_t, ne_f, and_self, or_self, or_true, true_or, or_false, false_or, if_true, if_false, and_true, true_and, and_false, false_and, not_true, not_false_iff, e1, e2]) (fun m M1 kk _ => by
      show f_X11_doVisitsMatch_L17 (m + 1) (nI 8) M1 kk = _
      rw [f_X11_doVisitsMatch_L17.eq_2]
      simp (disch := omega) only [lit_0, lit_1, lit_2, lit_3, lit_4, lit_5, lit_6, lit_7, lit_8, lit_9, lit_10, lit_11, lit_12, lit_13, lit_14, lit_15, lit_16, lit_20, lit_23, lit_24, lit_31, lit_32, lit_39, lit_43, lit_45, lit_47, lit_48, lit_56, lit_57, lit_59, lit_60, lit_62, lit_63, lit_89, lit_92, lit_96, lit_97, lit_99, lit_100, lit_102, lit_103, lit_104, lit_110, lit_111, lit_115, lit_117, lit_194, lit_200, lit_644, lit_736, lit_999, lit_1000, lit_9999, lit_10000, lit_1000000000, ↓wp_mlet, ↓wp_mbp, ↓wp_ite, ↓wp_mix, ↓wp_mdiv, ↓wp_mnz, ↓wp_some, ↓wp_mbnd, ↓mlet_eq, ↓mbp_eq, ↓mbnd_eq, ↓mix_ite, ↓mdiv_ite, ↓mnz_ite, nI_add, nI_mul, nI_nat, nI_ltE, nI_leE, nI_eqE, nI_eqN, nI_Neq, nI_Nlt, nI_Nle, nI_ltN, nI_leN, ↓reduceIte, ↓Nat.reduceEqDiff, and_f, nt_e, nt_t, nl_t, nl_f, ne_t, ne_f, and_self, or_self, or_true, true_or, or_false, false_or, if_true, if_false, and_true, true_and, and_false, false_and, not_true, not_false_iff]) 8 N 0 M (fun M10 => some (nI 1, M10)) (by omega) (by omega) (fun _ _ => rfl)
    simp (disch := omega) only [lit_0, lit_1, lit_2, lit_3, lit_4, lit_5, lit_6, lit_7, lit_8, lit_9, lit_10, lit_11, lit_12, lit_13, lit_14, lit_15, lit_16, lit_20, lit_23, lit_24, lit_31, lit_32, lit_39, lit_43, lit_45, lit_47, lit_48, lit_56, lit_57, lit_59, lit_60, lit_62, lit_63, lit_89, lit_92, lit_96, lit_97, lit_99, lit_100, lit_102, lit_103, lit_104, lit_110, lit_111, lit_115, lit_117, lit_194, lit_200, lit_644, lit_736, lit_999, lit_1000, lit_9999, lit_10000, lit_1000000000, ↓wp_mlet, ↓wp_mbp, ↓wp_ite, ↓wp_mix, ↓wp_mdiv, ↓wp_mnz, ↓wp_some, ↓wp_mbnd, ↓mlet_eq, ↓mbp_eq, ↓mbnd_eq, ↓mix_ite, ↓mdiv_ite, ↓mnz_ite, nI_add, nI_mul, nI_nat, nI_ltE, nI_leE, nI_eqE, nI_eqN, nI_Neq, nI_Nlt, nI_Nle, nI_ltN, nI_leN, ↓reduceIte, ↓Nat.reduceEqDiff, and_f, nt_e, nt_t, nl_t, nl_f, ne_t, ne_f, and_self, or_self, or_true, true_or, or_false, false_or, if_true, if_false, and_true, true_and, and_false, false_and, not_true, not_false_iff, e]
    rw [key, wp_some]
    exact ⟨rfl, hf⟩
theorem c_tellings {M : Mem} {α : Sp} {H : Nat} (hk : Rk (M 0) α) (hi : Inv H α) : wp (f_X11_doTellingsMatch M) fun r M1 => r = nI 1 ∧ ∀ a b, ¬ (a = 12 ∧ 21 ≤ b ∧ b ≤ 25) → M1 a b = M a b := by
  obtain ⟨n1, n2⟩ := c_enough hk hi
  unfold f_X11_doTellingsMatch f_X8_secretOf
  by_cases he : en α
  · have hl := Lk0 hk hi he
    have hK := Kc0 hk hi he
    have e2 : f_X6_toldAt 0 (nI 0) M = some (nI (thr (α 5) (sh α) (ky α) 0)) := by
      unfold f_X6_toldAt
      rw [c_thr hl (by decide)]
      rfl
    obtain ⟨⟨⟩, M1, e1, f1, f2⟩ := c_fit hl (by decide) (by decide)
    have e3 : thr (α 5) (sh α) (ky α) 0 = (cf (α 5) (sh α) (ky α) 0).val := by
      unfold thr ev
      rw [zz_0, Fin.mul_zero, Fin.mul_zero, Fin.add_zero, Fin.add_zero]
    have hK1 : Kc M1 0 (α 5) (α 9) (sh α) (ky α) := hK.frame (fun b => f2 0 b (by omega))
    obtain ⟨r4, M4, e4, rfl, f4⟩ := c_mostC hK1 (by decide)
    have hK4 : Kc M4 0 (α 5) (α 9) (sh α) (ky α) := hK1.frame (fun b => f4 0 b (by omega))
    obtain ⟨r5, M5, e5, rfl, f5⟩ := c_mostS hK4 (by decide)
    rw [mostA_S hi he] at e5
    have e6 : nI (mx (fC (α 5) (α 9) (sh α) (ky α)) (2 ^ (α 9))) = nI (mostA α) := rfl
    rw [e6] at e4
    generalize mostA α = w at e4 e5
    rw [n1 he]
    simp (disch := omega) only [lit_0, lit_1, lit_2, lit_3, lit_4, lit_5, lit_6, lit_7, lit_8, lit_9, lit_10, lit_11, lit_12, lit_13, lit_14, lit_15, lit_16, lit_20, lit_23, lit_24, lit_31, lit_32, lit_39, lit_43, lit_45, lit_47, lit_48, lit_56, lit_57, lit_59, lit_60, lit_62, lit_63, lit_89, lit_92, lit_96, lit_97, lit_99, lit_100, lit_102, lit_103, lit_104, lit_110, lit_111, lit_115, lit_117, lit_194, lit_200, lit_644, lit_736, lit_999, lit_1000, lit_9999, lit_10000, lit_1000000000, ↓wp_mlet, ↓wp_mbp, ↓wp_ite, ↓wp_mix, ↓wp_mdiv, ↓wp_mnz, ↓wp_some, ↓wp_mbnd, ↓mlet_eq, ↓mbp_eq, ↓mbnd_eq, ↓mix_ite, ↓mdiv_ite, ↓mnz_ite, nI_add, nI_mul, nI_nat, nI_ltE, nI_leE, nI_eqE, nI_eqN, nI_Neq, nI_Nlt, nI_Nle, nI_ltN, nI_leN, ↓reduceIte, ↓Nat.reduceEqDiff, and_f, nt_e, nt_t, nl_t, nl_f, ne_t, ne_f, and_self, or_self, or_true, true_or, or_false, false_or, if_true, if_false, and_true, true_and, and_false, false_and, not_true, not_false_iff, e2, e1, f1 0 (by decide), e3, e4, e5]
    intro a b hab
    rw [f5 a b (by omega), f4 a b (by omega), f2 a b (by omega)]
  · rw [n2 he]
    simp (disch := omega) only [lit_0, lit_1, lit_2, lit_3, lit_4, lit_5, lit_6, lit_7, lit_8, lit_9, lit_10, lit_11, lit_12, lit_13, lit_14, lit_15, lit_16, lit_20, lit_23, lit_24, lit_31, lit_32, lit_39, lit_43, lit_45, lit_47, lit_48, lit_56, lit_57, lit_59, lit_60, lit_62, lit_63, lit_89, lit_92, lit_96, lit_97, lit_99, lit_100, lit_102, lit_103, lit_104, lit_110, lit_111, lit_115, lit_117, lit_194, lit_200, lit_644, lit_736, lit_999, lit_1000, lit_9999, lit_10000, lit_1000000000, ↓wp_mlet, ↓wp_mbp, ↓wp_ite, ↓wp_mix, ↓wp_mdiv, ↓wp_mnz, ↓wp_some, ↓wp_mbnd, ↓mlet_eq, ↓mbp_eq, ↓mbnd_eq, ↓mix_ite, ↓mdiv_ite, ↓mnz_ite, nI_add, nI_mul, nI_nat, nI_ltE, nI_leE, nI_eqE, nI_eqN, nI_Neq, nI_Nlt, nI_Nle, nI_ltN, nI_leN, ↓reduceIte, ↓Nat.reduceEqDiff, and_f, nt_e, nt_t, nl_t, nl_f, ne_t, ne_f, and_self, or_self, or_true, true_or, or_false, false_or, if_true, if_false, and_true, true_and, and_false, false_and, not_true, not_false_iff]
    exact fun _ _ _ => trivial
theorem pair_isConsistent {n : Nat} {M : Mem} (hr : Rel n M) (hn : n < 512) : PairS n M f_X11_isConsistent f_X12_isConsistent := by
  have hr0 := hr
  obtain ⟨α, αh, αs, K, nx, fed, b, H, hR, hS, hH, hs, hx, hi, hih, his, hbb⟩ := hr
  have e1 := c_sumOf (M := M) (ia := 8) (f := fun k => α (39 + k)) hR.2.2.1.2.2.2.2.1
  rw [sum_13 hi] at e1
  have e2 := hR.2.2.1.2.1
  obtain ⟨r3, M3, e3, rfl, f3⟩ := c_visitsMatch hR hi (by omega)
  have hR3 : RC (M3 0) α := by rw [f3 0 (by decide)]; exact hR
  obtain ⟨r4, M4, e4, rfl, f4⟩ := c_tellings hR3.1 hi
  unfold PairS f_X11_isConsistent f_X12_isConsistent
  simp (disch := omega) only [lit_0, lit_1, lit_2, lit_3, lit_4, lit_5, lit_6, lit_7, lit_8, lit_9, lit_10, lit_11, lit_12, lit_13, lit_14, lit_15, lit_16, lit_20, lit_23, lit_24, lit_31, lit_32, lit_39, lit_43, lit_45, lit_47, lit_48, lit_56, lit_57, lit_59, lit_60, lit_62, lit_63, lit_89, lit_92, lit_96, lit_97, lit_99, lit_100, lit_102, lit_103, lit_104, lit_110, lit_111, lit_115, lit_117, lit_194, lit_200, lit_644, lit_736, lit_999, lit_1000, lit_9999, lit_10000, lit_1000000000, ↓wp_mlet, ↓wp_mbp, ↓wp_ite, ↓wp_mix, ↓wp_mdiv, ↓wp_mnz, ↓wp_some, ↓wp_mbnd, ↓mlet_eq, ↓mbp_eq, ↓mbnd_eq, ↓mix_ite, ↓mdiv_ite, ↓mnz_ite, nI_add, nI_mul, nI_nat, nI_ltE, nI_leE, nI_eqE, nI_eqN, nI_Neq, nI_Nlt, nI_Nle, nI_ltN, nI_leN, ↓reduceIte, ↓Nat.reduceEqDiff, and_f, nt_e, nt_t, nl_t, nl_f, ne_t, ne_f, and_self, or_self, or_true, true_or, or_false, false_or, if_true, if_false, and_true, true_and, and_false, false_and, not_true, not_false_iff, e1, e2, e3, e4]
  refine Rel_w hr0 (fun i hi => ?_) (fun a b hab => ?_)
  · rw [mup_at, if_neg (by omega), f4 12 47 (by decide), f3 12 (by decide)]
  · rw [pm_ne (by omega), f4 a b (by omega), f3 a (by omega)]
