/-! hours that are tried and taken back -/
theorem RelW_11 {n K nx fed b H : Nat} {M M2 : Mem} {α αs : Sp} {αh : Nat → Sp} (h : RelW n M α αh αs K nx fed b H) (h2 : ∀ a, a ≠ 11 → M2 a = M a) : RelW n M2 α αh αs K nx fed b H := by
  obtain ⟨hR, hS, hH, hs, ⟨hr1, hr2, hr3, hr4⟩, hi, hih, his, hb⟩ := h
  have e12 : M2 12 = M 12 := h2 12 (by decide)
  refine ⟨?_, ?_, ?_, ?_, ⟨?_, ?_, ?_, ?_⟩, hi, hih, his, by omega⟩
  · rw [h2 0 (by decide)]; exact hR
  · rw [e12]; exact hS
  · exact Hs_same hH (by rw [e12]) (by rw [e12]) (by rw [e12]) (fun a _ _ _ => h2 a (by omega))
  · exact Rs_same hs (by rw [e12]) (by rw [e12]) (h2 10 (by decide)) (by rw [e12])
  · exact Rr_same hr1 (fun i _ _ => by rw [e12]) (fun i _ _ => by rw [e12])
  · exact Re_same hr2 (by rw [e12]) (by rw [e12])
  · exact Ri_same hr3 (by rw [e12]) (by rw [e12]) (by rw [e12]) (by rw [e12])
  · exact Ro_same hr4 (by rw [e12]) (by rw [e12]) (by rw [e12]) (by rw [e12])
theorem Rel_think {n K nx fed b H : Nat} {M M2 : Mem} {α β αs : Sp} {αh : Nat → Sp} (h : RelW n M α αh αs K nx fed b H) (h48 : M2 12 48 = enc (cutSp α β)) (h1 : ∀ i, i ≠ 0 → M2 12 47 i = M 12 47 i) (h2 : ∀ a b, ¬ (a = 12 ∧ (b = 47 ∨ b = 48 ∨ b = 52)) → M2 a b = M a b) : Rel (n + 1) M2 := by
  obtain ⟨hR, hS, hH, hs, ⟨hr1, hr2, hr3, hr4⟩, hi, hih, his, hb⟩ := h
  refine ⟨cutSp α β, αh, αs, K, nx, fed, b, H, ?_, h48, ?_, ?_, ⟨?_, ?_, ?_, ?_⟩, Inv_cg hi, hih, his, by omega⟩
  · rw [show M2 0 = M 0 from funext fun b => h2 0 b (by omega)]; exact RC_cg hR
  · exact Hs_same hH (h2 12 17 (by decide)) (h1 6 (by decide)) (h2 12 51 (by decide)) (fun a _ _ _ => funext fun b => h2 a b (by omega))
  · exact Rs_same hs (by rw [h2 12 16 (by decide)]) (h1 7 (by decide)) (funext fun b => h2 10 b (by omega)) (h2 12 50 (by decide))
  · exact Rr_same hr1 (fun i _ _ => by rw [h2 12 16 (by decide)]) (fun i _ _ => h1 i (by omega))
  · exact Re_same hr2 (by rw [h2 12 16 (by decide)]) (h1 14 (by decide))
  · exact Ri_same hr3 (by rw [h2 12 26 (by decide)]) (h1 12 (by decide)) (h2 12 27 (by decide)) (h2 12 53 (by decide))
  · exact Ro_same hr4 (h2 12 45 (by decide)) (h1 13 (by decide)) (h2 12 46 (by decide)) (h2 12 55 (by decide))
theorem m_thinks {M : Mem} : f_X12_thinks M = some ((), fil M 12 52 0 92 (M 12 48)) := by
  unfold f_X12_thinks
  generalize hN : (1000 : Nat) = N
  have key := mloop (F := fun n x s kk => f_X12_thinks_L2 n x s kk) (c := 92) (fun x => fil M 12 52 0 x (M 12 48)) (fun m x kk hx => by
    rw [f_X12_thinks_L2.eq_2]
    have e : (fil M 12 52 0 x (M 12 48)) 12 48 x = M 12 48 x := by rw [fil_ne (by decide)]
    simp (disch := omega) only [lit_0, lit_1, lit_2, lit_3, lit_4, lit_5, lit_6, lit_7, lit_8, lit_9, lit_10, lit_11, lit_12, lit_13, lit_14, lit_15, lit_16, lit_20, lit_23, lit_24, lit_31, lit_32, lit_39, lit_43, lit_45, lit_47, lit_48, lit_56, lit_57, lit_59, lit_60, lit_62, lit_63, lit_89, lit_92, lit_96, lit_97, lit_99, lit_100, lit_102, lit_103, lit_104, lit_110, lit_111, lit_115, lit_117, lit_194, lit_200, lit_644, lit_736, lit_999, lit_1000, lit_9999, lit_10000, lit_1000000000, ↓wp_mlet, ↓wp_mbp, ↓wp_ite, ↓wp_mix, ↓wp_mdiv, ↓wp_mnz, ↓wp_some, ↓wp_mbnd, ↓mlet_eq, ↓mbp_eq, ↓mbnd_eq, ↓mix_ite, ↓mdiv_ite, ↓mnz_ite, nI_add, nI_mul, nI_nat, nI_ltE, nI_leE, nI_eqE, nI_eqN, nI_Neq, nI_Nlt, nI_Nle, nI_ltN, nI_leN, ↓reduceIte, ↓Nat.reduceEqDiff, and_f, nt_e, nt_t, nl_t, nl_f, ne_t, ne_f, and_self, or_self, or_true, true_or, or_false, false_or, if_true, if_false, and_true, true_and, and_false, false_and, not_true, not_false_iff, e]
    rw [fil_s (by omega) rfl]) (fun m kk => by
    rw [f_X12_thinks_L2.eq_2]
    simp (disch := omega) only [lit_0, lit_1, lit_2, lit_3, lit_4, lit_5, lit_6, lit_7, lit_8, lit_9, lit_10, lit_11, lit_12, lit_13, lit_14, lit_15, lit_16, lit_20, lit_23, lit_24, lit_31, lit_32, lit_39, lit_43, lit_45, lit_47, lit_48, lit_56, lit_57, lit_59, lit_60, lit_62, lit_63, lit_89, lit_92, lit_96, lit_97, lit_99, lit_100, lit_102, lit_103, lit_104, lit_110, lit_111, lit_115, lit_117, lit_194, lit_200, lit_644, lit_736, lit_999, lit_1000, lit_9999, lit_10000, lit_1000000000, ↓wp_mlet, ↓wp_mbp, ↓wp_ite, ↓wp_mix, ↓wp_mdiv, ↓wp_mnz, ↓wp_some, ↓wp_mbnd, ↓mlet_eq, ↓mbp_eq, ↓mbnd_eq, ↓mix_ite, ↓mdiv_ite, ↓mnz_ite, nI_add, nI_mul, nI_nat, nI_ltE, nI_leE, nI_eqE, nI_eqN, nI_Neq, nI_Nlt, nI_Nle, nI_ltN, nI_leN, ↓reduceIte, ↓Nat.reduceEqDiff, and_f, nt_e, nt_t, nl_t, nl_f, ne_t, ne_f, and_self, or_self, or_true, true_or, or_false, false_or, if_true, if_false, and_true, true_and, and_false, false_and, not_true, not_false_iff])
  have := key 92 N 0 (fun M6 => some ((), M6)) (by omega) (by omega)
  rw [fil_0] at this
  rw [lit_0]
  exact this
theorem m_back {M : Mem} : f_X12_back M = some ((), fil M 12 48 0 92 (M 12 52)) := by
  unfold f_X12_back
  generalize hN : (1000 : Nat) = N
  have key := mloop (F := fun n x s kk => f_X12_back_L2 n x s kk) (c := 92) (fun x => fil M 12 48 0 x (M 12 52)) (fun m x kk hx => by
    rw [f_X12_back_L2.eq_2]
    have e : (fil M 12 48 0 x (M 12 52)) 12 52 x = M 12 52 x := by rw [fil_ne (by decide)]
    simp (disch := omega) only [lit_0, lit_1, lit_2, lit_3, lit_4, lit_5, lit_6, lit_7, lit_8, lit_9, lit_10, lit_11, lit_12, lit_13, lit_14, lit_15, lit_16, lit_20, lit_23, lit_24, lit_31, lit_32, lit_39, lit_43, lit_45, lit_47, lit_48, lit_56, lit_57, lit_59, lit_60, lit_62, lit_63, lit_89, lit_92, lit_96, lit_97, lit_99, lit_100, lit_102, lit_103, lit_104, lit_110, lit_111, lit_115, lit_117, lit_194, lit_200, lit_644, lit_736, lit_999, lit_1000, lit_9999, lit_10000, lit_1000000000, ↓wp_mlet, ↓wp_mbp, ↓wp_ite, ↓wp_mix, ↓wp_mdiv, ↓wp_mnz, ↓wp_some, ↓wp_mbnd, ↓mlet_eq, ↓mbp_eq, ↓mbnd_eq, ↓mix_ite, ↓mdiv_ite, ↓mnz_ite, nI_add, nI_mul, nI_nat, nI_ltE, nI_leE, nI_eqE, nI_eqN, nI_Neq, nI_Nlt, nI_Nle, nI_ltN, nI_leN, ↓reduceIte, ↓Nat.reduceEqDiff, and_f, nt_e, nt_t, nl_t, nl_f, ne_t, ne_f, and_self, or_self, or_true, true_or, or_false, false_or, if_true, if_false, and_true, true_and, and_false, false_and, not_true, not_false_iff, e]
    rw [fil_s (by omega) rfl]) (fun m kk => by
    rw [f_X12_back_L2.eq_2]
    simp (disch := omega) only [lit_0, lit_1, lit_2, lit_3, lit_4, lit_5, lit_6, lit_7, lit_8, lit_9, lit_10, lit_11, lit_12, lit_13, lit_14, lit_15, lit_16, lit_20, lit_23, lit_24, lit_31, lit_32, lit_39, lit_43, lit_45, lit_47, lit_48, lit_56, lit_57, lit_59, lit_60, lit_62, lit_63, lit_89, lit_92, lit_96, lit_97, lit_99, lit_100, lit_102, lit_103, lit_104, lit_110, lit_111, lit_115, lit_117, lit_194, lit_200, lit_644, lit_736, lit_999, lit_1000, lit_9999, lit_10000, lit_1000000000, ↓wp_mlet, ↓wp_mbp, ↓wp_ite, ↓wp_mix, ↓wp_mdiv, ↓wp_mnz, ↓wp_some, ↓wp_mbnd, ↓mlet_eq, ↓mbp_eq, ↓mbnd_eq, ↓mix_ite, ↓mdiv_ite, ↓mnz_ite, nI_add, nI_mul, nI_nat, nI_ltE, nI_leE, nI_eqE, nI_eqN, nI_Neq, nI_Nlt, nI_Nle, nI_ltN, nI_leN, ↓reduceIte, ↓Nat.reduceEqDiff, and_f, nt_e, nt_t, nl_t, nl_f, ne_t, ne_f, and_self, or_self, or_true, true_or, or_false, false_or, if_true, if_false, and_true, true_and, and_false, false_and, not_true, not_false_iff])
  have := key 92 N 0 (fun M6 => some ((), M6)) (by omega) (by omega)
  rw [fil_0] at this
  rw [lit_0]
  exact this
/-- back again, behind hours that came to β -/
theorem think_back {n K nx fed b H : Nat} {M M1 : Mem} {x : Int32} {α β αs : Sp} {αh : Nat → Sp} (h : RelW n M α αh αs K nx fed b H) (hm : mS (fil (mup M 12 47 0 x) 12 52 0 92 ((mup M 12 47 0 x) 12 48)) M1 β) : Rel (n + 1) (fil M1 12 48 0 92 (M1 12 52)) := by
  have hS := h.2.1
  refine Rel_think (β := β) h (enc_cut (lo := 0) hm.1 (fun j hj => ?_)) (fun i hi => ?_) (fun a b hab => ?_)
  · rw [hm.2 12 52 (by decide), fil_at, if_pos (by omega), pm_ne (by decide), hS]
  · rw [fil_ne (by decide), hm.2 12 47 (by decide), fil_ne (by decide), mup_at, if_neg (by omega)]
  · rw [fil_ne (by omega), hm.2 a b (by omega), fil_ne (by omega), pm_ne (by omega)]
theorem pair_alarmsIn {n : Nat} {M : Mem} (hr : Rel n M) (hn : n < 512) (a1 : Int32) : Pair n (fun x => if x = 2 then 1 else 0) M (f_X11_alarmsIn a1) (f_X12_alarmsIn a1) := by
  have hr' := Rel_thr hr
  have hr0 := hr
  obtain ⟨α, αh, αs, K, nx, fed, b, H, hW⟩ := hr
  obtain ⟨hR, hS, hH, hs, hx, hi, hih, his, hbb⟩ := id hW
  unfold Pair f_X11_alarmsIn f_X12_alarmsIn
  generalize hN : (1000 : Nat) = N
  simp only [lit_0, lit_1, lit_2, lit_3, lit_4, lit_5, lit_6, lit_7, lit_8, lit_9, lit_10, lit_11, lit_12, lit_13, lit_14, lit_15, lit_16, lit_20, lit_23, lit_24, lit_31, lit_32, lit_39, lit_43, lit_45, lit_47, lit_48, lit_56, lit_57, lit_59, lit_60, lit_62, lit_63, lit_89, lit_92, lit_96, lit_97, lit_99, lit_100, lit_102, lit_103, lit_104, lit_110, lit_111, lit_115, lit_117, lit_194, lit_200, lit_644, lit_736, lit_999, lit_1000, lit_9999, lit_10000, lit_1000000000]
  rw [rng_c a1 24 (by decide)]
  rcases idx_c a1 25 (by decide) with ⟨h, h1, rfl, e1⟩ | ⟨e1, h⟩
  case inr =>
    have ec : ∀ X : Option ((Nat ⊕ Int32) × Mem), (if a1 < nI 0 then some ((Sum.inl 2 : Nat ⊕ Int32), M) else if a1 ≤ nI 24 then X else some (Sum.inl 2, M)) = some (Sum.inl 2, M) := by
      intro X
      rcases h with h | ⟨j, hj, h, rfl⟩
      · rw [if_pos (show a1 < nI 0 from h)]
      · rw [if_neg (by rw [nI_ltE (by omega) (by omega)]; omega), if_neg (by rw [nI_leE (by omega) (by omega)]; omega)]
    simp only [mlet_eq, ec]
    simp (disch := omega) only [lit_0, lit_1, lit_2, lit_3, lit_4, lit_5, lit_6, lit_7, lit_8, lit_9, lit_10, lit_11, lit_12, lit_13, lit_14, lit_15, lit_16, lit_20, lit_23, lit_24, lit_31, lit_32, lit_39, lit_43, lit_45, lit_47, lit_48, lit_56, lit_57, lit_59, lit_60, lit_62, lit_63, lit_89, lit_92, lit_96, lit_97, lit_99, lit_100, lit_102, lit_103, lit_104, lit_110, lit_111, lit_115, lit_117, lit_194, lit_200, lit_644, lit_736, lit_999, lit_1000, lit_9999, lit_10000, lit_1000000000, ↓wp_mlet, ↓wp_mbp, ↓wp_ite, ↓wp_mix, ↓wp_mdiv, ↓wp_mnz, ↓wp_some, ↓wp_mbnd, ↓mlet_eq, ↓mbp_eq, ↓mbnd_eq, ↓mix_ite, ↓mdiv_ite, ↓mnz_ite, nI_add, nI_mul, nI_nat, nI_ltE, nI_leE, nI_eqE, nI_eqN, nI_Neq, nI_Nlt, nI_Nle, nI_ltN, nI_leN, ↓reduceIte, ↓Nat.reduceEqDiff, and_f, nt_e, nt_t, nl_t, nl_f, ne_t, ne_f, and_self, or_self, or_true, true_or, or_false, false_or, if_true, if_false, and_true, true_and, and_false, false_and, not_true, not_false_iff, toNat_0, Bool.false_and, Bool.true_and, Bool.and_false, Bool.and_true, Bool.false_eq_true, reduceCtorEq, Bool.true_eq_false, Bool.not_true, Bool.not_false, mup_at, up_at, fil_at, ↓reduceIte, ↓Nat.reduceEqDiff, and_f, nt_e, nt_t, nl_t, nl_f, ne_t, ne_f, and_self, or_self, or_true, true_or, or_false, false_or, if_true, if_false, and_true, true_and, and_false, false_and, not_true, not_false_iff, e1, Nat.reduceAdd]
    exact ⟨hr' _, rfl, by decide, by decide⟩
  have hb := c_copyB (M := M) (g := 11) (g1 := 0) (α := α) (by decide) hR.2.2.1
  simp (disch := omega) only [lit_0, lit_1, lit_2, lit_3, lit_4, lit_5, lit_6, lit_7, lit_8, lit_9, lit_10, lit_11, lit_12, lit_13, lit_14, lit_15, lit_16, lit_20, lit_23, lit_24, lit_31, lit_32, lit_39, lit_43, lit_45, lit_47, lit_48, lit_56, lit_57, lit_59, lit_60, lit_62, lit_63, lit_89, lit_92, lit_96, lit_97, lit_99, lit_100, lit_102, lit_103, lit_104, lit_110, lit_111, lit_115, lit_117, lit_194, lit_200, lit_644, lit_736, lit_999, lit_1000, lit_9999, lit_10000, lit_1000000000, ↓wp_mlet, ↓wp_mbp, ↓wp_ite, ↓wp_mix, ↓wp_mdiv, ↓wp_mnz, ↓wp_some, ↓wp_mbnd, ↓mlet_eq, ↓mbp_eq, ↓mbnd_eq, ↓mix_ite, ↓mdiv_ite, ↓mnz_ite, nI_add, nI_mul, nI_nat, nI_ltE, nI_leE, nI_eqE, nI_eqN, nI_Neq, nI_Nlt, nI_Nle, nI_ltN, nI_leN, ↓reduceIte, ↓Nat.reduceEqDiff, and_f, nt_e, nt_t, nl_t, nl_f, ne_t, ne_f, and_self, or_self, or_true, true_or, or_false, false_or, if_true, if_false, and_true, true_and, and_false, false_and, not_true, not_false_iff]
  refine wp_mono hb ?_
  rintro - M1 ⟨q1, q2, q3⟩
  have key := mloopP (F := fun m x s kk => f_X11_alarmsIn_L36 (nI h) m x s kk) (c := h) (fun x M2 => Rb (M2 11) (hrs α x) ∧ ∀ a, a ≠ 11 → M2 a = M a) (fun m x M2 kk hx h2 => by
    obtain ⟨r1, r2⟩ := h2
    obtain ⟨r, M3, w1, w2, w3, w4, w5⟩ := c_bhour r1 (inv_hrs hi x (by omega)) (by omega)
    refine ⟨M3, ⟨Rb.of (fun _ _ _ => rfl) (fun j q => hourSp_hz (by omega) (by omega)) w3, fun a ha => by rw [w5 a ha, r2 a ha]⟩, ?_⟩
    show f_X11_alarmsIn_L36 (nI h) (m + 1) (nI x) M2 kk = f_X11_alarmsIn_L36 (nI h) m (nI (x + 1)) M3 kk
    rw [f_X11_alarmsIn_L36.eq_2]
    simp (disch := omega) only [lit_0, lit_1, lit_2, lit_3, lit_4, lit_5, lit_6, lit_7, lit_8, lit_9, lit_10, lit_11, lit_12, lit_13, lit_14, lit_15, lit_16, lit_20, lit_23, lit_24, lit_31, lit_32, lit_39, lit_43, lit_45, lit_47, lit_48, lit_56, lit_57, lit_59, lit_60, lit_62, lit_63, lit_89, lit_92, lit_96, lit_97, lit_99, lit_100, lit_102, lit_103, lit_104, lit_110, lit_111, lit_115, lit_117, lit_194, lit_200, lit_644, lit_736, lit_999, lit_1000, lit_9999, lit_10000, lit_1000000000, ↓wp_mlet, ↓wp_mbp, ↓wp_ite, ↓wp_mix, ↓wp_mdiv, ↓wp_mnz, ↓wp_some, ↓wp_mbnd, ↓mlet_eq, ↓mbp_eq, ↓mbnd_eq, ↓mix_ite, ↓mdiv_ite, ↓mnz_ite, nI_add, nI_mul, nI_nat, nI_ltE, nI_leE, nI_eqE, nI_eqN, nI_Neq, nI_Nlt, nI_Nle, nI_ltN, nI_leN, ↓reduceIte, ↓Nat.reduceEqDiff, and_f, nt_e, nt_t, nl_t, nl_f, ne_t, ne_f, and_self, or_self, or_true, true_or, or_false, false_or, if_true, if_false, and_true, true_and, and_false, false_and, not_true, not_false_iff, w1]) (fun m M2 kk h2 => by
    show f_X11_alarmsIn_L36 (nI h) (m + 1) (nI h) M2 kk = kk M2
    rw [f_X11_alarmsIn_L36.eq_2]
    simp (disch := omega) only [lit_0, lit_1, lit_2, lit_3, lit_4, lit_5, lit_6, lit_7, lit_8, lit_9, lit_10, lit_11, lit_12, lit_13, lit_14, lit_15, lit_16, lit_20, lit_23, lit_24, lit_31, lit_32, lit_39, lit_43, lit_45, lit_47, lit_48, lit_56, lit_57, lit_59, lit_60, lit_62, lit_63, lit_89, lit_92, lit_96, lit_97, lit_99, lit_100, lit_102, lit_103, lit_104, lit_110, lit_111, lit_115, lit_117, lit_194, lit_200, lit_644, lit_736, lit_999, lit_1000, lit_9999, lit_10000, lit_1000000000, ↓wp_mlet, ↓wp_mbp, ↓wp_ite, ↓wp_mix, ↓wp_mdiv, ↓wp_mnz, ↓wp_some, ↓wp_mbnd, ↓mlet_eq, ↓mbp_eq, ↓mbnd_eq, ↓mix_ite, ↓mdiv_ite, ↓mnz_ite, nI_add, nI_mul, nI_nat, nI_ltE, nI_leE, nI_eqE, nI_eqN, nI_Neq, nI_Nlt, nI_Nle, nI_ltN, nI_leN, ↓reduceIte, ↓Nat.reduceEqDiff, and_f, nt_e, nt_t, nl_t, nl_f, ne_t, ne_f, and_self, or_self, or_true, true_or, or_false, false_or, if_true, if_false, and_true, true_and, and_false, false_and, not_true, not_false_iff]) h N 0 M1 (fun M12 => some (Sum.inr (M12 11 6 3 - M12 0 6 3), M12)) (by omega) (by omega) ⟨q1, q3⟩
  obtain ⟨M2, ⟨k1, k2⟩, k3⟩ := key
  rw [k3, wp_some]
  have e13 : M2 11 6 3 - M2 0 6 3 = nI (hrsN α h) := by
    rw [k1.2.1, k2 0 (by decide), hR.2.2.1.2.1, hrs_13 hi h (by omega), nI_add_sub]
  rw [e13]
  have hW2 := RelW_11 hW k2
  have hS2 := hW2.2.1
  simp (disch := omega) only [lit_0, lit_1, lit_2, lit_3, lit_4, lit_5, lit_6, lit_7, lit_8, lit_9, lit_10, lit_11, lit_12, lit_13, lit_14, lit_15, lit_16, lit_20, lit_23, lit_24, lit_31, lit_32, lit_39, lit_43, lit_45, lit_47, lit_48, lit_56, lit_57, lit_59, lit_60, lit_62, lit_63, lit_89, lit_92, lit_96, lit_97, lit_99, lit_100, lit_102, lit_103, lit_104, lit_110, lit_111, lit_115, lit_117, lit_194, lit_200, lit_644, lit_736, lit_999, lit_1000, lit_9999, lit_10000, lit_1000000000, ↓wp_mlet, ↓wp_mbp, ↓wp_ite, ↓wp_mix, ↓wp_mdiv, ↓wp_mnz, ↓wp_some, ↓wp_mbnd, ↓mlet_eq, ↓mbp_eq, ↓mbnd_eq, ↓mix_ite, ↓mdiv_ite, ↓mnz_ite, nI_add, nI_mul, nI_nat, nI_ltE, nI_leE, nI_eqE, nI_eqN, nI_Neq, nI_Nlt, nI_Nle, nI_ltN, nI_leN, ↓reduceIte, ↓Nat.reduceEqDiff, and_f, nt_e, nt_t, nl_t, nl_f, ne_t, ne_f, and_self, or_self, or_true, true_or, or_false, false_or, if_true, if_false, and_true, true_and, and_false, false_and, not_true, not_false_iff, toNat_0, Bool.false_and, Bool.true_and, Bool.and_false, Bool.and_true, Bool.false_eq_true, reduceCtorEq, Bool.true_eq_false, Bool.not_true, Bool.not_false, mup_at, up_at, fil_at, ↓reduceIte, ↓Nat.reduceEqDiff, and_f, nt_e, nt_t, nl_t, nl_f, ne_t, ne_f, and_self, or_self, or_true, true_or, or_false, false_or, if_true, if_false, and_true, true_and, and_false, false_and, not_true, not_false_iff, e1, m_thinks]
  have hS3 : (fil (mup M2 12 47 0 (nI 0)) 12 52 0 92 ((mup M2 12 47 0 (nI 0)) 12 48)) 12 48 = enc α := by
    rw [fil_ne (by decide), pm_ne (by decide), hS2]
  have key := mloopP (F := fun m x (s : Int32 × Mem) kk => f_X12_alarmsIn_L36 (nI h) m s.1 x s.2 (fun a b => kk (a, b))) (c := h) (fun x s => s.1 = nI (hrsN α x) ∧ mS (fil (mup M2 12 47 0 (nI 0)) 12 52 0 92 ((mup M2 12 47 0 (nI 0)) 12 48)) s.2 (hrs α x)) (fun m x s kk hx h => by
    obtain ⟨a, M4⟩ := s
    obtain ⟨q1, q2⟩ := h
    have q1' : a = nI (hrsN α x) := q1
    subst q1'
    have q2' : mS (fil (mup M2 12 47 0 (nI 0)) 12 52 0 92 ((mup M2 12 47 0 (nI 0)) 12 48)) M4 (hrs α x) := q2
    obtain ⟨r, M5, w1, w2, w3⟩ := m_hour q2'.1 (inv_hrs hi x (by omega)) (by omega)
    subst w2
    refine ⟨(nI (hrsN α x + cntA (walkSp (hrs α x)) 8), M5), ⟨rfl, q2'.trans w3⟩, ?_⟩
    show f_X12_alarmsIn_L36 _ (m + 1) (nI (hrsN α x)) (nI x) M4 (fun a b => kk (a, b)) = f_X12_alarmsIn_L36 _ m (nI (hrsN α x + cntA (walkSp (hrs α x)) 8)) (nI (x + 1)) M5 (fun a b => kk (a, b))
    rw [f_X12_alarmsIn_L36.eq_2]
    simp (disch := omega) only [lit_0, lit_1, lit_2, lit_3, lit_4, lit_5, lit_6, lit_7, lit_8, lit_9, lit_10, lit_11, lit_12, lit_13, lit_14, lit_15, lit_16, lit_20, lit_23, lit_24, lit_31, lit_32, lit_39, lit_43, lit_45, lit_47, lit_48, lit_56, lit_57, lit_59, lit_60, lit_62, lit_63, lit_89, lit_92, lit_96, lit_97, lit_99, lit_100, lit_102, lit_103, lit_104, lit_110, lit_111, lit_115, lit_117, lit_194, lit_200, lit_644, lit_736, lit_999, lit_1000, lit_9999, lit_10000, lit_1000000000, ↓wp_mlet, ↓wp_mbp, ↓wp_ite, ↓wp_mix, ↓wp_mdiv, ↓wp_mnz, ↓wp_some, ↓wp_mbnd, ↓mlet_eq, ↓mbp_eq, ↓mbnd_eq, ↓mix_ite, ↓mdiv_ite, ↓mnz_ite, nI_add, nI_mul, nI_nat, nI_ltE, nI_leE, nI_eqE, nI_eqN, nI_Neq, nI_Nlt, nI_Nle, nI_ltN, nI_leN, ↓reduceIte, ↓Nat.reduceEqDiff, and_f, nt_e, nt_t, nl_t, nl_f, ne_t, ne_f, and_self, or_self, or_true, true_or, or_false, false_or, if_true, if_false, and_true, true_and, and_false, false_and, not_true, not_false_iff, w1]) (fun m s kk _ => by
    obtain ⟨a, M4⟩ := s
    show f_X12_alarmsIn_L36 (nI h) (m + 1) a (nI h) M4 (fun a b => kk (a, b)) = kk (a, M4)
    rw [f_X12_alarmsIn_L36.eq_2]
    simp (disch := omega) only [lit_0, lit_1, lit_2, lit_3, lit_4, lit_5, lit_6, lit_7, lit_8, lit_9, lit_10, lit_11, lit_12, lit_13, lit_14, lit_15, lit_16, lit_20, lit_23, lit_24, lit_31, lit_32, lit_39, lit_43, lit_45, lit_47, lit_48, lit_56, lit_57, lit_59, lit_60, lit_62, lit_63, lit_89, lit_92, lit_96, lit_97, lit_99, lit_100, lit_102, lit_103, lit_104, lit_110, lit_111, lit_115, lit_117, lit_194, lit_200, lit_644, lit_736, lit_999, lit_1000, lit_9999, lit_10000, lit_1000000000, ↓wp_mlet, ↓wp_mbp, ↓wp_ite, ↓wp_mix, ↓wp_mdiv, ↓wp_mnz, ↓wp_some, ↓wp_mbnd, ↓mlet_eq, ↓mbp_eq, ↓mbnd_eq, ↓mix_ite, ↓mdiv_ite, ↓mnz_ite, nI_add, nI_mul, nI_nat, nI_ltE, nI_leE, nI_eqE, nI_eqN, nI_Neq, nI_Nlt, nI_Nle, nI_ltN, nI_leN, ↓reduceIte, ↓Nat.reduceEqDiff, and_f, nt_e, nt_t, nl_t, nl_f, ne_t, ne_f, and_self, or_self, or_true, true_or, or_false, false_or, if_true, if_false, and_true, true_and, and_false, false_and, not_true, not_false_iff]) h N 0 (nI 0, fil (mup M2 12 47 0 (nI 0)) 12 52 0 92 ((mup M2 12 47 0 (nI 0)) 12 48)) (fun s => mbnd (f_X12_back s.2) fun r M1 => some (s.1, M1)) (by omega) (by omega) ⟨rfl, hS3, fun _ _ _ => rfl⟩
  obtain ⟨⟨a, M4⟩, ⟨p1, p2⟩, p3⟩ := key
  have p1' : a = nI (hrsN α h) := p1
  subst p1'
  have p2' : mS (fil (mup M2 12 47 0 (nI 0)) 12 52 0 92 ((mup M2 12 47 0 (nI 0)) 12 48)) M4 (hrs α h) := p2
  have p3' : (f_X12_alarmsIn_L36 (nI h) N (nI 0) (nI 0) (fil (mup M2 12 47 0 (nI 0)) 12 52 0 92 ((mup M2 12 47 0 (nI 0)) 12 48)) fun a b => mbnd (f_X12_back b) fun r M1 => some (a, M1)) = mbnd (f_X12_back M4) fun r M1 => some (nI (hrsN α h), M1) := p3
  have p4 : (fun (x17 : Int32) (M18 : Mem) => mbnd (f_X12_back M18) fun (r19 : Unit) M20 => some (x17, M20)) = (fun (a : Int32) (b : Mem) => mbnd (f_X12_back b) fun (r : Unit) M1 => some (a, M1)) := rfl
  have fin : wp (mbnd (f_X12_back M4) fun (r : Unit) M1 => some (nI (hrsN α h), M1)) (fun r M2 => Rel (n + 1) M2 ∧ Ag (fun x => if x = 2 then 1 else 0) (Sum.inr (nI (hrsN α h))) r (M2 12 47 0)) := by
    rw [m_back, wp_mbnd, wp_some, wp_some]
    refine ⟨think_back hW2 p2', ?_, rfl⟩
    rw [fil_ne (by decide), p2'.2 12 47 (by decide), fil_ne (by decide), mup_at, if_pos (by decide)]
  rw [← p3'] at fin
  simp only [m_back] at fin ⊢
  exact fin
