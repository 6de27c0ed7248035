/-! hours that are tried and taken back -/
theorem RelW_11 {n K nx fed b H : Nat} {M M2 : Mem} {α αs : Sp} {αh : Nat → Sp} (h : RelW n M α αh αs K nx fed b H) (h2 : ∀ a, a ≠ 11 → M2 a = M a) : RelW n M2 α αh αs K nx fed b H := by
  obtain ⟨hR, hS, hH, hs, ⟨hr1, hr2, hr3, hr4⟩, hi, hih, his, hb⟩ := h
  have e12 : M2 12 = M 12 := h2 12 (by decide)
  refine ⟨?_, ?_, ?_, ?_, ⟨?_, ?_, ?_, ?_⟩, hi, hih, his, by omega⟩
  · rw [h2 0 (by decide)]; exact hR
  · rw [e12]; exact hS
  · exact Hs_same hH (by rw [e12]) (by rw [e12]) (by rw [e12]) (fun a _ _ _ => h2 a (by omega))
  · exact Rs_same hs (by rw [e12]) (by rw [e12]) (h2 10 (by decide)) (by rw [e12])
  · exact Rr_same hr1 (fun i _ _ => by rw [e12]) (fun i _ _ => by rw [e12])
  · exact Re_same hr2 (by rw [e12]) (by rw [e12])
  · exact Ri_same hr3 (by rw [e12]) (by rw [e12]) (by rw [e12]) (by rw [e12])
  · exact Ro_same hr4 (by rw [e12]) (by rw [e12]) (by rw [e12]) (by rw [e12])
theorem Rel_think {n K nx fed b H : Nat} {M M2 : Mem} {α β αs : Sp} {αh : Nat → Sp} (h : RelW n M α αh αs K nx fed b H) (h48 : M2 12 48 = enc (cutSp α β)) (h1 : ∀ i, i ≠ 0 → M2 12 47 i = M 12 47 i) (h2 : ∀ a b, ¬ (a = 12 ∧ (b = 47 ∨ b = 48 ∨ b = 52)) → M2 a b = M a b) : Rel (n + 1) M2 := by
  obtain ⟨hR, hS, hH, hs, ⟨hr1, hr2, hr3, hr4⟩, hi, hih, his, hb⟩ := h
  refine ⟨cutSp α β, αh, αs, K, nx, fed, b, H, ?_, h48, ?_, ?_, ⟨?_, ?_, ?_, ?_⟩, Inv_cg hi, hih, his, by omega⟩
  · rw [show M2 0 = M 0 from funext fun b => h2 0 b (by omega)]; exact RC_cg hR
  · exact Hs_same hH (h2 12 17 (by decide)) (h1 6 (by decide)) (h2 12 51 (by decide)) (fun a _ _ _ => funext fun b => h2 a b (by omega))
  · exact Rs_same hs (by rw [h2 12 16 (by decide)]) (h1 7 (by decide)) (funext fun b => h2 10 b (by omega)) (h2 12 50 (by decide))
  · exact Rr_same hr1 (fun i _ _ => by rw [h2 12 16 (by decide)]) (fun i _ _ => h1 i (by omega))
  · exact Re_same hr2 (by rw [h2 12 16 (by decide)]) (h1 14 (by decide))
  · exact Ri_same hr3 (by rw [h2 12 26 (by decide)]) (h1 12 (by decide)) (h2 12 27 (by decide)) (h2 12 53 (by decide))
  · exact Ro_same hr4 (h2 12 45 (by decide)) (h1 13 (by decide)) (h2 12 46 (by decide)) (h2 12 55 (by decide))
theorem m_thinks {M : Mem} : f_X12_thinks M = some ((), fil M 12 52 0 92 (M 12 48)) := by
  unfold f_X12_thinks
  generalize hN : (1000 : Nat) = N
  have key := mloop (F := fun n x s kk => f_X12_thinks_L2 n x s kk) (c := 92) (fun x => fil M 12 52 0 x (M 12 48)) (fun m x kk hx => by
    rw [f_X12_thinks_L2.eq_2]
    have e : (fil M 12 52 0 x (M 12 48)) 12 48 x = M 12 48 x := by rw [fil_ne (by decide)]
    simp (disch := omega) only [lit_0, lit_1, lit_2, lit_3, lit_4, lit_5, lit_6, lit_7, lit_8, lit_9, lit_10, lit_11, lit_12, lit_13, lit_14, lit_15, lit_16, lit_20, lit_23, lit_24, lit_31, lit_32, lit_39, lit_43, lit_45, lit_47, lit_48, lit_56, lit_57, lit_59, lit_60, lit_62, lit_63, lit_89, lit_92, lit_96, lit_97, lit_99, lit_100, lit_102, lit_103, lit_104, lit_110, lit_111, lit_115, lit_117, lit_194, lit_200, lit_644, lit_736, lit_999, lit_1000, lit_9999, lit_10000, lit_1000000000, ↓wp_mlet, ↓wp_mbp, ↓wp_ite, ↓wp_mix, ↓wp_mdiv, ↓wp_mnz, ↓wp_some, ↓wp_mbnd, ↓mlet_eq, ↓mbp_eq, ↓mbnd_eq, ↓mix_ite, ↓mdiv_ite, ↓mnz_ite, nI_add, nI_mul, nI_nat, nI_ltE, nI_leE, nI_eqE, nI_eqN, nI_Neq, nI_Nlt, nI_Nle, nI_ltN, nI_leN, ↓reduceIte, ↓Nat.reduceEqDiff, and_f, nt_e, nt_t, nl_t, nl_f, ne_t, ne_f, and_self, or_self, or_true, true_or, or_false, false_or, if_true, if_false, and_true, true_and, and_false, false_and, not_true, not_false_iff, e]
    rw [fil_s (by omega) rfl]) (fun m kk => by
    rw [f_X12_thinks_L2.eq_2]
    simp (disch := omega) only [lit_0, lit_1, lit_2, lit_3, lit_4, lit_5, lit_6, lit_7, lit_8, lit_9, lit_10, lit_11, lit_12, lit_13, lit_14, lit_15, lit_16, lit_20, lit_23, lit_24, lit_31, lit_32, lit_39, lit_43, lit_45, lit_47, lit_48, lit_56, lit_57, lit_59, lit_60, lit_62, lit_63, lit_89, lit_92, lit_96, lit_97, lit_99, lit_100, lit_102, lit_103, lit_104, lit_110, lit_111, lit_115, lit_117, lit_194, lit_200, lit_644, lit_736, lit_999, lit_1000, lit_9999, lit_10000, lit_1000000000, ↓wp_mlet, ↓wp_mbp, ↓wp_ite, ↓wp_mix, ↓wp_mdiv, ↓wp_mnz, ↓wp_some, ↓wp_mbnd, ↓mlet_eq, ↓mbp_eq, ↓mbnd_eq, ↓mix_ite, ↓mdiv_ite, ↓mnz_ite, nI_add, nI_mul, nI_nat, nI_ltE, nI_leE, nI_eqE, nI_eqN, nI_Neq, nI_Nlt, nI_Nle, nI_ltN, nI_leN, ↓reduceIte, ↓Nat.reduceEqDiff, and_f, nt_e, nt_t, nl_t, nl_f, ne_t, ne_f, and_self, or_self, or_true, true_or, or_false, false_or, if_true, if_false, and_true, true_and, and_false, false_and, not_true, not_false_iff])
  have := key 92 N 0 (fun M6 => some ((), M6)) (by omega) (by omega)
  rw [fil_0] at this
  rw [lit_0]
  exact this
theorem m_back {M : Mem} : f_X12_back M = some ((), fil M 12 48 0 92 (M 12 52)) := by
  unfold f_X12_back
  generalize hN : (1000 : Nat) = N
  have key := mloop (F := fun n x s kk => f_X12_back_L2 n x s kk) (c := 92) (fun x => fil M 12 48 0 x (M 12 52)) (fun m x kk hx => by
    rw [f_X12_back_L2.eq_2]
    have e : (fil M 12 48 0 x (M 12 52)) 12 52 x = M 12 52 x := by rw [fil_ne (by decide)]
    simp (disch := omega) only [lit_0, lit_1, lit_2, lit_3, lit_4, lit_5, lit_6, lit_7, lit_8, lit_9, lit_10, lit_11, lit_12, lit_13, lit_14, lit_15, lit_16, lit_20, lit_23, lit_24, lit_31, lit_32, lit_39, lit_43, lit_45, lit_47, lit_48, lit_56, lit_57, lit_59, lit_60, lit_62, lit_63, lit_89, lit_92, lit_96, lit_97, lit_99, lit_100, lit_102, lit_103, lit_104, lit_110, lit_111, lit_115, lit_117, lit_194, lit_200, lit_644, lit_736, lit_999, lit_1000, lit_9999, lit_10000, lit_1000000000, ↓wp_mlet, ↓wp_mbp, ↓wp_ite, ↓wp_mix, ↓wp_mdiv, ↓wp_mnz, ↓wp_some, ↓wp_mbnd, ↓mlet_eq, ↓mbp_eq, ↓mbnd_eq, ↓mix_ite, ↓mdiv_ite, ↓mnz_ite, nI_add, nI_mul, nI_nat, nI_ltE, nI_leE, nI_eqE, nI_eqN, nI_Neq, nI_Nlt, nI_Nle, nI_ltN, nI_leN, ↓reduceIte, ↓Nat.reduceEqDiff, and_f, nt_e, nt_t, nl_t, nl_f, ne_t, ne_f, and_self, or_self, or_true, true_or, or_false, false_or, if_true, if_false, and_true, true_and, and_false, false_and, not_true, not_false_iff, e]
    rw [fil_s (by omega) rfl]) (fun m kk => by
    rw [f_X12_back_L2.eq_2]
    simp (disch := omega) only [lit_0, lit_1, lit_2, lit_3, lit_4, lit_5, lit_6, lit_7, lit_8, lit_9, lit_10, lit_11, lit_12, lit_13, lit_14, lit_15, lit_16, lit_20, lit_23, lit_24, lit_31, lit_32, lit_39, lit_43, lit_45, lit_47, lit_48, lit_56, lit_57, lit_59, lit_60, lit_62, lit_63, lit_89, lit_92, lit_96, lit_97, lit_99, lit_100, lit_102, lit_103, lit_104, lit_110, lit_111, lit_115, lit_117, lit_194, lit_200, lit_644, lit_736, lit_999, lit_1000, lit_9999, lit_10000, lit_1000000000, ↓wp_mlet, ↓wp_mbp, ↓wp_ite, ↓wp_mix, ↓wp_mdiv, ↓wp_mnz, ↓wp_some, ↓wp_mbnd, ↓mlet_eq, ↓mbp_eq, ↓mbnd_eq, ↓mix_ite, ↓mdiv_ite, ↓mnz_ite, nI_add, nI_mul, nI_nat, nI_ltE, nI_leE, nI_eqE, nI_eqN, nI_Neq, nI_Nlt, nI_Nle, nI_ltN, nI_leN, ↓reduceIte, ↓Nat.reduceEqDiff, and_f, nt_e, nt_t, nl_t, nl_f, ne_t, ne_f, and_self, or_self, or_true, true_or, or_false, false_or, if_true, if_false, and_true, true_and, and_false, false_and, not_true, not_false_iff])
  have := key 92 N 0 (fun M6 => some ((), M6)) (by omega) (by omega)
  rw [fil_0] at this
  rw [lit_0]
  exact this
/-- back again, behind hours that came to β -/
theorem think_back {n K nx fed b H : Nat} {M M1 : Mem} {x : Int32} {α β αs : Sp} {αh : Nat → Sp} (h : RelW n M α αh αs K nx fed b H) (hm : mS (fil (mup M 12 47 0 x) 12 52 0 92 ((mup M 12 47 0 x) 12 48)) M1 β) : Rel (n + 1) (fil M1 12 48 0 92 (M1 12 52)) := by
  have hS := h.2.1
  refine Rel_think (β := β) h (enc_cut (lo := 0) hm.1 (fun j hj => ?_)) (fun i hi => ?_) (fun a b hab => ?_)
  · rw [hm.2 12 52 (by decide), fil_at, if_pos (by omega), pm_ne (by decide), hS]
  · rw [fil_ne (by decide), hm.2 12 47 (by decide), fil_ne (by decide), mup_at, if_neg (by omega)]
  · rw [fil_ne (by omega), hm.2 a b (by omega), fil_ne (by omega), pm_ne (by omega)]
theorem pair_alarmsIn {n : Nat} {M : Mem} (hr : Rel n M) (hn : n < 512) (a1 : Int32) : Pair n (fun x => if x = 2 then 1 else 0) M (f_X11_alarmsIn a1) (f_X12_alarmsIn a1) := by
  have hr' := Rel_thr hr
  have hr0 := hr
  obtain ⟨α, αh, αs, K, nx, fed, b, H, hW⟩ := hr
  obtain ⟨hR, hS, hH, hs, hx, hi, hih, his, hbb⟩ := id hW
  unfold Pair f_X11_alarmsIn f_X12_alarmsIn
  generalize hN : (1000 : Nat) = N
  simp only [lit_0, lit_1, lit_2, lit_3, lit_4, lit_5, lit_6, lit_7, lit_8, lit_9, lit_10, lit_11, lit_12, lit_13, lit_14, lit_15, lit_16, lit_20, lit_23, lit_24, lit_31, lit_32, lit_39, lit_43, lit_45, lit_47, lit_48, lit_56, lit_57, lit_59, lit_60, lit_62, lit_63, lit_89, lit_92, lit_96, lit_97, lit_99, lit_100, lit_102, lit_103, lit_104, lit_110, lit_111, lit_115, lit_117, lit_194, lit_200, lit_644, lit_736, lit_999, lit_1000, lit_9999, lit_10000, lit_1000000000]
  rw [rng_c a1 24 (by decide)]
  rcases idx_c a1 25 (by decide) with ⟨h, h1, rfl, e1⟩ | ⟨e1, h⟩
  case inr =>
    have ec : ∀ X : Option ((Nat ⊕ Int32) × Mem), (if a1 < nI 0 then some ((Sum.inl 2 : Nat ⊕ Int32), M) else if a1 ≤ nI 24 then X else some (Sum.inl 2, M)) = some (Sum.inl 2, M) := by
      intro X
      rcases h with h | ⟨j, hj, h, rfl⟩
      · rw [if_pos (show a1 < nI 0 from h)]
      · rw [if_neg (by rw [nI_ltE (by omega) (by omega)]; omega), if_neg (by rw [nI_leE (by omega) (by omega)]; omega)]
    simp only [mlet_eq, ec]
    simp (disch := omega) only [lit_0, lit_1, lit_2, lit_3, lit_4, lit_5, lit_6, lit_7, lit_8, lit_9, lit_10, lit_11, lit_12, lit_13, lit_14, lit_15, lit_16, lit_20, lit_23, lit_24, lit_31, lit_32, lit_39, lit_43, lit_45, lit_47, lit_48, lit_56, lit_57, lit_59, lit_60, lit_62, lit_63, lit_89, lit_92, lit_96, lit_97, lit_99, lit_100, lit_102, lit_103, lit_104, lit_110, lit_111, lit_115, lit_117, lit_194, lit_200, lit_644, lit_736, lit_999, lit_1000, lit_9999, lit_10000, lit_1000000000, ↓wp_mlet, ↓wp_mbp, ↓wp_ite, ↓wp_mix, ↓wp_mdiv, ↓wp_mnz, ↓wp_some, ↓wp_mbnd, ↓mlet_eq, ↓mbp_eq, ↓mbnd_eq, ↓mix_ite, ↓mdiv_ite, ↓mnz_ite, nI_add, nI_mul, nI_nat, nI_ltE, nI_leE, nI_eqE, nI_eqN, nI_Neq, nI_Nlt, nI_Nle, nI_ltN, nI_leN, ↓reduceIte, ↓Nat.reduceEqDiff, and_f, nt_e, nt_t, nl_t, nl_f, ne_t, ne_f, and_self, or_self, or_true, true_or, or_false, false_or, if_true, if_false, and_true, true_and, and_false, false_and, not_true, not_false_iff, toNat_0, Bool.false_and, Bool.true_and, Bool.and_false, Bool.and_true, Bool.false_eq_true, reduceCtorEq, Bool.true_eq_false, Bool.not_true, Bool.not_false, mup_at, up_at, fil_at, ↓reduceIte, ↓Nat.reduceEqDiff, and_f, nt_e, nt_t, nl_t, nl_f, ne_t, ne_f, and_self, or_self, or_true, true_or, or_false, false_or, if_true, if_false, and_true, true_and, and_false, false_and, not_true, not_false_iff, e1, Nat.reduceAdd]
    exact ⟨hr' _, rfl, by decide, by decide⟩
  have hb := c_copyB (M := M) (g := 11) (g1 := 0) (α := α) (by decide) hR.2.2.1
  simp (disch := omega) only [lit_0, lit_1, lit_2, lit_3, lit_4, lit_5, lit_6, lit_7, lit_8, lit_9, lit_10, lit_11, lit_12, lit_13, lit_14, lit_15, lit_16, lit_20, lit_23, lit_24, lit_31, lit_32, lit_39, lit_43, lit_45, lit_47, lit_48, lit_56, lit_57, lit_59, lit_60, lit_62, lit_63, lit_89, lit_92, lit_96, lit_97, lit_99, lit_100, lit_102, lit_103, lit_104, lit_110, lit_111, lit_115, lit_117, lit_194, lit_200, lit_644, lit_736, lit_999, lit_1000, lit_9999, lit_10000, lit_1000000000, ↓wp_mlet, ↓wp_mbp, ↓wp_ite, ↓wp_mix, ↓wp_mdiv, ↓wp_mnz, ↓wp_some, ↓wp_mbnd, ↓mlet_eq, ↓mbp_eq, ↓mbnd_eq, ↓mix_ite, ↓mdiv_ite, ↓mnz_ite, nI_add, nI_mul, nI_nat, nI_ltE, nI_leE, nI_eqE, nI_eqN, nI_Neq, nI_Nlt, nI_Nle, nI_ltN, nI_leN, ↓reduceIte, ↓Nat.reduceEqDiff, and_f, nt_e, nt_t, nl_t, nl_f, ne_t, ne_f, and_self, or_self, or_true, true_or, or_false, false_or, if_true, if_false, and_true, true_and, and_false, false_and, not_true, not_false_iff]
  refine wp_mono hb ?_
  rintro - M1 ⟨q1, q2, q3⟩
  have key := mloopP (F := fun m x s kk => f_X11_alarmsIn_L36 (nI h) m x s kk) (c := h) (fun x M2 => Rb (M2 11) (hrs α x) ∧ ∀ a, a ≠ 11 → M2 a = M a) (fun m x M2 kk hx h2 => by
    obtain ⟨r1, r2⟩ := h2
    obtain ⟨r, M3, w1, w2, w3, w4, w5⟩ := c_bhour r1 (inv_hrs hi x (by omega)) (by omega)
    refine ⟨M3, ⟨Rb.of (fun _ _ _ => rfl) (fun j q => hourSp_hz (by omega) (by omega)) w3, fun a ha => by rw [w5 a ha, r2 a ha]⟩, ?_⟩
    show f_X11_alarmsIn_L36 (nI h) (m + 1) (nI x) M2 kk = f_X11_alarmsIn_L36 (nI h) m (nI (x + 1)) M3 kk
    rw [f_X11_alarmsIn_L36.eq_2]
    simp (disch := omega) only [lit_0, lit_1, lit_2, lit_3, lit_4, lit_5, lit_6, lit_7, lit_8, lit_9, lit_10, lit_11, lit_12, lit_13, lit_14, lit_15, lit_16, lit_20, lit_23, lit_24, lit_31, lit_32, lit_39, lit_43, lit_45, lit_47, lit_48, lit_56, lit_57, lit_59, lit_60, lit_62, lit_63, lit_89, lit_92, lit_96, lit_97, lit_99, lit_100, lit_102, lit_103, lit_104, lit_110, lit_111, lit_115, lit_117, lit_194, lit_200, lit_644, lit_736, lit_999, lit_1000, lit_9999, lit_10000, lit_1000000000, ↓wp_mlet, ↓wp_mbp, ↓wp_ite, ↓wp_mix, ↓wp_mdiv, ↓wp_mnz, ↓wp_some, ↓wp_mbnd, ↓mlet_eq, ↓mbp_eq, ↓mbnd_eq, ↓mix_ite, ↓mdiv_ite, ↓mnz_ite, nI_add, nI_mul, nI_nat, nI_ltE, nI_leE, nI_eqE, nI_eqN, nI_Neq, nI_Nlt, nI_Nle, nI_ltN, nI_leN, ↓reduceIte, ↓Nat.reduceEqDiff, and_f, nt_e, nt_t, nl_t, nl_f, ne_t, ne_f, and_self, or_self, or_true, true_or, or_false, false_or, if_true, if_false, and_true, true_and, and_false, false_and, not_true, not_false_iff, w1]) (fun m M2 kk h2 => by
    show f_X11_alarmsIn_L36 (nI h) (m + 1) (nI h) M2 kk = kk M2
    rw [f_X11_alarmsIn_L36.eq_2]
    simp (disch := omega) only [lit_0, lit_1, lit_2, lit_3, lit_4, lit_5, lit_6, lit_7, lit_8, lit_9, lit_10, lit_11, lit_12, lit_13, lit_14, lit_15, lit_16, lit_20, lit_23, lit_24, lit_31, lit_32, lit_39, lit_43, lit_45, lit_47, lit_48, lit_56, lit_57, lit_59, lit_60, lit_62, lit_63, lit_89, lit_92, lit_96, lit_97, lit_99, lit_100, lit_102, lit_103, lit_104, lit_110, lit_111, lit_115, lit_117, lit_194, lit_200, lit_644, lit_736, lit_999, lit_1000, lit_9999, lit_10000, lit_1000000000, ↓wp_mlet, ↓wp_mbp, ↓wp_ite, ↓wp_mix, ↓wp_mdiv, ↓wp_mnz, ↓wp_some, ↓wp_mbnd, ↓mlet_eq, ↓mbp_eq, ↓mbnd_eq, ↓mix_ite, ↓mdiv_ite, ↓mnz_ite, nI_add, nI_mul, nI_nat, nI_ltE, nI_leE, nI_eqE, nI_eqN, nI_Neq, nI_Nlt, nI_Nle, nI_ltN, nI_leN, ↓reduceIte, ↓Nat.reduceEqDiff, and_f, nt_e, nt_t, nl_t, nl_f, ne_t, ne_f, and_self, or_self, or_true, true_or, or_false, false_or, if_true, if_false, and_true, true_and, and_false, false_and, not_true, not_false_iff]) h N 0 M1 (fun M12 => some (Sum.inr (M12 11 6 3 - M12 0 6 3), M12)) (by omega) (by omega) ⟨q1, q3⟩
  obtain ⟨M2, ⟨k1, k2⟩, k3⟩ := key
  rw [k3, wp_some]
  have e13 : M2 11 6 3 - M2 0 6 3 = nI (hrsN α h) := by
    rw [k1.2.1, k2 0 (by decide), hR.2.2.1.2.1, hrs_13 hi h (by omega), nI_add_sub]
  rw [e13]
  have hW2 := RelW_11 hW k2
  have hS2 := hW2.2.1
  simp (disch := omega) only [lit_0, lit_1, lit_2, lit_3, lit_4, lit_5, lit_6, lit_7, lit_8, lit_9, lit_10, lit_11, lit_12, lit_13, lit_14, lit_15, lit_16, lit_20, lit_23, lit_24, lit_31, lit_32, lit_39, lit_43, lit_45, lit_47, lit_48, lit_56, lit_57, lit_59, lit_60, lit_62, lit_63, lit_89, lit_92, lit_96, lit_97, lit_99, lit_100, lit_102, lit_103, lit_104, lit_110, lit_111, lit_115, lit_117, lit_194, lit_200, lit_644, lit_736, lit_999, lit_1000, lit_9999, lit_10000, lit_1000000000, ↓wp_mlet, ↓wp_mbp, ↓wp_ite, ↓wp_mix, ↓wp_mdiv, ↓wp_mnz, ↓wp_some, ↓wp_mbnd, ↓mlet_eq, ↓mbp_eq, ↓mbnd_eq, ↓mix_ite, ↓mdiv_ite, ↓mnz_ite, nI_add, nI_mul, nI_nat, nI_ltE, nI_leE, nI_eqE, nI_eqN, nI_Neq, nI_Nlt, nI_Nle, nI_ltN, nI_leN, ↓reduceIte, ↓Nat.reduceEqDiff, and_f, nt_e, nt_t, nl_t, nl_f, ne_t, ne_f, and_self, or_self, or_true, true_or, or_false, false_or, if_true, if_false, and_true, true_and, and_false, false_and, not_true, not_false_iff, toNat_0, Bool.false_and, Bool.true_and, Bool.and_false, Bool.and_true, Bool.false_eq_true, reduceCtorEq, Bool.true_eq_false, Bool.not_true, Bool.not_false, mup_at, up_at, fil_at, ↓reduceIte, ↓Nat.reduceEqDiff, and_f, nt_e, nt_t, nl_t, nl_f, ne_t, ne_f, and_self, or_self, or_true, true_or, or_false, false_or, if_true, if_false, and_true, true_and, and_false, false_and, not_true, not_false_iff, e1, m_thinks]
  have hS3 : (fil (mup M2 12 47 0 (nI 0)) 12 52 0 92 ((mup M2 12 47 0 (nI 0)) 12 48)) 12 48 = enc α := by
    rw [fil_ne (by decide), pm_ne (by decide), hS2]
  have key := mloopP (F := fun m x (s : Int32 × Mem) kk => f_X12_alarmsIn_L36 (nI h) m s.1 x s.2 (fun a b => kk (a, b))) (c := h) (fun x s => s.1 = nI (hrsN α x) ∧ mS (fil (mup M2 12 47 0 (nI 0)) 12 52 0 92 ((mup M2 12 47 0 (nI 0)) 12 48)) s.2 (hrs α x)) (fun m x s kk hx h => by
    obtain ⟨a, M4⟩ := s
    obtain ⟨q1, q2⟩ := h
    have q1' : a = nI (hrsN α x) := q1
    subst q1'
    have q2' : mS (fil (mup M2 12 47 0 (nI 0)) 12 52 0 92 ((mup M2 12 47 0 (nI 0)) 12 48)) M4 (hrs α x) := q2
    obtain ⟨r, M5, w1, w2, w3⟩ := m_hour q2'.1 (inv_hrs hi x (by omega)) (by omega)
    subst w2
    refine ⟨(nI (hrsN α x + cntA (walkSp (hrs α x)) 8), M5), ⟨rfl, q2'.trans w3⟩, ?_⟩
    show f_X12_alarmsIn_L36 _ (m + 1) (nI (hrsN α x)) (nI x) M4 (fun a b => kk (a, b)) = f_X12_alarmsIn_L36 _ m (nI (hrsN α x + cntA (walkSp (hrs α x)) 8)) (nI (x + 1)) M5 (fun a b => kk (a, b))
    rw [f_X12_alarmsIn_L36.eq_2]
    simp (disch := omega) only [lit_0, lit_1, lit_2, lit_3, lit_4, lit_5, lit_6, lit_7, lit_8, lit_9, lit_10, lit_11, lit_12, lit_13, lit_14, lit_15, lit_16, lit_20, lit_23, lit_24, lit_31, lit_32, lit_39, lit_43, lit_45, lit_47, lit_48, lit_56, lit_57, lit_59, lit_60, lit_62, lit_63, lit_89, lit_92, lit_96, lit_97, lit_99, lit_100, lit_102, lit_103, lit_104, lit_110, lit_111, lit_115, lit_117, lit_194, lit_200, lit_644, lit_736, lit_999, lit_1000, lit_9999, lit_10000, lit_1000000000, ↓wp_mlet, ↓wp_mbp, ↓wp_ite, ↓wp_mix, ↓wp_mdiv, ↓wp_mnz, ↓wp_some, ↓wp_mbnd, ↓mlet_eq, ↓mbp_eq, ↓mbnd_eq, ↓mix_ite, ↓mdiv_ite, ↓mnz_ite, nI_add, nI_mul, nI_nat, nI_ltE, nI_leE, nI_eqE, nI_eqN, nI_Neq, nI_Nlt, nI_Nle, nI_ltN, nI_leN, ↓reduceIte, ↓Nat.reduceEqDiff, and_f, nt_e, nt_t, nl_t, nl_f, ne_t, ne_f, and_self, or_self, or_true, true_or, or_false, false_or, if_true, if_false, and_true, true_and, and_false, false_and, not_true, not_false_iff, w1]) (fun m s kk _ => by
    obtain ⟨a, M4⟩ := s
    show f_X12_alarmsIn_L36 (nI h) (m + 1) a (nI h) M4 (fun a b => kk (a, b)) = kk (a, M4)
    rw [f_X12_alarmsIn_L36.eq_2]
    simp (disch := omega) only [lit_0, lit_1, lit_2, lit_3, lit_4, lit_5, lit_6, lit_7, lit_8, lit_9, lit_10, lit_11, lit_12, lit_13, lit_14, lit_15, lit_16, lit_20, lit_23, lit_24, lit_31, lit_32, lit_39, lit_43, lit_45, lit_47, lit_48, lit_56, lit_57, lit_59, lit_60, lit_62, lit_63, lit_89, lit_92, lit_96, lit_97, lit_99, lit_100, lit_102, lit_103, lit_104, lit_110, lit_111, lit_115, lit_117, lit_194, lit_200, lit_644, lit_736, lit_999, lit_1000, lit_9999, lit_10000, lit_1000000000, ↓wp_mlet, ↓wp_mbp, ↓wp_ite, ↓wp_mix, ↓wp_mdiv, ↓wp_mnz, ↓wp_some, ↓wp_mbnd, ↓mlet_eq, ↓mbp_eq, ↓mbnd_eq, ↓mix_ite, ↓mdiv_ite, ↓mnz_ite, nI_add, nI_mul, nI_nat, nI_ltE, nI_leE, nI_eqE, nI_eqN, nI_Neq, nI_Nlt, nI_Nle, nI_ltN, nI_leN, ↓reduceIte, ↓Nat.reduceEqDiff, and_f, nt_e, nt_t, nl_t, nl_f, ne_t, ne_f, and_self, or_self, or_true, true_or, or_false, false_or, if_true, if_false, and_true, true_and, and_false, false_and, not_true, not_false_iff]) h N 0 (nI 0, fil (mup M2 12 47 0 (nI 0)) 12 52 0 92 ((mup M2 12 47 0 (nI 0)) 12 48)) (fun s => mbnd (f_X12_back s.2) fun r M1 => some (s.1, M1)) (by omega) (by omega) ⟨rfl, hS3, fun _ _ _ => rfl⟩
  obtain ⟨⟨a, M4⟩, ⟨p1, p2⟩, p3⟩ := key
  have p1' : a = nI (hrsN α h) := p1
  subst p1'
  have p2' : mS (fil (mup M2 12 47 0 (nI 0)) 12 52 0 92 ((mup M2 12 47 0 (nI 0)) 12 48)) M4 (hrs α h) := p2
  have p3' : (f_X12_alarmsIn_L36 (nI h) N (nI 0) (nI 0) (fil (mup M2 12 47 0 (nI 0)) 12 52 0 92 ((mup M2 12 47 0 (nI 0)) 12 48)) fun a b => mbnd (f_X12_back b) fun r M1 => some (a, M1)) = mbnd (f_X12_back M4) fun r M1 => some (nI (hrsN α h), M1) := p3
  have p4 : (fun (x17 : Int32) (M18 : Mem) => mbnd (f_X12_back M18) fun (r19 : Unit) M20 => some (x17, M20)) = (fun (a : Int32) (b : Mem) => mbnd (f_X12_back b) fun (r : Unit) M1 => some (a, M1)) := rfl
  have fin : wp (mbnd (f_X12_back M4) fun (r : Unit) M1 => some (nI (hrsN α h), M1)) (fun r M2 => Rel (n + 1) M2 ∧ Ag (fun x => if x = 2 then 1 else 0) (Sum.inr (nI (hrsN α h))) r (M2 12 47 0)) := by
    rw [m_back, wp_mbnd, wp_some, wp_some]
    refine ⟨think_back hW2 p2', ?_, rfl⟩
    rw [fil_ne (by decide), p2'.2 12 47 (by decide), fil_ne (by decide), mup_at, if_pos (by decide)]
  rw [← p3'] at fin
  simp only [m_back] at fin ⊢
  exact fin
/-! visits -/
theorem inZ_iff {α : Sp} {z : Nat} : inZ α z = true ↔ ∃ g, g < α 10 ∧ α (47 + 3 * g) = z := by
  unfold inZ
  cases h : fnd (fun g => decide (α (47 + 3 * g) = z)) 0 (α 10) with
  | none =>
    refine ⟨fun q => (by cases q), ?_⟩
    rintro ⟨g, h1, h2⟩
    have := fnd_none h g (Nat.zero_le _) (by omega)
    simp [h2] at this
  | some r =>
    obtain ⟨-, h2, h3, -⟩ := fnd_some h
    exact ⟨fun _ => ⟨r, by omega, by simpa using h3⟩, fun _ => rfl⟩
theorem hrs_c {α : Sp} {H : Nat} (hi : Inv H α) (j : Nat) (hj : j = 10 ∨ 47 ≤ j ∧ j < 56 ∧ ¬ (j - 47) % 3 = 0) : ∀ k, H + k < 999999 → hrs α k j = α j := by
  intro k
  induction k with
  | zero => intro _; rfl
  | succ k ih =>
    intro h
    have hn := inv_hrs hi k (by omega)
    show hourSp (hrs α k) j = α j
    rw [hourSp_hz (by omega) (by omega), hz_g (by decide) (by omega), walkSp_ne (by omega) (by omega) hn.1.2.2.2.2.2.2.2.2.2.2.1, ih (by omega)]
theorem hrs_11 {α : Sp} {H : Nat} (hi : Inv H α) : ∀ k, H + k < 999999 → hrs α k 11 = α 11 + k := by
  intro k
  induction k with
  | zero => intro _; rfl
  | succ k ih =>
    intro h
    show hourSp (hrs α k) 11 = α 11 + (k + 1)
    rw [hourSp_hz (by decide) (by decide), hz_g (by decide) (by decide), walkSp_11, ih (by omega)]
    omega
def gz (α : Sp) (g k : Nat) : Nat := (α (47 + 3 * g) + (if α (48 + 3 * g) = 1 then 1 else 7) * ((α 11 + k) / α (49 + 3 * g) - α 11 / α (49 + 3 * g))) % 8
theorem hrs_z {α : Sp} {H g : Nat} (hi : Inv H α) (hg : g < α 10) : ∀ k, H + k < 999999 → hrs α k (47 + 3 * g) = gz α g k := by
  obtain ⟨g1, g2, g3, g4, g5⟩ := hi.2.2.2.2.2.2.2.2.1 g hg
  have h10 : α 10 ≤ 3 := hi.1.2.2.2.2.2.2.2.2.2.2.1
  intro k
  induction k with
  | zero =>
    intro _
    show α (47 + 3 * g) = gz α g 0
    unfold gz
    rw [Nat.add_zero, Nat.sub_self, Nat.mul_zero, Nat.add_zero]
    omega
  | succ k ih =>
    intro h
    have hn := inv_hrs hi k (by omega)
    show hourSp (hrs α k) (47 + 3 * g) = gz α g (k + 1)
    have e10 : hrs α k 10 = α 10 := hrs_c hi 10 (by omega) k (by omega)
    rw [hourSp_hz (by omega) (by omega), hz_g (by decide) (by omega)]
    unfold walkSp
    rw [e10, walkTo_z hg]
    unfold walkZ
    have i1 : incSp (hrs α k) 11 = α 11 + k + 1 := by unfold incSp; rw [up_at, if_pos rfl, hrs_11 hi k (by omega)]
    have i2 : incSp (hrs α k) (49 + 3 * g) = α (49 + 3 * g) := by unfold incSp; rw [up_at, if_neg (by omega), hrs_c hi _ (by omega) k (by omega)]
    have i3 : incSp (hrs α k) (48 + 3 * g) = α (48 + 3 * g) := by unfold incSp; rw [up_at, if_neg (by omega), hrs_c hi _ (by omega) k (by omega)]
    have i4 : incSp (hrs α k) (47 + 3 * g) = gz α g k := by unfold incSp; rw [up_at, if_neg (by omega), ih (by omega)]
    rw [i1, i2, i3, i4]
    unfold gz
    have hw : α (48 + 3 * g) = 1 ∨ α (48 + 3 * g) = 2 := by omega
    have hp : α (49 + 3 * g) = 1 ∨ α (49 + 3 * g) = 2 ∨ α (49 + 3 * g) = 3 ∨ α (49 + 3 * g) = 4 := by omega
    rcases hw with hw | hw <;> rcases hp with hp | hp | hp | hp <;> rw [hw, hp] <;> simp only [if_true, if_false, show ¬ 2 = 1 by decide] <;> split <;> omega
def vS (α : Sp) (g t : Nat) : Nat := if α (48 + 3 * g) = 1 then (t + 8 - α (47 + 3 * g)) % 8 else (α (47 + 3 * g) + 8 - t) % 8
def vOf (α : Sp) (g t : Nat) : Nat := if vS α g t = 0 then 0 else vS α g t * α (49 + 3 * g) - α 11 % α (49 + 3 * g)
theorem vOf_spec {α : Sp} {H g t : Nat} (hi : Inv H α) (hg : g < α 10) (ht : t < 8) : vOf α g t ≤ 28 ∧ gz α g (vOf α g t) = t ∧ ∀ k, k < vOf α g t → gz α g k ≠ t := by
  obtain ⟨g1, g2, g3, g4, g5⟩ := hi.2.2.2.2.2.2.2.2.1 g hg
  have hw : α (48 + 3 * g) = 1 ∨ α (48 + 3 * g) = 2 := by omega
  have hp : α (49 + 3 * g) = 1 ∨ α (49 + 3 * g) = 2 ∨ α (49 + 3 * g) = 3 ∨ α (49 + 3 * g) = 4 := by omega
  unfold vOf vS gz
  rcases hw with hw | hw <;> rcases hp with hp | hp | hp | hp <;> rw [hw, hp] <;> simp only [if_true, if_false, show ¬ 2 = 1 by decide] <;> split <;> (refine ⟨by omega, by omega, fun k hk => ?_⟩; omega)
def minV (α : Sp) (t : Nat) : Nat → Nat
  | 0 => 32
  | g + 1 => if vOf α g t < minV α t g then vOf α g t else minV α t g
theorem minV_spec {α : Sp} {H t : Nat} (hi : Inv H α) (ht : t < 8) : ∀ m, m ≤ α 10 → minV α t m ≤ 32 ∧ (∀ g, g < m → minV α t m ≤ vOf α g t) ∧ (0 < m → ∃ g, g < m ∧ minV α t m = vOf α g t) := by
  intro m
  induction m with
  | zero => intro _; exact ⟨Nat.le_refl _, fun g h => absurd h (Nat.not_lt_zero _), fun h => absurd h (Nat.lt_irrefl _)⟩
  | succ m ih =>
    intro hm
    obtain ⟨h0, h1, h2⟩ := ih (by omega)
    have hv := (vOf_spec hi (show m < α 10 by omega) ht).1
    show (if vOf α m t < minV α t m then vOf α m t else minV α t m) ≤ 32 ∧ (∀ g, g < m + 1 → (if vOf α m t < minV α t m then vOf α m t else minV α t m) ≤ vOf α g t) ∧ (0 < m + 1 → ∃ g, g < m + 1 ∧ (if vOf α m t < minV α t m then vOf α m t else minV α t m) = vOf α g t)
    by_cases q : vOf α m t < minV α t m
    · rw [if_pos q]
      refine ⟨by omega, fun g hg => ?_, fun _ => ⟨m, by omega, rfl⟩⟩
      by_cases hgm : g = m
      · rw [hgm]
        exact Nat.le_refl _
      · have := h1 g (by omega)
        omega
    · rw [if_neg q]
      refine ⟨h0, fun g hg => ?_, fun _ => ?_⟩
      · by_cases hgm : g = m
        · rw [hgm]; omega
        · exact h1 g (by omega)
      · by_cases hm0 : m = 0
        · subst hm0
          exfalso
          have : minV α t 0 = 32 := rfl
          omega
        · obtain ⟨g, g1, g2⟩ := h2 (by omega)
          exact ⟨g, by omega, g2⟩
def vis (α : Sp) (t : Nat) : Nat := minV α t (α 10)
theorem vis_spec {α : Sp} {H t : Nat} (hi : Inv H α) (hH : H < 900000) (ht : t < 8) (h0 : 0 < α 10) : vis α t ≤ 28 ∧ inZ (hrs α (vis α t)) t = true ∧ ∀ k, k < vis α t → inZ (hrs α k) t = false := by
  obtain ⟨h1, h2, h3⟩ := minV_spec hi ht (α 10) (Nat.le_refl _)
  obtain ⟨g, g1, g2⟩ := h3 h0
  have hv := vOf_spec hi g1 ht
  have hvv : vis α t = vOf α g t := g2
  refine ⟨by omega, ?_, fun k hk => ?_⟩
  · rw [inZ_iff]
    refine ⟨g, by rw [hrs_c hi 10 (by omega) _ (by omega)]; exact g1, ?_⟩
    rw [hrs_z hi g1 _ (by omega), hvv]
    exact hv.2.1
  · cases q : inZ (hrs α k) t with
    | false => rfl
    | true =>
      exfalso
      rw [inZ_iff] at q
      obtain ⟨g', a1, a2⟩ := q
      rw [hrs_c hi 10 (by omega) _ (by omega)] at a1
      rw [hrs_z hi a1 _ (by omega)] at a2
      have := h2 g' a1
      have hk' : k < minV α t (α 10) := hk
      exact (vOf_spec hi a1 ht).2.2 k (by omega) a2
def vw (α : Sp) (k : Nat) : Sp := fun j => if j = 11 ∨ 47 ≤ j ∧ j < 56 then hrs α k j else α j
theorem vw_at (α : Sp) (k j : Nat) : vw α k j = if j = 11 ∨ 47 ≤ j ∧ j < 56 then hrs α k j else α j := Eq.trans rfl rfl
theorem vw_0 (α : Sp) : vw α 0 = α := by
  funext j
  rw [vw_at]
  split <;> rfl
theorem walkSp_cg {α β : Sp} (h : ∀ j, j = 10 ∨ j = 11 ∨ 47 ≤ j ∧ j < 56 → α j = β j) (h10 : β 10 ≤ 3) {j : Nat} (hj : j = 11 ∨ 47 ≤ j ∧ j < 56) : walkSp α j = walkSp β j := by
  unfold walkSp
  rw [h 10 (by omega), walkTo_at, walkTo_at]
  split
  · rename_i q
    unfold walkZ incSp
    have e : ∀ i, i = 11 ∨ 47 ≤ i ∧ i < 56 → up α 11 (α 11 + 1) i = up β 11 (β 11 + 1) i := fun i hi => by
      rw [up_at, up_at, h 11 (by omega)]
      split
      · rfl
      · exact h i (by omega)
    rw [e 11 (by omega), e (49 + 3 * ((j - 47) / 3)) (by omega), e (47 + 3 * ((j - 47) / 3)) (by omega), e (48 + 3 * ((j - 47) / 3)) (by omega)]
  · unfold incSp
    rw [up_at, up_at, h 11 (by omega)]
    split
    · rfl
    · exact h j (by omega)
theorem vw_s {α : Sp} {H k : Nat} (hi : Inv H α) (hH : H + k < 900000) : walkSp (vw α k) = vw α (k + 1) := by
  have hn := inv_hrs hi k (by omega)
  have h10 : hrs α k 10 = α 10 := hrs_c hi 10 (by omega) k (by omega)
  have h10' : vw α k 10 = α 10 := by rw [vw_at, if_neg (by decide)]
  have b10 : α 10 ≤ 3 := hi.1.2.2.2.2.2.2.2.2.2.2.1
  funext j
  by_cases q : j = 11 ∨ 47 ≤ j ∧ j < 56
  · rw [vw_at, if_pos q, walkSp_cg (β := hrs α k) (fun i hi2 => by
      by_cases qi : i = 11 ∨ 47 ≤ i ∧ i < 56
      · rw [vw_at, if_pos qi]
      · have : i = 10 := by omega
        subst this
        rw [h10', h10]) (by rw [h10]; exact b10) q]
    show _ = hourSp (hrs α k) j
    rw [hourSp_hz (by omega) (by omega), hz_g (by decide) (by omega)]
  · rw [walkSp_ne (by omega) (by omega) (by rw [h10']; exact b10), vw_at, if_neg q, vw_at, if_neg q]
theorem Gd_vw {α : Sp} {H k : Nat} (hi : Inv H α) (hH : H + k < 900000) : Gd (incSp (vw α k)) := by
  have hn := Gd_inc (inv_hrs hi k (by omega)) (by omega)
  have h10 : hrs α k 10 = α 10 := hrs_c hi 10 (by omega) k (by omega)
  have e : ∀ i, i = 10 ∨ i = 11 ∨ 47 ≤ i ∧ i < 56 → incSp (vw α k) i = incSp (hrs α k) i := fun i hi2 => by
    unfold incSp
    rw [up_at, up_at, vw_at, if_pos (Or.inl rfl)]
    split
    · rfl
    · by_cases q : i = 11 ∨ 47 ≤ i ∧ i < 56
      · rw [vw_at, if_pos q]
      · have : i = 10 := by omega
        subst this
        rw [vw_at, if_neg (by decide), h10]
  obtain ⟨h1, h2, h3⟩ := hn
  refine ⟨by rw [e 10 (by omega)]; exact h1, by rw [e 11 (by omega)]; exact h2, fun g hg => ?_⟩
  rw [e 10 (by omega)] at hg
  rw [e (47 + 3 * g) (by omega), e (48 + 3 * g) (by omega), e (49 + 3 * g) (by omega)]
  exact h3 g hg
theorem c_begin {M : Mem} {α : Sp} {g : Nat} (hb : Rb (M g) α) (g1 : Gd (incSp α)) : wp (f_X1_beginHour g M) (fun _ M1 => Rb (M1 g) (walkSp α) ∧ ∀ a, a ≠ g → M1 a = M a) := by
  obtain ⟨r0, r3, r4, r5, r6, r7, r8⟩ := id hb
  unfold f_X1_beginHour
  generalize hN : (1000 : Nat) = N
  have hI : Rb ((mup M g 6 0 (nI (α 11 + 1))) g) (incSp α) := by
    unfold incSp
    refine ⟨?_, ?_, ?_, fun k hk => ?_, fun k hk => ?_, fun k hk hk9 => ?_, fun k hk => ?_⟩
    · simp (disch := omega) only [mup_at, up_at, fil_at, ↓reduceIte, ↓Nat.reduceEqDiff, and_f, nt_e, nt_t, nl_t, nl_f, ne_t, ne_f, and_self, or_self, or_true, true_or, or_false, false_or, if_true, if_false, and_true, true_and, and_false, false_and, not_true, not_false_iff]
    · simp (disch := omega) only [mup_at, up_at, fil_at, ↓reduceIte, ↓Nat.reduceEqDiff, and_f, nt_e, nt_t, nl_t, nl_f, ne_t, ne_f, and_self, or_self, or_true, true_or, or_false, false_or, if_true, if_false, and_true, true_and, and_false, false_and, not_true, not_false_iff, r3]
    · simp (disch := omega) only [mup_at, up_at, fil_at, ↓reduceIte, ↓Nat.reduceEqDiff, and_f, nt_e, nt_t, nl_t, nl_f, ne_t, ne_f, and_self, or_self, or_true, true_or, or_false, false_or, if_true, if_false, and_true, true_and, and_false, false_and, not_true, not_false_iff, r4]
    · simp (disch := omega) only [mup_at, up_at, fil_at, ↓reduceIte, ↓Nat.reduceEqDiff, and_f, nt_e, nt_t, nl_t, nl_f, ne_t, ne_f, and_self, or_self, or_true, true_or, or_false, false_or, if_true, if_false, and_true, true_and, and_false, false_and, not_true, not_false_iff, r5 k hk]
    · simp (disch := omega) only [mup_at, up_at, fil_at, ↓reduceIte, ↓Nat.reduceEqDiff, and_f, nt_e, nt_t, nl_t, nl_f, ne_t, ne_f, and_self, or_self, or_true, true_or, or_false, false_or, if_true, if_false, and_true, true_and, and_false, false_and, not_true, not_false_iff, r6 k hk]
    · simp (disch := omega) only [mup_at, up_at, fil_at, ↓reduceIte, ↓Nat.reduceEqDiff, and_f, nt_e, nt_t, nl_t, nl_f, ne_t, ne_f, and_self, or_self, or_true, true_or, or_false, false_or, if_true, if_false, and_true, true_and, and_false, false_and, not_true, not_false_iff] at hk9
      have q := r7 k hk hk9
      refine ⟨?_, ?_, ?_⟩
      · simp (disch := omega) only [mup_at, up_at, fil_at, ↓reduceIte, ↓Nat.reduceEqDiff, and_f, nt_e, nt_t, nl_t, nl_f, ne_t, ne_f, and_self, or_self, or_true, true_or, or_false, false_or, if_true, if_false, and_true, true_and, and_false, false_and, not_true, not_false_iff, q.1]
      · simp (disch := omega) only [mup_at, up_at, fil_at, ↓reduceIte, ↓Nat.reduceEqDiff, and_f, nt_e, nt_t, nl_t, nl_f, ne_t, ne_f, and_self, or_self, or_true, true_or, or_false, false_or, if_true, if_false, and_true, true_and, and_false, false_and, not_true, not_false_iff, q.2.1]
      · simp (disch := omega) only [mup_at, up_at, fil_at, ↓reduceIte, ↓Nat.reduceEqDiff, and_f, nt_e, nt_t, nl_t, nl_f, ne_t, ne_f, and_self, or_self, or_true, true_or, or_false, false_or, if_true, if_false, and_true, true_and, and_false, false_and, not_true, not_false_iff, q.2.2]
    · obtain ⟨c, c1, c2⟩ := r8 k hk
      exact ⟨c, c1, by simp (disch := omega) only [mup_at, up_at, fil_at, ↓reduceIte, ↓Nat.reduceEqDiff, and_f, nt_e, nt_t, nl_t, nl_f, ne_t, ne_f, and_self, or_self, or_true, true_or, or_false, false_or, if_true, if_false, and_true, true_and, and_false, false_and, not_true, not_false_iff, c2]⟩
  obtain ⟨M1, ⟨h1, h2, h3⟩, e1⟩ := c_walk hN hI g1 (fun M13 => some ((), M13))
  have e10 : incSp α 10 = α 10 := by unfold incSp; rw [up_at, if_neg (by decide)]
  rw [e10] at h1
  simp only [lit_0, lit_1, lit_2, lit_3, lit_4, lit_5, lit_6, lit_7, lit_8, lit_9, lit_10, lit_11, lit_12, lit_13, lit_14, lit_15, lit_16, lit_20, lit_23, lit_24, lit_31, lit_32, lit_39, lit_43, lit_45, lit_47, lit_48, lit_56, lit_57, lit_59, lit_60, lit_62, lit_63, lit_89, lit_92, lit_96, lit_97, lit_99, lit_100, lit_102, lit_103, lit_104, lit_110, lit_111, lit_115, lit_117, lit_194, lit_200, lit_644, lit_736, lit_999, lit_1000, lit_9999, lit_10000, lit_1000000000, r0, nI_add, mlet_eq]
  rw [e1, wp_some]
  exact ⟨h1, fun a h => by rw [h3 a h, pm_g h]⟩
/-- the class's visit, hour by hour -/
theorem c_visitH {M : Mem} {α : Sp} {H t : Nat} (hR : RC (M 0) α) (hi : Inv H α) (hH : H < 800000) (ht : t < 8) (h0 : 0 < α 10) : wp (f_X11_visitByHours (nI t) M) (fun r M1 => r = nI (vis α t) ∧ ∀ a, a ≠ 11 → M1 a = M a) := by
  obtain ⟨v1, v2, v3⟩ := vis_spec hi (by omega) ht h0
  have b10 : α 10 ≤ 3 := hi.1.2.2.2.2.2.2.2.2.2.2.1
  unfold f_X11_visitByHours
  generalize hN : (1000 : Nat) = N
  simp only [lit_0, lit_1, lit_2, lit_3, lit_4, lit_5, lit_6, lit_7, lit_8, lit_9, lit_10, lit_11, lit_12, lit_13, lit_14, lit_15, lit_16, lit_20, lit_23, lit_24, lit_31, lit_32, lit_39, lit_43, lit_45, lit_47, lit_48, lit_56, lit_57, lit_59, lit_60, lit_62, lit_63, lit_89, lit_92, lit_96, lit_97, lit_99, lit_100, lit_102, lit_103, lit_104, lit_110, lit_111, lit_115, lit_117, lit_194, lit_200, lit_644, lit_736, lit_999, lit_1000, lit_9999, lit_10000, lit_1000000000, wp_mbnd]
  refine wp_mono (c_copyB (M := M) (g := 11) (g1 := 0) (α := α) (by decide) hR.2.2.1) ?_
  rintro - M1 ⟨q1, q2, q3⟩
  have hin : ∀ k M2, k < 800 → Rb (M2 11) (vw α k) → f_X1_hasGuardIn 11 (nI t) M2 = some (nI (inZ (hrs α k) t).toNat) := fun k M2 hk hb2 => by
    have h10 : hrs α k 10 = α 10 := hrs_c hi 10 (by omega) k (by omega)
    have e10 : vw α k 10 = α 10 := by rw [vw_at, if_neg (by decide)]
    have eg : ∀ g, g < α 10 → vw α k (47 + 3 * g) = hrs α k (47 + 3 * g) := fun g hg => by rw [vw_at, if_pos (by omega)]
    have hn := inv_hrs hi k (by omega)
    rw [c_inZ hb2 (by rw [e10]; exact b10) (by omega) (fun g hg => by
      rw [e10] at hg
      rw [eg g hg]
      have := (hn.2.2.2.2.2.2.2.2.1 g (by rw [h10]; exact hg)).1
      omega), inZ_cg (β := hrs α k) (by rw [e10, h10]) (fun g hg => by rw [h10] at hg; exact eg g hg)]
  have key := mloopP (F := fun m x (s : Int32 × Mem) kk => f_X11_visitByHours_L16 (nI t) m x s.2 (fun a b => kk (a, b))) (c := vis α t) (fun x s => s.1 = nI x ∧ Rb (s.2 11) (vw α x) ∧ ∀ a, a ≠ 11 → s.2 a = M a) (fun m x s kk hx h2 => by
    obtain ⟨a, M2⟩ := s
    obtain ⟨-, p2, p3⟩ := h2
    have p2' : Rb (M2 11) (vw α x) := p2
    have ei := hin x M2 (by omega) p2'
    rw [v3 x hx] at ei
    obtain ⟨r, M3, w1, w2, w3⟩ := c_begin p2' (Gd_vw hi (by omega))
    refine ⟨(nI (x + 1), M3), ⟨rfl, by rw [← vw_s hi (by omega)]; exact w2, fun a ha => (w3 a ha).trans (p3 a ha)⟩, ?_⟩
    show f_X11_visitByHours_L16 (nI t) (m + 1) (nI x) M2 (fun a b => kk (a, b)) = f_X11_visitByHours_L16 (nI t) m (nI (x + 1)) M3 (fun a b => kk (a, b))
    rw [f_X11_visitByHours_L16.eq_2]
    simp (disch := omega) only [lit_0, lit_1, lit_2, lit_3, lit_4, lit_5, lit_6, lit_7, lit_8, lit_9, lit_10, lit_11, lit_12, lit_13, lit_14, lit_15, lit_16, lit_20, lit_23, lit_24, lit_31, lit_32, lit_39, lit_43, lit_45, lit_47, lit_48, lit_56, lit_57, lit_59, lit_60, lit_62, lit_63, lit_89, lit_92, lit_96, lit_97, lit_99, lit_100, lit_102, lit_103, lit_104, lit_110, lit_111, lit_115, lit_117, lit_194, lit_200, lit_644, lit_736, lit_999, lit_1000, lit_9999, lit_10000, lit_1000000000, ↓wp_mlet, ↓wp_mbp, ↓wp_ite, ↓wp_mix, ↓wp_mdiv, ↓wp_mnz, ↓wp_some, ↓wp_mbnd, ↓mlet_eq, ↓mbp_eq, ↓mbnd_eq, ↓mix_ite, ↓mdiv_ite, ↓mnz_ite, nI_add, nI_mul, nI_nat, nI_ltE, nI_leE, nI_eqE, nI_eqN, nI_Neq, nI_Nlt, nI_Nle, nI_ltN, nI_leN, ↓reduceIte, ↓Nat.reduceEqDiff, and_f, nt_e, nt_t, nl_t, nl_f, ne_t, ne_f, and_self, or_self, or_true, true_or, or_false, false_or, if_true, if_false, and_true, true_and, and_false, false_and, not_true, not_false_iff, ei, Bool.toNat_false, w1]) (fun m s kk h2 => by
    obtain ⟨a, M2⟩ := s
    obtain ⟨p1, p2, p3⟩ := h2
    have p1' : a = nI (vis α t) := p1
    subst p1'
    have ei := hin (vis α t) M2 (by omega) p2
    rw [v2] at ei
    show f_X11_visitByHours_L16 (nI t) (m + 1) (nI (vis α t)) M2 (fun a b => kk (a, b)) = kk (nI (vis α t), M2)
    rw [f_X11_visitByHours_L16.eq_2]
    simp (disch := omega) only [lit_0, lit_1, lit_2, lit_3, lit_4, lit_5, lit_6, lit_7, lit_8, lit_9, lit_10, lit_11, lit_12, lit_13, lit_14, lit_15, lit_16, lit_20, lit_23, lit_24, lit_31, lit_32, lit_39, lit_43, lit_45, lit_47, lit_48, lit_56, lit_57, lit_59, lit_60, lit_62, lit_63, lit_89, lit_92, lit_96, lit_97, lit_99, lit_100, lit_102, lit_103, lit_104, lit_110, lit_111, lit_115, lit_117, lit_194, lit_200, lit_644, lit_736, lit_999, lit_1000, lit_9999, lit_10000, lit_1000000000, ↓wp_mlet, ↓wp_mbp, ↓wp_ite, ↓wp_mix, ↓wp_mdiv, ↓wp_mnz, ↓wp_some, ↓wp_mbnd, ↓mlet_eq, ↓mbp_eq, ↓mbnd_eq, ↓mix_ite, ↓mdiv_ite, ↓mnz_ite, nI_add, nI_mul, nI_nat, nI_ltE, nI_leE, nI_eqE, nI_eqN, nI_Neq, nI_Nlt, nI_Nle, nI_ltN, nI_leN, ↓reduceIte, ↓Nat.reduceEqDiff, and_f, nt_e, nt_t, nl_t, nl_f, ne_t, ne_f, and_self, or_self, or_true, true_or, or_false, false_or, if_true, if_false, and_true, true_and, and_false, false_and, not_true, not_false_iff, ei, Bool.toNat_true]) (vis α t) N 0 (nI 0, M1) (fun s => some (s.1, s.2)) (by omega) (by omega) ⟨rfl, by rw [vw_0]; exact q1, q3⟩
  obtain ⟨⟨a, M2⟩, ⟨p1, p2, p3⟩, p4⟩ := key
  have p1' : a = nI (vis α t) := p1
  subst p1'
  exact ⟨_, _, p4, rfl, p3⟩
theorem fmod8 {a b : Nat} {M : Mem} (ha : a < 8) (hb : b < 8) : f_J9_floorMod_7cf53 (nI a - nI b) (nI 8) M = some (nI ((a + 8 - b) % 8)) := by
  have h : ∀ a, a < 8 → ∀ b, b < 8 → (mdiv (nI 8) (mlet (mrem (nI a - nI b) (nI 8)) fun x1 => (if 0 ≤ ((nI a - nI b) ^^^ nI 8) then (some x1) else (if x1 = 0 then (some x1) else (some (x1 + nI 8)))))) = some (nI ((a + 8 - b) % 8)) := by decide +kernel
  exact h a ha b hb
theorem c_visitOf {M : Mem} {α : Sp} {H g t : Nat} (hR : RC (M 0) α) (hi : Inv H α) (hH : H < 800000) (hg : g < α 10) (ht : t < 8) : f_X1_visitOf 0 (nI g) (nI t) M = some (nI (vOf α g t)) := by
  obtain ⟨g1, g2, g3, g4, g5⟩ := hi.2.2.2.2.2.2.2.2.1 g hg
  have b10 : α 10 ≤ 3 := hi.1.2.2.2.2.2.2.2.2.2.2.1
  have b11 : α 11 ≤ H := hi.1.2.2.2.2.2.2.2.2.2.2.2.1
  obtain ⟨q1, q2, q3⟩ := hR.2.2.1.2.2.2.2.2.1 g (by omega) hg
  have q0 := hR.2.2.1.1
  have hm : α 11 % α (49 + 3 * g) < 900000 := Nat.lt_of_le_of_lt (Nat.mod_le _ _) (by omega)
  have hm2 : α 11 % α (49 + 3 * g) < α (49 + 3 * g) := Nat.mod_lt _ (by omega)
  have hs : vS α g t < 8 := by unfold vS; split <;> omega
  have hsp : vS α g t * α (49 + 3 * g) ≤ 7 * 4 := Nat.mul_le_mul (by omega) g5
  have hle : vS α g t ≠ 0 → α 11 % α (49 + 3 * g) ≤ vS α g t * α (49 + 3 * g) := fun h => by
    have : 1 * α (49 + 3 * g) ≤ vS α g t * α (49 + 3 * g) := Nat.mul_le_mul (by omega) (Nat.le_refl _)
    omega
  unfold f_X1_visitOf vOf
  by_cases hw : α (48 + 3 * g) = 1
  · have e2 : M 0 10 g = nI 1 := by rw [q2, hw]
    have ev : vS α g t = (t + 8 - α (47 + 3 * g)) % 8 := by unfold vS; rw [if_pos hw]
    have ef := fmod8 (M := M) ht (show α (47 + 3 * g) < 8 by omega)
    rw [← ev] at ef
    by_cases h0 : vS α g t = 0
    · rw [if_pos h0]
      rw [h0] at ef
      simp (disch := omega) only [lit_0, lit_1, lit_2, lit_3, lit_4, lit_5, lit_6, lit_7, lit_8, lit_9, lit_10, lit_11, lit_12, lit_13, lit_14, lit_15, lit_16, lit_20, lit_23, lit_24, lit_31, lit_32, lit_39, lit_43, lit_45, lit_47, lit_48, lit_56, lit_57, lit_59, lit_60, lit_62, lit_63, lit_89, lit_92, lit_96, lit_97, lit_99, lit_100, lit_102, lit_103, lit_104, lit_110, lit_111, lit_115, lit_117, lit_194, lit_200, lit_644, lit_736, lit_999, lit_1000, lit_9999, lit_10000, lit_1000000000, ↓wp_mlet, ↓wp_mbp, ↓wp_ite, ↓wp_mix, ↓wp_mdiv, ↓wp_mnz, ↓wp_some, ↓wp_mbnd, ↓mlet_eq, ↓mbp_eq, ↓mbnd_eq, ↓mix_ite, ↓mdiv_ite, ↓mnz_ite, nI_add, nI_mul, nI_nat, nI_ltE, nI_leE, nI_eqE, nI_eqN, nI_Neq, nI_Nlt, nI_Nle, nI_ltN, nI_leN, ↓reduceIte, ↓Nat.reduceEqDiff, and_f, nt_e, nt_t, nl_t, nl_f, ne_t, ne_f, and_self, or_self, or_true, true_or, or_false, false_or, if_true, if_false, and_true, true_and, and_false, false_and, not_true, not_false_iff, e2, q1, ef]
    · rw [if_neg h0]
      have := hle h0
      simp (disch := omega) only [lit_0, lit_1, lit_2, lit_3, lit_4, lit_5, lit_6, lit_7, lit_8, lit_9, lit_10, lit_11, lit_12, lit_13, lit_14, lit_15, lit_16, lit_20, lit_23, lit_24, lit_31, lit_32, lit_39, lit_43, lit_45, lit_47, lit_48, lit_56, lit_57, lit_59, lit_60, lit_62, lit_63, lit_89, lit_92, lit_96, lit_97, lit_99, lit_100, lit_102, lit_103, lit_104, lit_110, lit_111, lit_115, lit_117, lit_194, lit_200, lit_644, lit_736, lit_999, lit_1000, lit_9999, lit_10000, lit_1000000000, ↓wp_mlet, ↓wp_mbp, ↓wp_ite, ↓wp_mix, ↓wp_mdiv, ↓wp_mnz, ↓wp_some, ↓wp_mbnd, ↓mlet_eq, ↓mbp_eq, ↓mbnd_eq, ↓mix_ite, ↓mdiv_ite, ↓mnz_ite, nI_add, nI_mul, nI_nat, nI_ltE, nI_leE, nI_eqE, nI_eqN, nI_Neq, nI_Nlt, nI_Nle, nI_ltN, nI_leN, ↓reduceIte, ↓Nat.reduceEqDiff, and_f, nt_e, nt_t, nl_t, nl_f, ne_t, ne_f, and_self, or_self, or_true, true_or, or_false, false_or, if_true, if_false, and_true, true_and, and_false, false_and, not_true, not_false_iff, e2, q0, q1, q3, ef, nI_rem, nI_subE]
  · have e2 : M 0 10 g = nI 0 := by rw [q2, show 2 - α (48 + 3 * g) = 0 by omega]
    have ev : vS α g t = (α (47 + 3 * g) + 8 - t) % 8 := by unfold vS; rw [if_neg hw]
    have ef := fmod8 (M := M) (show α (47 + 3 * g) < 8 by omega) ht
    rw [← ev] at ef
    by_cases h0 : vS α g t = 0
    · rw [if_pos h0]
      rw [h0] at ef
      simp (disch := omega) only [lit_0, lit_1, lit_2, lit_3, lit_4, lit_5, lit_6, lit_7, lit_8, lit_9, lit_10, lit_11, lit_12, lit_13, lit_14, lit_15, lit_16, lit_20, lit_23, lit_24, lit_31, lit_32, lit_39, lit_43, lit_45, lit_47, lit_48, lit_56, lit_57, lit_59, lit_60, lit_62, lit_63, lit_89, lit_92, lit_96, lit_97, lit_99, lit_100, lit_102, lit_103, lit_104, lit_110, lit_111, lit_115, lit_117, lit_194, lit_200, lit_644, lit_736, lit_999, lit_1000, lit_9999, lit_10000, lit_1000000000, ↓wp_mlet, ↓wp_mbp, ↓wp_ite, ↓wp_mix, ↓wp_mdiv, ↓wp_mnz, ↓wp_some, ↓wp_mbnd, ↓mlet_eq, ↓mbp_eq, ↓mbnd_eq, ↓mix_ite, ↓mdiv_ite, ↓mnz_ite, nI_add, nI_mul, nI_nat, nI_ltE, nI_leE, nI_eqE, nI_eqN, nI_Neq, nI_Nlt, nI_Nle, nI_ltN, nI_leN, ↓reduceIte, ↓Nat.reduceEqDiff, and_f, nt_e, nt_t, nl_t, nl_f, ne_t, ne_f, and_self, or_self, or_true, true_or, or_false, false_or, if_true, if_false, and_true, true_and, and_false, false_and, not_true, not_false_iff, e2, q1, ef]
    · rw [if_neg h0]
      have := hle h0
      simp (disch := omega) only [lit_0, lit_1, lit_2, lit_3, lit_4, lit_5, lit_6, lit_7, lit_8, lit_9, lit_10, lit_11, lit_12, lit_13, lit_14, lit_15, lit_16, lit_20, lit_23, lit_24, lit_31, lit_32, lit_39, lit_43, lit_45, lit_47, lit_48, lit_56, lit_57, lit_59, lit_60, lit_62, lit_63, lit_89, lit_92, lit_96, lit_97, lit_99, lit_100, lit_102, lit_103, lit_104, lit_110, lit_111, lit_115, lit_117, lit_194, lit_200, lit_644, lit_736, lit_999, lit_1000, lit_9999, lit_10000, lit_1000000000, ↓wp_mlet, ↓wp_mbp, ↓wp_ite, ↓wp_mix, ↓wp_mdiv, ↓wp_mnz, ↓wp_some, ↓wp_mbnd, ↓mlet_eq, ↓mbp_eq, ↓mbnd_eq, ↓mix_ite, ↓mdiv_ite, ↓mnz_ite, nI_add, nI_mul, nI_nat, nI_ltE, nI_leE, nI_eqE, nI_eqN, nI_Neq, nI_Nlt, nI_Nle, nI_ltN, nI_leN, ↓reduceIte, ↓Nat.reduceEqDiff, and_f, nt_e, nt_t, nl_t, nl_f, ne_t, ne_f, and_self, or_self, or_true, true_or, or_false, false_or, if_true, if_false, and_true, true_and, and_false, false_and, not_true, not_false_iff, e2, q0, q1, q3, ef, nI_rem, nI_subE]
theorem c_visitR {M : Mem} {α : Sp} {H t : Nat} (hR : RC (M 0) α) (hi : Inv H α) (hH : H < 800000) (ht : t < 8) : f_X1_visitByRemainders 0 (nI t) M = some (nI (vis α t)) := by
  have b10 : α 10 ≤ 3 := hi.1.2.2.2.2.2.2.2.2.2.2.1
  have e4 : M 0 6 4 = nI (α 10) := hR.2.2.1.2.2.1
  unfold f_X1_visitByRemainders
  generalize hN : (1000 : Nat) = N
  have key := mloop (F := fun m x (s : Int32) kk => f_X1_visitByRemainders_L5 0 (nI t) M m s x kk) (c := α 10) (fun x => nI (minV α t x)) (fun m x kk hx => by
    have ev := c_visitOf (M := M) hR hi hH hx ht
    have h28 := (vOf_spec hi hx ht).1
    have h32 := (minV_spec hi ht x (by omega)).1
    show f_X1_visitByRemainders_L5 0 (nI t) M (m + 1) (nI (minV α t x)) (nI x) kk = f_X1_visitByRemainders_L5 0 (nI t) M m (nI (if vOf α x t < minV α t x then vOf α x t else minV α t x)) (nI (x + 1)) kk
    rw [f_X1_visitByRemainders_L5.eq_2]
    by_cases q : vOf α x t < minV α t x
    · simp (disch := omega) only [lit_0, lit_1, lit_2, lit_3, lit_4, lit_5, lit_6, lit_7, lit_8, lit_9, lit_10, lit_11, lit_12, lit_13, lit_14, lit_15, lit_16, lit_20, lit_23, lit_24, lit_31, lit_32, lit_39, lit_43, lit_45, lit_47, lit_48, lit_56, lit_57, lit_59, lit_60, lit_62, lit_63, lit_89, lit_92, lit_96, lit_97, lit_99, lit_100, lit_102, lit_103, lit_104, lit_110, lit_111, lit_115, lit_117, lit_194, lit_200, lit_644, lit_736, lit_999, lit_1000, lit_9999, lit_10000, lit_1000000000, ↓wp_mlet, ↓wp_mbp, ↓wp_ite, ↓wp_mix, ↓wp_mdiv, ↓wp_mnz, ↓wp_some, ↓wp_mbnd, ↓mlet_eq, ↓mbp_eq, ↓mbnd_eq, ↓mix_ite, ↓mdiv_ite, ↓mnz_ite, nI_add, nI_mul, nI_nat, nI_ltE, nI_leE, nI_eqE, nI_eqN, nI_Neq, nI_Nlt, nI_Nle, nI_ltN, nI_leN, ↓reduceIte, ↓Nat.reduceEqDiff, and_f, nt_e, nt_t, nl_t, nl_f, ne_t, ne_f, and_self, or_self, or_true, true_or, or_false, false_or, if_true, if_false, and_true, true_and, and_false, false_and, not_true, not_false_iff, e4, ev, q]
    · simp (disch := omega) only [lit_0, lit_1, lit_2, lit_3, lit_4, lit_5, lit_6, lit_7, lit_8, lit_9, lit_10, lit_11, lit_12, lit_13, lit_14, lit_15, lit_16, lit_20, lit_23, lit_24, lit_31, lit_32, lit_39, lit_43, lit_45, lit_47, lit_48, lit_56, lit_57, lit_59, lit_60, lit_62, lit_63, lit_89, lit_92, lit_96, lit_97, lit_99, lit_100, lit_102, lit_103, lit_104, lit_110, lit_111, lit_115, lit_117, lit_194, lit_200, lit_644, lit_736, lit_999, lit_1000, lit_9999, lit_10000, lit_1000000000, ↓wp_mlet, ↓wp_mbp, ↓wp_ite, ↓wp_mix, ↓wp_mdiv, ↓wp_mnz, ↓wp_some, ↓wp_mbnd, ↓mlet_eq, ↓mbp_eq, ↓mbnd_eq, ↓mix_ite, ↓mdiv_ite, ↓mnz_ite, nI_add, nI_mul, nI_nat, nI_ltE, nI_leE, nI_eqE, nI_eqN, nI_Neq, nI_Nlt, nI_Nle, nI_ltN, nI_leN, ↓reduceIte, ↓Nat.reduceEqDiff, and_f, nt_e, nt_t, nl_t, nl_f, ne_t, ne_f, and_self, or_self, or_true, true_or, or_false, false_or, if_true, if_false, and_true, true_and, and_false, false_and, not_true, not_false_iff, e4, ev, q]) (fun m kk => by
    show f_X1_visitByRemainders_L5 0 (nI t) M (m + 1) (nI (minV α t (α 10))) (nI (α 10)) kk = kk (nI (minV α t (α 10)))
    rw [f_X1_visitByRemainders_L5.eq_2]
    simp (disch := omega) only [lit_0, lit_1, lit_2, lit_3, lit_4, lit_5, lit_6, lit_7, lit_8, lit_9, lit_10, lit_11, lit_12, lit_13, lit_14, lit_15, lit_16, lit_20, lit_23, lit_24, lit_31, lit_32, lit_39, lit_43, lit_45, lit_47, lit_48, lit_56, lit_57, lit_59, lit_60, lit_62, lit_63, lit_89, lit_92, lit_96, lit_97, lit_99, lit_100, lit_102, lit_103, lit_104, lit_110, lit_111, lit_115, lit_117, lit_194, lit_200, lit_644, lit_736, lit_999, lit_1000, lit_9999, lit_10000, lit_1000000000, ↓wp_mlet, ↓wp_mbp, ↓wp_ite, ↓wp_mix, ↓wp_mdiv, ↓wp_mnz, ↓wp_some, ↓wp_mbnd, ↓mlet_eq, ↓mbp_eq, ↓mbnd_eq, ↓mix_ite, ↓mdiv_ite, ↓mnz_ite, nI_add, nI_mul, nI_nat, nI_ltE, nI_leE, nI_eqE, nI_eqN, nI_Neq, nI_Nlt, nI_Nle, nI_ltN, nI_leN, ↓reduceIte, ↓Nat.reduceEqDiff, and_f, nt_e, nt_t, nl_t, nl_f, ne_t, ne_f, and_self, or_self, or_true, true_or, or_false, false_or, if_true, if_false, and_true, true_and, and_false, false_and, not_true, not_false_iff, e4])
  have := key (α 10) N 0 (fun x7 => some x7) (by omega) (by omega)
  rw [lit_0, lit_32]
  exact this
theorem mbpxm_l {α β : Type} {n : Nat} {m : Mem} {k : α → Option ((Nat ⊕ β) × Mem)} : mbpxm (some (.inl n)) m k = some (.inl n, m) := Eq.trans rfl rfl
theorem mbpxm_r {α β : Type} {a : α} {m : Mem} {k : α → Option ((Nat ⊕ β) × Mem)} : mbpxm (some (.inr a)) m k = k a := Eq.trans rfl rfl
/-- the model's visit -/
theorem m_visit {n K nx fed b H t : Nat} {M : Mem} {α αs : Sp} {αh : Nat → Sp} (hW : RelW n M α αh αs K nx fed b H) (hH : H < 800000) (ht : t < 8) (h0 : 0 < α 10) : wp (f_X12_hoursUntilVisit (nI t) M) (fun r M2 => Rel (n + 1) M2 ∧ r = nI (vis α t) ∧ M2 12 47 0 = nI 0) := by
  obtain ⟨hR, hS, hHs, hs, hx, hi, hih, his, hbb⟩ := id hW
  obtain ⟨v1, v2, v3⟩ := vis_spec hi (by omega) ht h0
  have b10 : α 10 ≤ 3 := hi.1.2.2.2.2.2.2.2.2.2.2.1
  unfold f_X12_hoursUntilVisit
  generalize hN : (1000 : Nat) = N
  have ez : idx (nI t) 8 = true := by rw [idx_I (by omega)]; exact decide_eq_true ht
  simp (disch := omega) only [lit_0, lit_1, lit_2, lit_3, lit_4, lit_5, lit_6, lit_7, lit_8, lit_9, lit_10, lit_11, lit_12, lit_13, lit_14, lit_15, lit_16, lit_20, lit_23, lit_24, lit_31, lit_32, lit_39, lit_43, lit_45, lit_47, lit_48, lit_56, lit_57, lit_59, lit_60, lit_62, lit_63, lit_89, lit_92, lit_96, lit_97, lit_99, lit_100, lit_102, lit_103, lit_104, lit_110, lit_111, lit_115, lit_117, lit_194, lit_200, lit_644, lit_736, lit_999, lit_1000, lit_9999, lit_10000, lit_1000000000, ↓wp_mlet, ↓wp_mbp, ↓wp_ite, ↓wp_mix, ↓wp_mdiv, ↓wp_mnz, ↓wp_some, ↓wp_mbnd, ↓mlet_eq, ↓mbp_eq, ↓mbnd_eq, ↓mix_ite, ↓mdiv_ite, ↓mnz_ite, nI_add, nI_mul, nI_nat, nI_ltE, nI_leE, nI_eqE, nI_eqN, nI_Neq, nI_Nlt, nI_Nle, nI_ltN, nI_leN, ↓reduceIte, ↓Nat.reduceEqDiff, and_f, nt_e, nt_t, nl_t, nl_f, ne_t, ne_f, and_self, or_self, or_true, true_or, or_false, false_or, if_true, if_false, and_true, true_and, and_false, false_and, not_true, not_false_iff, toNat_0, Bool.false_and, Bool.true_and, Bool.and_false, Bool.and_true, Bool.false_eq_true, reduceCtorEq, Bool.true_eq_false, Bool.not_true, Bool.not_false, mup_at, up_at, fil_at, ↓reduceIte, ↓Nat.reduceEqDiff, and_f, nt_e, nt_t, nl_t, nl_f, ne_t, ne_f, and_self, or_self, or_true, true_or, or_false, false_or, if_true, if_false, and_true, true_and, and_false, false_and, not_true, not_false_iff, m_isZone, ez, ms_n hS, m_thinks]
  have hS3 : (fil (mup M 12 47 0 (nI 0)) 12 52 0 92 ((mup M 12 47 0 (nI 0)) 12 48)) 12 48 = enc α := by
    rw [fil_ne (by decide), pm_ne (by decide), hS]
  have hin : ∀ k M2, k < 800 → M2 12 48 = enc (hrs α k) → f_X12_isIn (nI t) M2 = some (nI (inZ (hrs α k) t).toNat) := fun k M2 hk hS2 => by
    have h10 : hrs α k 10 = α 10 := hrs_c hi 10 (by omega) k (by omega)
    have hn := inv_hrs hi k (by omega)
    exact m_inZ0 hS2 (by rw [h10]; exact b10) ht (fun g hg => by have := (hn.2.2.2.2.2.2.2.2.1 g hg).1; omega)
  have key := mloopP (F := fun m x (s : Int32 × Mem) kk => f_X12_hoursUntilVisit_L45 (nI t) m x s.2 (fun a b => kk (a, b))) (c := vis α t) (fun x s => s.1 = nI x ∧ mS (fil (mup M 12 47 0 (nI 0)) 12 52 0 92 ((mup M 12 47 0 (nI 0)) 12 48)) s.2 (hrs α x)) (fun m x s kk hx h => by
    obtain ⟨a, M4⟩ := s
    obtain ⟨-, q2⟩ := h
    have q2' : mS (fil (mup M 12 47 0 (nI 0)) 12 52 0 92 ((mup M 12 47 0 (nI 0)) 12 48)) M4 (hrs α x) := q2
    obtain ⟨r, M5, w1, w2, w3⟩ := m_hour q2'.1 (inv_hrs hi x (by omega)) (by omega)
    have ei := hin x M4 (by omega) q2'.1
    rw [v3 x hx] at ei
    refine ⟨(nI (x + 1), M5), ⟨rfl, q2'.trans w3⟩, ?_⟩
    show f_X12_hoursUntilVisit_L45 (nI t) (m + 1) (nI x) M4 (fun a b => kk (a, b)) = f_X12_hoursUntilVisit_L45 (nI t) m (nI (x + 1)) M5 (fun a b => kk (a, b))
    rw [f_X12_hoursUntilVisit_L45.eq_2]
    simp (disch := omega) only [lit_0, lit_1, lit_2, lit_3, lit_4, lit_5, lit_6, lit_7, lit_8, lit_9, lit_10, lit_11, lit_12, lit_13, lit_14, lit_15, lit_16, lit_20, lit_23, lit_24, lit_31, lit_32, lit_39, lit_43, lit_45, lit_47, lit_48, lit_56, lit_57, lit_59, lit_60, lit_62, lit_63, lit_89, lit_92, lit_96, lit_97, lit_99, lit_100, lit_102, lit_103, lit_104, lit_110, lit_111, lit_115, lit_117, lit_194, lit_200, lit_644, lit_736, lit_999, lit_1000, lit_9999, lit_10000, lit_1000000000, ↓wp_mlet, ↓wp_mbp, ↓wp_ite, ↓wp_mix, ↓wp_mdiv, ↓wp_mnz, ↓wp_some, ↓wp_mbnd, ↓mlet_eq, ↓mbp_eq, ↓mbnd_eq, ↓mix_ite, ↓mdiv_ite, ↓mnz_ite, nI_add, nI_mul, nI_nat, nI_ltE, nI_leE, nI_eqE, nI_eqN, nI_Neq, nI_Nlt, nI_Nle, nI_ltN, nI_leN, ↓reduceIte, ↓Nat.reduceEqDiff, and_f, nt_e, nt_t, nl_t, nl_f, ne_t, ne_f, and_self, or_self, or_true, true_or, or_false, false_or, if_true, if_false, and_true, true_and, and_false, false_and, not_true, not_false_iff, ei, Bool.toNat_false, w1]) (fun m s kk h => by
    obtain ⟨a, M4⟩ := s
    obtain ⟨q1, q2⟩ := h
    have q1' : a = nI (vis α t) := q1
    subst q1'
    have ei := hin (vis α t) M4 (by omega) q2.1
    rw [v2] at ei
    show f_X12_hoursUntilVisit_L45 (nI t) (m + 1) (nI (vis α t)) M4 (fun a b => kk (a, b)) = kk (nI (vis α t), M4)
    rw [f_X12_hoursUntilVisit_L45.eq_2]
    simp (disch := omega) only [lit_0, lit_1, lit_2, lit_3, lit_4, lit_5, lit_6, lit_7, lit_8, lit_9, lit_10, lit_11, lit_12, lit_13, lit_14, lit_15, lit_16, lit_20, lit_23, lit_24, lit_31, lit_32, lit_39, lit_43, lit_45, lit_47, lit_48, lit_56, lit_57, lit_59, lit_60, lit_62, lit_63, lit_89, lit_92, lit_96, lit_97, lit_99, lit_100, lit_102, lit_103, lit_104, lit_110, lit_111, lit_115, lit_117, lit_194, lit_200, lit_644, lit_736, lit_999, lit_1000, lit_9999, lit_10000, lit_1000000000, ↓wp_mlet, ↓wp_mbp, ↓wp_ite, ↓wp_mix, ↓wp_mdiv, ↓wp_mnz, ↓wp_some, ↓wp_mbnd, ↓mlet_eq, ↓mbp_eq, ↓mbnd_eq, ↓mix_ite, ↓mdiv_ite, ↓mnz_ite, nI_add, nI_mul, nI_nat, nI_ltE, nI_leE, nI_eqE, nI_eqN, nI_Neq, nI_Nlt, nI_Nle, nI_ltN, nI_leN, ↓reduceIte, ↓Nat.reduceEqDiff, and_f, nt_e, nt_t, nl_t, nl_f, ne_t, ne_f, and_self, or_self, or_true, true_or, or_false, false_or, if_true, if_false, and_true, true_and, and_false, false_and, not_true, not_false_iff, ei, Bool.toNat_true]) (vis α t) N 0 (nI 0, fil (mup M 12 47 0 (nI 0)) 12 52 0 92 ((mup M 12 47 0 (nI 0)) 12 48)) (fun s => mbnd (f_X12_back s.2) fun r M1 => some (s.1, M1)) (by omega) (by omega) ⟨rfl, hS3, fun _ _ _ => rfl⟩
  obtain ⟨⟨a, M4⟩, ⟨p1, p2⟩, p3⟩ := key
  have p1' : a = nI (vis α t) := p1
  subst p1'
  have p2' : mS (fil (mup M 12 47 0 (nI 0)) 12 52 0 92 ((mup M 12 47 0 (nI 0)) 12 48)) M4 (hrs α (vis α t)) := p2
  have p3' : (f_X12_hoursUntilVisit_L45 (nI t) N (nI 0) (fil (mup M 12 47 0 (nI 0)) 12 52 0 92 ((mup M 12 47 0 (nI 0)) 12 48)) fun a b => mbnd (f_X12_back b) fun r M1 => some (a, M1)) = mbnd (f_X12_back M4) fun r M1 => some (nI (vis α t), M1) := p3
  have fin : wp (mbnd (f_X12_back M4) fun (r : Unit) M1 => some (nI (vis α t), M1)) (fun r M2 => Rel (n + 1) M2 ∧ r = nI (vis α t) ∧ M2 12 47 0 = nI 0) := by
    rw [m_back, wp_mbnd, wp_some, wp_some]
    refine ⟨think_back hW p2', rfl, ?_⟩
    rw [fil_ne (by decide), p2'.2 12 47 (by decide), fil_ne (by decide), mup_at, if_pos (by decide)]
  rw [← p3'] at fin
  simp only [m_back] at fin ⊢
  exact fin
theorem m_visitX {M : Mem} {α : Sp} {a1 : Int32} (hS : M 12 48 = enc α) (b10 : α 10 ≤ 3) (h : idx a1 8 = false ∨ idx a1 8 = true ∧ α 10 = 0) : f_X12_hoursUntilVisit a1 M = some (nI 0, mup M 12 47 0 (nI (if idx a1 8 then 2 else 1))) := by
  unfold f_X12_hoursUntilVisit
  generalize hN : (1000 : Nat) = N
  rcases h with e | ⟨e, h0⟩
  · simp (disch := omega) only [lit_0, lit_1, lit_2, lit_3, lit_4, lit_5, lit_6, lit_7, lit_8, lit_9, lit_10, lit_11, lit_12, lit_13, lit_14, lit_15, lit_16, lit_20, lit_23, lit_24, lit_31, lit_32, lit_39, lit_43, lit_45, lit_47, lit_48, lit_56, lit_57, lit_59, lit_60, lit_62, lit_63, lit_89, lit_92, lit_96, lit_97, lit_99, lit_100, lit_102, lit_103, lit_104, lit_110, lit_111, lit_115, lit_117, lit_194, lit_200, lit_644, lit_736, lit_999, lit_1000, lit_9999, lit_10000, lit_1000000000, ↓wp_mlet, ↓wp_mbp, ↓wp_ite, ↓wp_mix, ↓wp_mdiv, ↓wp_mnz, ↓wp_some, ↓wp_mbnd, ↓mlet_eq, ↓mbp_eq, ↓mbnd_eq, ↓mix_ite, ↓mdiv_ite, ↓mnz_ite, nI_add, nI_mul, nI_nat, nI_ltE, nI_leE, nI_eqE, nI_eqN, nI_Neq, nI_Nlt, nI_Nle, nI_ltN, nI_leN, ↓reduceIte, ↓Nat.reduceEqDiff, and_f, nt_e, nt_t, nl_t, nl_f, ne_t, ne_f, and_self, or_self, or_true, true_or, or_false, false_or, if_true, if_false, and_true, true_and, and_false, false_and, not_true, not_false_iff, toNat_0, Bool.false_and, Bool.true_and, Bool.and_false, Bool.and_true, Bool.false_eq_true, reduceCtorEq, Bool.true_eq_false, Bool.not_true, Bool.not_false, mup_at, up_at, fil_at, ↓reduceIte, ↓Nat.reduceEqDiff, and_f, nt_e, nt_t, nl_t, nl_f, ne_t, ne_f, and_self, or_self, or_true, true_or, or_false, false_or, if_true, if_false, and_true, true_and, and_false, false_and, not_true, not_false_iff, m_isZone, e]
  · simp (disch := omega) only [lit_0, lit_1, lit_2, lit_3, lit_4, lit_5, lit_6, lit_7, lit_8, lit_9, lit_10, lit_11, lit_12, lit_13, lit_14, lit_15, lit_16, lit_20, lit_23, lit_24, lit_31, lit_32, lit_39, lit_43, lit_45, lit_47, lit_48, lit_56, lit_57, lit_59, lit_60, lit_62, lit_63, lit_89, lit_92, lit_96, lit_97, lit_99, lit_100, lit_102, lit_103, lit_104, lit_110, lit_111, lit_115, lit_117, lit_194, lit_200, lit_644, lit_736, lit_999, lit_1000, lit_9999, lit_10000, lit_1000000000, ↓wp_mlet, ↓wp_mbp, ↓wp_ite, ↓wp_mix, ↓wp_mdiv, ↓wp_mnz, ↓wp_some, ↓wp_mbnd, ↓mlet_eq, ↓mbp_eq, ↓mbnd_eq, ↓mix_ite, ↓mdiv_ite, ↓mnz_ite, nI_add, nI_mul, nI_nat, nI_ltE, nI_leE, nI_eqE, nI_eqN, nI_Neq, nI_Nlt, nI_Nle, nI_ltN, nI_leN, ↓reduceIte, ↓Nat.reduceEqDiff, and_f, nt_e, nt_t, nl_t, nl_f, ne_t, ne_f, and_self, or_self, or_true, true_or, or_false, false_or, if_true, if_false, and_true, true_and, and_false, false_and, not_true, not_false_iff, toNat_0, Bool.false_and, Bool.true_and, Bool.and_false, Bool.and_true, Bool.false_eq_true, reduceCtorEq, Bool.true_eq_false, Bool.not_true, Bool.not_false, mup_at, up_at, fil_at, ↓reduceIte, ↓Nat.reduceEqDiff, and_f, nt_e, nt_t, nl_t, nl_f, ne_t, ne_f, and_self, or_self, or_true, true_or, or_false, false_or, if_true, if_false, and_true, true_and, and_false, false_and, not_true, not_false_iff, m_isZone, e, ms_n hS, h0]
theorem pair_hoursUntilVisit {n : Nat} {M : Mem} (hr : Rel n M) (hn : n < 512) (a1 : Int32) : Pair n (fun x => if x = 2 then 1 else if x = 4 then 2 else 0) M (f_X11_hoursUntilVisit a1) (f_X12_hoursUntilVisit a1) := by
  have hr' := Rel_thr hr
  obtain ⟨α, αh, αs, K, nx, fed, b, H, hW⟩ := hr
  obtain ⟨hR, hS, hHs, hs, hx, hi, hih, his, hbb⟩ := id hW
  have b10 : α 10 ≤ 3 := hi.1.2.2.2.2.2.2.2.2.2.2.1
  have e4 : M 0 6 4 = nI (α 10) := hR.2.2.1.2.2.1
  unfold Pair f_X11_hoursUntilVisit f_X11_requireZone f_X11_requireGuards
  rcases idx_c a1 8 (by decide) with ⟨t, ht, rfl, e1⟩ | ⟨e1, h⟩
  case inr =>
    simp (disch := omega) only [lit_0, lit_1, lit_2, lit_3, lit_4, lit_5, lit_6, lit_7, lit_8, lit_9, lit_10, lit_11, lit_12, lit_13, lit_14, lit_15, lit_16, lit_20, lit_23, lit_24, lit_31, lit_32, lit_39, lit_43, lit_45, lit_47, lit_48, lit_56, lit_57, lit_59, lit_60, lit_62, lit_63, lit_89, lit_92, lit_96, lit_97, lit_99, lit_100, lit_102, lit_103, lit_104, lit_110, lit_111, lit_115, lit_117, lit_194, lit_200, lit_644, lit_736, lit_999, lit_1000, lit_9999, lit_10000, lit_1000000000, ↓wp_mlet, ↓wp_mbp, ↓wp_ite, ↓wp_mix, ↓wp_mdiv, ↓wp_mnz, ↓wp_some, ↓wp_mbnd, ↓mlet_eq, ↓mbp_eq, ↓mbnd_eq, ↓mix_ite, ↓mdiv_ite, ↓mnz_ite, nI_add, nI_mul, nI_nat, nI_ltE, nI_leE, nI_eqE, nI_eqN, nI_Neq, nI_Nlt, nI_Nle, nI_ltN, nI_leN, ↓reduceIte, ↓Nat.reduceEqDiff, and_f, nt_e, nt_t, nl_t, nl_f, ne_t, ne_f, and_self, or_self, or_true, true_or, or_false, false_or, if_true, if_false, and_true, true_and, and_false, false_and, not_true, not_false_iff, toNat_0, Bool.false_and, Bool.true_and, Bool.and_false, Bool.and_true, Bool.false_eq_true, reduceCtorEq, Bool.true_eq_false, Bool.not_true, Bool.not_false, c_hasZone, e1, mbpxm_l, m_visitX hS b10 (Or.inl e1)]
    exact ⟨hr' _, thr0, by decide, by decide⟩
  by_cases h0 : α 10 = 0
  · simp (disch := omega) only [lit_0, lit_1, lit_2, lit_3, lit_4, lit_5, lit_6, lit_7, lit_8, lit_9, lit_10, lit_11, lit_12, lit_13, lit_14, lit_15, lit_16, lit_20, lit_23, lit_24, lit_31, lit_32, lit_39, lit_43, lit_45, lit_47, lit_48, lit_56, lit_57, lit_59, lit_60, lit_62, lit_63, lit_89, lit_92, lit_96, lit_97, lit_99, lit_100, lit_102, lit_103, lit_104, lit_110, lit_111, lit_115, lit_117, lit_194, lit_200, lit_644, lit_736, lit_999, lit_1000, lit_9999, lit_10000, lit_1000000000, ↓wp_mlet, ↓wp_mbp, ↓wp_ite, ↓wp_mix, ↓wp_mdiv, ↓wp_mnz, ↓wp_some, ↓wp_mbnd, ↓mlet_eq, ↓mbp_eq, ↓mbnd_eq, ↓mix_ite, ↓mdiv_ite, ↓mnz_ite, nI_add, nI_mul, nI_nat, nI_ltE, nI_leE, nI_eqE, nI_eqN, nI_Neq, nI_Nlt, nI_Nle, nI_ltN, nI_leN, ↓reduceIte, ↓Nat.reduceEqDiff, and_f, nt_e, nt_t, nl_t, nl_f, ne_t, ne_f, and_self, or_self, or_true, true_or, or_false, false_or, if_true, if_false, and_true, true_and, and_false, false_and, not_true, not_false_iff, toNat_0, Bool.false_and, Bool.true_and, Bool.and_false, Bool.and_true, Bool.false_eq_true, reduceCtorEq, Bool.true_eq_false, Bool.not_true, Bool.not_false, c_hasZone, e1, mbpxm_l, mbpxm_r, e4, h0, m_visitX hS b10 (Or.inr ⟨e1, h0⟩)]
    exact ⟨hr' _, thr0, by decide, by decide⟩
  · simp (disch := omega) only [lit_0, lit_1, lit_2, lit_3, lit_4, lit_5, lit_6, lit_7, lit_8, lit_9, lit_10, lit_11, lit_12, lit_13, lit_14, lit_15, lit_16, lit_20, lit_23, lit_24, lit_31, lit_32, lit_39, lit_43, lit_45, lit_47, lit_48, lit_56, lit_57, lit_59, lit_60, lit_62, lit_63, lit_89, lit_92, lit_96, lit_97, lit_99, lit_100, lit_102, lit_103, lit_104, lit_110, lit_111, lit_115, lit_117, lit_194, lit_200, lit_644, lit_736, lit_999, lit_1000, lit_9999, lit_10000, lit_1000000000, ↓wp_mlet, ↓wp_mbp, ↓wp_ite, ↓wp_mix, ↓wp_mdiv, ↓wp_mnz, ↓wp_some, ↓wp_mbnd, ↓mlet_eq, ↓mbp_eq, ↓mbnd_eq, ↓mix_ite, ↓mdiv_ite, ↓mnz_ite, nI_add, nI_mul, nI_nat, nI_ltE, nI_leE, nI_eqE, nI_eqN, nI_Neq, nI_Nlt, nI_Nle, nI_ltN, nI_leN, ↓reduceIte, ↓Nat.reduceEqDiff, and_f, nt_e, nt_t, nl_t, nl_f, ne_t, ne_f, and_self, or_self, or_true, true_or, or_false, false_or, if_true, if_false, and_true, true_and, and_false, false_and, not_true, not_false_iff, toNat_0, Bool.false_and, Bool.true_and, Bool.and_false, Bool.and_true, Bool.false_eq_true, reduceCtorEq, Bool.true_eq_false, Bool.not_true, Bool.not_false, c_hasZone, e1, mbpxm_l, mbpxm_r, e4, h0]
    refine wp_mono (c_visitH hR hi (by omega) ht (by omega)) ?_
    rintro r M1 ⟨rfl, q⟩
    refine wp_mono (m_visit (RelW_11 hW q) (by omega) ht (by omega)) ?_
    rintro r M2 ⟨p1, rfl, p3⟩
    exact ⟨p1, p3, rfl⟩
theorem pair_hoursUntilVisitByRemainders {n : Nat} {M : Mem} (hr : Rel n M) (hn : n < 512) (a1 : Int32) : PairG n (fun x => if x = 2 then 1 else if x = 4 then 2 else 0) M (f_X11_hoursUntilVisitByRemainders a1) (f_X12_hoursUntilVisitByRemainders a1) := by
  have hr' := Rel_thr hr
  obtain ⟨α, αh, αs, K, nx, fed, b, H, hW⟩ := hr
  obtain ⟨hR, hS, hHs, hs, hx, hi, hih, his, hbb⟩ := id hW
  have b10 : α 10 ≤ 3 := hi.1.2.2.2.2.2.2.2.2.2.2.1
  have e4 : M 0 6 4 = nI (α 10) := hR.2.2.1.2.2.1
  unfold f_X11_hoursUntilVisitByRemainders f_X11_requireZone f_X11_requireGuards f_X12_hoursUntilVisitByRemainders
  rcases idx_c a1 8 (by decide) with ⟨t, ht, rfl, e1⟩ | ⟨e1, h⟩
  case inr =>
    refine ⟨.inl 2, by simp (disch := omega) only [lit_0, lit_1, lit_2, lit_3, lit_4, lit_5, lit_6, lit_7, lit_8, lit_9, lit_10, lit_11, lit_12, lit_13, lit_14, lit_15, lit_16, lit_20, lit_23, lit_24, lit_31, lit_32, lit_39, lit_43, lit_45, lit_47, lit_48, lit_56, lit_57, lit_59, lit_60, lit_62, lit_63, lit_89, lit_92, lit_96, lit_97, lit_99, lit_100, lit_102, lit_103, lit_104, lit_110, lit_111, lit_115, lit_117, lit_194, lit_200, lit_644, lit_736, lit_999, lit_1000, lit_9999, lit_10000, lit_1000000000, ↓wp_mlet, ↓wp_mbp, ↓wp_ite, ↓wp_mix, ↓wp_mdiv, ↓wp_mnz, ↓wp_some, ↓wp_mbnd, ↓mlet_eq, ↓mbp_eq, ↓mbnd_eq, ↓mix_ite, ↓mdiv_ite, ↓mnz_ite, nI_add, nI_mul, nI_nat, nI_ltE, nI_leE, nI_eqE, nI_eqN, nI_Neq, nI_Nlt, nI_Nle, nI_ltN, nI_leN, ↓reduceIte, ↓Nat.reduceEqDiff, and_f, nt_e, nt_t, nl_t, nl_f, ne_t, ne_f, and_self, or_self, or_true, true_or, or_false, false_or, if_true, if_false, and_true, true_and, and_false, false_and, not_true, not_false_iff, toNat_0, Bool.false_and, Bool.true_and, Bool.and_false, Bool.and_true, Bool.false_eq_true, reduceCtorEq, Bool.true_eq_false, Bool.not_true, Bool.not_false, c_hasZone, e1, mbpx_l], ?_⟩
    simp (disch := omega) only [lit_0, lit_1, lit_2, lit_3, lit_4, lit_5, lit_6, lit_7, lit_8, lit_9, lit_10, lit_11, lit_12, lit_13, lit_14, lit_15, lit_16, lit_20, lit_23, lit_24, lit_31, lit_32, lit_39, lit_43, lit_45, lit_47, lit_48, lit_56, lit_57, lit_59, lit_60, lit_62, lit_63, lit_89, lit_92, lit_96, lit_97, lit_99, lit_100, lit_102, lit_103, lit_104, lit_110, lit_111, lit_115, lit_117, lit_194, lit_200, lit_644, lit_736, lit_999, lit_1000, lit_9999, lit_10000, lit_1000000000, ↓wp_mlet, ↓wp_mbp, ↓wp_ite, ↓wp_mix, ↓wp_mdiv, ↓wp_mnz, ↓wp_some, ↓wp_mbnd, ↓mlet_eq, ↓mbp_eq, ↓mbnd_eq, ↓mix_ite, ↓mdiv_ite, ↓mnz_ite, nI_add, nI_mul, nI_nat, nI_ltE, nI_leE, nI_eqE, nI_eqN, nI_Neq, nI_Nlt, nI_Nle, nI_ltN, nI_leN, ↓reduceIte, ↓Nat.reduceEqDiff, and_f, nt_e, nt_t, nl_t, nl_f, ne_t, ne_f, and_self, or_self, or_true, true_or, or_false, false_or, if_true, if_false, and_true, true_and, and_false, false_and, not_true, not_false_iff, toNat_0, Bool.false_and, Bool.true_and, Bool.and_false, Bool.and_true, Bool.false_eq_true, reduceCtorEq, Bool.true_eq_false, Bool.not_true, Bool.not_false, e1, m_visitX hS b10 (Or.inl e1)]
    exact ⟨hr' _, thr0, by decide, by decide⟩
  by_cases h0 : α 10 = 0
  · refine ⟨.inl 4, by simp (disch := omega) only [lit_0, lit_1, lit_2, lit_3, lit_4, lit_5, lit_6, lit_7, lit_8, lit_9, lit_10, lit_11, lit_12, lit_13, lit_14, lit_15, lit_16, lit_20, lit_23, lit_24, lit_31, lit_32, lit_39, lit_43, lit_45, lit_47, lit_48, lit_56, lit_57, lit_59, lit_60, lit_62, lit_63, lit_89, lit_92, lit_96, lit_97, lit_99, lit_100, lit_102, lit_103, lit_104, lit_110, lit_111, lit_115, lit_117, lit_194, lit_200, lit_644, lit_736, lit_999, lit_1000, lit_9999, lit_10000, lit_1000000000, ↓wp_mlet, ↓wp_mbp, ↓wp_ite, ↓wp_mix, ↓wp_mdiv, ↓wp_mnz, ↓wp_some, ↓wp_mbnd, ↓mlet_eq, ↓mbp_eq, ↓mbnd_eq, ↓mix_ite, ↓mdiv_ite, ↓mnz_ite, nI_add, nI_mul, nI_nat, nI_ltE, nI_leE, nI_eqE, nI_eqN, nI_Neq, nI_Nlt, nI_Nle, nI_ltN, nI_leN, ↓reduceIte, ↓Nat.reduceEqDiff, and_f, nt_e, nt_t, nl_t, nl_f, ne_t, ne_f, and_self, or_self, or_true, true_or, or_false, false_or, if_true, if_false, and_true, true_and, and_false, false_and, not_true, not_false_iff, toNat_0, Bool.false_and, Bool.true_and, Bool.and_false, Bool.and_true, Bool.false_eq_true, reduceCtorEq, Bool.true_eq_false, Bool.not_true, Bool.not_false, c_hasZone, e1, mbpx_l, mbpx_r, e4, h0], ?_⟩
    simp (disch := omega) only [lit_0, lit_1, lit_2, lit_3, lit_4, lit_5, lit_6, lit_7, lit_8, lit_9, lit_10, lit_11, lit_12, lit_13, lit_14, lit_15, lit_16, lit_20, lit_23, lit_24, lit_31, lit_32, lit_39, lit_43, lit_45, lit_47, lit_48, lit_56, lit_57, lit_59, lit_60, lit_62, lit_63, lit_89, lit_92, lit_96, lit_97, lit_99, lit_100, lit_102, lit_103, lit_104, lit_110, lit_111, lit_115, lit_117, lit_194, lit_200, lit_644, lit_736, lit_999, lit_1000, lit_9999, lit_10000, lit_1000000000, ↓wp_mlet, ↓wp_mbp, ↓wp_ite, ↓wp_mix, ↓wp_mdiv, ↓wp_mnz, ↓wp_some, ↓wp_mbnd, ↓mlet_eq, ↓mbp_eq, ↓mbnd_eq, ↓mix_ite, ↓mdiv_ite, ↓mnz_ite, nI_add, nI_mul, nI_nat, nI_ltE, nI_leE, nI_eqE, nI_eqN, nI_Neq, nI_Nlt, nI_Nle, nI_ltN, nI_leN, ↓reduceIte, ↓Nat.reduceEqDiff, and_f, nt_e, nt_t, nl_t, nl_f, ne_t, ne_f, and_self, or_self, or_true, true_or, or_false, false_or, if_true, if_false, and_true, true_and, and_false, false_and, not_true, not_false_iff, toNat_0, Bool.false_and, Bool.true_and, Bool.and_false, Bool.and_true, Bool.false_eq_true, reduceCtorEq, Bool.true_eq_false, Bool.not_true, Bool.not_false, e1, m_visitX hS b10 (Or.inr ⟨e1, h0⟩)]
    exact ⟨hr' _, thr0, by decide, by decide⟩
  · have ec := c_visitR (M := M) hR hi (by omega) ht
    refine ⟨.inr (nI (vis α t)), by simp (disch := omega) only [lit_0, lit_1, lit_2, lit_3, lit_4, lit_5, lit_6, lit_7, lit_8, lit_9, lit_10, lit_11, lit_12, lit_13, lit_14, lit_15, lit_16, lit_20, lit_23, lit_24, lit_31, lit_32, lit_39, lit_43, lit_45, lit_47, lit_48, lit_56, lit_57, lit_59, lit_60, lit_62, lit_63, lit_89, lit_92, lit_96, lit_97, lit_99, lit_100, lit_102, lit_103, lit_104, lit_110, lit_111, lit_115, lit_117, lit_194, lit_200, lit_644, lit_736, lit_999, lit_1000, lit_9999, lit_10000, lit_1000000000, ↓wp_mlet, ↓wp_mbp, ↓wp_ite, ↓wp_mix, ↓wp_mdiv, ↓wp_mnz, ↓wp_some, ↓wp_mbnd, ↓mlet_eq, ↓mbp_eq, ↓mbnd_eq, ↓mix_ite, ↓mdiv_ite, ↓mnz_ite, nI_add, nI_mul, nI_nat, nI_ltE, nI_leE, nI_eqE, nI_eqN, nI_Neq, nI_Nlt, nI_Nle, nI_ltN, nI_leN, ↓reduceIte, ↓Nat.reduceEqDiff, and_f, nt_e, nt_t, nl_t, nl_f, ne_t, ne_f, and_self, or_self, or_true, true_or, or_false, false_or, if_true, if_false, and_true, true_and, and_false, false_and, not_true, not_false_iff, toNat_0, Bool.false_and, Bool.true_and, Bool.and_false, Bool.and_true, Bool.false_eq_true, reduceCtorEq, Bool.true_eq_false, Bool.not_true, Bool.not_false, c_hasZone, e1, mbpx_l, mbpx_r, e4, h0, ec], ?_⟩
    rw [wp_mbnd]
    refine wp_mono (m_visit hW (by omega) ht (by omega)) ?_
    rintro r M2 ⟨p1, rfl, p3⟩
    rw [wp_some]
    exact ⟨p1, p3, rfl⟩
/-! zones by their noise -/
def kz (α : Sp) (z : Nat) : Nat := ((20 - α (31 + z)) * 1000001 + (1000000 - α (39 + z))) * 8 + z
def bf (α : Sp) (y z : Nat) : Bool := decide (kz α y < kz α z)
def cB (α : Sp) (z : Nat) : Nat → Nat
  | 0 => 0
  | x + 1 => cB α z x + (bf α x z).toNat
theorem cB_le (α : Sp) (z : Nat) : ∀ x, cB α z x ≤ x := by
  intro x
  induction x with
  | zero => exact Nat.le_refl _
  | succ x ih =>
    show cB α z x + (bf α x z).toNat ≤ x + 1
    cases bf α x z <;> simp <;> omega
theorem cB_self {α : Sp} {z : Nat} : ∀ x, z < x → cB α z x < x := by
  intro x
  induction x with
  | zero => intro h; exact absurd h (Nat.not_lt_zero _)
  | succ x ih =>
    intro h
    show cB α z x + (bf α x z).toNat < x + 1
    by_cases q : z = x
    · subst q
      have : bf α z z = false := by unfold bf; exact decide_eq_false (Nat.lt_irrefl _)
      rw [this]
      have := cB_le α z z
      show cB α z z + 0 < z + 1
      omega
    · have := ih (by omega)
      cases bf α x z <;> simp <;> omega
theorem cB_mono {α : Sp} {z w : Nat} (h : kz α z < kz α w) : ∀ x, cB α z x ≤ cB α w x ∧ (z < x → cB α z x < cB α w x) := by
  intro x
  induction x with
  | zero => exact ⟨Nat.le_refl _, fun h => absurd h (Nat.not_lt_zero _)⟩
  | succ x ih =>
    show cB α z x + (bf α x z).toNat ≤ cB α w x + (bf α x w).toNat ∧ (z < x + 1 → cB α z x + (bf α x z).toNat < cB α w x + (bf α x w).toNat)
    by_cases q : z = x
    · subst q
      have h1 : bf α z z = false := by unfold bf; exact decide_eq_false (Nat.lt_irrefl _)
      have h2 : bf α z w = true := by unfold bf; exact decide_eq_true h
      rw [h1, h2]
      show cB α z z + 0 ≤ cB α w z + 1 ∧ (z < z + 1 → cB α z z + 0 < cB α w z + 1)
      omega
    · have h3 : (bf α x z).toNat ≤ (bf α x w).toNat := by
        unfold bf
        by_cases q1 : kz α x < kz α z
        · rw [decide_eq_true q1, decide_eq_true (show kz α x < kz α w by omega)]
          exact Nat.le_refl _
        · rw [decide_eq_false q1]
          exact Nat.zero_le _
      refine ⟨by omega, fun hz => ?_⟩
      have := ih.2 (by omega)
      omega
/-- every rank is some zone's -/
theorem rank_ex (α : Sp) {r : Nat} (hr : r < 8) : ∃ z, z < 8 ∧ cB α z 8 = r := by
  refine Classical.byContradiction fun hn => ?_
  have hne : ∀ z, z < 8 → cB α z 8 ≠ r := fun z hz h => hn ⟨z, hz, h⟩
  have hlt : ∀ z, z < 8 → cB α z 8 < 8 := fun z hz => cB_self 8 hz
  obtain ⟨i, j, h1, h2, h3⟩ := pigeon 7 (fun z => if r < cB α z 8 then cB α z 8 - 1 else cB α z 8) (fun z hz => by
    have a1 := hne z (by omega)
    have a2 := hlt z (by omega)
    show (if r < cB α z 8 then cB α z 8 - 1 else cB α z 8) < 7
    split <;> omega)
  have h3' : (if r < cB α i 8 then cB α i 8 - 1 else cB α i 8) = (if r < cB α j 8 then cB α j 8 - 1 else cB α j 8) := h3
  have a1 := hne i (by omega)
  have a2 := hne j (by omega)
  have he : cB α i 8 = cB α j 8 := by
    split at h3' <;> split at h3' <;> omega
  have hk : kz α i ≠ kz α j := by unfold kz; omega
  rcases Nat.lt_or_gt_of_ne hk with h | h
  · have := (cB_mono h 8).2 (by omega)
    omega
  · have := (cB_mono h 8).2 (by omega)
    omega
theorem bf_eq {α : Sp} {y z : Nat} (hy : y < 8) (hz : z < 8) (b1 : α (31 + y) ≤ 20) (b2 : α (31 + z) ≤ 20) (c1 : α (39 + y) ≤ 1000000) (c2 : α (39 + z) ≤ 1000000) : bf α y z = (if α (31 + y) = α (31 + z) then (if α (39 + y) = α (39 + z) then decide (y < z) else decide (α (39 + z) < α (39 + y))) else decide (α (31 + z) < α (31 + y))) := by
  unfold bf kz
  by_cases h1 : α (31 + y) = α (31 + z)
  · rw [if_pos h1, h1]
    by_cases h2 : α (39 + y) = α (39 + z)
    · rw [if_pos h2, h2]
      congr 1
      exact propext ⟨fun h => by omega, fun h => by omega⟩
    · rw [if_neg h2]
      congr 1
      exact propext ⟨fun h => by omega, fun h => by omega⟩
  · rw [if_neg h1]
    congr 1
    exact propext ⟨fun h => by omega, fun h => by omega⟩
theorem c_before {M : Mem} {α : Sp} {H y z : Nat} (hR : RC (M 0) α) (hi : Inv H α) (hH : H < 900000) (hy : y < 8) (hz : z < 8) : f_X1_comesBefore 0 (nI y) (nI z) M = some (nI (bf α y z).toNat) := by
  obtain ⟨⟨b0, b1, b2, b3, b4, b5, b6, b7, b8, b9, b10, b11, b14⟩, i1, i2, bs, bk, bn, bz, bt, bg, bl⟩ := hi
  obtain ⟨p1, p2⟩ := bz y hy
  obtain ⟨p3, p4⟩ := bz z hz
  have n1 := hR.2.2.1.2.2.2.1 y hy
  have n2 := hR.2.2.1.2.2.2.1 z hz
  have a1 := hR.2.2.1.2.2.2.2.1 y hy
  have a2 := hR.2.2.1.2.2.2.2.1 z hz
  rw [bf_eq hy hz p1 p3 (by omega) (by omega)]
  unfold f_X1_comesBefore
  by_cases h1 : α (31 + y) = α (31 + z)
  · by_cases h2 : α (39 + y) = α (39 + z)
    · by_cases h3 : y < z
      · simp (disch := omega) only [lit_0, lit_1, lit_2, lit_3, lit_4, lit_5, lit_6, lit_7, lit_8, lit_9, lit_10, lit_11, lit_12, lit_13, lit_14, lit_15, lit_16, lit_20, lit_23, lit_24, lit_31, lit_32, lit_39, lit_43, lit_45, lit_47, lit_48, lit_56, lit_57, lit_59, lit_60, lit_62, lit_63, lit_89, lit_92, lit_96, lit_97, lit_99, lit_100, lit_102, lit_103, lit_104, lit_110, lit_111, lit_115, lit_117, lit_194, lit_200, lit_644, lit_736, lit_999, lit_1000, lit_9999, lit_10000, lit_1000000000, ↓wp_mlet, ↓wp_mbp, ↓wp_ite, ↓wp_mix, ↓wp_mdiv, ↓wp_mnz, ↓wp_some, ↓wp_mbnd, ↓mlet_eq, ↓mbp_eq, ↓mbnd_eq, ↓mix_ite, ↓mdiv_ite, ↓mnz_ite, nI_add, nI_mul, nI_nat, nI_ltE, nI_leE, nI_eqE, nI_eqN, nI_Neq, nI_Nlt, nI_Nle, nI_ltN, nI_leN, ↓reduceIte, ↓Nat.reduceEqDiff, and_f, nt_e, nt_t, nl_t, nl_f, ne_t, ne_f, and_self, or_self, or_true, true_or, or_false, false_or, if_true, if_false, and_true, true_and, and_false, false_and, not_true, not_false_iff, n1, n2, a1, a2, h1, h2, decide_true, Bool.toNat_true]
      · simp (disch := omega) only [lit_0, lit_1, lit_2, lit_3, lit_4, lit_5, lit_6, lit_7, lit_8, lit_9, lit_10, lit_11, lit_12, lit_13, lit_14, lit_15, lit_16, lit_20, lit_23, lit_24, lit_31, lit_32, lit_39, lit_43, lit_45, lit_47, lit_48, lit_56, lit_57, lit_59, lit_60, lit_62, lit_63, lit_89, lit_92, lit_96, lit_97, lit_99, lit_100, lit_102, lit_103, lit_104, lit_110, lit_111, lit_115, lit_117, lit_194, lit_200, lit_644, lit_736, lit_999, lit_1000, lit_9999, lit_10000, lit_1000000000, ↓wp_mlet, ↓wp_mbp, ↓wp_ite, ↓wp_mix, ↓wp_mdiv, ↓wp_mnz, ↓wp_some, ↓wp_mbnd, ↓mlet_eq, ↓mbp_eq, ↓mbnd_eq, ↓mix_ite, ↓mdiv_ite, ↓mnz_ite, nI_add, nI_mul, nI_nat, nI_ltE, nI_leE, nI_eqE, nI_eqN, nI_Neq, nI_Nlt, nI_Nle, nI_ltN, nI_leN, ↓reduceIte, ↓Nat.reduceEqDiff, and_f, nt_e, nt_t, nl_t, nl_f, ne_t, ne_f, and_self, or_self, or_true, true_or, or_false, false_or, if_true, if_false, and_true, true_and, and_false, false_and, not_true, not_false_iff, n1, n2, a1, a2, h1, h2, decide_false, Bool.toNat_false]
    · by_cases h3 : α (39 + z) < α (39 + y)
      · simp (disch := omega) only [lit_0, lit_1, lit_2, lit_3, lit_4, lit_5, lit_6, lit_7, lit_8, lit_9, lit_10, lit_11, lit_12, lit_13, lit_14, lit_15, lit_16, lit_20, lit_23, lit_24, lit_31, lit_32, lit_39, lit_43, lit_45, lit_47, lit_48, lit_56, lit_57, lit_59, lit_60, lit_62, lit_63, lit_89, lit_92, lit_96, lit_97, lit_99, lit_100, lit_102, lit_103, lit_104, lit_110, lit_111, lit_115, lit_117, lit_194, lit_200, lit_644, lit_736, lit_999, lit_1000, lit_9999, lit_10000, lit_1000000000, ↓wp_mlet, ↓wp_mbp, ↓wp_ite, ↓wp_mix, ↓wp_mdiv, ↓wp_mnz, ↓wp_some, ↓wp_mbnd, ↓mlet_eq, ↓mbp_eq, ↓mbnd_eq, ↓mix_ite, ↓mdiv_ite, ↓mnz_ite, nI_add, nI_mul, nI_nat, nI_ltE, nI_leE, nI_eqE, nI_eqN, nI_Neq, nI_Nlt, nI_Nle, nI_ltN, nI_leN, ↓reduceIte, ↓Nat.reduceEqDiff, and_f, nt_e, nt_t, nl_t, nl_f, ne_t, ne_f, and_self, or_self, or_true, true_or, or_false, false_or, if_true, if_false, and_true, true_and, and_false, false_and, not_true, not_false_iff, n1, n2, a1, a2, h1, h2, decide_true, Bool.toNat_true]
      · simp (disch := omega) only [lit_0, lit_1, lit_2, lit_3, lit_4, lit_5, lit_6, lit_7, lit_8, lit_9, lit_10, lit_11, lit_12, lit_13, lit_14, lit_15, lit_16, lit_20, lit_23, lit_24, lit_31, lit_32, lit_39, lit_43, lit_45, lit_47, lit_48, lit_56, lit_57, lit_59, lit_60, lit_62, lit_63, lit_89, lit_92, lit_96, lit_97, lit_99, lit_100, lit_102, lit_103, lit_104, lit_110, lit_111, lit_115, lit_117, lit_194, lit_200, lit_644, lit_736, lit_999, lit_1000, lit_9999, lit_10000, lit_1000000000, ↓wp_mlet, ↓wp_mbp, ↓wp_ite, ↓wp_mix, ↓wp_mdiv, ↓wp_mnz, ↓wp_some, ↓wp_mbnd, ↓mlet_eq, ↓mbp_eq, ↓mbnd_eq, ↓mix_ite, ↓mdiv_ite, ↓mnz_ite, nI_add, nI_mul, nI_nat, nI_ltE, nI_leE, nI_eqE, nI_eqN, nI_Neq, nI_Nlt, nI_Nle, nI_ltN, nI_leN, ↓reduceIte, ↓Nat.reduceEqDiff, and_f, nt_e, nt_t, nl_t, nl_f, ne_t, ne_f, and_self, or_self, or_true, true_or, or_false, false_or, if_true, if_false, and_true, true_and, and_false, false_and, not_true, not_false_iff, n1, n2, a1, a2, h1, h2, decide_false, Bool.toNat_false]
  · by_cases h3 : α (31 + z) < α (31 + y)
    · simp (disch := omega) only [lit_0, lit_1, lit_2, lit_3, lit_4, lit_5, lit_6, lit_7, lit_8, lit_9, lit_10, lit_11, lit_12, lit_13, lit_14, lit_15, lit_16, lit_20, lit_23, lit_24, lit_31, lit_32, lit_39, lit_43, lit_45, lit_47, lit_48, lit_56, lit_57, lit_59, lit_60, lit_62, lit_63, lit_89, lit_92, lit_96, lit_97, lit_99, lit_100, lit_102, lit_103, lit_104, lit_110, lit_111, lit_115, lit_117, lit_194, lit_200, lit_644, lit_736, lit_999, lit_1000, lit_9999, lit_10000, lit_1000000000, ↓wp_mlet, ↓wp_mbp, ↓wp_ite, ↓wp_mix, ↓wp_mdiv, ↓wp_mnz, ↓wp_some, ↓wp_mbnd, ↓mlet_eq, ↓mbp_eq, ↓mbnd_eq, ↓mix_ite, ↓mdiv_ite, ↓mnz_ite, nI_add, nI_mul, nI_nat, nI_ltE, nI_leE, nI_eqE, nI_eqN, nI_Neq, nI_Nlt, nI_Nle, nI_ltN, nI_leN, ↓reduceIte, ↓Nat.reduceEqDiff, and_f, nt_e, nt_t, nl_t, nl_f, ne_t, ne_f, and_self, or_self, or_true, true_or, or_false, false_or, if_true, if_false, and_true, true_and, and_false, false_and, not_true, not_false_iff, n1, n2, h1, decide_true, Bool.toNat_true]
    · simp (disch := omega) only [lit_0, lit_1, lit_2, lit_3, lit_4, lit_5, lit_6, lit_7, lit_8, lit_9, lit_10, lit_11, lit_12, lit_13, lit_14, lit_15, lit_16, lit_20, lit_23, lit_24, lit_31, lit_32, lit_39, lit_43, lit_45, lit_47, lit_48, lit_56, lit_57, lit_59, lit_60, lit_62, lit_63, lit_89, lit_92, lit_96, lit_97, lit_99, lit_100, lit_102, lit_103, lit_104, lit_110, lit_111, lit_115, lit_117, lit_194, lit_200, lit_644, lit_736, lit_999, lit_1000, lit_9999, lit_10000, lit_1000000000, ↓wp_mlet, ↓wp_mbp, ↓wp_ite, ↓wp_mix, ↓wp_mdiv, ↓wp_mnz, ↓wp_some, ↓wp_mbnd, ↓mlet_eq, ↓mbp_eq, ↓mbnd_eq, ↓mix_ite, ↓mdiv_ite, ↓mnz_ite, nI_add, nI_mul, nI_nat, nI_ltE, nI_leE, nI_eqE, nI_eqN, nI_Neq, nI_Nlt, nI_Nle, nI_ltN, nI_leN, ↓reduceIte, ↓Nat.reduceEqDiff, and_f, nt_e, nt_t, nl_t, nl_f, ne_t, ne_f, and_self, or_self, or_true, true_or, or_false, false_or, if_true, if_false, and_true, true_and, and_false, false_and, not_true, not_false_iff, n1, n2, h1, decide_false, Bool.toNat_false]
theorem m_ahead {M : Mem} {α : Sp} {H y z : Nat} (hS : M 12 48 = enc α) (hi : Inv H α) (hH : H < 900000) (hy : y < 8) (hz : z < 8) : f_X12_isAhead (nI y) (nI z) M = some (nI (bf α y z).toNat) := by
  obtain ⟨⟨b0, b1, b2, b3, b4, b5, b6, b7, b8, b9, b10, b11, b14⟩, i1, i2, bs, bk, bn, bz, bt, bg, bl⟩ := hi
  obtain ⟨p1, p2⟩ := bz y hy
  obtain ⟨p3, p4⟩ := bz z hz
  rw [bf_eq hy hz p1 p3 (by omega) (by omega)]
  unfold f_X12_isAhead
  by_cases h1 : α (31 + y) = α (31 + z)
  · by_cases h2 : α (39 + y) = α (39 + z)
    · by_cases h3 : y < z
      · simp (disch := omega) only [lit_0, lit_1, lit_2, lit_3, lit_4, lit_5, lit_6, lit_7, lit_8, lit_9, lit_10, lit_11, lit_12, lit_13, lit_14, lit_15, lit_16, lit_20, lit_23, lit_24, lit_31, lit_32, lit_39, lit_43, lit_45, lit_47, lit_48, lit_56, lit_57, lit_59, lit_60, lit_62, lit_63, lit_89, lit_92, lit_96, lit_97, lit_99, lit_100, lit_102, lit_103, lit_104, lit_110, lit_111, lit_115, lit_117, lit_194, lit_200, lit_644, lit_736, lit_999, lit_1000, lit_9999, lit_10000, lit_1000000000, ↓wp_mlet, ↓wp_mbp, ↓wp_ite, ↓wp_mix, ↓wp_mdiv, ↓wp_mnz, ↓wp_some, ↓wp_mbnd, ↓mlet_eq, ↓mbp_eq, ↓mbnd_eq, ↓mix_ite, ↓mdiv_ite, ↓mnz_ite, nI_add, nI_mul, nI_nat, nI_ltE, nI_leE, nI_eqE, nI_eqN, nI_Neq, nI_Nlt, nI_Nle, nI_ltN, nI_leN, ↓reduceIte, ↓Nat.reduceEqDiff, and_f, nt_e, nt_t, nl_t, nl_f, ne_t, ne_f, and_self, or_self, or_true, true_or, or_false, false_or, if_true, if_false, and_true, true_and, and_false, false_and, not_true, not_false_iff, ms_n hS, h1, h2, decide_true, Bool.toNat_true]
      · simp (disch := omega) only [lit_0, lit_1, lit_2, lit_3, lit_4, lit_5, lit_6, lit_7, lit_8, lit_9, lit_10, lit_11, lit_12, lit_13, lit_14, lit_15, lit_16, lit_20, lit_23, lit_24, lit_31, lit_32, lit_39, lit_43, lit_45, lit_47, lit_48, lit_56, lit_57, lit_59, lit_60, lit_62, lit_63, lit_89, lit_92, lit_96, lit_97, lit_99, lit_100, lit_102, lit_103, lit_104, lit_110, lit_111, lit_115, lit_117, lit_194, lit_200, lit_644, lit_736, lit_999, lit_1000, lit_9999, lit_10000, lit_1000000000, ↓wp_mlet, ↓wp_mbp, ↓wp_ite, ↓wp_mix, ↓wp_mdiv, ↓wp_mnz, ↓wp_some, ↓wp_mbnd, ↓mlet_eq, ↓mbp_eq, ↓mbnd_eq, ↓mix_ite, ↓mdiv_ite, ↓mnz_ite, nI_add, nI_mul, nI_nat, nI_ltE, nI_leE, nI_eqE, nI_eqN, nI_Neq, nI_Nlt, nI_Nle, nI_ltN, nI_leN, ↓reduceIte, ↓Nat.reduceEqDiff, and_f, nt_e, nt_t, nl_t, nl_f, ne_t, ne_f, and_self, or_self, or_true, true_or, or_false, false_or, if_true, if_false, and_true, true_and, and_false, false_and, not_true, not_false_iff, ms_n hS, h1, h2, decide_false, Bool.toNat_false]
    · by_cases h3 : α (39 + z) < α (39 + y)
      · simp (disch := omega) only [lit_0, lit_1, lit_2, lit_3, lit_4, lit_5, lit_6, lit_7, lit_8, lit_9, lit_10, lit_11, lit_12, lit_13, lit_14, lit_15, lit_16, lit_20, lit_23, lit_24, lit_31, lit_32, lit_39, lit_43, lit_45, lit_47, lit_48, lit_56, lit_57, lit_59, lit_60, lit_62, lit_63, lit_89, lit_92, lit_96, lit_97, lit_99, lit_100, lit_102, lit_103, lit_104, lit_110, lit_111, lit_115, lit_117, lit_194, lit_200, lit_644, lit_736, lit_999, lit_1000, lit_9999, lit_10000, lit_1000000000, ↓wp_mlet, ↓wp_mbp, ↓wp_ite, ↓wp_mix, ↓wp_mdiv, ↓wp_mnz, ↓wp_some, ↓wp_mbnd, ↓mlet_eq, ↓mbp_eq, ↓mbnd_eq, ↓mix_ite, ↓mdiv_ite, ↓mnz_ite, nI_add, nI_mul, nI_nat, nI_ltE, nI_leE, nI_eqE, nI_eqN, nI_Neq, nI_Nlt, nI_Nle, nI_ltN, nI_leN, ↓reduceIte, ↓Nat.reduceEqDiff, and_f, nt_e, nt_t, nl_t, nl_f, ne_t, ne_f, and_self, or_self, or_true, true_or, or_false, false_or, if_true, if_false, and_true, true_and, and_false, false_and, not_true, not_false_iff, ms_n hS, h1, h2, decide_true, Bool.toNat_true]
      · simp (disch := omega) only [lit_0, lit_1, lit_2, lit_3, lit_4, lit_5, lit_6, lit_7, lit_8, lit_9, lit_10, lit_11, lit_12, lit_13, lit_14, lit_15, lit_16, lit_20, lit_23, lit_24, lit_31, lit_32, lit_39, lit_43, lit_45, lit_47, lit_48, lit_56, lit_57, lit_59, lit_60, lit_62, lit_63, lit_89, lit_92, lit_96, lit_97, lit_99, lit_100, lit_102, lit_103, lit_104, lit_110, lit_111, lit_115, lit_117, lit_194, lit_200, lit_644, lit_736, lit_999, lit_1000, lit_9999, lit_10000, lit_1000000000, ↓wp_mlet, ↓wp_mbp, ↓wp_ite, ↓wp_mix, ↓wp_mdiv, ↓wp_mnz, ↓wp_some, ↓wp_mbnd, ↓mlet_eq, ↓mbp_eq, ↓mbnd_eq, ↓mix_ite, ↓mdiv_ite, ↓mnz_ite, nI_add, nI_mul, nI_nat, nI_ltE, nI_leE, nI_eqE, nI_eqN, nI_Neq, nI_Nlt, nI_Nle, nI_ltN, nI_leN, ↓reduceIte, ↓Nat.reduceEqDiff, and_f, nt_e, nt_t, nl_t, nl_f, ne_t, ne_f, and_self, or_self, or_true, true_or, or_false, false_or, if_true, if_false, and_true, true_and, and_false, false_and, not_true, not_false_iff, ms_n hS, h1, h2, decide_false, Bool.toNat_false]
  · by_cases h3 : α (31 + z) < α (31 + y)
    · simp (disch := omega) only [lit_0, lit_1, lit_2, lit_3, lit_4, lit_5, lit_6, lit_7, lit_8, lit_9, lit_10, lit_11, lit_12, lit_13, lit_14, lit_15, lit_16, lit_20, lit_23, lit_24, lit_31, lit_32, lit_39, lit_43, lit_45, lit_47, lit_48, lit_56, lit_57, lit_59, lit_60, lit_62, lit_63, lit_89, lit_92, lit_96, lit_97, lit_99, lit_100, lit_102, lit_103, lit_104, lit_110, lit_111, lit_115, lit_117, lit_194, lit_200, lit_644, lit_736, lit_999, lit_1000, lit_9999, lit_10000, lit_1000000000, ↓wp_mlet, ↓wp_mbp, ↓wp_ite, ↓wp_mix, ↓wp_mdiv, ↓wp_mnz, ↓wp_some, ↓wp_mbnd, ↓mlet_eq, ↓mbp_eq, ↓mbnd_eq, ↓mix_ite, ↓mdiv_ite, ↓mnz_ite, nI_add, nI_mul, nI_nat, nI_ltE, nI_leE, nI_eqE, nI_eqN, nI_Neq, nI_Nlt, nI_Nle, nI_ltN, nI_leN, ↓reduceIte, ↓Nat.reduceEqDiff, and_f, nt_e, nt_t, nl_t, nl_f, ne_t, ne_f, and_self, or_self, or_true, true_or, or_false, false_or, if_true, if_false, and_true, true_and, and_false, false_and, not_true, not_false_iff, ms_n hS, h1, decide_true, Bool.toNat_true]
    · simp (disch := omega) only [lit_0, lit_1, lit_2, lit_3, lit_4, lit_5, lit_6, lit_7, lit_8, lit_9, lit_10, lit_11, lit_12, lit_13, lit_14, lit_15, lit_16, lit_20, lit_23, lit_24, lit_31, lit_32, lit_39, lit_43, lit_45, lit_47, lit_48, lit_56, lit_57, lit_59, lit_60, lit_62, lit_63, lit_89, lit_92, lit_96, lit_97, lit_99, lit_100, lit_102, lit_103, lit_104, lit_110, lit_111, lit_115, lit_117, lit_194, lit_200, lit_644, lit_736, lit_999, lit_1000, lit_9999, lit_10000, lit_1000000000, ↓wp_mlet, ↓wp_mbp, ↓wp_ite, ↓wp_mix, ↓wp_mdiv, ↓wp_mnz, ↓wp_some, ↓wp_mbnd, ↓mlet_eq, ↓mbp_eq, ↓mbnd_eq, ↓mix_ite, ↓mdiv_ite, ↓mnz_ite, nI_add, nI_mul, nI_nat, nI_ltE, nI_leE, nI_eqE, nI_eqN, nI_Neq, nI_Nlt, nI_Nle, nI_ltN, nI_leN, ↓reduceIte, ↓Nat.reduceEqDiff, and_f, nt_e, nt_t, nl_t, nl_f, ne_t, ne_f, and_self, or_self, or_true, true_or, or_false, false_or, if_true, if_false, and_true, true_and, and_false, false_and, not_true, not_false_iff, ms_n hS, h1, decide_false, Bool.toNat_false]
theorem c_rank {M : Mem} {α : Sp} {H z : Nat} (hR : RC (M 0) α) (hi : Inv H α) (hH : H < 900000) (hz : z < 8) : f_X1_rankOf 0 (nI z) M = some (nI (cB α z 8)) := by
  unfold f_X1_rankOf
  generalize hN : (1000 : Nat) = N
  have key := mloop (F := fun m x (s : Int32) kk => f_X1_rankOf_L4 0 (nI z) M m s x kk) (c := 8) (fun x => nI (cB α z x)) (fun m x kk hx => by
    have e := c_before (M := M) hR hi hH hx hz
    show f_X1_rankOf_L4 0 (nI z) M (m + 1) (nI (cB α z x)) (nI x) kk = f_X1_rankOf_L4 0 (nI z) M m (nI (cB α z x + (bf α x z).toNat)) (nI (x + 1)) kk
    rw [f_X1_rankOf_L4.eq_2]
    cases q : bf α x z
    · rw [q] at e
      simp (disch := omega) only [lit_0, lit_1, lit_2, lit_3, lit_4, lit_5, lit_6, lit_7, lit_8, lit_9, lit_10, lit_11, lit_12, lit_13, lit_14, lit_15, lit_16, lit_20, lit_23, lit_24, lit_31, lit_32, lit_39, lit_43, lit_45, lit_47, lit_48, lit_56, lit_57, lit_59, lit_60, lit_62, lit_63, lit_89, lit_92, lit_96, lit_97, lit_99, lit_100, lit_102, lit_103, lit_104, lit_110, lit_111, lit_115, lit_117, lit_194, lit_200, lit_644, lit_736, lit_999, lit_1000, lit_9999, lit_10000, lit_1000000000, ↓wp_mlet, ↓wp_mbp, ↓wp_ite, ↓wp_mix, ↓wp_mdiv, ↓wp_mnz, ↓wp_some, ↓wp_mbnd, ↓mlet_eq, ↓mbp_eq, ↓mbnd_eq, ↓mix_ite, ↓mdiv_ite, ↓mnz_ite, nI_add, nI_mul, nI_nat, nI_ltE, nI_leE, nI_eqE, nI_eqN, nI_Neq, nI_Nlt, nI_Nle, nI_ltN, nI_leN, ↓reduceIte, ↓Nat.reduceEqDiff, and_f, nt_e, nt_t, nl_t, nl_f, ne_t, ne_f, and_self, or_self, or_true, true_or, or_false, false_or, if_true, if_false, and_true, true_and, and_false, false_and, not_true, not_false_iff, e, Bool.toNat_false, Nat.add_zero]
    · rw [q] at e
      simp (disch := omega) only [lit_0, lit_1, lit_2, lit_3, lit_4, lit_5, lit_6, lit_7, lit_8, lit_9, lit_10, lit_11, lit_12, lit_13, lit_14, lit_15, lit_16, lit_20, lit_23, lit_24, lit_31, lit_32, lit_39, lit_43, lit_45, lit_47, lit_48, lit_56, lit_57, lit_59, lit_60, lit_62, lit_63, lit_89, lit_92, lit_96, lit_97, lit_99, lit_100, lit_102, lit_103, lit_104, lit_110, lit_111, lit_115, lit_117, lit_194, lit_200, lit_644, lit_736, lit_999, lit_1000, lit_9999, lit_10000, lit_1000000000, ↓wp_mlet, ↓wp_mbp, ↓wp_ite, ↓wp_mix, ↓wp_mdiv, ↓wp_mnz, ↓wp_some, ↓wp_mbnd, ↓mlet_eq, ↓mbp_eq, ↓mbnd_eq, ↓mix_ite, ↓mdiv_ite, ↓mnz_ite, nI_add, nI_mul, nI_nat, nI_ltE, nI_leE, nI_eqE, nI_eqN, nI_Neq, nI_Nlt, nI_Nle, nI_ltN, nI_leN, ↓reduceIte, ↓Nat.reduceEqDiff, and_f, nt_e, nt_t, nl_t, nl_f, ne_t, ne_f, and_self, or_self, or_true, true_or, or_false, false_or, if_true, if_false, and_true, true_and, and_false, false_and, not_true, not_false_iff, e, Bool.toNat_true]) (fun m kk => by
    show f_X1_rankOf_L4 0 (nI z) M (m + 1) (nI (cB α z 8)) (nI 8) kk = kk (nI (cB α z 8))
    rw [f_X1_rankOf_L4.eq_2]
    simp (disch := omega) only [lit_0, lit_1, lit_2, lit_3, lit_4, lit_5, lit_6, lit_7, lit_8, lit_9, lit_10, lit_11, lit_12, lit_13, lit_14, lit_15, lit_16, lit_20, lit_23, lit_24, lit_31, lit_32, lit_39, lit_43, lit_45, lit_47, lit_48, lit_56, lit_57, lit_59, lit_60, lit_62, lit_63, lit_89, lit_92, lit_96, lit_97, lit_99, lit_100, lit_102, lit_103, lit_104, lit_110, lit_111, lit_115, lit_117, lit_194, lit_200, lit_644, lit_736, lit_999, lit_1000, lit_9999, lit_10000, lit_1000000000, ↓wp_mlet, ↓wp_mbp, ↓wp_ite, ↓wp_mix, ↓wp_mdiv, ↓wp_mnz, ↓wp_some, ↓wp_mbnd, ↓mlet_eq, ↓mbp_eq, ↓mbnd_eq, ↓mix_ite, ↓mdiv_ite, ↓mnz_ite, nI_add, nI_mul, nI_nat, nI_ltE, nI_leE, nI_eqE, nI_eqN, nI_Neq, nI_Nlt, nI_Nle, nI_ltN, nI_leN, ↓reduceIte, ↓Nat.reduceEqDiff, and_f, nt_e, nt_t, nl_t, nl_f, ne_t, ne_f, and_self, or_self, or_true, true_or, or_false, false_or, if_true, if_false, and_true, true_and, and_false, false_and, not_true, not_false_iff])
  have := key 8 N 0 (fun x10 => some x10) (by omega) (by omega)
  rw [lit_0]
  exact this
theorem m_rank {M : Mem} {α : Sp} {H z N : Nat} (hN : 1000 = N) (hS : M 12 48 = enc α) (hi : Inv H α) (hH : H < 900000) (hz : z < 8) (kk : Int32 → Option (Int32 × Mem)) : f_X12_zoneByNoise_L18 M (nI z) N (nI 0) (nI 0) kk = kk (nI (cB α z 8)) := by
  have key := mloop (F := fun m x (s : Int32) kk => f_X12_zoneByNoise_L18 M (nI z) m s x kk) (c := 8) (fun x => nI (cB α z x)) (fun m x kk hx => by
    have e := m_ahead (M := M) hS hi hH hx hz
    show f_X12_zoneByNoise_L18 M (nI z) (m + 1) (nI (cB α z x)) (nI x) kk = f_X12_zoneByNoise_L18 M (nI z) m (nI (cB α z x + (bf α x z).toNat)) (nI (x + 1)) kk
    rw [f_X12_zoneByNoise_L18.eq_2]
    by_cases qz : x = z
    · subst qz
      have : bf α x x = false := by unfold bf; exact decide_eq_false (Nat.lt_irrefl _)
      rw [this]
      simp (disch := omega) only [lit_0, lit_1, lit_2, lit_3, lit_4, lit_5, lit_6, lit_7, lit_8, lit_9, lit_10, lit_11, lit_12, lit_13, lit_14, lit_15, lit_16, lit_20, lit_23, lit_24, lit_31, lit_32, lit_39, lit_43, lit_45, lit_47, lit_48, lit_56, lit_57, lit_59, lit_60, lit_62, lit_63, lit_89, lit_92, lit_96, lit_97, lit_99, lit_100, lit_102, lit_103, lit_104, lit_110, lit_111, lit_115, lit_117, lit_194, lit_200, lit_644, lit_736, lit_999, lit_1000, lit_9999, lit_10000, lit_1000000000, ↓wp_mlet, ↓wp_mbp, ↓wp_ite, ↓wp_mix, ↓wp_mdiv, ↓wp_mnz, ↓wp_some, ↓wp_mbnd, ↓mlet_eq, ↓mbp_eq, ↓mbnd_eq, ↓mix_ite, ↓mdiv_ite, ↓mnz_ite, nI_add, nI_mul, nI_nat, nI_ltE, nI_leE, nI_eqE, nI_eqN, nI_Neq, nI_Nlt, nI_Nle, nI_ltN, nI_leN, ↓reduceIte, ↓Nat.reduceEqDiff, and_f, nt_e, nt_t, nl_t, nl_f, ne_t, ne_f, and_self, or_self, or_true, true_or, or_false, false_or, if_true, if_false, and_true, true_and, and_false, false_and, not_true, not_false_iff, Bool.toNat_false, Nat.add_zero]
    · cases q : bf α x z
      · rw [q] at e
        simp (disch := omega) only [lit_0, lit_1, lit_2, lit_3, lit_4, lit_5, lit_6, lit_7, lit_8, lit_9, lit_10, lit_11, lit_12, lit_13, lit_14, lit_15, lit_16, lit_20, lit_23, lit_24, lit_31, lit_32, lit_39, lit_43, lit_45, lit_47, lit_48, lit_56, lit_57, lit_59, lit_60, lit_62, lit_63, lit_89, lit_92, lit_96, lit_97, lit_99, lit_100, lit_102, lit_103, lit_104, lit_110, lit_111, lit_115, lit_117, lit_194, lit_200, lit_644, lit_736, lit_999, lit_1000, lit_9999, lit_10000, lit_1000000000, ↓wp_mlet, ↓wp_mbp, ↓wp_ite, ↓wp_mix, ↓wp_mdiv, ↓wp_mnz, ↓wp_some, ↓wp_mbnd, ↓mlet_eq, ↓mbp_eq, ↓mbnd_eq, ↓mix_ite, ↓mdiv_ite, ↓mnz_ite, nI_add, nI_mul, nI_nat, nI_ltE, nI_leE, nI_eqE, nI_eqN, nI_Neq, nI_Nlt, nI_Nle, nI_ltN, nI_leN, ↓reduceIte, ↓Nat.reduceEqDiff, and_f, nt_e, nt_t, nl_t, nl_f, ne_t, ne_f, and_self, or_self, or_true, true_or, or_false, false_or, if_true, if_false, and_true, true_and, and_false, false_and, not_true, not_false_iff, e, qz, Bool.toNat_false, Nat.add_zero]
      · rw [q] at e
        simp (disch := omega) only [lit_0, lit_1, lit_2, lit_3, lit_4, lit_5, lit_6, lit_7, lit_8, lit_9, lit_10, lit_11, lit_12, lit_13, lit_14, lit_15, lit_16, lit_20, lit_23, lit_24, lit_31, lit_32, lit_39, lit_43, lit_45, lit_47, lit_48, lit_56, lit_57, lit_59, lit_60, lit_62, lit_63, lit_89, lit_92, lit_96, lit_97, lit_99, lit_100, lit_102, lit_103, lit_104, lit_110, lit_111, lit_115, lit_117, lit_194, lit_200, lit_644, lit_736, lit_999, lit_1000, lit_9999, lit_10000, lit_1000000000, ↓wp_mlet, ↓wp_mbp, ↓wp_ite, ↓wp_mix, ↓wp_mdiv, ↓wp_mnz, ↓wp_some, ↓wp_mbnd, ↓mlet_eq, ↓mbp_eq, ↓mbnd_eq, ↓mix_ite, ↓mdiv_ite, ↓mnz_ite, nI_add, nI_mul, nI_nat, nI_ltE, nI_leE, nI_eqE, nI_eqN, nI_Neq, nI_Nlt, nI_Nle, nI_ltN, nI_leN, ↓reduceIte, ↓Nat.reduceEqDiff, and_f, nt_e, nt_t, nl_t, nl_f, ne_t, ne_f, and_self, or_self, or_true, true_or, or_false, false_or, if_true, if_false, and_true, true_and, and_false, false_and, not_true, not_false_iff, e, qz, Bool.toNat_true]) (fun m kk => by
    show f_X12_zoneByNoise_L18 M (nI z) (m + 1) (nI (cB α z 8)) (nI 8) kk = kk (nI (cB α z 8))
    rw [f_X12_zoneByNoise_L18.eq_2]
    simp (disch := omega) only [lit_0, lit_1, lit_2, lit_3, lit_4, lit_5, lit_6, lit_7, lit_8, lit_9, lit_10, lit_11, lit_12, lit_13, lit_14, lit_15, lit_16, lit_20, lit_23, lit_24, lit_31, lit_32, lit_39, lit_43, lit_45, lit_47, lit_48, lit_56, lit_57, lit_59, lit_60, lit_62, lit_63, lit_89, lit_92, lit_96, lit_97, lit_99, lit_100, lit_102, lit_103, lit_104, lit_110, lit_111, lit_115, lit_117, lit_194, lit_200, lit_644, lit_736, lit_999, lit_1000, lit_9999, lit_10000, lit_1000000000, ↓wp_mlet, ↓wp_mbp, ↓wp_ite, ↓wp_mix, ↓wp_mdiv, ↓wp_mnz, ↓wp_some, ↓wp_mbnd, ↓mlet_eq, ↓mbp_eq, ↓mbnd_eq, ↓mix_ite, ↓mdiv_ite, ↓mnz_ite, nI_add, nI_mul, nI_nat, nI_ltE, nI_leE, nI_eqE, nI_eqN, nI_Neq, nI_Nlt, nI_Nle, nI_ltN, nI_leN, ↓reduceIte, ↓Nat.reduceEqDiff, and_f, nt_e, nt_t, nl_t, nl_f, ne_t, ne_f, and_self, or_self, or_true, true_or, or_false, false_or, if_true, if_false, and_true, true_and, and_false, false_and, not_true, not_false_iff])
  exact key 8 N 0 kk (by omega) (by omega)
def rkP (α : Sp) (a1 : Int32) : Nat → Bool := fun z => decide (nI (cB α z 8) = a1)
theorem rkP_at (α : Sp) (a1 : Int32) (z : Nat) : (rkP α a1 z = true) = (nI (cB α z 8) = a1) := by unfold rkP; exact propext decide_eq_true_iff
theorem m_zoneL {M : Mem} {α : Sp} {H N e : Nat} {a1 : Int32} (he : e = 8) (hN : 1000 = N) (hS : M 12 48 = enc α) (hi : Inv H α) (hH : H < 900000) (kk : Unit → Option (Int32 × Mem)) : (∀ w, fnd (rkP α a1) 0 e = some w → f_X12_zoneByNoise_L7 a1 M N (nI 0) kk = some (nI w, M)) ∧ (fnd (rkP α a1) 0 e = none → f_X12_zoneByNoise_L7 a1 M N (nI 0) kk = kk ()) := by
  have h := floop (β := Int32 × Mem) (F := fun m x kk => f_X12_zoneByNoise_L7 a1 M m x kk) (c := 8) (rkP α a1) (fun z => (nI z, M)) (fun m x kk hx => by
    show f_X12_zoneByNoise_L7 a1 M (m + 1) (nI x) kk = _
    rw [f_X12_zoneByNoise_L7.eq_2]
    generalize hN2 : (1000 : Nat) = N2
    have em := fun kk => m_rank hN2 hS hi hH hx kk
    simp (disch := omega) only [lit_0, lit_1, lit_2, lit_3, lit_4, lit_5, lit_6, lit_7, lit_8, lit_9, lit_10, lit_11, lit_12, lit_13, lit_14, lit_15, lit_16, lit_20, lit_23, lit_24, lit_31, lit_32, lit_39, lit_43, lit_45, lit_47, lit_48, lit_56, lit_57, lit_59, lit_60, lit_62, lit_63, lit_89, lit_92, lit_96, lit_97, lit_99, lit_100, lit_102, lit_103, lit_104, lit_110, lit_111, lit_115, lit_117, lit_194, lit_200, lit_644, lit_736, lit_999, lit_1000, lit_9999, lit_10000, lit_1000000000, ↓wp_mlet, ↓wp_mbp, ↓wp_ite, ↓wp_mix, ↓wp_mdiv, ↓wp_mnz, ↓wp_some, ↓wp_mbnd, ↓mlet_eq, ↓mbp_eq, ↓mbnd_eq, ↓mix_ite, ↓mdiv_ite, ↓mnz_ite, nI_add, nI_mul, nI_nat, nI_ltE, nI_leE, nI_eqE, nI_eqN, nI_Neq, nI_Nlt, nI_Nle, nI_ltN, nI_leN, ↓reduceIte, ↓Nat.reduceEqDiff, and_f, nt_e, nt_t, nl_t, nl_f, ne_t, ne_f, and_self, or_self, or_true, true_or, or_false, false_or, if_true, if_false, and_true, true_and, and_false, false_and, not_true, not_false_iff, em, rkP_at]) (fun m kk => by
    show f_X12_zoneByNoise_L7 a1 M (m + 1) (nI 8) kk = _
    rw [f_X12_zoneByNoise_L7.eq_2]
    generalize hN2 : (1000 : Nat) = N2
    simp (disch := omega) only [lit_0, lit_1, lit_2, lit_3, lit_4, lit_5, lit_6, lit_7, lit_8, lit_9, lit_10, lit_11, lit_12, lit_13, lit_14, lit_15, lit_16, lit_20, lit_23, lit_24, lit_31, lit_32, lit_39, lit_43, lit_45, lit_47, lit_48, lit_56, lit_57, lit_59, lit_60, lit_62, lit_63, lit_89, lit_92, lit_96, lit_97, lit_99, lit_100, lit_102, lit_103, lit_104, lit_110, lit_111, lit_115, lit_117, lit_194, lit_200, lit_644, lit_736, lit_999, lit_1000, lit_9999, lit_10000, lit_1000000000, ↓wp_mlet, ↓wp_mbp, ↓wp_ite, ↓wp_mix, ↓wp_mdiv, ↓wp_mnz, ↓wp_some, ↓wp_mbnd, ↓mlet_eq, ↓mbp_eq, ↓mbnd_eq, ↓mix_ite, ↓mdiv_ite, ↓mnz_ite, nI_add, nI_mul, nI_nat, nI_ltE, nI_leE, nI_eqE, nI_eqN, nI_Neq, nI_Nlt, nI_Nle, nI_ltN, nI_leN, ↓reduceIte, ↓Nat.reduceEqDiff, and_f, nt_e, nt_t, nl_t, nl_f, ne_t, ne_f, and_self, or_self, or_true, true_or, or_false, false_or, if_true, if_false, and_true, true_and, and_false, false_and, not_true, not_false_iff]) e N 0 kk (by omega) (by omega)
  generalize fnd (rkP α a1) 0 e = o at h ⊢
  refine ⟨fun w hw => ?_, fun hw => ?_⟩
  · subst hw; exact h
  · subst hw; exact h
theorem c_zoneL {M : Mem} {α : Sp} {H N e : Nat} {a1 : Int32} (he : e = 8) (hN : 1000 = N) (hR : RC (M 0) α) (hi : Inv H α) (hH : H < 900000) (kk : Unit → Option Int32) : (∀ w, fnd (rkP α a1) 0 e = some w → f_X1_zoneAtRank_L2 0 a1 M N (nI 0) kk = some (nI w)) ∧ (fnd (rkP α a1) 0 e = none → f_X1_zoneAtRank_L2 0 a1 M N (nI 0) kk = kk ()) := by
  have h := floop (β := Int32) (F := fun m x kk => f_X1_zoneAtRank_L2 0 a1 M m x kk) (c := 8) (rkP α a1) (fun z => nI z) (fun m x kk hx => by
    show f_X1_zoneAtRank_L2 0 a1 M (m + 1) (nI x) kk = _
    rw [f_X1_zoneAtRank_L2.eq_2]
    have em := c_rank hR hi hH hx
    simp (disch := omega) only [lit_0, lit_1, lit_2, lit_3, lit_4, lit_5, lit_6, lit_7, lit_8, lit_9, lit_10, lit_11, lit_12, lit_13, lit_14, lit_15, lit_16, lit_20, lit_23, lit_24, lit_31, lit_32, lit_39, lit_43, lit_45, lit_47, lit_48, lit_56, lit_57, lit_59, lit_60, lit_62, lit_63, lit_89, lit_92, lit_96, lit_97, lit_99, lit_100, lit_102, lit_103, lit_104, lit_110, lit_111, lit_115, lit_117, lit_194, lit_200, lit_644, lit_736, lit_999, lit_1000, lit_9999, lit_10000, lit_1000000000, ↓wp_mlet, ↓wp_mbp, ↓wp_ite, ↓wp_mix, ↓wp_mdiv, ↓wp_mnz, ↓wp_some, ↓wp_mbnd, ↓mlet_eq, ↓mbp_eq, ↓mbnd_eq, ↓mix_ite, ↓mdiv_ite, ↓mnz_ite, nI_add, nI_mul, nI_nat, nI_ltE, nI_leE, nI_eqE, nI_eqN, nI_Neq, nI_Nlt, nI_Nle, nI_ltN, nI_leN, ↓reduceIte, ↓Nat.reduceEqDiff, and_f, nt_e, nt_t, nl_t, nl_f, ne_t, ne_f, and_self, or_self, or_true, true_or, or_false, false_or, if_true, if_false, and_true, true_and, and_false, false_and, not_true, not_false_iff, em, rkP_at]) (fun m kk => by
    show f_X1_zoneAtRank_L2 0 a1 M (m + 1) (nI 8) kk = _
    rw [f_X1_zoneAtRank_L2.eq_2]
    simp (disch := omega) only [lit_0, lit_1, lit_2, lit_3, lit_4, lit_5, lit_6, lit_7, lit_8, lit_9, lit_10, lit_11, lit_12, lit_13, lit_14, lit_15, lit_16, lit_20, lit_23, lit_24, lit_31, lit_32, lit_39, lit_43, lit_45, lit_47, lit_48, lit_56, lit_57, lit_59, lit_60, lit_62, lit_63, lit_89, lit_92, lit_96, lit_97, lit_99, lit_100, lit_102, lit_103, lit_104, lit_110, lit_111, lit_115, lit_117, lit_194, lit_200, lit_644, lit_736, lit_999, lit_1000, lit_9999, lit_10000, lit_1000000000, ↓wp_mlet, ↓wp_mbp, ↓wp_ite, ↓wp_mix, ↓wp_mdiv, ↓wp_mnz, ↓wp_some, ↓wp_mbnd, ↓mlet_eq, ↓mbp_eq, ↓mbnd_eq, ↓mix_ite, ↓mdiv_ite, ↓mnz_ite, nI_add, nI_mul, nI_nat, nI_ltE, nI_leE, nI_eqE, nI_eqN, nI_Neq, nI_Nlt, nI_Nle, nI_ltN, nI_leN, ↓reduceIte, ↓Nat.reduceEqDiff, and_f, nt_e, nt_t, nl_t, nl_f, ne_t, ne_f, and_self, or_self, or_true, true_or, or_false, false_or, if_true, if_false, and_true, true_and, and_false, false_and, not_true, not_false_iff]) e N 0 kk (by omega) (by omega)
  generalize fnd (rkP α a1) 0 e = o at h ⊢
  refine ⟨fun w hw => ?_, fun hw => ?_⟩
  · subst hw; exact h
  · subst hw; exact h
theorem pair_zoneByNoise {n : Nat} {M : Mem} (hr : Rel n M) (hn : n < 512) (a1 : Int32) : PairG n (fun x => if x = 4 then 1 else 0) M (f_X11_zoneByNoise a1) (f_X12_zoneByNoise a1) := by
  have hr' := Rel_thr hr
  obtain ⟨α, αh, αs, K, nx, fed, b, H, hW⟩ := hr
  obtain ⟨hR, hS, hHs, hs, hx, hi, hih, his, hbb⟩ := id hW
  have hS' := ms_t (x := nI 0) hS
  unfold PairG f_X11_zoneByNoise f_X12_zoneByNoise f_X1_zoneAtRank f_X12_fails
  generalize hN : (1000 : Nat) = N
  have lt8 : ∀ z, z < 8 → cB α z 8 < 8 := fun z hz => cB_self 8 hz
  obtain ⟨e, he⟩ : ∃ e, e = 8 := ⟨8, rfl⟩
  have kM := m_zoneL (a1 := a1) he hN hS' hi (by omega) (fun _ => mbnd (mlet (mup (mup M 12 47 0 (nI 0)) 12 47 0 (nI 1)) fun M1 => some (nI 0, M1)) fun r18 M19 => some (r18, M19))
  have kC := c_zoneL (M := M) (a1 := a1) he hN hR hi (by omega) (fun _ => some (-nI 1))
  have ft := fun w => fnd_some (P := rkP α a1) (d := e) (x := 0) (r := w)
  have fn := fnd_none (P := rkP α a1) (d := e) (x := 0)
  revert kM kC ft fn
  generalize fnd (rkP α a1) 0 e = o
  intro kM kC ft fn
  simp only [lit_0, lit_1, lit_2, lit_3, lit_4, lit_5, lit_6, lit_7, lit_8, lit_9, lit_10, lit_11, lit_12, lit_13, lit_14, lit_15, lit_16, lit_20, lit_23, lit_24, lit_31, lit_32, lit_39, lit_43, lit_45, lit_47, lit_48, lit_56, lit_57, lit_59, lit_60, lit_62, lit_63, lit_89, lit_92, lit_96, lit_97, lit_99, lit_100, lit_102, lit_103, lit_104, lit_110, lit_111, lit_115, lit_117, lit_194, lit_200, lit_644, lit_736, lit_999, lit_1000, lit_9999, lit_10000, lit_1000000000, mlet_eq] at kM ⊢
  rcases idx_c a1 8 (by decide) with ⟨r, h1, rfl, e1⟩ | ⟨e1, h⟩
  · obtain ⟨z, z1, z2⟩ := rank_ex α h1
    cases o with
    | none =>
      exfalso
      have := fn rfl z (Nat.zero_le _) (by omega)
      have h2 : rkP α (nI r) z = true := by rw [rkP_at, z2]
      rw [h2] at this
      cases this
    | some w =>
      refine ⟨.inr (nI w), ?_, ?_⟩
      · rw [if_neg (by rw [nI_ltE (by omega) (by omega)]; omega), if_pos (by rw [nI_ltE (by omega) (by omega)]; omega), kC.1 w rfl, mbp_eq]
      · rw [kM.1 w rfl, wp_some]
        exact ⟨hr' _, thr0, rfl⟩
  · have hnone : o = none := by
      cases o with
      | none => rfl
      | some w =>
        exfalso
        obtain ⟨-, w1, w2, -⟩ := ft w rfl
        rw [rkP_at] at w2
        have := lt8 w (by omega)
        rcases h with h | ⟨j, hj, h, rfl⟩
        · rw [← w2] at h
          exact nI_pos (by omega) h
        · rw [nI_eqE (by omega) (by omega)] at w2
          omega
    refine ⟨.inl 4, ?_, ?_⟩
    · rcases h with h | ⟨j, hj, h, rfl⟩
      · rw [if_pos (show a1 < nI 0 from h)]
      · rw [if_neg (by rw [nI_ltE (by omega) (by omega)]; omega), if_neg (by rw [nI_ltE (by omega) (by omega)]; omega)]
    · rw [kM.2 hnone, wp_mbnd, wp_some, wp_some, thr2]
      exact ⟨hr' _, thr0, by decide, by decide⟩
/-! ARITHMETIC MODULO 97 -/
abbrev Z : Type := Fin 97
def zz (n : Nat) : Z := Fin.ofNat 97 n
theorem zz_val (n : Nat) : (zz n).val = n % 97 := rfl
theorem zz_self (v : Z) : zz v.val = v := Fin.ext (Nat.mod_eq_of_lt v.isLt)
theorem zz_lt (v : Z) : v.val < 97 := v.isLt
theorem zz_mod (n : Nat) : zz (n % 97) = zz n := Fin.ext (Nat.mod_mod n 97)
theorem zz_add (a b : Nat) : zz (a + b) = zz a + zz b := Fin.ext (Nat.add_mod a b 97)
theorem zz_mul (a b : Nat) : zz (a * b) = zz a * zz b := Fin.ext (Nat.mul_mod a b 97)
theorem zz_0 : zz 0 = 0 := rfl
theorem zz_1 : zz 1 = 1 := rfl
theorem zz_97 : zz 97 = 0 := rfl
theorem zz_eq {a b : Nat} (ha : a < 97) (hb : b < 97) (h : zz a = zz b) : a = b := by
  have h1 : a % 97 = b % 97 := congrArg Fin.val h
  rw [Nat.mod_eq_of_lt ha, Nat.mod_eq_of_lt hb] at h1
  exact h1
theorem zz_sub {a b c : Nat} (h : b ≤ a) (hc : zz c = 0) (e : Nat) (he : a + c = e) : zz (e - b) = zz a - zz b := by
  subst he
  have h1 : zz (a + c - b) + zz b = zz a + zz c := by rw [← zz_add, ← zz_add]; congr 1; omega
  rw [hc] at h1
  generalize zz (a + c - b) = u at h1 ⊢
  generalize zz a = v at h1 ⊢
  generalize zz b = w at h1 ⊢
  grobner
theorem zz_subm {a b m : Nat} (h : b ≤ a + m) (hm : zz m = 0) : zz (a + m - b) = zz a - zz b := by
  have h1 : zz (a + m - b) + zz b = zz a + zz m := by rw [← zz_add, ← zz_add]; congr 1; omega
  rw [hm] at h1
  generalize zz (a + m - b) = u at h1 ⊢
  generalize zz a = v at h1 ⊢
  generalize zz b = w at h1 ⊢
  grobner
def ivN (a : Nat) : Nat := (mInv.getD a 0).toNatClampNeg
theorem ivN_all : ∀ a : Fin 97, ivN a < 97 ∧ mInv.getD a 0 = Int32.ofNat (ivN a) ∧ (a.val ≠ 0 → (a.val * ivN a) % 97 = 1) := by decide +kernel
theorem ivN_lt {a : Nat} (h : a < 97) : ivN a < 97 := (ivN_all ⟨a, h⟩).1
theorem ivN_I {a : Nat} (h : a < 97) : mInv.getD a 0 = Int32.ofNat (ivN a) := (ivN_all ⟨a, h⟩).2.1
theorem ivN_mul {a : Nat} (h : a < 97) (h0 : a ≠ 0) : (a * ivN a) % 97 = 1 := (ivN_all ⟨a, h⟩).2.2 h0
theorem ivN_first : ∀ a : Fin 97, a.val ≠ 0 → 1 ≤ ivN a ∧ ∀ x : Fin 97, x.val < ivN a → (a.val * x.val) % 97 ≠ 1 := by decide +kernel
def iz (z : Z) : Z := zz (ivN z.val)
theorem iz_mul {z : Z} (h : z ≠ 0) : z * iz z = 1 := by
  have h1 := ivN_mul z.isLt (fun q => h (Fin.ext q))
  unfold iz
  have h2 : zz (z.val * ivN z.val) = zz 1 := by rw [← zz_mod, h1]
  rw [zz_mul, zz_self] at h2
  exact h2
theorem zz_iv (a : Nat) : zz (ivN (a % 97)) = iz (zz a) := by
  unfold iz
  rw [zz_val]
theorem nz_mul {a b : Z} (ha : a ≠ 0) (hb : b ≠ 0) : a * b ≠ 0 := by
  intro h
  have h1 := iz_mul ha
  have h2 := iz_mul hb
  have h3 : (1 : Z) = 0 := by
    generalize iz a = u at *
    generalize iz b = v at *
    clear ha hb
    grobner
  exact absurd h3 (by decide)
theorem nz_sub {a b : Nat} (ha : a < 97) (hb : b < 97) (h : a ≠ b) : zz a - zz b ≠ 0 := by
  intro q
  refine h (zz_eq ha hb ?_)
  generalize zz a = u at q ⊢
  generalize zz b = v at q ⊢
  grobner
theorem newton2 {R : Type} [Lean.Grind.CommRing R] {p0 p1 s0 s1 a g0 g1 : R} (h10 : (p1 - p0) * a = 1) (e1 : g1 = (s1 - s0) * a) (e0 : g0 = s0 - g1 * p0) : g0 + g1 * p0 = s0 ∧ g0 + g1 * p1 = s1 := by
  refine ⟨by grobner, by grobner⟩
theorem uniq2 {R : Type} [Lean.Grind.CommRing R] {p0 p1 g0 g1 h0 h1 a : R} (h10 : (p1 - p0) * a = 1) (e0 : g0 + g1 * p0 = h0 + h1 * p0) (e1 : g0 + g1 * p1 = h0 + h1 * p1) : g0 = h0 ∧ g1 = h1 := by
  have q1 : g1 = h1 := by grobner
  subst q1
  exact ⟨by grobner, rfl⟩
theorem newton3 {R : Type} [Lean.Grind.CommRing R] {p0 p1 p2 s0 s1 s2 a b c : R} (h10 : (p1 - p0) * a = 1) (h20 : (p2 - p0) * b = 1) (h21 : (p2 - p1) * c = 1)
    {g0 g1 g2 : R} (e2 : g2 = ((s2 - s0) * b - (s1 - s0) * a) * c) (e1 : g1 = (s1 - s0) * a - g2 * (p0 + p1)) (e0 : g0 = s0 - g1 * p0 - g2 * p0 * p0) :
    g0 + g1 * p0 + g2 * p0 * p0 = s0 ∧ g0 + g1 * p1 + g2 * p1 * p1 = s1 ∧ g0 + g1 * p2 + g2 * p2 * p2 = s2 := by
  refine ⟨by grobner, by grobner, by grobner⟩
theorem uniq3 {R : Type} [Lean.Grind.CommRing R] {p0 p1 p2 g0 g1 g2 h0 h1 h2 a b c : R} (h10 : (p1 - p0) * a = 1) (h20 : (p2 - p0) * b = 1) (h21 : (p2 - p1) * c = 1)
    (e0 : g0 + g1 * p0 + g2 * p0 * p0 = h0 + h1 * p0 + h2 * p0 * p0) (e1 : g0 + g1 * p1 + g2 * p1 * p1 = h0 + h1 * p1 + h2 * p1 * p1) (e2 : g0 + g1 * p2 + g2 * p2 * p2 = h0 + h1 * p2 + h2 * p2 * p2) :
    g0 = h0 ∧ g1 = h1 ∧ g2 = h2 := by
  have q2 : g2 = h2 := by grobner
  subst q2
  have q1 : g1 = h1 := by grobner
  subst q1
  exact ⟨by grobner, rfl, rfl⟩
/-- one inverse a point -/
theorem lagC2 {R : Type} [Lean.Grind.CommRing R] {p0 p1 s0 s1 x u v g0 g1 : R} (h0 : (p0 - p1) * u = 1) (h1 : (p1 - p0) * v = 1) (e0 : g0 + g1 * p0 = s0) (e1 : g0 + g1 * p1 = s1) : s0 * ((x - p1) * u) + s1 * ((x - p0) * v) = g0 + g1 * x := by
  grobner
theorem lagC3 {R : Type} [Lean.Grind.CommRing R] {p0 p1 p2 s0 s1 s2 x u v w g0 g1 g2 : R} (h0 : (p0 - p1) * (p0 - p2) * u = 1) (h1 : (p1 - p0) * (p1 - p2) * v = 1) (h2 : (p2 - p0) * (p2 - p1) * w = 1)
    (e0 : g0 + g1 * p0 + g2 * p0 * p0 = s0) (e1 : g0 + g1 * p1 + g2 * p1 * p1 = s1) (e2 : g0 + g1 * p2 + g2 * p2 * p2 = s2) :
    s0 * ((x - p1) * (x - p2) * u) + s1 * ((x - p0) * (x - p2) * v) + s2 * ((x - p0) * (x - p1) * w) = g0 + g1 * x + g2 * x * x := by
  subst e0 e1 e2
  grobner
/-- one inverse a factor -/
theorem lagM3 {R : Type} [Lean.Grind.CommRing R] {p0 p1 p2 s0 s1 s2 x a a' b b' c c' g0 g1 g2 : R} (h01 : (p0 - p1) * a = 1) (h02 : (p0 - p2) * a' = 1) (h10 : (p1 - p0) * b = 1) (h12 : (p1 - p2) * b' = 1) (h20 : (p2 - p0) * c = 1) (h21 : (p2 - p1) * c' = 1)
    (e0 : g0 + g1 * p0 + g2 * p0 * p0 = s0) (e1 : g0 + g1 * p1 + g2 * p1 * p1 = s1) (e2 : g0 + g1 * p2 + g2 * p2 * p2 = s2) :
    s0 * (x - p1) * a * (x - p2) * a' + s1 * (x - p0) * b * (x - p2) * b' + s2 * (x - p0) * c * (x - p1) * c' = g0 + g1 * x + g2 * x * x := by
  have q := lagC3 (x := x) (u := a * a') (v := b * b') (w := c * c') (p0 := p0) (p1 := p1) (p2 := p2) (by grobner) (by grobner) (by grobner) e0 e1 e2
  rw [← q]
  clear q e0 e1 e2 h01 h02 h10 h12 h20 h21
  grobner
/-! THE CURVE THROUGH T SHARES. s: the share of a holder; t: the holders -/
def ps (t : Nat → Nat) (i : Nat) : Z := zz (t i + 1)
def ev (γ : Nat → Z) (x : Z) : Z := γ 0 + γ 1 * x + γ 2 * x * x
def cf2 (s t : Nat → Nat) : Z := ((zz (s (t 2)) - zz (s (t 0))) * iz (ps t 2 - ps t 0) - (zz (s (t 1)) - zz (s (t 0))) * iz (ps t 1 - ps t 0)) * iz (ps t 2 - ps t 1)
def cf1 (T : Nat) (s t : Nat → Nat) : Z := if T = 2 then (zz (s (t 1)) - zz (s (t 0))) * iz (ps t 1 - ps t 0) else (zz (s (t 1)) - zz (s (t 0))) * iz (ps t 1 - ps t 0) - cf2 s t * (ps t 0 + ps t 1)
def cf0 (T : Nat) (s t : Nat → Nat) : Z := if T = 1 then zz (s (t 0)) else if T = 2 then zz (s (t 0)) - cf1 T s t * ps t 0 else zz (s (t 0)) - cf1 T s t * ps t 0 - cf2 s t * ps t 0 * ps t 0
def cf (T : Nat) (s t : Nat → Nat) (k : Nat) : Z := if T ≤ k then 0 else if k = 0 then cf0 T s t else if k = 1 then cf1 T s t else cf2 s t
/-- T holders, no two the same -/
def Tu (T : Nat) (t : Nat → Nat) : Prop := (∀ i, i < T → t i < 8) ∧ ∀ i j, i < j → j < T → t i ≠ t j
theorem Tu.nz {T : Nat} {t : Nat → Nat} (h : Tu T t) {i j : Nat} (hi : i < T) (hj : j < T) (hij : i ≠ j) : ps t i - ps t j ≠ 0 := by
  have h1 := h.1 i hi
  have h2 := h.1 j hj
  refine nz_sub (by omega) (by omega) fun q => ?_
  rcases Nat.lt_or_gt_of_ne hij with h3 | h3
  · exact h.2 i j h3 hj (by omega)
  · exact h.2 j i h3 hi (by omega)
theorem cf_deg {T : Nat} {s t : Nat → Nat} {k : Nat} (h : T ≤ k) : cf T s t k = 0 := if_pos h
theorem cf_on {T : Nat} {s t : Nat → Nat} (hT : 1 ≤ T ∧ T ≤ 3) (ht : Tu T t) : ∀ i, i < T → ev (cf T s t) (ps t i) = zz (s (t i)) := by
  intro i hi
  rcases (show T = 1 ∨ T = 2 ∨ T = 3 by omega) with rfl | rfl | rfl
  · obtain rfl : i = 0 := by omega
    have e0 : cf 1 s t 0 = zz (s (t 0)) := by simp [cf, cf0]
    unfold ev
    rw [cf_deg (by decide : 1 ≤ 1), cf_deg (by decide : 1 ≤ 2), e0]
    generalize zz (s (t 0)) = a
    generalize ps t 0 = b
    grobner
  · have h10 := iz_mul (ht.nz (by decide : 1 < 2) (by decide : 0 < 2) (by decide))
    have e1 : cf 2 s t 1 = (zz (s (t 1)) - zz (s (t 0))) * iz (ps t 1 - ps t 0) := by simp [cf, cf1]
    have e0 : cf 2 s t 0 = zz (s (t 0)) - cf 2 s t 1 * ps t 0 := by simp [cf, cf0]
    have e2 : cf 2 s t 2 = 0 := cf_deg (by decide)
    unfold ev
    rw [e2]
    generalize cf 2 s t 0 = g0 at *
    generalize cf 2 s t 1 = g1 at *
    obtain ⟨q0, q1⟩ := newton2 h10 e1 e0
    rcases (show i = 0 ∨ i = 1 by omega) with rfl | rfl
    · rw [← q0]; clear q0 q1 e0 e1 h10 ht
      generalize ps t 0 = b
      grobner
    · rw [← q1]; clear q0 q1 e0 e1 h10 ht
      generalize ps t 1 = b
      grobner
  · have h10 := iz_mul (ht.nz (by decide : 1 < 3) (by decide : 0 < 3) (by decide))
    have h20 := iz_mul (ht.nz (by decide : 2 < 3) (by decide : 0 < 3) (by decide))
    have h21 := iz_mul (ht.nz (by decide : 2 < 3) (by decide : 1 < 3) (by decide))
    have e2 : cf 3 s t 2 = ((zz (s (t 2)) - zz (s (t 0))) * iz (ps t 2 - ps t 0) - (zz (s (t 1)) - zz (s (t 0))) * iz (ps t 1 - ps t 0)) * iz (ps t 2 - ps t 1) := by simp [cf, cf2]
    have e1 : cf 3 s t 1 = (zz (s (t 1)) - zz (s (t 0))) * iz (ps t 1 - ps t 0) - cf 3 s t 2 * (ps t 0 + ps t 1) := by simp [cf, cf1]
    have e0 : cf 3 s t 0 = zz (s (t 0)) - cf 3 s t 1 * ps t 0 - cf 3 s t 2 * ps t 0 * ps t 0 := by simp [cf, cf0]
    unfold ev
    obtain ⟨q0, q1, q2⟩ := newton3 h10 h20 h21 e2 e1 e0
    rcases (show i = 0 ∨ i = 1 ∨ i = 2 by omega) with rfl | rfl | rfl
    · exact q0
    · exact q1
    · exact q2
theorem cf_uniq {T : Nat} {s t : Nat → Nat} {δ : Nat → Z} (hT : 1 ≤ T ∧ T ≤ 3) (ht : Tu T t) (hd : ∀ k, T ≤ k → k < 3 → δ k = 0) (hp : ∀ i, i < T → ev δ (ps t i) = zz (s (t i))) : δ 0 = cf T s t 0 ∧ δ 1 = cf T s t 1 ∧ δ 2 = cf T s t 2 := by
  have hq := cf_on (s := s) hT ht
  have hh := fun i hi => (hp i hi).trans (hq i hi).symm
  unfold ev at hh
  clear hp hq
  rcases (show T = 1 ∨ T = 2 ∨ T = 3 by omega) with rfl | rfl | rfl
  · have h0 := hh 0 (by decide)
    rw [hd 1 (by decide) (by decide), hd 2 (by decide) (by decide), cf_deg (by decide : 1 ≤ 1), cf_deg (by decide : 1 ≤ 2)] at h0 ⊢
    refine ⟨?_, rfl, rfl⟩
    generalize cf 1 s t 0 = a at *
    generalize δ 0 = b at *
    generalize ps t 0 = c at *
    clear hh hd ht hT
    grobner
  · have h0 := hh 0 (by decide)
    have h1 := hh 1 (by decide)
    rw [hd 2 (by decide) (by decide), cf_deg (by decide : 2 ≤ 2)] at h0 h1 ⊢
    have h10 := iz_mul (ht.nz (by decide : 1 < 2) (by decide : 0 < 2) (by decide))
    have q := uniq2 (g0 := δ 0) (g1 := δ 1) (h0 := cf 2 s t 0) (h1 := cf 2 s t 1) h10 (by
      clear hh hd ht hT h1 h10
      generalize cf 2 s t 0 = a at *
      generalize cf 2 s t 1 = a' at *
      generalize δ 0 = b at *
      generalize δ 1 = b' at *
      generalize ps t 0 = c at *
      grobner) (by
      clear hh hd ht hT h0 h10
      generalize cf 2 s t 0 = a at *
      generalize cf 2 s t 1 = a' at *
      generalize δ 0 = b at *
      generalize δ 1 = b' at *
      generalize ps t 1 = c at *
      grobner)
    exact ⟨q.1, q.2, rfl⟩
  · have h10 := iz_mul (ht.nz (by decide : 1 < 3) (by decide : 0 < 3) (by decide))
    have h20 := iz_mul (ht.nz (by decide : 2 < 3) (by decide : 0 < 3) (by decide))
    have h21 := iz_mul (ht.nz (by decide : 2 < 3) (by decide : 1 < 3) (by decide))
    exact uniq3 h10 h20 h21 (hh 0 (by decide)) (hh 1 (by decide)) (hh 2 (by decide))
/-- the value at x -/
def thr (T : Nat) (s t : Nat → Nat) (x : Nat) : Nat := (ev (cf T s t) (zz x)).val
theorem thr_lt {T : Nat} {s t : Nat → Nat} {x : Nat} : thr T s t x < 97 := (ev (cf T s t) (zz x)).isLt
theorem zz_thr {T : Nat} {s t : Nat → Nat} {x : Nat} : zz (thr T s t x) = ev (cf T s t) (zz x) := zz_self _
theorem ev_cg {γ δ : Nat → Z} (h : δ 0 = γ 0 ∧ δ 1 = γ 1 ∧ δ 2 = γ 2) (x : Z) : ev δ x = ev γ x := by
  unfold ev
  rw [h.1, h.2.1, h.2.2]
/-- the class's way -/
def pn (x : Nat) (t : Nat → Nat) (i : Nat) : Nat → Nat
  | 0 => 1
  | k + 1 => if k = i then pn x t i k else pn x t i k * (x + 96 - t k) % 97
def pd (t : Nat → Nat) (i : Nat) : Nat → Nat
  | 0 => 1
  | k + 1 => if k = i then pd t i k else pd t i k * (t i + 97 - t k) % 97
def qC (T x : Nat) (t : Nat → Nat) (i : Nat) : Nat := pn x t i T * ivN (pd t i T) % 97
def smC (T x : Nat) (s t : Nat → Nat) : Nat → Nat
  | 0 => 0
  | k + 1 => smC T x s t k + s (t k) * qC T x t k
/-- the model's way -/
def tmM (x : Nat) (s t : Nat → Nat) (i : Nat) : Nat → Nat
  | 0 => s (t i)
  | k + 1 => if k = i then tmM x s t i k else tmM x s t i k * ((x + 193 - t k) % 97) % 97 * ivN ((t i + 97 - t k) % 97) % 97
def smM (T x : Nat) (s t : Nat → Nat) : Nat → Nat
  | 0 => 0
  | k + 1 => (smM T x s t k + tmM x s t k T) % 97
theorem zz_fac {x : Nat} {t : Nat → Nat} {k : Nat} (h : t k < 8) : zz (x + 96 - t k) = zz x - ps t k := by
  have := zz_subm (a := x) (b := t k + 1) (m := 97) (by omega) zz_97
  rw [← show x + 97 - (t k + 1) = x + 96 - t k by omega]
  exact this
theorem zz_facM {x : Nat} {t : Nat → Nat} {k : Nat} (h : t k < 8) : zz (x + 193 - t k) = zz x - ps t k := by
  have := zz_subm (a := x) (b := t k + 1) (m := 194) (by omega) rfl
  rw [← show x + 194 - (t k + 1) = x + 193 - t k by omega]
  exact this
theorem zz_den {t : Nat → Nat} {i k : Nat} (h : t k < 8) : zz (t i + 97 - t k) = ps t i - ps t k := by
  have := zz_subm (a := t i + 1) (b := t k + 1) (m := 97) (by omega) zz_97
  rw [← show t i + 1 + 97 - (t k + 1) = t i + 97 - t k by omega]
  exact this
theorem pn_lt {x : Nat} {t : Nat → Nat} {i : Nat} : ∀ k, pn x t i k < 97
  | 0 => by show 1 < 97; decide
  | k + 1 => by
    unfold pn
    split
    · exact pn_lt k
    · exact Nat.mod_lt _ (by decide)
theorem pd_lt {t : Nat → Nat} {i : Nat} : ∀ k, pd t i k < 97
  | 0 => by show 1 < 97; decide
  | k + 1 => by
    unfold pd
    split
    · exact pd_lt k
    · exact Nat.mod_lt _ (by decide)
theorem qC_lt {T x : Nat} {t : Nat → Nat} {i : Nat} : qC T x t i < 97 := Nat.mod_lt _ (by decide)
theorem zz_qC {T x : Nat} {t : Nat → Nat} {i : Nat} : zz (qC T x t i) = zz (pn x t i T) * iz (zz (pd t i T)) := by
  unfold qC
  rw [zz_mod, zz_mul, ← zz_iv, Nat.mod_eq_of_lt (pd_lt T)]
theorem thrC {T x : Nat} {s t : Nat → Nat} (hT : 1 ≤ T ∧ T ≤ 3) (ht : Tu T t) : smC T x s t T % 97 = thr T s t x := by
  refine zz_eq (Nat.mod_lt _ (by decide)) thr_lt ?_
  rw [zz_mod, zz_thr]
  have hq := cf_on (s := s) hT ht
  unfold ev at hq ⊢
  rcases (show T = 1 ∨ T = 2 ∨ T = 3 by omega) with rfl | rfl | rfl
  · have h0 := hq 0 (by decide)
    rw [cf_deg (by decide : 1 ≤ 1), cf_deg (by decide : 1 ≤ 2)] at h0 ⊢
    have e : zz (smC 1 x s t 1) = zz (s (t 0)) * iz 1 := by
      show zz (0 + s (t 0) * qC 1 x t 0) = _
      rw [Nat.zero_add, zz_mul, zz_qC, show pn x t 0 1 = 1 from rfl, show pd t 0 1 = 1 from rfl, zz_1]
      generalize iz 1 = u
      generalize zz (s (t 0)) = v
      clear hq ht hT h0
      grobner
    have i1 : iz 1 = 1 := by decide +kernel
    rw [e, i1]
    generalize cf 1 s t 0 = a at *
    generalize zz (s (t 0)) = b at *
    generalize zz x = d at *
    generalize ps t 0 = c at *
    clear hq ht hT e i1
    grobner
  · have h0 := hq 0 (by decide)
    have h1 := hq 1 (by decide)
    rw [cf_deg (by decide : 2 ≤ 2)] at h0 h1 ⊢
    have f := fun k (hk : k < 2) => zz_fac (x := x) (ht.1 k hk)
    have d := fun i k (hk : k < 2) => zz_den (i := i) (ht.1 k hk)
    have q0 : zz (qC 2 x t 0) = (zz x - ps t 1) * iz (ps t 0 - ps t 1) := by
      rw [zz_qC]; simp [pn, pd, zz_mod, f, d]
    have q1 : zz (qC 2 x t 1) = (zz x - ps t 0) * iz (ps t 1 - ps t 0) := by
      rw [zz_qC]; simp [pn, pd, zz_mod, f, d]
    have e : zz (smC 2 x s t 2) = zz (s (t 0)) * ((zz x - ps t 1) * iz (ps t 0 - ps t 1)) + zz (s (t 1)) * ((zz x - ps t 0) * iz (ps t 1 - ps t 0)) := by
      simp [smC, zz_add, zz_mul, q0, q1]
    rw [e, lagC2 (g0 := cf 2 s t 0) (g1 := cf 2 s t 1) (iz_mul (ht.nz (by decide) (by decide) (by decide))) (iz_mul (ht.nz (by decide) (by decide) (by decide))) ?_ ?_]
    · generalize cf 2 s t 0 = a
      generalize cf 2 s t 1 = b
      generalize zz x = c
      clear hq ht hT e h0 h1 q0 q1 f d
      grobner
    · rw [← h0]
      generalize cf 2 s t 0 = a
      generalize cf 2 s t 1 = b
      generalize ps t 0 = c
      clear hq ht hT e h0 h1 q0 q1 f d
      grobner
    · rw [← h1]
      generalize cf 2 s t 0 = a
      generalize cf 2 s t 1 = b
      generalize ps t 1 = c
      clear hq ht hT e h0 h1 q0 q1 f d
      grobner
  · have h0 := hq 0 (by decide)
    have h1 := hq 1 (by decide)
    have h2 := hq 2 (by decide)
    have f := fun k (hk : k < 3) => zz_fac (x := x) (ht.1 k hk)
    have d := fun i k (hk : k < 3) => zz_den (i := i) (ht.1 k hk)
    have q0 : zz (qC 3 x t 0) = (zz x - ps t 1) * (zz x - ps t 2) * iz ((ps t 0 - ps t 1) * (ps t 0 - ps t 2)) := by
      rw [zz_qC]; simp [pn, pd, zz_mod, zz_mul, f, d]
    have q1 : zz (qC 3 x t 1) = (zz x - ps t 0) * (zz x - ps t 2) * iz ((ps t 1 - ps t 0) * (ps t 1 - ps t 2)) := by
      rw [zz_qC]; simp [pn, pd, zz_mod, zz_mul, f, d]
    have q2 : zz (qC 3 x t 2) = (zz x - ps t 0) * (zz x - ps t 1) * iz ((ps t 2 - ps t 0) * (ps t 2 - ps t 1)) := by
      rw [zz_qC]; simp [pn, pd, zz_mod, zz_mul, f, d]
    have e : zz (smC 3 x s t 3) = zz (s (t 0)) * ((zz x - ps t 1) * (zz x - ps t 2) * iz ((ps t 0 - ps t 1) * (ps t 0 - ps t 2))) + zz (s (t 1)) * ((zz x - ps t 0) * (zz x - ps t 2) * iz ((ps t 1 - ps t 0) * (ps t 1 - ps t 2))) + zz (s (t 2)) * ((zz x - ps t 0) * (zz x - ps t 1) * iz ((ps t 2 - ps t 0) * (ps t 2 - ps t 1))) := by
      simp [smC, zz_add, zz_mul, q0, q1, q2]
    rw [e]
    have n := fun {i j : Nat} => ht.nz (i := i) (j := j)
    exact lagC3 (iz_mul (nz_mul (n (by decide) (by decide) (by decide)) (n (by decide) (by decide) (by decide)))) (iz_mul (nz_mul (n (by decide) (by decide) (by decide)) (n (by decide) (by decide) (by decide)))) (iz_mul (nz_mul (n (by decide) (by decide) (by decide)) (n (by decide) (by decide) (by decide)))) h0 h1 h2
theorem smM_lt {T x : Nat} {s t : Nat → Nat} : ∀ k, smM T x s t k < 97
  | 0 => by show 0 < 97; decide
  | k + 1 => Nat.mod_lt _ (by decide)
theorem zz_tm {x : Nat} {s t : Nat → Nat} {i k : Nat} (hk : t k < 8) (hi : k ≠ i) : zz (tmM x s t i (k + 1)) = zz (tmM x s t i k) * (zz x - ps t k) * iz (ps t i - ps t k) := by
  show zz (if k = i then _ else _) = _
  rw [if_neg hi, zz_mod, zz_mul, zz_mod, zz_mul, zz_mod, zz_facM hk, zz_iv, zz_den hk]
theorem zz_tmi {x : Nat} {s t : Nat → Nat} {i : Nat} : zz (tmM x s t i (i + 1)) = zz (tmM x s t i i) := by
  show zz (if i = i then _ else _) = _
  rw [if_pos rfl]
theorem zz_sm {T x : Nat} {s t : Nat → Nat} {k : Nat} : zz (smM T x s t (k + 1)) = zz (smM T x s t k) + zz (tmM x s t k T) := by
  show zz ((smM T x s t k + tmM x s t k T) % 97) = _
  rw [zz_mod, zz_add]
theorem thrM {T x : Nat} {s t : Nat → Nat} (hT : 1 ≤ T ∧ T ≤ 3) (ht : Tu T t) : smM T x s t T = thr T s t x := by
  refine zz_eq (smM_lt T) thr_lt ?_
  rw [zz_thr]
  have hq := cf_on (s := s) hT ht
  have z0 : ∀ T, zz (smM T x s t 0) = 0 := fun _ => rfl
  have t0 : ∀ i, zz (tmM x s t i 0) = zz (s (t i)) := fun _ => rfl
  unfold ev at hq ⊢
  rcases (show T = 1 ∨ T = 2 ∨ T = 3 by omega) with rfl | rfl | rfl
  · have h0 := hq 0 (by decide)
    rw [cf_deg (by decide : 1 ≤ 1), cf_deg (by decide : 1 ≤ 2)] at h0 ⊢
    have a0 : zz (smM 1 x s t 1) = zz (smM 1 x s t 0) + zz (tmM x s t 0 1) := zz_sm
    have b0 : zz (tmM x s t 0 1) = zz (tmM x s t 0 0) := zz_tmi
    rw [a0, b0, z0, t0]
    generalize cf 1 s t 0 = a at *
    generalize zz (s (t 0)) = b at *
    generalize zz x = d at *
    generalize ps t 0 = c at *
    clear hq ht hT t0 z0
    grobner
  · have h0 := hq 0 (by decide)
    have h1 := hq 1 (by decide)
    rw [cf_deg (by decide : 2 ≤ 2)] at h0 h1 ⊢
    have l0 := ht.1 0 (by decide)
    have l1 := ht.1 1 (by decide)
    have a1 : zz (smM 2 x s t 2) = zz (smM 2 x s t 1) + zz (tmM x s t 1 2) := zz_sm
    have a0 : zz (smM 2 x s t 1) = zz (smM 2 x s t 0) + zz (tmM x s t 0 2) := zz_sm
    have b01 : zz (tmM x s t 0 2) = zz (tmM x s t 0 1) * (zz x - ps t 1) * iz (ps t 0 - ps t 1) := zz_tm l1 (by decide)
    have b00 : zz (tmM x s t 0 1) = zz (tmM x s t 0 0) := zz_tmi
    have b11 : zz (tmM x s t 1 2) = zz (tmM x s t 1 1) := zz_tmi
    have b10 : zz (tmM x s t 1 1) = zz (tmM x s t 1 0) * (zz x - ps t 0) * iz (ps t 1 - ps t 0) := zz_tm l0 (by decide)
    have i01 := iz_mul (ht.nz (by decide : 0 < 2) (by decide : 1 < 2) (by decide))
    have i10 := iz_mul (ht.nz (by decide : 1 < 2) (by decide : 0 < 2) (by decide))
    have q := lagC2 (x := zz x) (s0 := zz (s (t 0))) (s1 := zz (s (t 1))) (g0 := cf 2 s t 0) (g1 := cf 2 s t 1) i01 i10 (by
      rw [← h0]
      generalize cf 2 s t 0 = a
      generalize cf 2 s t 1 = b
      generalize ps t 0 = c
      clear hq ht hT h0 h1 a0 a1 b01 b00 b11 b10 i01 i10 t0 z0
      grobner) (by
      rw [← h1]
      generalize cf 2 s t 0 = a
      generalize cf 2 s t 1 = b
      generalize ps t 1 = c
      clear hq ht hT h0 h1 a0 a1 b01 b00 b11 b10 i01 i10 t0 z0
      grobner)
    rw [a1, a0, b01, b00, b11, b10, z0, t0, t0]
    clear hq ht hT h0 h1 a0 a1 b01 b00 b11 b10 i01 i10 t0 z0
    generalize cf 2 s t 0 = a at *
    generalize cf 2 s t 1 = b at *
    generalize zz x = c at *
    generalize iz (ps t 0 - ps t 1) = e at *
    generalize iz (ps t 1 - ps t 0) = f at *
    generalize ps t 1 = g at *
    generalize ps t 0 = h at *
    generalize zz (s (t 0)) = i at *
    generalize zz (s (t 1)) = j at *
    grobner
  · have h0 := hq 0 (by decide)
    have h1 := hq 1 (by decide)
    have h2 := hq 2 (by decide)
    have l0 := ht.1 0 (by decide)
    have l1 := ht.1 1 (by decide)
    have l2 := ht.1 2 (by decide)
    have a2 : zz (smM 3 x s t 3) = zz (smM 3 x s t 2) + zz (tmM x s t 2 3) := zz_sm
    have a1 : zz (smM 3 x s t 2) = zz (smM 3 x s t 1) + zz (tmM x s t 1 3) := zz_sm
    have a0 : zz (smM 3 x s t 1) = zz (smM 3 x s t 0) + zz (tmM x s t 0 3) := zz_sm
    have b02 : zz (tmM x s t 0 3) = zz (tmM x s t 0 2) * (zz x - ps t 2) * iz (ps t 0 - ps t 2) := zz_tm l2 (by decide)
    have b01 : zz (tmM x s t 0 2) = zz (tmM x s t 0 1) * (zz x - ps t 1) * iz (ps t 0 - ps t 1) := zz_tm l1 (by decide)
    have b00 : zz (tmM x s t 0 1) = zz (tmM x s t 0 0) := zz_tmi
    have b12 : zz (tmM x s t 1 3) = zz (tmM x s t 1 2) * (zz x - ps t 2) * iz (ps t 1 - ps t 2) := zz_tm l2 (by decide)
    have b11 : zz (tmM x s t 1 2) = zz (tmM x s t 1 1) := zz_tmi
    have b10 : zz (tmM x s t 1 1) = zz (tmM x s t 1 0) * (zz x - ps t 0) * iz (ps t 1 - ps t 0) := zz_tm l0 (by decide)
    have b22 : zz (tmM x s t 2 3) = zz (tmM x s t 2 2) := zz_tmi
    have b21 : zz (tmM x s t 2 2) = zz (tmM x s t 2 1) * (zz x - ps t 1) * iz (ps t 2 - ps t 1) := zz_tm l1 (by decide)
    have b20 : zz (tmM x s t 2 1) = zz (tmM x s t 2 0) * (zz x - ps t 0) * iz (ps t 2 - ps t 0) := zz_tm l0 (by decide)
    have n := fun {i j : Nat} => ht.nz (i := i) (j := j)
    have q := lagM3 (x := zz x) (iz_mul (n (by decide : 0 < 3) (by decide : 1 < 3) (by decide))) (iz_mul (n (by decide : 0 < 3) (by decide : 2 < 3) (by decide))) (iz_mul (n (by decide : 1 < 3) (by decide : 0 < 3) (by decide))) (iz_mul (n (by decide : 1 < 3) (by decide : 2 < 3) (by decide))) (iz_mul (n (by decide : 2 < 3) (by decide : 0 < 3) (by decide))) (iz_mul (n (by decide : 2 < 3) (by decide : 1 < 3) (by decide))) h0 h1 h2
    rw [← q, a2, a1, a0, b02, b01, b00, b12, b11, b10, b22, b21, b20, z0, t0, t0, t0]
    congr 1
    congr 1
    exact Fin.zero_add _
theorem ivN_nI {a : Nat} (h : a < 97) : mInv.getD a (nI 0) = nI (ivN a) := ivN_I h
theorem nI_fac {x k : Nat} (h : k ≤ x + 96) : nI x - nI 1 - nI k + nI 97 = nI (x + 96 - k) := by
  have h1 : nI (x + 96 - k) + nI k + nI 1 = nI x + nI 97 := by
    rw [nI_add, nI_add, nI_add]; congr 1; omega
  generalize nI (x + 96 - k) = a at h1 ⊢
  generalize nI x = b at h1 ⊢
  generalize nI k = c at h1 ⊢
  generalize nI 1 = d at h1 ⊢
  generalize nI 97 = e at h1 ⊢
  clear h
  grobner
theorem nI_facM {x k : Nat} (h : k ≤ x + 193) : nI x - nI k - nI 1 + nI 194 = nI (x + 193 - k) := by
  have h1 : nI (x + 193 - k) + nI k + nI 1 = nI x + nI 194 := by
    rw [nI_add, nI_add, nI_add]; congr 1; omega
  generalize nI (x + 193 - k) = a at h1 ⊢
  generalize nI x = b at h1 ⊢
  generalize nI k = c at h1 ⊢
  generalize nI 1 = d at h1 ⊢
  generalize nI 194 = e at h1 ⊢
  clear h
  grobner
theorem mul_lt {a b A B : Nat} (ha : a < A) (hb : b < B) : a * b < A * B := Nat.mul_lt_mul'' ha hb
theorem pn_s {x : Nat} {t : Nat → Nat} {i k : Nat} : pn x t i (k + 1) = if k = i then pn x t i k else pn x t i k * (x + 96 - t k) % 97 := Eq.trans rfl rfl
theorem pd_s {t : Nat → Nat} {i k : Nat} : pd t i (k + 1) = if k = i then pd t i k else pd t i k * (t i + 97 - t k) % 97 := Eq.trans rfl rfl
theorem smC_s {T x : Nat} {s t : Nat → Nat} {k : Nat} : smC T x s t (k + 1) = smC T x s t k + s (t k) * qC T x t k := Eq.trans rfl rfl
theorem tmM_s {x : Nat} {s t : Nat → Nat} {i k : Nat} : tmM x s t i (k + 1) = if k = i then tmM x s t i k else tmM x s t i k * ((x + 193 - t k) % 97) % 97 * ivN ((t i + 97 - t k) % 97) % 97 := Eq.trans rfl rfl
theorem smM_s {T x : Nat} {s t : Nat → Nat} {k : Nat} : smM T x s t (k + 1) = (smM T x s t k + tmM x s t k T) % 97 := Eq.trans rfl rfl
/-- what the class looks at: threshold, shares, and T chosen holders -/
def Lk (M : Mem) (g ga ia T : Nat) (s t : Nat → Nat) : Prop := M g 1 3 = nI T ∧ (1 ≤ T ∧ T ≤ 3) ∧ (∀ k, k < 8 → M g 2 k = nI (s k) ∧ s k ≤ 96) ∧ (∀ i, i < T → M ga ia i = nI (t i)) ∧ Tu T t
theorem c_quotL {M : Mem} {g ga ia T i x N : Nat} {s t : Nat → Nat} (hN : 1000 = N) (h : Lk M g ga ia T s t) (hi : i < T) (hx : x ≤ 96) (kk : Int32 → Int32 → Option Int32) :
    f_X6_quotientsOf_L14 g ga ia (nI i) M (nI x - nI 1) N (nI 1) (nI 1) (nI 0) kk = kk (nI (pn x t i T)) (nI (pd t i T)) := by
  obtain ⟨h3, hT, hs, ht, hu⟩ := h
  have key := mloop (F := fun n x4 (s : Int32 × Int32) kk => f_X6_quotientsOf_L14 g ga ia (nI i) M (nI x - nI 1) n s.1 s.2 x4 (fun a b => kk (a, b))) (c := T) (fun k => (nI (pn x t i k), nI (pd t i k))) (fun n k kk hk => by
    show f_X6_quotientsOf_L14 g ga ia (nI i) M (nI x - nI 1) (n + 1) (nI (pn x t i k)) (nI (pd t i k)) (nI k) (fun a b => kk (a, b)) = f_X6_quotientsOf_L14 g ga ia (nI i) M (nI x - nI 1) n (nI (pn x t i (k + 1))) (nI (pd t i (k + 1))) (nI (k + 1)) (fun a b => kk (a, b))
    rw [f_X6_quotientsOf_L14.eq_2, pn_s, pd_s]
    by_cases q : k = i
    · rw [if_pos q, if_pos q]
      simp (disch := omega) only [lit_0, lit_1, lit_2, lit_3, lit_4, lit_5, lit_6, lit_7, lit_8, lit_9, lit_10, lit_11, lit_12, lit_13, lit_14, lit_15, lit_16, lit_20, lit_23, lit_24, lit_31, lit_32, lit_39, lit_43, lit_45, lit_47, lit_48, lit_56, lit_57, lit_59, lit_60, lit_62, lit_63, lit_89, lit_92, lit_96, lit_97, lit_99, lit_100, lit_102, lit_103, lit_104, lit_110, lit_111, lit_115, lit_117, lit_194, lit_200, lit_644, lit_736, lit_999, lit_1000, lit_9999, lit_10000, lit_1000000000, ↓wp_mlet, ↓wp_mbp, ↓wp_ite, ↓wp_mix, ↓wp_mdiv, ↓wp_mnz, ↓wp_some, ↓wp_mbnd, ↓mlet_eq, ↓mbp_eq, ↓mbnd_eq, ↓mix_ite, ↓mdiv_ite, ↓mnz_ite, nI_add, nI_mul, nI_nat, nI_ltE, nI_leE, nI_eqE, nI_eqN, nI_Neq, nI_Nlt, nI_Nle, nI_ltN, nI_leN, ↓reduceIte, ↓Nat.reduceEqDiff, and_f, nt_e, nt_t, nl_t, nl_f, ne_t, ne_f, and_self, or_self, or_true, true_or, or_false, false_or, if_true, if_false, and_true, true_and, and_false, false_and, not_true, not_false_iff, h3]
    · have l1 := hu.1 k hk
      have l2 := hu.1 i hi
      have e1 := nI_fac (x := x) (k := t k) (by omega)
      have e2 := nI_sub_add (a := t i) (b := t k) (c := 97) (by omega)
      have b1 := mul_lt (pn_lt (x := x) (t := t) (i := i) k) (show x + 96 - t k < 200 by omega)
      have b2 := mul_lt (pd_lt (t := t) (i := i) k) (show t i + 97 - t k < 200 by omega)
      rw [if_neg q, if_neg q, ← nI_rem (a := pn x t i k * (x + 96 - t k)) (by omega) (by decide), ← nI_rem (a := pd t i k * (t i + 97 - t k)) (by omega) (by decide)]
      simp (disch := omega) only [lit_0, lit_1, lit_2, lit_3, lit_4, lit_5, lit_6, lit_7, lit_8, lit_9, lit_10, lit_11, lit_12, lit_13, lit_14, lit_15, lit_16, lit_20, lit_23, lit_24, lit_31, lit_32, lit_39, lit_43, lit_45, lit_47, lit_48, lit_56, lit_57, lit_59, lit_60, lit_62, lit_63, lit_89, lit_92, lit_96, lit_97, lit_99, lit_100, lit_102, lit_103, lit_104, lit_110, lit_111, lit_115, lit_117, lit_194, lit_200, lit_644, lit_736, lit_999, lit_1000, lit_9999, lit_10000, lit_1000000000, ↓wp_mlet, ↓wp_mbp, ↓wp_ite, ↓wp_mix, ↓wp_mdiv, ↓wp_mnz, ↓wp_some, ↓wp_mbnd, ↓mlet_eq, ↓mbp_eq, ↓mbnd_eq, ↓mix_ite, ↓mdiv_ite, ↓mnz_ite, nI_add, nI_mul, nI_nat, nI_ltE, nI_leE, nI_eqE, nI_eqN, nI_Neq, nI_Nlt, nI_Nle, nI_ltN, nI_leN, ↓reduceIte, ↓Nat.reduceEqDiff, and_f, nt_e, nt_t, nl_t, nl_f, ne_t, ne_f, and_self, or_self, or_true, true_or, or_false, false_or, if_true, if_false, and_true, true_and, and_false, false_and, not_true, not_false_iff, h3, ht k hk, ht i hi, e1, e2]) (fun n kk => by
    show f_X6_quotientsOf_L14 g ga ia (nI i) M (nI x - nI 1) (n + 1) (nI (pn x t i T)) (nI (pd t i T)) (nI T) (fun a b => kk (a, b)) = _
    rw [f_X6_quotientsOf_L14.eq_2]
    simp (disch := omega) only [lit_0, lit_1, lit_2, lit_3, lit_4, lit_5, lit_6, lit_7, lit_8, lit_9, lit_10, lit_11, lit_12, lit_13, lit_14, lit_15, lit_16, lit_20, lit_23, lit_24, lit_31, lit_32, lit_39, lit_43, lit_45, lit_47, lit_48, lit_56, lit_57, lit_59, lit_60, lit_62, lit_63, lit_89, lit_92, lit_96, lit_97, lit_99, lit_100, lit_102, lit_103, lit_104, lit_110, lit_111, lit_115, lit_117, lit_194, lit_200, lit_644, lit_736, lit_999, lit_1000, lit_9999, lit_10000, lit_1000000000, ↓wp_mlet, ↓wp_mbp, ↓wp_ite, ↓wp_mix, ↓wp_mdiv, ↓wp_mnz, ↓wp_some, ↓wp_mbnd, ↓mlet_eq, ↓mbp_eq, ↓mbnd_eq, ↓mix_ite, ↓mdiv_ite, ↓mnz_ite, nI_add, nI_mul, nI_nat, nI_ltE, nI_leE, nI_eqE, nI_eqN, nI_Neq, nI_Nlt, nI_Nle, nI_ltN, nI_leN, ↓reduceIte, ↓Nat.reduceEqDiff, and_f, nt_e, nt_t, nl_t, nl_f, ne_t, ne_f, and_self, or_self, or_true, true_or, or_false, false_or, if_true, if_false, and_true, true_and, and_false, false_and, not_true, not_false_iff, h3]) T N 0 (fun s => kk s.1 s.2) (by omega) (by omega)
  exact key
theorem c_quot {M : Mem} {g ga ia T i x : Nat} {s t : Nat → Nat} (h : Lk M g ga ia T s t) (hi : i < T) (hx : x ≤ 96) : f_X6_quotientsOf g ga ia (nI i) (nI x) M = some (nI (qC T x t i)) := by
  unfold f_X6_quotientsOf
  generalize hN : (1000 : Nat) = N
  simp only [lit_0, lit_1, lit_2, lit_3, lit_4, lit_5, lit_6, lit_7, lit_8, lit_9, lit_10, lit_11, lit_12, lit_13, lit_14, lit_15, lit_16, lit_20, lit_23, lit_24, lit_31, lit_32, lit_39, lit_43, lit_45, lit_47, lit_48, lit_56, lit_57, lit_59, lit_60, lit_62, lit_63, lit_89, lit_92, lit_96, lit_97, lit_99, lit_100, lit_102, lit_103, lit_104, lit_110, lit_111, lit_115, lit_117, lit_194, lit_200, lit_644, lit_736, lit_999, lit_1000, lit_9999, lit_10000, lit_1000000000, mlet_eq]
  rw [c_quotL hN h hi hx]
  have l := pd_lt (t := t) (i := i) T
  have b := mul_lt (pn_lt (x := x) (t := t) (i := i) T) (ivN_lt l)
  have e := ivN_nI l
  unfold qC
  rw [← nI_rem (by omega) (by decide)]
  simp (disch := omega) only [lit_0, lit_1, lit_2, lit_3, lit_4, lit_5, lit_6, lit_7, lit_8, lit_9, lit_10, lit_11, lit_12, lit_13, lit_14, lit_15, lit_16, lit_20, lit_23, lit_24, lit_31, lit_32, lit_39, lit_43, lit_45, lit_47, lit_48, lit_56, lit_57, lit_59, lit_60, lit_62, lit_63, lit_89, lit_92, lit_96, lit_97, lit_99, lit_100, lit_102, lit_103, lit_104, lit_110, lit_111, lit_115, lit_117, lit_194, lit_200, lit_644, lit_736, lit_999, lit_1000, lit_9999, lit_10000, lit_1000000000, ↓wp_mlet, ↓wp_mbp, ↓wp_ite, ↓wp_mix, ↓wp_mdiv, ↓wp_mnz, ↓wp_some, ↓wp_mbnd, ↓mlet_eq, ↓mbp_eq, ↓mbnd_eq, ↓mix_ite, ↓mdiv_ite, ↓mnz_ite, nI_add, nI_mul, nI_nat, nI_ltE, nI_leE, nI_eqE, nI_eqN, nI_Neq, nI_Nlt, nI_Nle, nI_ltN, nI_leN, ↓reduceIte, ↓Nat.reduceEqDiff, and_f, nt_e, nt_t, nl_t, nl_f, ne_t, ne_f, and_self, or_self, or_true, true_or, or_false, false_or, if_true, if_false, and_true, true_and, and_false, false_and, not_true, not_false_iff, e]
theorem smC_le {M : Mem} {g ga ia T x : Nat} {s t : Nat → Nat} (h : Lk M g ga ia T s t) : ∀ k, k ≤ T → smC T x s t k ≤ 10000 * k
  | 0, _ => Nat.le_refl _
  | k + 1, hk => by
    obtain ⟨h3, hT, hs, ht, hu⟩ := id h
    have l1 := (hs (t k) (hu.1 k (by omega))).2
    have b := mul_lt (show s (t k) < 97 by omega) (qC_lt (T := T) (x := x) (t := t) (i := k))
    have := smC_le (x := x) h k (by omega)
    rw [smC_s]
    omega
theorem c_thr {M : Mem} {g ga ia T x : Nat} {s t : Nat → Nat} (h : Lk M g ga ia T s t) (hx : x ≤ 96) : f_X6_valueThrough g ga ia (nI x) M = some (nI (thr T s t x)) := by
  obtain ⟨h3, hT, hs, ht, hu⟩ := id h
  unfold f_X6_valueThrough
  generalize hN : (1000 : Nat) = N
  have key := mloop (F := fun n x4 s kk => f_X6_valueThrough_L5 g ga ia (nI x) M n s x4 kk) (c := T) (fun k => nI (smC T x s t k)) (fun n k kk hk => by
    show f_X6_valueThrough_L5 g ga ia (nI x) M (n + 1) (nI (smC T x s t k)) (nI k) kk = f_X6_valueThrough_L5 g ga ia (nI x) M n (nI (smC T x s t (k + 1))) (nI (k + 1)) kk
    have l1 := hu.1 k hk
    have e1 := c_quot h hk hx
    have e2 := (hs (t k) l1).1
    rw [f_X6_valueThrough_L5.eq_2, smC_s]
    simp (disch := omega) only [lit_0, lit_1, lit_2, lit_3, lit_4, lit_5, lit_6, lit_7, lit_8, lit_9, lit_10, lit_11, lit_12, lit_13, lit_14, lit_15, lit_16, lit_20, lit_23, lit_24, lit_31, lit_32, lit_39, lit_43, lit_45, lit_47, lit_48, lit_56, lit_57, lit_59, lit_60, lit_62, lit_63, lit_89, lit_92, lit_96, lit_97, lit_99, lit_100, lit_102, lit_103, lit_104, lit_110, lit_111, lit_115, lit_117, lit_194, lit_200, lit_644, lit_736, lit_999, lit_1000, lit_9999, lit_10000, lit_1000000000, ↓wp_mlet, ↓wp_mbp, ↓wp_ite, ↓wp_mix, ↓wp_mdiv, ↓wp_mnz, ↓wp_some, ↓wp_mbnd, ↓mlet_eq, ↓mbp_eq, ↓mbnd_eq, ↓mix_ite, ↓mdiv_ite, ↓mnz_ite, nI_add, nI_mul, nI_nat, nI_ltE, nI_leE, nI_eqE, nI_eqN, nI_Neq, nI_Nlt, nI_Nle, nI_ltN, nI_leN, ↓reduceIte, ↓Nat.reduceEqDiff, and_f, nt_e, nt_t, nl_t, nl_f, ne_t, ne_f, and_self, or_self, or_true, true_or, or_false, false_or, if_true, if_false, and_true, true_and, and_false, false_and, not_true, not_false_iff, h3, ht k hk, e1, e2]) (fun n kk => by
    show f_X6_valueThrough_L5 g ga ia (nI x) M (n + 1) (nI (smC T x s t T)) (nI T) kk = _
    rw [f_X6_valueThrough_L5.eq_2]
    simp (disch := omega) only [lit_0, lit_1, lit_2, lit_3, lit_4, lit_5, lit_6, lit_7, lit_8, lit_9, lit_10, lit_11, lit_12, lit_13, lit_14, lit_15, lit_16, lit_20, lit_23, lit_24, lit_31, lit_32, lit_39, lit_43, lit_45, lit_47, lit_48, lit_56, lit_57, lit_59, lit_60, lit_62, lit_63, lit_89, lit_92, lit_96, lit_97, lit_99, lit_100, lit_102, lit_103, lit_104, lit_110, lit_111, lit_115, lit_117, lit_194, lit_200, lit_644, lit_736, lit_999, lit_1000, lit_9999, lit_10000, lit_1000000000, ↓wp_mlet, ↓wp_mbp, ↓wp_ite, ↓wp_mix, ↓wp_mdiv, ↓wp_mnz, ↓wp_some, ↓wp_mbnd, ↓mlet_eq, ↓mbp_eq, ↓mbnd_eq, ↓mix_ite, ↓mdiv_ite, ↓mnz_ite, nI_add, nI_mul, nI_nat, nI_ltE, nI_leE, nI_eqE, nI_eqN, nI_Neq, nI_Nlt, nI_Nle, nI_ltN, nI_leN, ↓reduceIte, ↓Nat.reduceEqDiff, and_f, nt_e, nt_t, nl_t, nl_f, ne_t, ne_f, and_self, or_self, or_true, true_or, or_false, false_or, if_true, if_false, and_true, true_and, and_false, false_and, not_true, not_false_iff, h3]) T N 0 (fun x7 => some (mrem x7 (nI 97))) (by omega) (by omega)
  have e0 : f_X6_valueThrough_L5 g ga ia (nI x) M N 0 0 (fun x7 => some (mrem x7 97)) = f_X6_valueThrough_L5 g ga ia (nI x) M N (nI (smC T x s t 0)) (nI 0) (fun x7 => some (mrem x7 (nI 97))) := rfl
  rw [e0, key, nI_rem (by have := smC_le (x := x) h T (Nat.le_refl T); omega) (by decide), thrC hT hu]
/-- what the model looks at -/
def Lm (M : Mem) (T : Nat) (s t : Nat → Nat) : Prop := M 12 48 5 = nI T ∧ (1 ≤ T ∧ T ≤ 3) ∧ (∀ k, k < 8 → M 12 48 (15 + k) = nI (s k) ∧ s k ≤ 96) ∧ (∀ i, i < T → M 12 56 i = nI (t i)) ∧ Tu T t
theorem ivN_1 {a : Nat} (h : a < 97) (h0 : a ≠ 0) : 1 ≤ ivN a := (ivN_first ⟨a, h⟩ h0).1
theorem ivN_min {a x : Nat} (h : a < 97) (h0 : a ≠ 0) (hx : x < ivN a) : (a * x) % 97 ≠ 1 := (ivN_first ⟨a, h⟩ h0).2 ⟨x, Nat.lt_trans hx (ivN_lt h)⟩ hx
theorem m_inv {M : Mem} {a : Nat} (h : a < 97) (h0 : a ≠ 0) : f_X12_inverse (nI a) M = some (nI (ivN a)) := by
  unfold f_X12_inverse
  generalize hN : (1000 : Nat) = N
  have l := ivN_lt h
  have l1 := ivN_1 h h0
  have key := mloopL (F := fun n x (_ : Int32) kk => f_X12_inverse_L2 (nI a) n x kk) (c := ivN a) 1 (fun k => nI k) (fun n k kk h1 hk => by
    show f_X12_inverse_L2 (nI a) (n + 1) (nI k) kk = f_X12_inverse_L2 (nI a) n (nI (k + 1)) kk
    have b := mul_lt h (show k < 97 by omega)
    have e := ivN_min h h0 hk
    have e2 := nI_rem (a := a * k) (b := 97) (by omega) (by decide)
    rw [f_X12_inverse_L2.eq_2]
    simp (disch := omega) only [lit_0, lit_1, lit_2, lit_3, lit_4, lit_5, lit_6, lit_7, lit_8, lit_9, lit_10, lit_11, lit_12, lit_13, lit_14, lit_15, lit_16, lit_20, lit_23, lit_24, lit_31, lit_32, lit_39, lit_43, lit_45, lit_47, lit_48, lit_56, lit_57, lit_59, lit_60, lit_62, lit_63, lit_89, lit_92, lit_96, lit_97, lit_99, lit_100, lit_102, lit_103, lit_104, lit_110, lit_111, lit_115, lit_117, lit_194, lit_200, lit_644, lit_736, lit_999, lit_1000, lit_9999, lit_10000, lit_1000000000, ↓wp_mlet, ↓wp_mbp, ↓wp_ite, ↓wp_mix, ↓wp_mdiv, ↓wp_mnz, ↓wp_some, ↓wp_mbnd, ↓mlet_eq, ↓mbp_eq, ↓mbnd_eq, ↓mix_ite, ↓mdiv_ite, ↓mnz_ite, nI_add, nI_mul, nI_nat, nI_ltE, nI_leE, nI_eqE, nI_eqN, nI_Neq, nI_Nlt, nI_Nle, nI_ltN, nI_leN, ↓reduceIte, ↓Nat.reduceEqDiff, and_f, nt_e, nt_t, nl_t, nl_f, ne_t, ne_f, and_self, or_self, or_true, true_or, or_false, false_or, if_true, if_false, and_true, true_and, and_false, false_and, not_true, not_false_iff, e2]) (fun n kk => by
    show f_X12_inverse_L2 (nI a) (n + 1) (nI (ivN a)) kk = _
    have b := mul_lt h l
    have e := ivN_mul h h0
    have e2 := nI_rem (a := a * ivN a) (b := 97) (by omega) (by decide)
    rw [f_X12_inverse_L2.eq_2]
    simp (disch := omega) only [lit_0, lit_1, lit_2, lit_3, lit_4, lit_5, lit_6, lit_7, lit_8, lit_9, lit_10, lit_11, lit_12, lit_13, lit_14, lit_15, lit_16, lit_20, lit_23, lit_24, lit_31, lit_32, lit_39, lit_43, lit_45, lit_47, lit_48, lit_56, lit_57, lit_59, lit_60, lit_62, lit_63, lit_89, lit_92, lit_96, lit_97, lit_99, lit_100, lit_102, lit_103, lit_104, lit_110, lit_111, lit_115, lit_117, lit_194, lit_200, lit_644, lit_736, lit_999, lit_1000, lit_9999, lit_10000, lit_1000000000, ↓wp_mlet, ↓wp_mbp, ↓wp_ite, ↓wp_mix, ↓wp_mdiv, ↓wp_mnz, ↓wp_some, ↓wp_mbnd, ↓mlet_eq, ↓mbp_eq, ↓mbnd_eq, ↓mix_ite, ↓mdiv_ite, ↓mnz_ite, nI_add, nI_mul, nI_nat, nI_ltE, nI_leE, nI_eqE, nI_eqN, nI_Neq, nI_Nlt, nI_Nle, nI_ltN, nI_leN, ↓reduceIte, ↓Nat.reduceEqDiff, and_f, nt_e, nt_t, nl_t, nl_f, ne_t, ne_f, and_self, or_self, or_true, true_or, or_false, false_or, if_true, if_false, and_true, true_and, and_false, false_and, not_true, not_false_iff, e2]) (ivN a - 1) N 1 (fun x4 => some x4) (by omega) (by omega) (by omega)
  exact key
theorem tmM_lt {M : Mem} {T x i : Nat} {s t : Nat → Nat} (h : Lm M T s t) (hi : i < T) : ∀ k, tmM x s t i k < 97
  | 0 => by
    have := (h.2.2.1 (t i) (h.2.2.2.2.1 i hi)).2
    show s (t i) < 97
    omega
  | k + 1 => by
    rw [tmM_s]
    split
    · exact tmM_lt h hi k
    · exact Nat.mod_lt _ (by decide)
theorem den_ne {T : Nat} {t : Nat → Nat} (h : Tu T t) {i j : Nat} (hi : i < T) (hj : j < T) (hij : i ≠ j) : (t i + 97 - t j) % 97 ≠ 0 := by
  have h1 := h.1 i hi
  have h2 := h.1 j hj
  have : t i ≠ t j := by
    rcases Nat.lt_or_gt_of_ne hij with q | q
    · exact h.2 i j q hj
    · exact fun e => h.2 j i q hi e.symm
  omega
theorem m_termL {M : Mem} {T i x N : Nat} {s t : Nat → Nat} (hN : 1000 = N) (h : Lm M T s t) (hi : i < T) (hx : x ≤ 96) (kk : Int32 → Option Int32) :
    f_X12_through_L33 (nI x) M (nI i) N (nI (s (t i))) (nI 0) kk = kk (nI (tmM x s t i T)) := by
  obtain ⟨h3, hT, hs, ht, hu⟩ := id h
  have key := mloop (F := fun n x4 s kk => f_X12_through_L33 (nI x) M (nI i) n s x4 kk) (c := T) (fun k => nI (tmM x s t i k)) (fun n k kk hk => by
    show f_X12_through_L33 (nI x) M (nI i) (n + 1) (nI (tmM x s t i k)) (nI k) kk = f_X12_through_L33 (nI x) M (nI i) n (nI (tmM x s t i (k + 1))) (nI (k + 1)) kk
    rw [f_X12_through_L33.eq_2, tmM_s]
    by_cases q : k = i
    · rw [if_pos q]
      simp (disch := omega) only [lit_0, lit_1, lit_2, lit_3, lit_4, lit_5, lit_6, lit_7, lit_8, lit_9, lit_10, lit_11, lit_12, lit_13, lit_14, lit_15, lit_16, lit_20, lit_23, lit_24, lit_31, lit_32, lit_39, lit_43, lit_45, lit_47, lit_48, lit_56, lit_57, lit_59, lit_60, lit_62, lit_63, lit_89, lit_92, lit_96, lit_97, lit_99, lit_100, lit_102, lit_103, lit_104, lit_110, lit_111, lit_115, lit_117, lit_194, lit_200, lit_644, lit_736, lit_999, lit_1000, lit_9999, lit_10000, lit_1000000000, ↓wp_mlet, ↓wp_mbp, ↓wp_ite, ↓wp_mix, ↓wp_mdiv, ↓wp_mnz, ↓wp_some, ↓wp_mbnd, ↓mlet_eq, ↓mbp_eq, ↓mbnd_eq, ↓mix_ite, ↓mdiv_ite, ↓mnz_ite, nI_add, nI_mul, nI_nat, nI_ltE, nI_leE, nI_eqE, nI_eqN, nI_Neq, nI_Nlt, nI_Nle, nI_ltN, nI_leN, ↓reduceIte, ↓Nat.reduceEqDiff, and_f, nt_e, nt_t, nl_t, nl_f, ne_t, ne_f, and_self, or_self, or_true, true_or, or_false, false_or, if_true, if_false, and_true, true_and, and_false, false_and, not_true, not_false_iff, h3]
    · have l1 := hu.1 k hk
      have l2 := hu.1 i hi
      have m1 := Nat.mod_lt (x + 193 - t k) (show 0 < 97 by decide)
      have m2 := Nat.mod_lt (t i + 97 - t k) (show 0 < 97 by decide)
      have m3 := Nat.mod_lt (tmM x s t i k * ((x + 193 - t k) % 97)) (show 0 < 97 by decide)
      have e1 := nI_facM (x := x) (k := t k) (by omega)
      have e2 := nI_sub_add (a := t i) (b := t k) (c := 97) (by omega)
      have e3 := m_inv (M := M) m2 (den_ne hu hi hk (fun e => q e.symm))
      have e4 := nI_rem (a := x + 193 - t k) (b := 97) (by omega) (by decide)
      have e5 := nI_rem (a := t i + 97 - t k) (b := 97) (by omega) (by decide)
      have b1 := mul_lt (tmM_lt (x := x) h hi k) m1
      have b2 := mul_lt m3 (ivN_lt m2)
      have e6 := nI_rem (a := tmM x s t i k * ((x + 193 - t k) % 97)) (b := 97) (by omega) (by decide)
      have e7 := nI_rem (a := tmM x s t i k * ((x + 193 - t k) % 97) % 97 * ivN ((t i + 97 - t k) % 97)) (b := 97) (by omega) (by decide)
      rw [if_neg q]
      simp (disch := omega) only [lit_0, lit_1, lit_2, lit_3, lit_4, lit_5, lit_6, lit_7, lit_8, lit_9, lit_10, lit_11, lit_12, lit_13, lit_14, lit_15, lit_16, lit_20, lit_23, lit_24, lit_31, lit_32, lit_39, lit_43, lit_45, lit_47, lit_48, lit_56, lit_57, lit_59, lit_60, lit_62, lit_63, lit_89, lit_92, lit_96, lit_97, lit_99, lit_100, lit_102, lit_103, lit_104, lit_110, lit_111, lit_115, lit_117, lit_194, lit_200, lit_644, lit_736, lit_999, lit_1000, lit_9999, lit_10000, lit_1000000000, ↓wp_mlet, ↓wp_mbp, ↓wp_ite, ↓wp_mix, ↓wp_mdiv, ↓wp_mnz, ↓wp_some, ↓wp_mbnd, ↓mlet_eq, ↓mbp_eq, ↓mbnd_eq, ↓mix_ite, ↓mdiv_ite, ↓mnz_ite, nI_add, nI_mul, nI_nat, nI_ltE, nI_leE, nI_eqE, nI_eqN, nI_Neq, nI_Nlt, nI_Nle, nI_ltN, nI_leN, ↓reduceIte, ↓Nat.reduceEqDiff, and_f, nt_e, nt_t, nl_t, nl_f, ne_t, ne_f, and_self, or_self, or_true, true_or, or_false, false_or, if_true, if_false, and_true, true_and, and_false, false_and, not_true, not_false_iff, h3, ht k hk, ht i hi, e1, e2, e3, e4, e5, e6, e7]) (fun n kk => by
    show f_X12_through_L33 (nI x) M (nI i) (n + 1) (nI (tmM x s t i T)) (nI T) kk = _
    rw [f_X12_through_L33.eq_2]
    simp (disch := omega) only [lit_0, lit_1, lit_2, lit_3, lit_4, lit_5, lit_6, lit_7, lit_8, lit_9, lit_10, lit_11, lit_12, lit_13, lit_14, lit_15, lit_16, lit_20, lit_23, lit_24, lit_31, lit_32, lit_39, lit_43, lit_45, lit_47, lit_48, lit_56, lit_57, lit_59, lit_60, lit_62, lit_63, lit_89, lit_92, lit_96, lit_97, lit_99, lit_100, lit_102, lit_103, lit_104, lit_110, lit_111, lit_115, lit_117, lit_194, lit_200, lit_644, lit_736, lit_999, lit_1000, lit_9999, lit_10000, lit_1000000000, ↓wp_mlet, ↓wp_mbp, ↓wp_ite, ↓wp_mix, ↓wp_mdiv, ↓wp_mnz, ↓wp_some, ↓wp_mbnd, ↓mlet_eq, ↓mbp_eq, ↓mbnd_eq, ↓mix_ite, ↓mdiv_ite, ↓mnz_ite, nI_add, nI_mul, nI_nat, nI_ltE, nI_leE, nI_eqE, nI_eqN, nI_Neq, nI_Nlt, nI_Nle, nI_ltN, nI_leN, ↓reduceIte, ↓Nat.reduceEqDiff, and_f, nt_e, nt_t, nl_t, nl_f, ne_t, ne_f, and_self, or_self, or_true, true_or, or_false, false_or, if_true, if_false, and_true, true_and, and_false, false_and, not_true, not_false_iff, h3]) T N 0 kk (by omega) (by omega)
  exact key
theorem m_thr {M : Mem} {T x : Nat} {s t : Nat → Nat} (h : Lm M T s t) (hx : x ≤ 96) : f_X12_through (nI x) M = some (nI (thr T s t x)) := by
  obtain ⟨h3, hT, hs, ht, hu⟩ := id h
  unfold f_X12_through
  generalize hN : (1000 : Nat) = N
  have key := mloop (F := fun n x4 s kk => f_X12_through_L4 (nI x) M n s x4 kk) (c := T) (fun k => nI (smM T x s t k)) (fun n k kk hk => by
    show f_X12_through_L4 (nI x) M (n + 1) (nI (smM T x s t k)) (nI k) kk = f_X12_through_L4 (nI x) M n (nI (smM T x s t (k + 1))) (nI (k + 1)) kk
    have l1 := hu.1 k hk
    have e2 := (hs (t k) l1).1
    rw [f_X12_through_L4.eq_2, smM_s]
    generalize hN2 : (1000 : Nat) = N2
    have e1 := fun kk => m_termL (x := x) hN2 h hk hx kk
    have b1 := smM_lt (T := T) (x := x) (s := s) (t := t) k
    have b2 := tmM_lt (x := x) h hk T
    have e7 := nI_rem (a := smM T x s t k + tmM x s t k T) (b := 97) (by omega) (by decide)
    simp (disch := omega) only [lit_0, lit_1, lit_2, lit_3, lit_4, lit_5, lit_6, lit_7, lit_8, lit_9, lit_10, lit_11, lit_12, lit_13, lit_14, lit_15, lit_16, lit_20, lit_23, lit_24, lit_31, lit_32, lit_39, lit_43, lit_45, lit_47, lit_48, lit_56, lit_57, lit_59, lit_60, lit_62, lit_63, lit_89, lit_92, lit_96, lit_97, lit_99, lit_100, lit_102, lit_103, lit_104, lit_110, lit_111, lit_115, lit_117, lit_194, lit_200, lit_644, lit_736, lit_999, lit_1000, lit_9999, lit_10000, lit_1000000000, ↓wp_mlet, ↓wp_mbp, ↓wp_ite, ↓wp_mix, ↓wp_mdiv, ↓wp_mnz, ↓wp_some, ↓wp_mbnd, ↓mlet_eq, ↓mbp_eq, ↓mbnd_eq, ↓mix_ite, ↓mdiv_ite, ↓mnz_ite, nI_add, nI_mul, nI_nat, nI_ltE, nI_leE, nI_eqE, nI_eqN, nI_Neq, nI_Nlt, nI_Nle, nI_ltN, nI_leN, ↓reduceIte, ↓Nat.reduceEqDiff, and_f, nt_e, nt_t, nl_t, nl_f, ne_t, ne_f, and_self, or_self, or_true, true_or, or_false, false_or, if_true, if_false, and_true, true_and, and_false, false_and, not_true, not_false_iff, h3, ht k hk, e2, e1, e7]) (fun n kk => by
    show f_X12_through_L4 (nI x) M (n + 1) (nI (smM T x s t T)) (nI T) kk = _
    rw [f_X12_through_L4.eq_2]
    simp (disch := omega) only [lit_0, lit_1, lit_2, lit_3, lit_4, lit_5, lit_6, lit_7, lit_8, lit_9, lit_10, lit_11, lit_12, lit_13, lit_14, lit_15, lit_16, lit_20, lit_23, lit_24, lit_31, lit_32, lit_39, lit_43, lit_45, lit_47, lit_48, lit_56, lit_57, lit_59, lit_60, lit_62, lit_63, lit_89, lit_92, lit_96, lit_97, lit_99, lit_100, lit_102, lit_103, lit_104, lit_110, lit_111, lit_115, lit_117, lit_194, lit_200, lit_644, lit_736, lit_999, lit_1000, lit_9999, lit_10000, lit_1000000000, ↓wp_mlet, ↓wp_mbp, ↓wp_ite, ↓wp_mix, ↓wp_mdiv, ↓wp_mnz, ↓wp_some, ↓wp_mbnd, ↓mlet_eq, ↓mbp_eq, ↓mbnd_eq, ↓mix_ite, ↓mdiv_ite, ↓mnz_ite, nI_add, nI_mul, nI_nat, nI_ltE, nI_leE, nI_eqE, nI_eqN, nI_Neq, nI_Nlt, nI_Nle, nI_ltN, nI_leN, ↓reduceIte, ↓Nat.reduceEqDiff, and_f, nt_e, nt_t, nl_t, nl_f, ne_t, ne_f, and_self, or_self, or_true, true_or, or_false, false_or, if_true, if_false, and_true, true_and, and_false, false_and, not_true, not_false_iff, h3]) T N 0 (fun x7 => some x7) (by omega) (by omega)
  have e0 : f_X12_through_L4 (nI x) M N 0 0 (fun x7 => some x7) = f_X12_through_L4 (nI x) M N (nI (smM T x s t 0)) (nI 0) (fun x7 => some x7) := rfl
  rw [e0, key, thrM hT hu]
