def rkP (α : Sp) (a1 : Int32) : Nat → Bool := fun z => decide (nI (cB α z 8) = a1)
theorem rkP_at (α : Sp) (a1 : Int32) (z : Nat) : (rkP α a1 z = true) = (nI (cB α z 8) = a1) := by unfold rkP; exact propext decide_eq_true_iff
theorem m_zoneL {M : Mem} {α : Sp} {H N e : Nat} {a1 : Int32} (he : e = 8) (hN : 1000 = N) (hS : M 12 48 = enc α) (hi : Inv H α) (hH : H < 900000) (kk : Unit → Option (Int32 × Mem)) : (∀ w, fnd (rkP α a1) 0 e = some w → f_X12_zoneByNoise_L7 a1 M N (nI 0) kk = some (nI w, M)) ∧ (fnd (rkP α a1) 0 e = none → f_X12_zoneByNoise_L7 a1 M N (nI 0) kk = kk ()) := by
  have h := floop (β := Int32 × Mem) (F := fun m x kk => f_X12_zoneByNoise_L7 a1 M m x kk) (c := 8) (rkP α a1) (fun z => (nI z, M)) (fun m x kk hx => by
    show f_X12_zoneByNoise_L7 a1 M (m + 1) (nI x) kk = _
    rw [f_X12_zoneByNoise_L7.eq_2]
    generalize hN2 : (1000 : Nat) = N2
    have em := fun kk => m_rank hN2 hS hi hH hx kk
    simp (disch := omega) only [lit_0, lit_1, lit_2, lit_3, lit_4, lit_5, lit_6, lit_7, lit_8, lit_9, lit_10, lit_11, lit_12, lit_13, lit_14, lit_15, lit_16, lit_20, lit_23, lit_24, lit_31, lit_32, lit_39, lit_43, lit_45, lit_47, lit_48, lit_56, lit_57, lit_59, lit_60, lit_62, lit_63, lit_89, lit_92, lit_96, lit_97, lit_99, lit_100, lit_102, lit_103, lit_104, lit_110, lit_111, lit_115, lit_117, lit_194, lit_200, lit_644, lit_736, lit_999, lit_1000, lit_9999, lit_10000, lit_1000000000, ↓wp_mlet, ↓wp_mbp, ↓wp_ite, ↓wp_mix, ↓wp_mdiv, ↓wp_mnz, ↓wp_some, ↓wp_mbnd, ↓mlet_eq, ↓mbp_eq, ↓mbnd_eq, ↓mix_ite, ↓mdiv_ite, ↓mnz_ite, nI_add, nI_mul, nI_nat, nI_ltE, nI_leE, nI_eqE, nI_eqN, nI_Neq, nI_Nlt, nI_Nle, nI_ltN, nI_leN, ↓reduceIte, ↓Nat.reduceEqDiff, and_f, nt_e, nt_t, nl_t, nl_f, ne_t, ne_f, and_self, or_self, or_true, true_or, or_false, false_or, if_true, if_false, and_true, true_and, and_false, false_and, not_true, not_false_iff, em, rkP_at]) (fun m kk => by
    show f_X12_zoneByNoise_L7 a1 M (m + 1) (nI 8) kk = _
    rw [f_X12_zoneByNoise_L7.eq_2]
    generalize hN2 : (1000 : Nat) = N2
    simp (disch := omega) only [lit_0, lit_1, lit_2, lit_3, lit_4, lit_5, lit_6, lit_7, lit_8, lit_9, lit_10, lit_11, lit_12, lit_13, lit_14, lit_15, lit_16, lit_20, lit_23, lit_24, lit_31, lit_32, lit_39, lit_43, lit_45, lit_47, lit_48, lit_56, lit_57, lit_59, lit_60, lit_62, lit_63, lit_89, lit_92, lit_96, lit_97, lit_99, lit_100, lit_102, lit_103, lit_104, lit_110, lit_111, lit_115, lit_117, lit_194, lit_200, lit_644, lit_736, lit_999, lit_1000, lit_9999, lit_10000, lit_1000000000, ↓wp_mlet, ↓wp_mbp, ↓wp_ite, ↓wp_mix, ↓wp_mdiv, ↓wp_mnz, ↓wp_some, ↓wp_mbnd, ↓mlet_eq, ↓mbp_eq, ↓mbnd_eq, ↓mix_ite, ↓mdiv_ite, ↓mnz_ite, nI_add, nI_mul, nI_nat, nI_ltE, nI_leE, nI_eqE, nI_eqN, nI_Neq, nI_Nlt, nI_Nle, nI_ltN, nI_leN, ↓reduceIte, ↓Nat.reduceEqDiff, and_f, nt_e, nt_t, nl_t, nl_f, ne_t, ne_f, and_self, or_self, or_true, true_or, or_false, false_or, if_true, if_false, and_true, true_and, and_false, false_and, not_true, not_false_iff]) e N 0 kk (by omega) (by omega)
  generalize fnd (rkP α a1) 0 e = o at h ⊢
  refine ⟨fun w hw => ?_, fun hw => ?_⟩
  · subst hw; exact h
  · subst hw; exact h
theorem c_zoneL {M : Mem} {α : Sp} {H N e : Nat} {a1 : Int32} (he : e = 8) (hN : 1000 = N) (hR : RC (M 0) α) (hi : Inv H α) (hH : H < 900000) (kk : Unit → Option Int32) : (∀ w, fnd (rkP α a1) 0 e = some w → f_X1_zoneAtRank_L2 0 a1 M N (nI 0) kk = some (nI w)) ∧ (fnd (rkP α a1) 0 e = none → f_X1_zoneAtRank_L2 0 a1 M N (nI 0) kk = kk ()) := by
  have h := floop (β := Int32) (F := fun m x kk => f_X1_zoneAtRank_L2 0 a1 M m x kk) (c := 8) (rkP α a1) (fun z => nI z) (fun m x kk hx => by
    show f_X1_zoneAtRank_L2 0 a1 M (m + 1) (nI x) kk = _
    rw [f_X1_zoneAtRank_L2.eq_2]
    have em := c_rank hR hi hH hx
    simp (disch := omega) only [lit_0, lit_1, lit_2, lit_3, lit_4, lit_5, lit_6, lit_7, lit_8, lit_9, lit_10, lit_11, lit_12, lit_13, lit_14, lit_15, lit_16, lit_20, lit_23, lit_24, lit_31, lit_32, lit_39, lit_43, lit_45, lit_47, lit_48, lit_56, lit_57, lit_59, lit_60, lit_62, lit_63, lit_89, lit_92, lit_96, lit_97, lit_99, lit_100, lit_102, lit_103, lit_104, lit_110, lit_111, lit_115, lit_117, lit_194, lit_200, lit_644, lit_736, lit_999, lit_1000, lit_9999, lit_10000, lit_1000000000, ↓wp_mlet, ↓wp_mbp, ↓wp_ite, ↓wp_mix, ↓wp_mdiv, ↓wp_mnz, ↓wp_some, ↓wp_mbnd, ↓mlet_eq, ↓mbp_eq, ↓mbnd_eq, ↓mix_ite, ↓mdiv_ite, ↓mnz_ite, nI_add, nI_mul, nI_nat, nI_ltE, nI_leE, nI_eqE, nI_eqN, nI_Neq, nI_Nlt, nI_Nle, nI_ltN, nI_leN, ↓reduceIte, ↓Nat.reduceEqDiff, and_f, nt_e, nt_t, nl_t, nl_f, ne_t, ne_f, and_self, or_self, or_true, true_or, or_false, false_or, if_true, if_false, and_true, true_and, and_false, false_and, not_true, not_false_iff, em, rkP_at]) (fun m kk => by
    show f_X1_zoneAtRank_L2 0 a1 M (m + 1) (nI 8) kk = _
    rw [f_X1_zoneAtRank_L2.eq_2]
    simp (disch := omega) only [lit_0, lit_1, lit_2, lit_3, lit_4, lit_5, lit_6, lit_7, lit_8, lit_9, lit_10, lit_11, lit_12, lit_13, lit_14, lit_15, lit_16, lit_20, lit_23, lit_24, lit_31, lit_32, lit_39, lit_43, lit_45, lit_47, lit_48, lit_56, lit_57, lit_59, lit_60, lit_62, lit_63, lit_89, lit_92, lit_96, lit_97, lit_99, lit_100, lit_102, lit_103, lit_104, lit_110, lit_111, lit_115, lit_117, lit_194, lit_200, lit_644, lit_736, lit_999, lit_1000, lit_9999, lit_10000, lit_1000000000, ↓wp_mlet, ↓wp_mbp, ↓wp_ite, ↓wp_mix, ↓wp_mdiv, ↓wp_mnz, ↓wp_some, ↓wp_mbnd, ↓mlet_eq, ↓mbp_eq, ↓mbnd_eq, ↓mix_ite, ↓mdiv_ite, ↓mnz_ite, nI_add, nI_mul, nI_nat, nI_ltE, nI_leE, nI_eqE, nI_eqN, nI_Neq, nI_Nlt, nI_Nle, nI_ltN, nI_leN, ↓reduceIte, ↓Nat.reduceEqDiff, and_f, nt_e, nt_t, nl_t, nl_f, ne_t, ne_f, and_self, or_self, or_true, true_or, or_false, false_or, if_true, if_false, and_true, true_and, and_false, false_and, not_true, not_false_iff]) e N 0 kk (by omega) (by omega)
  generalize fnd (rkP α a1) 0 e = o at h ⊢
  refine ⟨fun w hw => ?_, fun hw => ?_⟩
  · subst hw; exact h
  · subst hw; exact h
theorem pair_zoneByNoise {n : Nat} {M : Mem} (hr : Rel n M) (hn : n < 512) (a1 : Int32) : PairG n (fun x => if x = 4 then 1 else 0) M (f_X11_zoneByNoise a1) (f_X12_zoneByNoise a1) := by
  have hr' := Rel_thr hr
  obtain ⟨α, αh, αs, K, nx, fed, b, H, hW⟩ := hr
  obtain ⟨hR, hS, hHs, hs, hx, hi, hih, his, hbb⟩ := id hW
  have hS' := ms_t (x := nI 0) hS
  unfold PairG f_X11_zoneByNoise f_X12_zoneByNoise f_X1_zoneAtRank f_X12_fails
  generalize hN : (1000 : Nat) = N
  have lt8 : ∀ z, z < 8 → cB α z 8 < 8 := fun z hz => cB_self 8 hz
  obtain ⟨e, he⟩ : ∃ e, e = 8 := ⟨8, rfl⟩
  have kM := m_zoneL (a1 := a1) he hN hS' hi (by omega) (fun _ => mbnd (mlet (mup (mup M 12 47 0 (nI 0)) 12 47 0 (nI 1)) fun M1 => some (nI 0, M1)) fun r18 M19 => some (r18, M19))
  have kC := c_zoneL (M := M) (a1 := a1) he hN hR hi (by omega) (fun _ => some (-nI 1))
  have ft := fun w => fnd_some (P := rkP α a1) (d := e) (x := 0) (r := w)
  have fn := fnd_none (P := rkP α a1) (d := e) (x := 0)
  revert kM kC ft fn
  generalize fnd (rkP α a1) 0 e = o
  intro kM kC ft fn
  simp only [lit_0, lit_1, lit_2, lit_3, lit_4, lit_5, lit_6, lit_7, lit_8, lit_9, lit_10, lit_11, lit_12, lit_13, lit_14, lit_15, lit_16, lit_20, lit_23, lit_24, lit_31, lit_32, lit_39, lit_43, lit_45, lit_47, lit_48, lit_56, lit_57, lit_59, lit_60, lit_62, lit_63, lit_89, lit_92, lit_96, lit_97, lit_99, lit_100, lit_102, lit_103, lit_104, lit_110, lit_111, lit_115, lit_117, lit_194, lit_200, lit_644, lit_736, lit_999, lit_1000, lit_9999, lit_10000, lit_1000000000, mlet_eq] at kM ⊢
  rcases idx_c a1 8 (by decide) with ⟨r, h1, rfl, e1⟩ | ⟨e1, h⟩
  · obtain ⟨z, z1, z2⟩ := rank_ex α h1
    cases o with
    | none =>
      exfalso
      have := fn rfl z (Nat.zero_le _) (by omega)
      have h2 : rkP α (nI r) z = true := by rw [rkP_at, z2]
      rw [h2] at this
      cases this
    | some w =>
      refine ⟨.inr (nI w), ?_, ?_⟩
      · rw [if_neg (by rw [nI_ltE (by omega) (by omega)]; omega), if_pos (by rw [nI_ltE (by omega) (by omega)]; omega), kC.1 w rfl, mbp_eq]
      · rw [kM.1 w rfl, wp_some]
        exact ⟨hr' _, thr0, rfl⟩
  · have hnone : o = none := by
      cases o with
      | none => rfl
      | some w =>
        exfalso
        obtain ⟨-, w1, w2, -⟩ := ft w rfl
        rw [rkP_at] at w2
        have := lt8 w (by omega)
        rcases h with h | ⟨j, hj, h, rfl⟩
        · rw [← w2] at h
          exact nI_pos (by omega) h
        · rw [nI_eqE (by omega) (by omega)] at w2
          omega
    refine ⟨.inl 4, ?_, ?_⟩
    · rcases h with h | ⟨j, hj, h, rfl⟩
      · rw [if_pos (show a1 < nI 0 from h)]
      · rw [if_neg (by rw [nI_ltE (by omega) (by omega)]; omega), if_neg (by rw [nI_ltE (by omega) (by omega)]; omega)]
    · rw [kM.2 hnone, wp_mbnd, wp_some, wp_some, thr2]
      exact ⟨hr' _, thr0, by decide, by decide⟩
