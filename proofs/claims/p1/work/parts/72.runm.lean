/-- the model -/
theorem m_run {M : Mem} {tx : Nat → Nat} {L K H : Nat} {α : Sp} {αh : Nat → Sp} (hl60 : L ≤ 60) (h12 : M 12 47 12 = nI L) (htx : ∀ i, i < L → M 12 53 i = nI (tx i) ∧ tx i < 65536) (hS : M 12 48 = enc α) (hK : K ≤ 8) (h6 : M 12 47 6 = nI K) (hh : ∀ k, k < K → ∀ j, j < 92 → M 12 51 (92 * k + j) = enc (αh k) j) (hi : Inv H α) (hH : H < 800000) (hcls : (prS tx L 13 0).1 = true → (1 ≤ (prS tx L 13 0).2.2 ∧ 5 * (prS tx L 13 0).2.2 ≤ L + 1 ∧ ∀ k, k < (prS tx L 13 0).2.2 → (cmdS tx L (Pp tx L k) z0).1 = true)) :
    ((prS tx L 13 0).1 = false → wp (f_X12_runCommands M) fun r M1 => M1 12 47 0 = nI 1 ∧ M1 12 47 14 = nI (prS tx L 13 0).2.1 ∧ M1 12 47 12 = nI 0 ∧ (∀ k, k ≠ 0 → k ≠ 12 → k ≠ 14 → k ≠ 19 → k ≠ 20 → k ≠ 21 → k ≠ 22 → M1 12 47 k = M 12 47 k) ∧ ∀ a b, ¬ (a = 12 ∧ (b = 47 ∨ b = 49 ∨ b = 54)) → M1 a b = M a b) ∧
    ((prS tx L 13 0).1 = true →
      (∀ β, exS tx L (prS tx L 13 0).2.2 0 α = .inr β → wp (f_X12_runCommands M) fun r M1 => r = nI (prS tx L 13 0).2.2 ∧ M1 12 47 0 = nI 0 ∧ M1 12 47 12 = nI 0 ∧ M1 12 48 = enc β ∧ M1 12 47 6 = nI (minK K) ∧ (∀ k, k < minK K → ∀ j, j < 92 → M1 12 51 (92 * k + j) = enc (pushH αh K α k) j) ∧ (∀ k, k ≠ 0 → k ≠ 6 → k ≠ 12 → k ≠ 15 → k ≠ 19 → k ≠ 20 → k ≠ 21 → k ≠ 22 → M1 12 47 k = M 12 47 k) ∧ ∀ a b, ¬ (a = 12 ∧ (b = 47 ∨ b = 48 ∨ b = 49 ∨ b = 51 ∨ b = 54 ∨ b = 56)) → M1 a b = M a b) ∧
      (∀ j cz, exS tx L (prS tx L 13 0).2.2 0 α = .inl (j, cz) → wp (f_X12_runCommands M) fun r M1 => M1 12 47 0 = nI 2 ∧ M1 12 47 12 = nI 0 ∧ (∃ β, M1 12 48 = enc (cutSp α β)) ∧ (M1 12 47 16 = nI 11 ∧ M1 12 47 17 = nI j ∧ M1 12 47 18 = nI cz) ∧ (∀ k, k ≠ 0 → k ≠ 12 → k ≠ 15 → k ≠ 16 → k ≠ 17 → k ≠ 18 → k ≠ 19 → k ≠ 20 → k ≠ 21 → k ≠ 22 → M1 12 47 k = M 12 47 k) ∧ ∀ a b, ¬ (a = 12 ∧ (b = 47 ∨ b = 48 ∨ b = 49 ∨ b = 54 ∨ b = 56)) → M1 a b = M a b)) := by
  unfold f_X12_runCommands
  generalize hN : (1000 : Nat) = N
  rw [m_remembers, mbnd_eq]
  have a12 : (mup (fil (mup M 12 47 0 (nI 0)) 12 49 0 92 (M 12 48)) 12 47 19 (nI 0)) 12 47 12 = nI L := by rw [mup_at, if_neg (by decide), fil_ne (by decide), mup_at, if_neg (by decide)]; exact h12
  simp only [mlet_eq (α := Mem), lit_0, lit_1, lit_2, lit_3, lit_4, lit_5, lit_6, lit_7, lit_8, lit_9, lit_10, lit_11, lit_12, lit_13, lit_14, lit_15, lit_16, lit_20, lit_23, lit_24, lit_31, lit_32, lit_39, lit_43, lit_45, lit_47, lit_48, lit_56, lit_57, lit_59, lit_60, lit_62, lit_63, lit_89, lit_92, lit_96, lit_97, lit_99, lit_100, lit_102, lit_103, lit_104, lit_110, lit_111, lit_115, lit_117, lit_194, lit_200, lit_644, lit_736, lit_999, lit_1000, lit_9999, lit_10000, lit_1000000000, a12]
  have hM7 : ∃ M7, M7 = mup (mup (mup (mup (mup (fil (mup M 12 47 0 (nI 0)) 12 49 0 92 (M 12 48)) 12 47 19 (nI 0)) 12 47 20 (nI L)) 12 47 12 (nI 0)) 12 47 21 (nI 0)) 12 47 22 (nI 0) := ⟨_, rfl⟩
  obtain ⟨M7, hM7⟩ := hM7
  rw [← hM7]
  have f47 : ∀ k, k ≠ 0 → k ≠ 12 → k ≠ 19 → k ≠ 20 → k ≠ 21 → k ≠ 22 → M7 12 47 k = M 12 47 k := fun k x1 x2 x3 x4 x5 x6 => by
    rw [hM7, mup_at, if_neg (by omega), mup_at, if_neg (by omega), mup_at, if_neg (by omega), mup_at, if_neg (by omega), mup_at, if_neg (by omega), fil_ne (by decide), mup_at, if_neg (by omega)]
  have fo : ∀ a b, ¬ (a = 12 ∧ (b = 47 ∨ b = 49)) → M7 a b = M a b := fun a b hab => by
    rw [hM7, pm_ne (by omega), pm_ne (by omega), pm_ne (by omega), pm_ne (by omega), pm_ne (by omega), fil_ne (by omega), pm_ne (by omega)]
  have f49 : ∀ j, j < 92 → M7 12 49 j = enc α j := fun j hj => by
    rw [hM7, pm_ne (by decide), pm_ne (by decide), pm_ne (by decide), pm_ne (by decide), pm_ne (by decide), fil_at, if_pos (by omega), hS]
  have g0 : M7 12 47 0 = nI 0 := by
    rw [hM7, mup_at, if_neg (by decide), mup_at, if_neg (by decide), mup_at, if_neg (by decide), mup_at, if_neg (by decide), mup_at, if_neg (by decide), fil_ne (by decide), mup_at, if_pos (by decide)]
  have g12 : M7 12 47 12 = nI 0 := by
    rw [hM7, mup_at, if_neg (by decide), mup_at, if_neg (by decide), mup_at, if_pos (by decide)]
  have g19 : M7 12 47 19 = nI 0 := by
    rw [hM7, mup_at, if_neg (by decide), mup_at, if_neg (by decide), mup_at, if_neg (by decide), mup_at, if_neg (by decide), mup_at, if_pos (by decide)]
  have g20 : M7 12 47 20 = nI L := by
    rw [hM7, mup_at, if_neg (by decide), mup_at, if_neg (by decide), mup_at, if_neg (by decide), mup_at, if_pos (by decide)]
  have g21 : M7 12 47 21 = nI 0 := by
    rw [hM7, mup_at, if_neg (by decide), mup_at, if_pos (by decide)]
  have g22 : M7 12 47 22 = nI 0 := by
    rw [hM7, mup_at, if_pos (by decide)]
  clear hM7 a12
  have hMst : Mst M7 M7 tx L 0 (r0 (Pp tx L 0) z0) := ⟨⟨hl60, g20, fun i hi => by rw [fo 12 53 (by decide)]; exact htx i hi⟩, ⟨g19, g21, g22⟩, ⟨Nat.zero_le _, by decide⟩, fun _ j hj => absurd hj (Nat.not_lt_zero _), fun _ _ _ _ => rfl⟩
  obtain ⟨⟨⟩, M9, e9, r1, ⟨r2, r3, r4⟩, r5, r6, r7⟩ := m_readsOne hMst
  have hMP : MP M7 M9 tx L 0 := ⟨r1, ⟨r2, r3, r4⟩, r5, fun i hi => absurd hi (Nat.not_lt_zero _), r6, fun a b k hab => r7 a b k (by omega)⟩
  rw [e9, mbnd_eq]
  have key : ∀ (kk : Mem → Option (Int32 × Mem)) (Q : Int32 → Mem → Prop), (∀ M17, QFr M7 M17 → TxM M17 tx L → ((prS tx L 13 0).1 = true → M17 12 47 22 = nI 0 ∧ (∃ p, L ≤ p ∧ p ≤ 60 ∧ M17 12 47 19 = nI p) ∧ M17 12 47 21 = nI (prS tx L 13 0).2.2 ∧ RecMA M17 tx L (prS tx L 13 0).2.2) → ((prS tx L 13 0).1 = false → M17 12 47 19 = nI (prS tx L 13 0).2.1 ∧ (M17 12 47 22 = nI 1 ∨ M17 12 47 22 = nI 0 ∧ (prS tx L 13 0).2.1 < L)) → wp (kk M17) Q) → wp (f_X12_runCommands_L36 N M9 kk) Q := fun kk Q h => by
    obtain ⟨M17, k, x1, x2, x3, x4⟩ := m_parseL (M0 := M7) (tx := tx) (L := L) kk 12 N 0 M9 rfl (by omega) (Nat.zero_le _) (Nat.zero_le _) hMP
    rw [k]
    exact h M17 x1 x2 x3 x4
  refine ⟨fun q => key _ _ fun M17 fr t hok hbad => ?_, fun q => ⟨fun β e => key _ _ fun M17 fr t hok hbad => ?_, fun j cz e => key _ _ fun M17 fr t hok hbad => ?_⟩⟩
  · obtain ⟨e19, e22⟩ := hbad q
    have e20 := t.2.1
    have g : ∀ r : Int32, (M17 12 47 22 = nI 1 ∨ M17 12 47 22 = nI 0 ∧ (prS tx L 13 0).2.1 < L) → True := fun _ _ => trivial
    have fin : wp (some (nI 0, mup (mup M17 12 47 14 (nI (prS tx L 13 0).2.1)) 12 47 0 (nI 1))) (fun (r : Int32) M1 => M1 12 47 0 = nI 1 ∧ M1 12 47 14 = nI (prS tx L 13 0).2.1 ∧ M1 12 47 12 = nI 0 ∧ (∀ k, k ≠ 0 → k ≠ 12 → k ≠ 14 → k ≠ 19 → k ≠ 20 → k ≠ 21 → k ≠ 22 → M1 12 47 k = M 12 47 k) ∧ ∀ a b, ¬ (a = 12 ∧ (b = 47 ∨ b = 49 ∨ b = 54)) → M1 a b = M a b) := by
      rw [wp_some]
      refine ⟨?_, ?_, ?_, fun k x0 x1 x2 x3 x4 x5 x6 => ?_, fun a b hab => ?_⟩
      · rw [mup_at, if_pos (by decide)]
      · rw [mup_at, if_neg (by decide), mup_at, if_pos (by decide)]
      · rw [mup_at, if_neg (by decide), mup_at, if_neg (by decide), fr 12 47 12 (by decide)]; exact g12
      · rw [mup_at, if_neg (by omega), mup_at, if_neg (by omega), fr 12 47 k (by omega), f47 k x0 x1 x3 x4 x5 x6]
      · rw [pm_ne (by omega), pm_ne (by omega), ← fo a b (by omega)]
        funext k
        exact fr a b k (by omega)
    unfold f_X12_fails
    rcases e22 with e22 | ⟨e22, hlt⟩
    · simp (disch := omega) only [lit_0, lit_1, lit_2, lit_3, lit_4, lit_5, lit_6, lit_7, lit_8, lit_9, lit_10, lit_11, lit_12, lit_13, lit_14, lit_15, lit_16, lit_20, lit_23, lit_24, lit_31, lit_32, lit_39, lit_43, lit_45, lit_47, lit_48, lit_56, lit_57, lit_59, lit_60, lit_62, lit_63, lit_89, lit_92, lit_96, lit_97, lit_99, lit_100, lit_102, lit_103, lit_104, lit_110, lit_111, lit_115, lit_117, lit_194, lit_200, lit_644, lit_736, lit_999, lit_1000, lit_9999, lit_10000, lit_1000000000, ↓wp_mlet, ↓wp_mbp, ↓wp_ite, ↓wp_mix, ↓wp_mdiv, ↓wp_mnz, ↓wp_some, ↓wp_mbnd, ↓mlet_eq, ↓mbp_eq, ↓mbnd_eq, ↓mix_ite, ↓mdiv_ite, ↓mnz_ite, nI_add, nI_mul, nI_nat, nI_ltE, nI_leE, nI_eqE, nI_eqN, nI_Neq, nI_Nlt, nI_Nle, nI_ltN, nI_leN, ↓reduceIte, ↓Nat.reduceEqDiff, and_f, nt_e, nt_t, nl_t, nl_f, ne_t, ne_f, and_self, or_self, or_true, true_or, or_false, false_or, if_true, if_false, and_true, true_and, and_false, false_and, not_true, not_false_iff, e22, e19]
      rw [wp_some] at fin
      exact fin
    · have p60 : (prS tx L 13 0).2.1 < 2147483648 := by omega
      simp (disch := omega) only [lit_0, lit_1, lit_2, lit_3, lit_4, lit_5, lit_6, lit_7, lit_8, lit_9, lit_10, lit_11, lit_12, lit_13, lit_14, lit_15, lit_16, lit_20, lit_23, lit_24, lit_31, lit_32, lit_39, lit_43, lit_45, lit_47, lit_48, lit_56, lit_57, lit_59, lit_60, lit_62, lit_63, lit_89, lit_92, lit_96, lit_97, lit_99, lit_100, lit_102, lit_103, lit_104, lit_110, lit_111, lit_115, lit_117, lit_194, lit_200, lit_644, lit_736, lit_999, lit_1000, lit_9999, lit_10000, lit_1000000000, ↓wp_mlet, ↓wp_mbp, ↓wp_ite, ↓wp_mix, ↓wp_mdiv, ↓wp_mnz, ↓wp_some, ↓wp_mbnd, ↓mlet_eq, ↓mbp_eq, ↓mbnd_eq, ↓mix_ite, ↓mdiv_ite, ↓mnz_ite, nI_add, nI_mul, nI_nat, nI_ltE, nI_leE, nI_eqE, nI_eqN, nI_Neq, nI_Nlt, nI_Nle, nI_ltN, nI_leN, ↓reduceIte, ↓Nat.reduceEqDiff, and_f, nt_e, nt_t, nl_t, nl_f, ne_t, ne_f, and_self, or_self, or_true, true_or, or_false, false_or, if_true, if_false, and_true, true_and, and_false, false_and, not_true, not_false_iff, e22, e20, e19]
      rw [wp_some] at fin
      exact fin
  · obtain ⟨e22, ⟨p, p1, p2, e19⟩, e21, hrec⟩ := hok q
    obtain ⟨c1, c5, coks⟩ := hcls q
    have e20 := t.2.1
    generalize (prS tx L 13 0).2.2 = cnt at *
    have f17 : ∀ a b, ¬ (a = 12 ∧ (b = 47 ∨ b = 49 ∨ b = 54)) → M17 a b = M a b := fun a b hab => by
      rw [← fo a b (by omega)]
      funext k
      exact fr a b k (by omega)
    have k17 : ∀ k, k ≠ 0 → k ≠ 12 → k ≠ 19 → k ≠ 20 → k ≠ 21 → k ≠ 22 → M17 12 47 k = M 12 47 k := fun k x1 x2 x3 x4 x5 x6 => by rw [fr 12 47 k (by omega), f47 k x1 x2 x3 x4 x5 x6]
    have k49 : ∀ j, j < 92 → M17 12 49 j = enc α j := fun j hj => by rw [fr 12 49 j (by omega)]; exact f49 j hj
    have S17 : M17 12 48 = enc α := by rw [f17 12 48 (by decide)]; exact hS
    have key2 : ∀ (kk : Mem → Option (Int32 × Mem)) (Q : Int32 → Mem → Prop), (∀ M4, M4 12 48 = enc β → (∀ k, k ≠ 15 → M4 12 47 k = M17 12 47 k) → (∀ a b, ¬ (a = 12 ∧ (b = 47 ∨ b = 48 ∨ b = 56)) → M4 a b = M17 a b) → wp (kk M4) Q) → wp (f_X12_runCommands_L104 N (nI 0) M17 kk) Q := fun kk Q h => by
      obtain ⟨M4, k, x1, x2, x3⟩ := (m_exec (tx := tx) (L := L) (cnt := cnt) (α0 := α) (by omega) kk cnt N 0 H α M17 (by omega) (by omega) (by omega) coks hrec e21 k49 S17 hi).1 β e
      rw [k]
      exact h M4 x1 x2 x3
    simp (disch := omega) only [lit_0, lit_1, lit_2, lit_3, lit_4, lit_5, lit_6, lit_7, lit_8, lit_9, lit_10, lit_11, lit_12, lit_13, lit_14, lit_15, lit_16, lit_20, lit_23, lit_24, lit_31, lit_32, lit_39, lit_43, lit_45, lit_47, lit_48, lit_56, lit_57, lit_59, lit_60, lit_62, lit_63, lit_89, lit_92, lit_96, lit_97, lit_99, lit_100, lit_102, lit_103, lit_104, lit_110, lit_111, lit_115, lit_117, lit_194, lit_200, lit_644, lit_736, lit_999, lit_1000, lit_9999, lit_10000, lit_1000000000, ↓wp_mlet, ↓wp_mbp, ↓wp_ite, ↓wp_mix, ↓wp_mdiv, ↓wp_mnz, ↓wp_some, ↓wp_mbnd, ↓mlet_eq, ↓mbp_eq, ↓mbnd_eq, ↓mix_ite, ↓mdiv_ite, ↓mnz_ite, nI_add, nI_mul, nI_nat, nI_ltE, nI_leE, nI_eqE, nI_eqN, nI_Neq, nI_Nlt, nI_Nle, nI_ltN, nI_leN, ↓reduceIte, ↓Nat.reduceEqDiff, and_f, nt_e, nt_t, nl_t, nl_f, ne_t, ne_f, and_self, or_self, or_true, true_or, or_false, false_or, if_true, if_false, and_true, true_and, and_false, false_and, not_true, not_false_iff, e22, e20, e19]
    refine key2 _ _ fun M4 y1 y2 y3 => ?_
    rw [y2 21 (by decide), e21, wp_mbnd]
    refine wp_mono (m_changed (nx := 0) (αh := αh) (α := α) (K := K) hK (by rw [y2 6 (by decide), k17 6 (by decide) (by decide) (by decide) (by decide) (by decide) (by decide)]; exact h6) (fun k hk j hj => by rw [y3 12 51 (by decide), f17 12 51 (by decide)]; exact hh k hk j hj) (fun j hj => by rw [y3 12 49 (by decide)]; exact k49 j hj)) ?_
    rintro r M5 ⟨rfl, s1, s2, s3, s4⟩
    rw [wp_some]
    refine ⟨rfl, ?_, ?_, ?_, s1, s2, fun k x0 x1 x2 x3 x4 x5 x6 x7 => ?_, fun a b hab => ?_⟩
    · rw [s3 0 (by decide), y2 0 (by decide), fr 12 47 0 (by decide)]; exact g0
    · rw [s3 12 (by decide), y2 12 (by decide), fr 12 47 12 (by decide)]; exact g12
    · rw [s4 12 48 (by decide)]; exact y1
    · rw [s3 k x1, y2 k x3, k17 k x0 x2 x4 x5 x6 x7]
    · rw [s4 a b (by omega), y3 a b (by omega), f17 a b (by omega)]
  · obtain ⟨e22, ⟨p, p1, p2, e19⟩, e21, hrec⟩ := hok q
    obtain ⟨c1, c5, coks⟩ := hcls q
    have e20 := t.2.1
    generalize (prS tx L 13 0).2.2 = cnt at *
    have f17 : ∀ a b, ¬ (a = 12 ∧ (b = 47 ∨ b = 49 ∨ b = 54)) → M17 a b = M a b := fun a b hab => by
      rw [← fo a b (by omega)]
      funext k
      exact fr a b k (by omega)
    have k17 : ∀ k, k ≠ 0 → k ≠ 12 → k ≠ 19 → k ≠ 20 → k ≠ 21 → k ≠ 22 → M17 12 47 k = M 12 47 k := fun k x1 x2 x3 x4 x5 x6 => by rw [fr 12 47 k (by omega), f47 k x1 x2 x3 x4 x5 x6]
    have k49 : ∀ j, j < 92 → M17 12 49 j = enc α j := fun j hj => by rw [fr 12 49 j (by omega)]; exact f49 j hj
    have S17 : M17 12 48 = enc α := by rw [f17 12 48 (by decide)]; exact hS
    have key2 : ∀ (kk : Mem → Option (Int32 × Mem)) (Q : Int32 → Mem → Prop), (∀ r M4, (∃ β, M4 12 48 = enc (cutSp α β)) → (M4 12 47 16 = nI 11 ∧ M4 12 47 17 = nI j ∧ M4 12 47 18 = nI cz ∧ M4 12 47 0 = nI 2) → EFr M17 M4 → Q r M4) → wp (f_X12_runCommands_L104 N (nI 0) M17 kk) Q := fun kk Q h => by
      obtain ⟨r, M4, k, x1, x2, x3⟩ := (m_exec (tx := tx) (L := L) (cnt := cnt) (α0 := α) (by omega) kk cnt N 0 H α M17 (by omega) (by omega) (by omega) coks hrec e21 k49 S17 hi).2 j cz e
      rw [k, wp_some]
      exact h r M4 x1 x2 x3
    simp (disch := omega) only [lit_0, lit_1, lit_2, lit_3, lit_4, lit_5, lit_6, lit_7, lit_8, lit_9, lit_10, lit_11, lit_12, lit_13, lit_14, lit_15, lit_16, lit_20, lit_23, lit_24, lit_31, lit_32, lit_39, lit_43, lit_45, lit_47, lit_48, lit_56, lit_57, lit_59, lit_60, lit_62, lit_63, lit_89, lit_92, lit_96, lit_97, lit_99, lit_100, lit_102, lit_103, lit_104, lit_110, lit_111, lit_115, lit_117, lit_194, lit_200, lit_644, lit_736, lit_999, lit_1000, lit_9999, lit_10000, lit_1000000000, ↓wp_mlet, ↓wp_mbp, ↓wp_ite, ↓wp_mix, ↓wp_mdiv, ↓wp_mnz, ↓wp_some, ↓wp_mbnd, ↓mlet_eq, ↓mbp_eq, ↓mbnd_eq, ↓mix_ite, ↓mdiv_ite, ↓mnz_ite, nI_add, nI_mul, nI_nat, nI_ltE, nI_leE, nI_eqE, nI_eqN, nI_Neq, nI_Nlt, nI_Nle, nI_ltN, nI_leN, ↓reduceIte, ↓Nat.reduceEqDiff, and_f, nt_e, nt_t, nl_t, nl_f, ne_t, ne_f, and_self, or_self, or_true, true_or, or_false, false_or, if_true, if_false, and_true, true_and, and_false, false_and, not_true, not_false_iff, e22, e20, e19]
    refine key2 _ _ fun r M4 y1 ⟨y2, y3, y4, y5⟩ ⟨y6, y7⟩ => ?_
    refine ⟨y5, ?_, y1, ⟨y2, y3, y4⟩, fun k x0 x1 x2 x3 x4 x5 x6 x7 x8 x9 => ?_, fun a b hab => ?_⟩
    · rw [y6 12 (by decide) (by decide) (by decide) (by decide) (by decide), fr 12 47 12 (by decide)]; exact g12
    · rw [y6 k x0 x2 x3 x4 x5, k17 k x0 x1 x6 x7 x8 x9]
    · rw [y7 a b (by omega), f17 a b (by omega)]
