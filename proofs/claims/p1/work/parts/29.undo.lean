/-! undo, save, restore -/
def cutSp (β α : Sp) : Sp := fun j => if j < 92 then β j else α j
theorem cutSp_lt {β α : Sp} {j : Nat} (h : j < 92) : cutSp β α j = β j := if_pos h
theorem RC_cg {G : Nat → Nat → Int32} {β α : Sp} (h : RC G β) : RC G (cutSp β α) := by
  obtain ⟨hk, hd, hb, hj⟩ := h
  exact ⟨Rk.of (fun _ _ _ => rfl) (fun j q => cutSp_lt (by omega)) hk, Rd.of rfl (fun j q => cutSp_lt (by omega)) hd, Rb.of (fun _ _ _ => rfl) (fun j q => cutSp_lt (by omega)) hb, Rj.of (fun _ _ _ => rfl) (fun j q => cutSp_lt (by omega)) hj⟩
theorem Inv_cg {H : Nat} {β α : Sp} (hi : Inv H β) : Inv H (cutSp β α) := by
  obtain ⟨⟨b0, b1, b2, b3, b4, b5, b6, b7, b8, b9, b10, b11, b14⟩, i1, i2, bs, bk, bn, bz, bt, bg, bl⟩ := hi
  have s : ∀ j, j < 92 → cutSp β α j = β j := fun j hj => cutSp_lt hj
  refine ⟨⟨?_, ?_, ?_, ?_, ?_, ?_, ?_, ?_, ?_, ?_, ?_, ?_, ?_⟩, ?_, ?_, fun k hk => ?_, fun k hk => ?_, fun i k h1 hk => ?_, fun k hk => ?_, ?_, fun k hk => ?_, fun k hk => ?_⟩
  · rw [s 0 (by decide)]; exact b0
  · rw [s 1 (by decide)]; exact b1
  · rw [s 2 (by decide)]; exact b2
  · rw [s 3 (by decide)]; exact b3
  · rw [s 4 (by decide)]; exact b4
  · rw [s 5 (by decide)]; exact b5
  · rw [s 6 (by decide)]; exact b6
  · rw [s 7 (by decide)]; exact b7
  · rw [s 8 (by decide)]; exact b8
  · rw [s 9 (by decide), s 0 (by decide)]; exact b9
  · rw [s 10 (by decide)]; exact b10
  · rw [s 11 (by decide)]; exact b11
  · rw [s 14 (by decide)]; exact b14
  · rw [s 1 (by decide), s 6 (by decide), s 9 (by decide)]; exact i1
  · rw [s 1 (by decide), s 5 (by decide)]; exact i2
  · rw [s _ (by omega)]; exact bs k hk
  · rw [s 9 (by decide)] at hk
    rw [s _ (by omega), s 0 (by decide)]; exact bk k hk
  · rw [s 9 (by decide)] at hk
    rw [s (23 + i) (by omega), s (23 + k) (by omega)]; exact bn i k h1 hk
  · rw [s (31 + k) (by omega), s (39 + k) (by omega), s 11 (by decide)]; exact bz k hk
  · rw [s 13 (by decide), s 39 (by decide), s 40 (by decide), s 41 (by decide), s 42 (by decide), s 43 (by decide), s 44 (by decide), s 45 (by decide), s 46 (by decide)]; exact bt
  · rw [s 10 (by decide)] at hk
    rw [s (47 + 3 * k) (by omega), s (48 + 3 * k) (by omega), s (49 + 3 * k) (by omega)]; exact bg k hk
  · rw [s 14 (by decide)] at hk
    rw [s (56 + 3 * k) (by omega), s (57 + 3 * k) (by omega), s (58 + 3 * k) (by omega), s 11 (by decide)]; exact bl k hk
theorem enc_cut {M : Mem} {β α : Sp} {f : Nat → Int32} {lo : Nat} (hS : M 12 48 = enc α) (hf : ∀ j, j < 92 → f j = enc β j) : (fil M 12 48 0 92 f) 12 48 = enc (cutSp β α) := by
  funext j
  rw [fil_at]
  by_cases h : j < 92
  · rw [if_pos (by omega), hf j h]
    unfold enc cutSp
    rw [if_pos h]
  · rw [if_neg (by omega), hS]
    unfold enc cutSp
    rw [if_neg h]
theorem m_undoL {M : Mem} {N K : Nat} (hN : 1000 = N) (hK : K < 8) (h6 : M 12 47 6 = nI K) (kk : Mem → Option (Int32 × Mem)) : f_X12_undo_L30 N (nI 0) M kk = kk (fil M 12 48 0 92 (fun j => M 12 51 (92 * K + j))) := by
  have key := mloop (F := fun n x s kk => f_X12_undo_L30 n x s kk) (c := 92) (fun x => fil M 12 48 0 x (fun j => M 12 51 (92 * K + j))) (fun m x kk hx => by
    rw [f_X12_undo_L30.eq_2]
    have e : (fil M 12 48 0 x (fun j => M 12 51 (92 * K + j))) 12 51 (92 * K + x) = M 12 51 (92 * K + x) := by rw [fil_ne (by decide)]
    have e6 : (fil M 12 48 0 x (fun j => M 12 51 (92 * K + j))) 12 47 6 = nI K := by rw [fil_ne (by decide), h6]
    simp (disch := omega) only [lit_0, lit_1, lit_2, lit_3, lit_4, lit_5, lit_6, lit_7, lit_8, lit_9, lit_10, lit_11, lit_12, lit_13, lit_14, lit_15, lit_16, lit_20, lit_23, lit_24, lit_31, lit_32, lit_39, lit_43, lit_45, lit_47, lit_48, lit_56, lit_57, lit_59, lit_60, lit_62, lit_63, lit_89, lit_92, lit_96, lit_97, lit_99, lit_100, lit_102, lit_103, lit_104, lit_110, lit_111, lit_115, lit_117, lit_194, lit_200, lit_644, lit_736, lit_999, lit_1000, lit_9999, lit_10000, lit_1000000000, ↓wp_mlet, ↓wp_mbp, ↓wp_ite, ↓wp_mix, ↓wp_mdiv, ↓wp_mnz, ↓wp_some, ↓wp_mbnd, ↓mlet_eq, ↓mbp_eq, ↓mbnd_eq, ↓mix_ite, ↓mdiv_ite, ↓mnz_ite, nI_add, nI_mul, nI_nat, nI_ltE, nI_leE, nI_eqE, nI_eqN, nI_Neq, nI_Nlt, nI_Nle, nI_ltN, nI_leN, ↓reduceIte, ↓Nat.reduceEqDiff, and_f, nt_e, nt_t, nl_t, nl_f, ne_t, ne_f, and_self, or_self, or_true, true_or, or_false, false_or, if_true, if_false, and_true, true_and, and_false, false_and, not_true, not_false_iff, e6, e]
    rw [fil_s (by omega) rfl]) (fun m kk => by
    rw [f_X12_undo_L30.eq_2]
    simp (disch := omega) only [lit_0, lit_1, lit_2, lit_3, lit_4, lit_5, lit_6, lit_7, lit_8, lit_9, lit_10, lit_11, lit_12, lit_13, lit_14, lit_15, lit_16, lit_20, lit_23, lit_24, lit_31, lit_32, lit_39, lit_43, lit_45, lit_47, lit_48, lit_56, lit_57, lit_59, lit_60, lit_62, lit_63, lit_89, lit_92, lit_96, lit_97, lit_99, lit_100, lit_102, lit_103, lit_104, lit_110, lit_111, lit_115, lit_117, lit_194, lit_200, lit_644, lit_736, lit_999, lit_1000, lit_9999, lit_10000, lit_1000000000, ↓wp_mlet, ↓wp_mbp, ↓wp_ite, ↓wp_mix, ↓wp_mdiv, ↓wp_mnz, ↓wp_some, ↓wp_mbnd, ↓mlet_eq, ↓mbp_eq, ↓mbnd_eq, ↓mix_ite, ↓mdiv_ite, ↓mnz_ite, nI_add, nI_mul, nI_nat, nI_ltE, nI_leE, nI_eqE, nI_eqN, nI_Neq, nI_Nlt, nI_Nle, nI_ltN, nI_leN, ↓reduceIte, ↓Nat.reduceEqDiff, and_f, nt_e, nt_t, nl_t, nl_f, ne_t, ne_f, and_self, or_self, or_true, true_or, or_false, false_or, if_true, if_false, and_true, true_and, and_false, false_and, not_true, not_false_iff])
  have := key 92 N 0 kk (by omega) (by omega)
  rw [fil_0] at this
  exact this
theorem m_saveL {M : Mem} {N : Nat} (hN : 1000 = N) (kk : Mem → Option (Int32 × Mem)) : f_X12_save_L7 N (nI 0) M kk = kk (fil M 12 50 0 92 (M 12 48)) := by
  have key := mloop (F := fun n x s kk => f_X12_save_L7 n x s kk) (c := 92) (fun x => fil M 12 50 0 x (M 12 48)) (fun m x kk hx => by
    rw [f_X12_save_L7.eq_2]
    have e : (fil M 12 50 0 x (M 12 48)) 12 48 x = M 12 48 x := by rw [fil_ne (by decide)]
    simp (disch := omega) only [lit_0, lit_1, lit_2, lit_3, lit_4, lit_5, lit_6, lit_7, lit_8, lit_9, lit_10, lit_11, lit_12, lit_13, lit_14, lit_15, lit_16, lit_20, lit_23, lit_24, lit_31, lit_32, lit_39, lit_43, lit_45, lit_47, lit_48, lit_56, lit_57, lit_59, lit_60, lit_62, lit_63, lit_89, lit_92, lit_96, lit_97, lit_99, lit_100, lit_102, lit_103, lit_104, lit_110, lit_111, lit_115, lit_117, lit_194, lit_200, lit_644, lit_736, lit_999, lit_1000, lit_9999, lit_10000, lit_1000000000, ↓wp_mlet, ↓wp_mbp, ↓wp_ite, ↓wp_mix, ↓wp_mdiv, ↓wp_mnz, ↓wp_some, ↓wp_mbnd, ↓mlet_eq, ↓mbp_eq, ↓mbnd_eq, ↓mix_ite, ↓mdiv_ite, ↓mnz_ite, nI_add, nI_mul, nI_nat, nI_ltE, nI_leE, nI_eqE, nI_eqN, nI_Neq, nI_Nlt, nI_Nle, nI_ltN, nI_leN, ↓reduceIte, ↓Nat.reduceEqDiff, and_f, nt_e, nt_t, nl_t, nl_f, ne_t, ne_f, and_self, or_self, or_true, true_or, or_false, false_or, if_true, if_false, and_true, true_and, and_false, false_and, not_true, not_false_iff, e]
    rw [fil_s (by omega) rfl]) (fun m kk => by
    rw [f_X12_save_L7.eq_2]
    simp (disch := omega) only [lit_0, lit_1, lit_2, lit_3, lit_4, lit_5, lit_6, lit_7, lit_8, lit_9, lit_10, lit_11, lit_12, lit_13, lit_14, lit_15, lit_16, lit_20, lit_23, lit_24, lit_31, lit_32, lit_39, lit_43, lit_45, lit_47, lit_48, lit_56, lit_57, lit_59, lit_60, lit_62, lit_63, lit_89, lit_92, lit_96, lit_97, lit_99, lit_100, lit_102, lit_103, lit_104, lit_110, lit_111, lit_115, lit_117, lit_194, lit_200, lit_644, lit_736, lit_999, lit_1000, lit_9999, lit_10000, lit_1000000000, ↓wp_mlet, ↓wp_mbp, ↓wp_ite, ↓wp_mix, ↓wp_mdiv, ↓wp_mnz, ↓wp_some, ↓wp_mbnd, ↓mlet_eq, ↓mbp_eq, ↓mbnd_eq, ↓mix_ite, ↓mdiv_ite, ↓mnz_ite, nI_add, nI_mul, nI_nat, nI_ltE, nI_leE, nI_eqE, nI_eqN, nI_Neq, nI_Nlt, nI_Nle, nI_ltN, nI_leN, ↓reduceIte, ↓Nat.reduceEqDiff, and_f, nt_e, nt_t, nl_t, nl_f, ne_t, ne_f, and_self, or_self, or_true, true_or, or_false, false_or, if_true, if_false, and_true, true_and, and_false, false_and, not_true, not_false_iff])
  have := key 92 N 0 kk (by omega) (by omega)
  rw [fil_0] at this
  exact this
theorem m_restoreL {M : Mem} {N : Nat} (hN : 1000 = N) (kk : Mem → Option (Int32 × Mem)) : f_X12_restore_L20 N (nI 0) M kk = kk (fil M 12 48 0 92 (M 12 50)) := by
  have key := mloop (F := fun n x s kk => f_X12_restore_L20 n x s kk) (c := 92) (fun x => fil M 12 48 0 x (M 12 50)) (fun m x kk hx => by
    rw [f_X12_restore_L20.eq_2]
    have e : (fil M 12 48 0 x (M 12 50)) 12 50 x = M 12 50 x := by rw [fil_ne (by decide)]
    simp (disch := omega) only [lit_0, lit_1, lit_2, lit_3, lit_4, lit_5, lit_6, lit_7, lit_8, lit_9, lit_10, lit_11, lit_12, lit_13, lit_14, lit_15, lit_16, lit_20, lit_23, lit_24, lit_31, lit_32, lit_39, lit_43, lit_45, lit_47, lit_48, lit_56, lit_57, lit_59, lit_60, lit_62, lit_63, lit_89, lit_92, lit_96, lit_97, lit_99, lit_100, lit_102, lit_103, lit_104, lit_110, lit_111, lit_115, lit_117, lit_194, lit_200, lit_644, lit_736, lit_999, lit_1000, lit_9999, lit_10000, lit_1000000000, ↓wp_mlet, ↓wp_mbp, ↓wp_ite, ↓wp_mix, ↓wp_mdiv, ↓wp_mnz, ↓wp_some, ↓wp_mbnd, ↓mlet_eq, ↓mbp_eq, ↓mbnd_eq, ↓mix_ite, ↓mdiv_ite, ↓mnz_ite, nI_add, nI_mul, nI_nat, nI_ltE, nI_leE, nI_eqE, nI_eqN, nI_Neq, nI_Nlt, nI_Nle, nI_ltN, nI_leN, ↓reduceIte, ↓Nat.reduceEqDiff, and_f, nt_e, nt_t, nl_t, nl_f, ne_t, ne_f, and_self, or_self, or_true, true_or, or_false, false_or, if_true, if_false, and_true, true_and, and_false, false_and, not_true, not_false_iff, e]
    rw [fil_s (by omega) rfl]) (fun m kk => by
    rw [f_X12_restore_L20.eq_2]
    simp (disch := omega) only [lit_0, lit_1, lit_2, lit_3, lit_4, lit_5, lit_6, lit_7, lit_8, lit_9, lit_10, lit_11, lit_12, lit_13, lit_14, lit_15, lit_16, lit_20, lit_23, lit_24, lit_31, lit_32, lit_39, lit_43, lit_45, lit_47, lit_48, lit_56, lit_57, lit_59, lit_60, lit_62, lit_63, lit_89, lit_92, lit_96, lit_97, lit_99, lit_100, lit_102, lit_103, lit_104, lit_110, lit_111, lit_115, lit_117, lit_194, lit_200, lit_644, lit_736, lit_999, lit_1000, lit_9999, lit_10000, lit_1000000000, ↓wp_mlet, ↓wp_mbp, ↓wp_ite, ↓wp_mix, ↓wp_mdiv, ↓wp_mnz, ↓wp_some, ↓wp_mbnd, ↓mlet_eq, ↓mbp_eq, ↓mbnd_eq, ↓mix_ite, ↓mdiv_ite, ↓mnz_ite, nI_add, nI_mul, nI_nat, nI_ltE, nI_leE, nI_eqE, nI_eqN, nI_Neq, nI_Nlt, nI_Nle, nI_ltN, nI_leN, ↓reduceIte, ↓Nat.reduceEqDiff, and_f, nt_e, nt_t, nl_t, nl_f, ne_t, ne_f, and_self, or_self, or_true, true_or, or_false, false_or, if_true, if_false, and_true, true_and, and_false, false_and, not_true, not_false_iff])
  have := key 92 N 0 kk (by omega) (by omega)
  rw [fil_0] at this
  exact this
theorem thr2 {M : Mem} {x y : Int32} : mup (mup M 12 47 0 x) 12 47 0 y = mup M 12 47 0 y := by
  funext a b c
  rw [mup_at, mup_at, mup_at]
  split <;> rfl
theorem pair_undo {n : Nat} {M : Mem} (hr : Rel n M) : Pair n (fun x => if x = 5 then 1 else 0) M f_X11_undo f_X12_undo := by
  have hr' := Rel_thr hr
  obtain ⟨α, αh, αs, K, nx, fed, b, H, hR, hS, hH, hs, ⟨hr1, hr2, hr3, hr4⟩, hi, hih, his, hbb⟩ := hr
  obtain ⟨x1, x2, x3, x4, x5, x6, x7⟩ := id hH
  unfold Pair f_X11_undo f_X12_undo f_X12_fails
  generalize hN : (1000 : Nat) = N
  by_cases h0 : K = 0
  · simp (disch := omega) only [lit_0, lit_1, lit_2, lit_3, lit_4, lit_5, lit_6, lit_7, lit_8, lit_9, lit_10, lit_11, lit_12, lit_13, lit_14, lit_15, lit_16, lit_20, lit_23, lit_24, lit_31, lit_32, lit_39, lit_43, lit_45, lit_47, lit_48, lit_56, lit_57, lit_59, lit_60, lit_62, lit_63, lit_89, lit_92, lit_96, lit_97, lit_99, lit_100, lit_102, lit_103, lit_104, lit_110, lit_111, lit_115, lit_117, lit_194, lit_200, lit_644, lit_736, lit_999, lit_1000, lit_9999, lit_10000, lit_1000000000, ↓wp_mlet, ↓wp_mbp, ↓wp_ite, ↓wp_mix, ↓wp_mdiv, ↓wp_mnz, ↓wp_some, ↓wp_mbnd, ↓mlet_eq, ↓mbp_eq, ↓mbnd_eq, ↓mix_ite, ↓mdiv_ite, ↓mnz_ite, nI_add, nI_mul, nI_nat, nI_ltE, nI_leE, nI_eqE, nI_eqN, nI_Neq, nI_Nlt, nI_Nle, nI_ltN, nI_leN, ↓reduceIte, ↓Nat.reduceEqDiff, and_f, nt_e, nt_t, nl_t, nl_f, ne_t, ne_f, and_self, or_self, or_true, true_or, or_false, false_or, if_true, if_false, and_true, true_and, and_false, false_and, not_true, not_false_iff, mup_at, up_at, fil_at, ↓reduceIte, ↓Nat.reduceEqDiff, and_f, nt_e, nt_t, nl_t, nl_f, ne_t, ne_f, and_self, or_self, or_true, true_or, or_false, false_or, if_true, if_false, and_true, true_and, and_false, false_and, not_true, not_false_iff, x4, x5, h0]
    refine ⟨?_, rfl, by decide, by decide⟩
    rw [thr2]
    exact hr' _
  · simp (disch := omega) only [lit_0, lit_1, lit_2, lit_3, lit_4, lit_5, lit_6, lit_7, lit_8, lit_9, lit_10, lit_11, lit_12, lit_13, lit_14, lit_15, lit_16, lit_20, lit_23, lit_24, lit_31, lit_32, lit_39, lit_43, lit_45, lit_47, lit_48, lit_56, lit_57, lit_59, lit_60, lit_62, lit_63, lit_89, lit_92, lit_96, lit_97, lit_99, lit_100, lit_102, lit_103, lit_104, lit_110, lit_111, lit_115, lit_117, lit_194, lit_200, lit_644, lit_736, lit_999, lit_1000, lit_9999, lit_10000, lit_1000000000, ↓wp_mlet, ↓wp_mbp, ↓wp_ite, ↓wp_mix, ↓wp_mdiv, ↓wp_mnz, ↓wp_some, ↓wp_mbnd, ↓mlet_eq, ↓mbp_eq, ↓mbnd_eq, ↓mix_ite, ↓mdiv_ite, ↓mnz_ite, nI_add, nI_mul, nI_nat, nI_ltE, nI_leE, nI_eqE, nI_eqN, nI_Neq, nI_Nlt, nI_Nle, nI_ltN, nI_leN, ↓reduceIte, ↓Nat.reduceEqDiff, and_f, nt_e, nt_t, nl_t, nl_f, ne_t, ne_f, and_self, or_self, or_true, true_or, or_false, false_or, if_true, if_false, and_true, true_and, and_false, false_and, not_true, not_false_iff, mup_at, up_at, fil_at, ↓reduceIte, ↓Nat.reduceEqDiff, and_f, nt_e, nt_t, nl_t, nl_f, ne_t, ne_f, and_self, or_self, or_true, true_or, or_false, false_or, if_true, if_false, and_true, true_and, and_false, false_and, not_true, not_false_iff, x3, x4, h0, f_X4_takeLatest, nI_subE, nI_rem]
    have hK := hih (K - 1) (by omega)
    have hRK := x6 (K - 1) (by omega)
    rw [show (nx + 9 - K + (K - 1)) % 9 = (nx + 9 - 1) % 9 by omega] at hRK
    refine wp_mono (c_copy (g := 0) (g1 := 1 + (nx + 9 - 1) % 9) (α := αh (K - 1)) (by omega) (by
      rw [pm_g (by omega), pm_g (by omega)]; exact hRK) hK.1.2.1 hK.1.2.2.2.2.2.2.1) ?_
    rintro - M1 ⟨q1, q2, q3⟩
    have g17a : M1 12 17 1 = nI ((nx + 9 - 1) % 9) := by rw [q3 12 (by decide)]; simp (disch := omega) only [mup_at, up_at, fil_at, ↓reduceIte, ↓Nat.reduceEqDiff, and_f, nt_e, nt_t, nl_t, nl_f, ne_t, ne_f, and_self, or_self, or_true, true_or, or_false, false_or, if_true, if_false, and_true, true_and, and_false, false_and, not_true, not_false_iff]
    have g17b : M1 12 17 2 = nI (K - 1) := by rw [q3 12 (by decide)]; simp (disch := omega) only [mup_at, up_at, fil_at, ↓reduceIte, ↓Nat.reduceEqDiff, and_f, nt_e, nt_t, nl_t, nl_f, ne_t, ne_f, and_self, or_self, or_true, true_or, or_false, false_or, if_true, if_false, and_true, true_and, and_false, false_and, not_true, not_false_iff]
    have go : ∀ a b, a ≠ 0 → ¬ (a = 12 ∧ b = 17) → M1 a b = M a b := fun a b h1 h2 => by rw [q3 a h1, pm_ne h2, pm_ne h2]
    have g47 : M1 12 47 6 = nI K := by rw [go 12 47 (by decide) (by decide), x5]
    simp (disch := omega) only [lit_0, lit_1, lit_2, lit_3, lit_4, lit_5, lit_6, lit_7, lit_8, lit_9, lit_10, lit_11, lit_12, lit_13, lit_14, lit_15, lit_16, lit_20, lit_23, lit_24, lit_31, lit_32, lit_39, lit_43, lit_45, lit_47, lit_48, lit_56, lit_57, lit_59, lit_60, lit_62, lit_63, lit_89, lit_92, lit_96, lit_97, lit_99, lit_100, lit_102, lit_103, lit_104, lit_110, lit_111, lit_115, lit_117, lit_194, lit_200, lit_644, lit_736, lit_999, lit_1000, lit_9999, lit_10000, lit_1000000000, ↓wp_mlet, ↓wp_mbp, ↓wp_ite, ↓wp_mix, ↓wp_mdiv, ↓wp_mnz, ↓wp_some, ↓wp_mbnd, ↓mlet_eq, ↓mbp_eq, ↓mbnd_eq, ↓mix_ite, ↓mdiv_ite, ↓mnz_ite, nI_add, nI_mul, nI_nat, nI_ltE, nI_leE, nI_eqE, nI_eqN, nI_Neq, nI_Nlt, nI_Nle, nI_ltN, nI_leN, ↓reduceIte, ↓Nat.reduceEqDiff, and_f, nt_e, nt_t, nl_t, nl_f, ne_t, ne_f, and_self, or_self, or_true, true_or, or_false, false_or, if_true, if_false, and_true, true_and, and_false, false_and, not_true, not_false_iff, mup_at, up_at, fil_at, ↓reduceIte, ↓Nat.reduceEqDiff, and_f, nt_e, nt_t, nl_t, nl_f, ne_t, ne_f, and_self, or_self, or_true, true_or, or_false, false_or, if_true, if_false, and_true, true_and, and_false, false_and, not_true, not_false_iff, g47, h0, nI_subE]
    rw [m_undoL (K := K - 1) hN (by omega) (by simp (disch := omega) only [mup_at, up_at, fil_at, ↓reduceIte, ↓Nat.reduceEqDiff, and_f, nt_e, nt_t, nl_t, nl_f, ne_t, ne_f, and_self, or_self, or_true, true_or, or_false, false_or, if_true, if_false, and_true, true_and, and_false, false_and, not_true, not_false_iff])]
    have hf : ∀ j, j < 92 → (mup (mup M1 12 47 0 (nI 0)) 12 47 6 (nI (K - 1))) 12 51 (92 * (K - 1) + j) = enc (αh (K - 1)) j := fun j hj => by
      rw [pm_ne (by decide), pm_ne (by decide), go 12 51 (by decide) (by decide)]
      exact x7 (K - 1) (by omega) j hj
    rw [wp_some]
    have r0 : ∀ a b, ¬ (a = 12 ∧ (b = 47 ∨ b = 48)) → (fil (mup (mup M1 12 47 0 (nI 0)) 12 47 6 (nI (K - 1))) 12 48 0 92 (fun j => (mup (mup M1 12 47 0 (nI 0)) 12 47 6 (nI (K - 1))) 12 51 (92 * (K - 1) + j))) a b = M1 a b := fun a b h => by
      rw [fil_ne (by omega), pm_ne (by omega), pm_ne (by omega)]
    have r47 : ∀ i, i ≠ 0 → i ≠ 6 → (fil (mup (mup M1 12 47 0 (nI 0)) 12 47 6 (nI (K - 1))) 12 48 0 92 (fun j => (mup (mup M1 12 47 0 (nI 0)) 12 47 6 (nI (K - 1))) 12 51 (92 * (K - 1) + j))) 12 47 i = M 12 47 i := fun i h1 h2 => by
      rw [fil_ne (by decide), mup_at, if_neg (by omega), mup_at, if_neg (by omega), go 12 47 (by decide) (by decide)]
    have r6 : (fil (mup (mup M1 12 47 0 (nI 0)) 12 47 6 (nI (K - 1))) 12 48 0 92 (fun j => (mup (mup M1 12 47 0 (nI 0)) 12 47 6 (nI (K - 1))) 12 51 (92 * (K - 1) + j))) 12 47 6 = nI (K - 1) := by
      rw [fil_ne (by decide)]
      simp (disch := omega) only [mup_at, up_at, fil_at, ↓reduceIte, ↓Nat.reduceEqDiff, and_f, nt_e, nt_t, nl_t, nl_f, ne_t, ne_f, and_self, or_self, or_true, true_or, or_false, false_or, if_true, if_false, and_true, true_and, and_false, false_and, not_true, not_false_iff]
    refine ⟨⟨cutSp (αh (K - 1)) α, αh, αs, K - 1, (nx + 9 - 1) % 9, fed, b, H, ?_, enc_cut (lo := 0) ?_ hf, ?_, ?_, ⟨?_, ?_, ?_, ?_⟩, Inv_cg hK, fun k hk => hih k (by omega), his, by omega⟩, ?_, ?_⟩
    · rw [show (fil (mup (mup M1 12 47 0 (nI 0)) 12 47 6 (nI (K - 1))) 12 48 0 92 (fun j => (mup (mup M1 12 47 0 (nI 0)) 12 47 6 (nI (K - 1))) 12 51 (92 * (K - 1) + j))) 0 = M1 0 from funext fun b => r0 0 b (by omega)]
      exact RC_cg q1
    · rw [pm_ne (by decide), pm_ne (by decide), go 12 48 (by decide) (by decide), hS]
    · refine ⟨by omega, by omega, by rw [r0 12 17 (by decide), g17a], by rw [r0 12 17 (by decide), g17b], r6, fun k hk => ?_, fun k hk j hj => ?_⟩
      · rw [show (fil (mup (mup M1 12 47 0 (nI 0)) 12 47 6 (nI (K - 1))) 12 48 0 92 (fun j => (mup (mup M1 12 47 0 (nI 0)) 12 47 6 (nI (K - 1))) 12 51 (92 * (K - 1) + j))) (1 + ((nx + 9 - 1) % 9 + 9 - (K - 1) + k) % 9) = M1 (1 + ((nx + 9 - 1) % 9 + 9 - (K - 1) + k) % 9) from funext fun b => r0 _ b (by omega),
          show 1 + ((nx + 9 - 1) % 9 + 9 - (K - 1) + k) % 9 = 1 + (nx + 9 - K + k) % 9 by omega, show M1 (1 + (nx + 9 - K + k) % 9) = M (1 + (nx + 9 - K + k) % 9) from funext fun b => go _ b (by omega) (by omega)]
        exact x6 k (by omega)
      · rw [r0 12 51 (by decide), go 12 51 (by decide) (by decide)]
        exact x7 k (by omega) j hj
    · refine Rs_same hs ?_ (r47 7 (by decide) (by decide)) ?_ ?_
      · rw [r0 12 16 (by decide), go 12 16 (by decide) (by decide)]
      · funext b
        rw [r0 10 b (by omega), go 10 b (by decide) (by omega)]
      · rw [r0 12 50 (by decide), go 12 50 (by decide) (by decide)]
    · exact Rr_same hr1 (fun i _ _ => by rw [r0 12 16 (by decide), go 12 16 (by decide) (by decide)]) (fun i _ _ => r47 i (by omega) (by omega))
    · exact Re_same hr2 (by rw [r0 12 16 (by decide), go 12 16 (by decide) (by decide)]) (r47 14 (by decide) (by decide))
    · exact Ri_same hr3 (by rw [r0 12 26 (by decide), go 12 26 (by decide) (by decide)]) (r47 12 (by decide) (by decide)) (by rw [r0 12 27 (by decide), go 12 27 (by decide) (by decide)]) (by rw [r0 12 53 (by decide), go 12 53 (by decide) (by decide)])
    · exact Ro_same hr4 (by rw [r0 12 45 (by decide), go 12 45 (by decide) (by decide)]) (r47 13 (by decide) (by decide)) (by rw [r0 12 46 (by decide), go 12 46 (by decide) (by decide)]) (by rw [r0 12 55 (by decide), go 12 55 (by decide) (by decide)])
    · rw [fil_ne (by decide)]
      simp (disch := omega) only [mup_at, up_at, fil_at, ↓reduceIte, ↓Nat.reduceEqDiff, and_f, nt_e, nt_t, nl_t, nl_f, ne_t, ne_f, and_self, or_self, or_true, true_or, or_false, false_or, if_true, if_false, and_true, true_and, and_false, false_and, not_true, not_false_iff]
    · rw [r6]
      exact g17b
