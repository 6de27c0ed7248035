/-! THE LAW'S LOOK AT THE ZONES -/
theorem cmp_self (x : Int) : compare x x = Ordering.eq := by
  show compareOfLessAndEq x x = _
  unfold compareOfLessAndEq
  rw [if_neg (Int.lt_irrefl x), if_pos rfl]
theorem ord_self {d : Jvm.FP.Core.Datum} (h : d ≠ .nan) : Jvm.FP.Core.order d d = some .eq := by
  cases d with
  | nan => exact absurd rfl h
  | inf s => exact congrArg some (cmp_self _)
  | fin s c q => exact congrArg some (cmp_self _)
theorem dec_nn {n : Nat} (h : n ≤ 2139095040) : Jvm.FP.Core.decode Jvm.FP.Core.b32 n ≠ .nan := by
  show (if n / 8388608 % 256 = 255 then (if n % 8388608 = 0 then Jvm.FP.Core.Datum.inf _ else .nan) else if n / 8388608 % 256 = 0 then .fin _ _ _ else .fin _ _ _) ≠ .nan
  by_cases q : n / 8388608 % 256 = 255
  · rw [if_pos q, if_pos (by omega)]
    intro h; cases h
  · rw [if_neg q]
    split <;> (intro h; cases h)
theorem fdiv_cmp {a b : Nat} (ha : a < 16777216) (hb : b < 16777216) (h0 : 0 < b) : FP.cmpInt (-1) (FP.fcmp (FP.fdiv (FP.i2f (nI a)) (FP.i2f (nI b))) (FP.fdiv (FP.i2f (nI a)) (FP.i2f (nI b)))) = nI 0 := by
  obtain ⟨c, q, e1, -⟩ := i2f_fin ha
  obtain ⟨d, r, e2, h2⟩ := i2f_fin hb
  have hN : (FP.fdiv (FP.i2f (nI a)) (FP.i2f (nI b))).toNat ≤ 2139095040 := by
    show (UInt32.ofNat (Jvm.FP.Core.encode Jvm.FP.Core.b32 (Jvm.FP.Core.quotient Jvm.FP.Core.b32 (Jvm.FP.Core.decode Jvm.FP.Core.b32 (Jvm.FP.Core.i2f (nI a)).toNat) (Jvm.FP.Core.decode Jvm.FP.Core.b32 (Jvm.FP.Core.i2f (nI b)).toNat)))).toNat ≤ 2139095040
    rw [e1, e2]
    have ho : okD (Jvm.FP.Core.quotient Jvm.FP.Core.b32 (.fin false c q) (.fin false d r)) := by
      show okD (if d = 0 then _ else Jvm.FP.Core.roundRatio Jvm.FP.Core.b32 (false != false) c d (q - r))
      rw [if_neg (h2 h0)]
      exact okD_round
    have := okD_enc ho
    rw [UInt32.toNat_ofNat']
    omega
  have h3 : FP.fcmp (FP.fdiv (FP.i2f (nI a)) (FP.i2f (nI b))) (FP.fdiv (FP.i2f (nI a)) (FP.i2f (nI b))) = some .eq := ord_self (dec_nn hN)
  rw [h3]
  rfl
theorem mean_cmp : ∀ s : Fin 161, FP.cmpInt (-1) (FP.dcmp (FP.ddiv (FP.i2d (nI s.val)) (4620693217682128896 : UInt64)) (FP.ddiv (FP.i2d (nI s.val)) (4620693217682128896 : UInt64))) = nI 0 := by decide +kernel
section ZONES
variable {M : Mem} {α : Sp} {H : Nat}
theorem al_le (hi : Inv H α) : α 13 ≤ 8 * H := by
  have bz := hi.2.2.2.2.2.2.1
  have bt := hi.2.2.2.2.2.2.2.1
  have b11 := hi.1.2.2.2.2.2.2.2.2.2.2.2.1
  have z0 := (bz 0 (by decide)).2
  have z1 := (bz 1 (by decide)).2
  have z2 := (bz 2 (by decide)).2
  have z3 := (bz 3 (by decide)).2
  have z4 := (bz 4 (by decide)).2
  have z5 := (bz 5 (by decide)).2
  have z6 := (bz 6 (by decide)).2
  have z7 := (bz 7 (by decide)).2
  simp only [Nat.add_zero, Nat.reduceAdd] at z0 z1 z2 z3 z4 z5 z6 z7
  omega
theorem hrsN_le (hi : Inv H α) {n : Nat} (hn : H + n < 900000) : hrsN α n ≤ 8 * (H + n) := by
  have h1 := al_le (inv_hrs hi n (by omega))
  rw [hrs_13 hi n (by omega)] at h1
  omega
theorem hrsN_mono {a b : Nat} (h : a ≤ b) : hrsN α a ≤ hrsN α b := by
  induction b with
  | zero => obtain rfl : a = 0 := by omega
            exact Nat.le_refl _
  | succ b ih =>
    rcases Nat.lt_or_ge b a with q | q
    · obtain rfl : a = b + 1 := by omega
      exact Nat.le_refl _
    · exact Nat.le_trans (ih q) (Nat.le_add_right _ _)
theorem v_alarmShare (hR : RC (M 0) α) (hi : Inv H α) (hH : H < 800000) (h0 : 0 < α 13) {z : Nat} (hz : z < 8) : f_L_alarmShare (nI z) M = some (FP.fdiv (FP.i2f (nI (α (39 + z)))) (FP.i2f (nI (α 13)))) := by
  have l13 := al_le hi
  have lz := (hi.2.2.2.2.2.2.1 z hz).2
  have b11 := hi.1.2.2.2.2.2.2.2.2.2.2.2.1
  have e13 := hR.2.2.1.2.1
  have ez := hR.2.2.1.2.2.2.2.1 z hz
  have nn := nn_fdiv (a := α (39 + z)) (b := α 13) (by omega) (by omega) (by omega)
  have e1 : idx (nI z) 8 = true := by
    rcases idx_c (nI z) 8 (by omega) with ⟨j, h1, h2, h3⟩ | ⟨-, h | ⟨j, h1, h2, h3⟩⟩
    · exact h3
    · exact absurd h (nI_pos (by omega))
    · rw [nI_eqE (by omega) (by omega)] at h3; omega
  unfold f_L_alarmShare f_X11_alarmShare f_X11_requireZone
  simp (disch := omega) only [lit_17, lit_18, lit_19, lit_21, lit_22, lit_25, lit_26, lit_28, lit_29, lit_38, lit_42, lit_46, lit_50, lit_54, lit_70, lit_74, lit_75, lit_76, lit_77, lit_78, lit_79, lit_40503, mcatp_l, mcatp_r, eq_self, lit_0, lit_1, lit_2, lit_3, lit_4, lit_5, lit_6, lit_7, lit_8, lit_9, lit_10, lit_11, lit_12, lit_13, lit_14, lit_15, lit_16, lit_20, lit_23, lit_24, lit_31, lit_32, lit_39, lit_43, lit_45, lit_47, lit_48, lit_56, lit_57, lit_59, lit_60, lit_62, lit_63, lit_89, lit_92, lit_96, lit_97, lit_99, lit_100, lit_102, lit_103, lit_104, lit_110, lit_111, lit_115, lit_117, lit_194, lit_200, lit_644, lit_736, lit_999, lit_1000, lit_9999, lit_10000, lit_1000000000, ↓wp_mlet, ↓wp_mbp, ↓wp_ite, ↓wp_mix, ↓wp_mdiv, ↓wp_mnz, ↓wp_some, ↓wp_mbnd, ↓mlet_eq, ↓mbp_eq, ↓mbnd_eq, ↓mix_ite, ↓mdiv_ite, ↓mnz_ite, nI_add, nI_mul, nI_nat, nI_ltE, nI_leE, nI_eqE, nI_eqN, nI_Neq, nI_Nlt, nI_Nle, nI_ltN, nI_leN, ↓reduceIte, ↓Nat.reduceEqDiff, and_f, nt_e, nt_t, nl_t, nl_f, ne_t, ne_f, and_self, or_self, or_true, true_or, or_false, false_or, if_true, if_false, and_true, true_and, and_false, false_and, not_true, not_false_iff, toNat_0, Bool.false_and, Bool.true_and, Bool.and_false, Bool.and_true, Bool.false_eq_true, reduceCtorEq, Bool.true_eq_false, Bool.not_true, Bool.not_false, c_hasZone, e1, mbpx_r, e13, ez]
  unfold mn32
  rw [if_pos nn, mcatp_r]
theorem rank_bf (hi : Inv H α) (hH : H < 900000) {a b : Nat} (ha : a < 8) (hb : b < 8) (h : cB α b 8 < cB α a 8) : α (31 + a) < α (31 + b) ∨ α (31 + b) = α (31 + a) ∧ (α (39 + a) < α (39 + b) ∨ α (39 + b) = α (39 + a) ∧ b < a) := by
  have bz := hi.2.2.2.2.2.2.1
  have b11 := hi.1.2.2.2.2.2.2.2.2.2.2.2.1
  have za := bz a ha
  have zb := bz b hb
  have hk : kz α b < kz α a := by
    rcases Nat.lt_trichotomy (kz α b) (kz α a) with q | q | q
    · exact q
    · exfalso
      have : a = b := by unfold kz at q; omega
      rw [this] at h
      exact absurd h (Nat.lt_irrefl _)
    · exact absurd ((cB_mono q 8).1) (by omega)
  have e := bf_eq (α := α) (y := b) (z := a) hb ha zb.1 za.1 (by omega) (by omega)
  have hbf : bf α b a = true := decide_eq_true hk
  rw [hbf] at e
  by_cases q1 : α (31 + b) = α (31 + a)
  · rw [if_pos q1] at e
    by_cases q2 : α (39 + b) = α (39 + a)
    · rw [if_pos q2] at e
      exact Or.inr ⟨q1, Or.inr ⟨q2, of_decide_eq_true e.symm⟩⟩
    · rw [if_neg q2] at e
      exact Or.inr ⟨q1, Or.inl (of_decide_eq_true e.symm)⟩
  · rw [if_neg q1] at e
    exact Or.inl (of_decide_eq_true e.symm)
theorem vis_in (hi : Inv H α) (hH : H < 900000) {z : Nat} (hz : z < 8) (h0 : 0 < α 10) : vis α z ≤ 28 ∧ (vis α z = 0 ↔ inZ α z = true) := by
  obtain ⟨h1, h2, h3⟩ := vis_spec hi hH hz h0
  refine ⟨h1, fun h => ?_, fun h => ?_⟩
  · rw [h] at h2
    exact h2
  · rcases Nat.eq_zero_or_pos (vis α z) with q | q
    · exact q
    · have : inZ (hrs α 0) z = false := h3 0 q
      have h9 : inZ α z = false := this
      rw [h] at h9; cases h9
/-- one zone of the law's loop -/
theorem z_step (hR : RC (M 0) α) (hi : Inv H α) (hH : H < 800000) {z : Nat} (hz : z < 8) {c : Nat} (hc : c ≤ 140) (m : Nat) (kk : Int32 → Mem → Option (Int32 × Mem)) : ∃ M1, Kp M M1 ∧ f_L_areZones_L4 (m + 1) (nI c) (nI z) M kk = f_L_areZones_L4 m (nI (c + α (31 + z))) (nI (z + 1)) M1 kk := by
  have b10 := hi.1.2.2.2.2.2.2.2.2.2.2.1
  have b11 := hi.1.2.2.2.2.2.2.2.2.2.2.2.1
  have l13 := al_le hi
  have bz := hi.2.2.2.2.2.2.1
  have bzz := bz z hz
  have a5 := v_visit hR hi hz
  have a6 := v_visit hR hi (z := (z + 1) % 8) (by omega)
  have a8 := v_visit hR hi (z := (z + 7) % 8) (by omega)
  obtain ⟨M1, a13, k1⟩ := v_hoursUntilVisit hR hi hH hz
  have hR1 := k1.R hR
  obtain ⟨a, la, ra, a15⟩ := v_zoneByNoise hR1 hi (by omega) hz
  have b1 := v_noise hR1 hi hz
  have b2 := v_noise hR1 hi la
  have b3 := v_alarmsOf hR1 hi la
  have b4 := v_alarmsOf hR1 hi hz
  have b5 := v_isGuarded hR1 hi hz
  have b6 := v_hoursUntilVisitByRemainders hR1 hi hH hz
  have b7 := g_guardCount hR1
  have b8 := g_alarmCount hR1
  have bza := bz a la
  have g1 : mrem (nI z + nI 1) (nI 8) = nI ((z + 1) % 8) := by rw [nI_add, nI_rem (by omega) (by decide)]
  have g7 : mrem (nI z + nI 7) (nI 8) = nI ((z + 7) % 8) := by rw [nI_add, nI_rem (by omega) (by decide)]
  simp only [nI_add] at g1 g7
  have hnear : nearZ α z = (inZ α ((z + 1) % 8) || inZ α ((z + 7) % 8)) := rfl
  refine ⟨M1, k1, ?_⟩
  rw [f_L_areZones_L4.eq_2]
  -- the tail: guards, visits, shares
  have hv : (α 10 = 0 ∧ (if α 10 = 0 then -nI 75 else nI (vis α z)) = -nI 75) ∨ (0 < α 10 ∧ (if α 10 = 0 then -nI 75 else nI (vis α z)) = nI (vis α z) ∧ vis α z ≤ 28 ∧ (vis α z = 0 ↔ inZ α z = true)) := by
    by_cases q : α 10 = 0
    · exact Or.inl ⟨q, if_pos q⟩
    · exact Or.inr ⟨by omega, if_neg q, vis_in hi (by omega) hz (by omega)⟩
  generalize (if α 10 = 0 then -nI 75 else nI (vis α z)) = vv at a13 b6 hv
  generalize vis α z = vz at hv
  have hsh : 0 < α 13 → f_L_alarmShare (nI z) M1 = some (FP.fdiv (FP.i2f (nI (α (39 + z)))) (FP.i2f (nI (α 13)))) ∧ (∀ k : Option (Int32 × Mem), mn32 (FP.fdiv (FP.i2f (nI (α (39 + z)))) (FP.i2f (nI (α 13)))) k = k) ∧ FP.cmpInt (-1) (FP.fcmp (FP.fdiv (FP.i2f (nI (α (39 + z)))) (FP.i2f (nI (α 13)))) (FP.fdiv (FP.i2f (nI (α (39 + z)))) (FP.i2f (nI (α 13))))) = nI 0 := fun h => by
    refine ⟨v_alarmShare hR1 hi hH h hz, fun k => ?_, fdiv_cmp (by omega) (by omega) h⟩
    unfold mn32
    exact if_pos (nn_fdiv (by omega) (by omega) h)
  have hrank : ∃ b, b < 8 ∧ (z = 0 ∧ b = a ∨ 0 < z ∧ f_L_zoneByNoise (nI z - nI 1) M1 = some (nI b) ∧ cB α b 8 < cB α a 8) := by
    by_cases q : z = 0
    · exact ⟨a, la, Or.inl ⟨q, rfl⟩⟩
    · obtain ⟨b, lb, rb, a17⟩ := v_zoneByNoise hR1 hi (by omega) (r := z - 1) (by omega)
      refine ⟨b, lb, Or.inr ⟨by omega, ?_, by omega⟩⟩
      rw [nI_subE (by omega)]
      exact a17
  obtain ⟨b, lb, hrank⟩ := hrank
  have c2 := v_noise hR1 hi lb
  have c3 := v_alarmsOf hR1 hi lb
  have bzb := bz b lb
  have hord : (z = 0 ∧ b = a) ∨ 0 < z ∧ (α (31 + a) < α (31 + b) ∨ α (31 + b) = α (31 + a) ∧ (α (39 + a) < α (39 + b) ∨ α (39 + b) = α (39 + a) ∧ b < a)) := by
    rcases hrank with h | ⟨h1, -, h3⟩
    · exact Or.inl h
    · exact Or.inr ⟨h1, rank_bf hi (by omega) la lb h3⟩
  simp only [lit_0, lit_1, lit_2, lit_3, lit_4, lit_5, lit_6, lit_7, lit_8, lit_9, lit_10, lit_11, lit_12, lit_13, lit_14, lit_15, lit_16, lit_20, lit_23, lit_24, lit_31, lit_32, lit_39, lit_43, lit_45, lit_47, lit_48, lit_56, lit_57, lit_59, lit_60, lit_62, lit_63, lit_89, lit_92, lit_96, lit_97, lit_99, lit_100, lit_102, lit_103, lit_104, lit_110, lit_111, lit_115, lit_117, lit_194, lit_200, lit_644, lit_736, lit_999, lit_1000, lit_9999, lit_10000, lit_1000000000, lit_75]
  rw [if_neg (by rw [nI_leE (by decide) (by omega)]; omega), a5, mbp_eq]
  simp only [nI_add]
  rw [g1, a6, mbp_eq, g7]
  refine mlet_k (v := nI (nearZ α z).toNat) (fun k => ?_) ?_
  · rw [hnear]
    cases q6 : inZ α ((z + 1) % 8) with
    | true => simp (disch := omega) only [lit_17, lit_18, lit_19, lit_21, lit_22, lit_25, lit_26, lit_28, lit_29, lit_38, lit_42, lit_46, lit_50, lit_54, lit_70, lit_74, lit_75, lit_76, lit_77, lit_78, lit_79, lit_40503, mcatp_l, mcatp_r, eq_self, lit_0, lit_1, lit_2, lit_3, lit_4, lit_5, lit_6, lit_7, lit_8, lit_9, lit_10, lit_11, lit_12, lit_13, lit_14, lit_15, lit_16, lit_20, lit_23, lit_24, lit_31, lit_32, lit_39, lit_43, lit_45, lit_47, lit_48, lit_56, lit_57, lit_59, lit_60, lit_62, lit_63, lit_89, lit_92, lit_96, lit_97, lit_99, lit_100, lit_102, lit_103, lit_104, lit_110, lit_111, lit_115, lit_117, lit_194, lit_200, lit_644, lit_736, lit_999, lit_1000, lit_9999, lit_10000, lit_1000000000, ↓wp_mlet, ↓wp_mbp, ↓wp_ite, ↓wp_mix, ↓wp_mdiv, ↓wp_mnz, ↓wp_some, ↓wp_mbnd, ↓mlet_eq, ↓mbp_eq, ↓mbnd_eq, ↓mix_ite, ↓mdiv_ite, ↓mnz_ite, nI_add, nI_mul, nI_nat, nI_ltE, nI_leE, nI_eqE, nI_eqN, nI_Neq, nI_Nlt, nI_Nle, nI_ltN, nI_leN, ↓reduceIte, ↓Nat.reduceEqDiff, and_f, nt_e, nt_t, nl_t, nl_f, ne_t, ne_f, and_self, or_self, or_true, true_or, or_false, false_or, if_true, if_false, and_true, true_and, and_false, false_and, not_true, not_false_iff, toNat_0, Bool.false_and, Bool.true_and, Bool.and_false, Bool.and_true, Bool.false_eq_true, reduceCtorEq, Bool.true_eq_false, Bool.not_true, Bool.not_false, Bool.toNat_true, Bool.true_or]
    | false =>
      rw [a8]
      cases q7 : inZ α ((z + 7) % 8) <;> simp (disch := omega) only [lit_17, lit_18, lit_19, lit_21, lit_22, lit_25, lit_26, lit_28, lit_29, lit_38, lit_42, lit_46, lit_50, lit_54, lit_70, lit_74, lit_75, lit_76, lit_77, lit_78, lit_79, lit_40503, mcatp_l, mcatp_r, eq_self, lit_0, lit_1, lit_2, lit_3, lit_4, lit_5, lit_6, lit_7, lit_8, lit_9, lit_10, lit_11, lit_12, lit_13, lit_14, lit_15, lit_16, lit_20, lit_23, lit_24, lit_31, lit_32, lit_39, lit_43, lit_45, lit_47, lit_48, lit_56, lit_57, lit_59, lit_60, lit_62, lit_63, lit_89, lit_92, lit_96, lit_97, lit_99, lit_100, lit_102, lit_103, lit_104, lit_110, lit_111, lit_115, lit_117, lit_194, lit_200, lit_644, lit_736, lit_999, lit_1000, lit_9999, lit_10000, lit_1000000000, ↓wp_mlet, ↓wp_mbp, ↓wp_ite, ↓wp_mix, ↓wp_mdiv, ↓wp_mnz, ↓wp_some, ↓wp_mbnd, ↓mlet_eq, ↓mbp_eq, ↓mbnd_eq, ↓mix_ite, ↓mdiv_ite, ↓mnz_ite, nI_add, nI_mul, nI_nat, nI_ltE, nI_leE, nI_eqE, nI_eqN, nI_Neq, nI_Nlt, nI_Nle, nI_ltN, nI_leN, ↓reduceIte, ↓Nat.reduceEqDiff, and_f, nt_e, nt_t, nl_t, nl_f, ne_t, ne_f, and_self, or_self, or_true, true_or, or_false, false_or, if_true, if_false, and_true, true_and, and_false, false_and, not_true, not_false_iff, toNat_0, Bool.false_and, Bool.true_and, Bool.and_false, Bool.and_true, Bool.false_eq_true, reduceCtorEq, Bool.true_eq_false, Bool.not_true, Bool.not_false, Bool.toNat_true, Bool.toNat_false, Bool.false_or]
  rw [a13, mbnd_eq, a15, mbp_eq]
  refine mlet_k (v := nI b) (fun k => ?_) ?_
  · rcases hrank with ⟨q1, q2⟩ | ⟨q1, q2, -⟩
    · rw [if_pos (by rw [q1]), q2]
    · rw [if_neg (by rw [nI_eqE (by omega) (by decide)]; omega), q2, mbp_eq]
  rw [c2, mbp_eq, b2, mbp_eq]
  refine mlet_k (v := nI 1) (fun k => ?_) ?_
  · rcases hord with ⟨q1, q2⟩ | ⟨q1, q | ⟨q2, q | ⟨q3, q4⟩⟩⟩
    · subst q2
      simp (disch := omega) only [lit_17, lit_18, lit_19, lit_21, lit_22, lit_25, lit_26, lit_28, lit_29, lit_38, lit_42, lit_46, lit_50, lit_54, lit_70, lit_74, lit_75, lit_76, lit_77, lit_78, lit_79, lit_40503, mcatp_l, mcatp_r, eq_self, lit_0, lit_1, lit_2, lit_3, lit_4, lit_5, lit_6, lit_7, lit_8, lit_9, lit_10, lit_11, lit_12, lit_13, lit_14, lit_15, lit_16, lit_20, lit_23, lit_24, lit_31, lit_32, lit_39, lit_43, lit_45, lit_47, lit_48, lit_56, lit_57, lit_59, lit_60, lit_62, lit_63, lit_89, lit_92, lit_96, lit_97, lit_99, lit_100, lit_102, lit_103, lit_104, lit_110, lit_111, lit_115, lit_117, lit_194, lit_200, lit_644, lit_736, lit_999, lit_1000, lit_9999, lit_10000, lit_1000000000, ↓wp_mlet, ↓wp_mbp, ↓wp_ite, ↓wp_mix, ↓wp_mdiv, ↓wp_mnz, ↓wp_some, ↓wp_mbnd, ↓mlet_eq, ↓mbp_eq, ↓mbnd_eq, ↓mix_ite, ↓mdiv_ite, ↓mnz_ite, nI_add, nI_mul, nI_nat, nI_ltE, nI_leE, nI_eqE, nI_eqN, nI_Neq, nI_Nlt, nI_Nle, nI_ltN, nI_leN, ↓reduceIte, ↓Nat.reduceEqDiff, and_f, nt_e, nt_t, nl_t, nl_f, ne_t, ne_f, and_self, or_self, or_true, true_or, or_false, false_or, if_true, if_false, and_true, true_and, and_false, false_and, not_true, not_false_iff, b2, b3, q1]
    · simp (disch := omega) only [lit_17, lit_18, lit_19, lit_21, lit_22, lit_25, lit_26, lit_28, lit_29, lit_38, lit_42, lit_46, lit_50, lit_54, lit_70, lit_74, lit_75, lit_76, lit_77, lit_78, lit_79, lit_40503, mcatp_l, mcatp_r, eq_self, lit_0, lit_1, lit_2, lit_3, lit_4, lit_5, lit_6, lit_7, lit_8, lit_9, lit_10, lit_11, lit_12, lit_13, lit_14, lit_15, lit_16, lit_20, lit_23, lit_24, lit_31, lit_32, lit_39, lit_43, lit_45, lit_47, lit_48, lit_56, lit_57, lit_59, lit_60, lit_62, lit_63, lit_89, lit_92, lit_96, lit_97, lit_99, lit_100, lit_102, lit_103, lit_104, lit_110, lit_111, lit_115, lit_117, lit_194, lit_200, lit_644, lit_736, lit_999, lit_1000, lit_9999, lit_10000, lit_1000000000, ↓wp_mlet, ↓wp_mbp, ↓wp_ite, ↓wp_mix, ↓wp_mdiv, ↓wp_mnz, ↓wp_some, ↓wp_mbnd, ↓mlet_eq, ↓mbp_eq, ↓mbnd_eq, ↓mix_ite, ↓mdiv_ite, ↓mnz_ite, nI_add, nI_mul, nI_nat, nI_ltE, nI_leE, nI_eqE, nI_eqN, nI_Neq, nI_Nlt, nI_Nle, nI_ltN, nI_leN, ↓reduceIte, ↓Nat.reduceEqDiff, and_f, nt_e, nt_t, nl_t, nl_f, ne_t, ne_f, and_self, or_self, or_true, true_or, or_false, false_or, if_true, if_false, and_true, true_and, and_false, false_and, not_true, not_false_iff, b2, b3, c2, c3]
    · simp (disch := omega) only [lit_17, lit_18, lit_19, lit_21, lit_22, lit_25, lit_26, lit_28, lit_29, lit_38, lit_42, lit_46, lit_50, lit_54, lit_70, lit_74, lit_75, lit_76, lit_77, lit_78, lit_79, lit_40503, mcatp_l, mcatp_r, eq_self, lit_0, lit_1, lit_2, lit_3, lit_4, lit_5, lit_6, lit_7, lit_8, lit_9, lit_10, lit_11, lit_12, lit_13, lit_14, lit_15, lit_16, lit_20, lit_23, lit_24, lit_31, lit_32, lit_39, lit_43, lit_45, lit_47, lit_48, lit_56, lit_57, lit_59, lit_60, lit_62, lit_63, lit_89, lit_92, lit_96, lit_97, lit_99, lit_100, lit_102, lit_103, lit_104, lit_110, lit_111, lit_115, lit_117, lit_194, lit_200, lit_644, lit_736, lit_999, lit_1000, lit_9999, lit_10000, lit_1000000000, ↓wp_mlet, ↓wp_mbp, ↓wp_ite, ↓wp_mix, ↓wp_mdiv, ↓wp_mnz, ↓wp_some, ↓wp_mbnd, ↓mlet_eq, ↓mbp_eq, ↓mbnd_eq, ↓mix_ite, ↓mdiv_ite, ↓mnz_ite, nI_add, nI_mul, nI_nat, nI_ltE, nI_leE, nI_eqE, nI_eqN, nI_Neq, nI_Nlt, nI_Nle, nI_ltN, nI_leN, ↓reduceIte, ↓Nat.reduceEqDiff, and_f, nt_e, nt_t, nl_t, nl_f, ne_t, ne_f, and_self, or_self, or_true, true_or, or_false, false_or, if_true, if_false, and_true, true_and, and_false, false_and, not_true, not_false_iff, b2, b3, c2, c3]
    · simp (disch := omega) only [lit_17, lit_18, lit_19, lit_21, lit_22, lit_25, lit_26, lit_28, lit_29, lit_38, lit_42, lit_46, lit_50, lit_54, lit_70, lit_74, lit_75, lit_76, lit_77, lit_78, lit_79, lit_40503, mcatp_l, mcatp_r, eq_self, lit_0, lit_1, lit_2, lit_3, lit_4, lit_5, lit_6, lit_7, lit_8, lit_9, lit_10, lit_11, lit_12, lit_13, lit_14, lit_15, lit_16, lit_20, lit_23, lit_24, lit_31, lit_32, lit_39, lit_43, lit_45, lit_47, lit_48, lit_56, lit_57, lit_59, lit_60, lit_62, lit_63, lit_89, lit_92, lit_96, lit_97, lit_99, lit_100, lit_102, lit_103, lit_104, lit_110, lit_111, lit_115, lit_117, lit_194, lit_200, lit_644, lit_736, lit_999, lit_1000, lit_9999, lit_10000, lit_1000000000, ↓wp_mlet, ↓wp_mbp, ↓wp_ite, ↓wp_mix, ↓wp_mdiv, ↓wp_mnz, ↓wp_some, ↓wp_mbnd, ↓mlet_eq, ↓mbp_eq, ↓mbnd_eq, ↓mix_ite, ↓mdiv_ite, ↓mnz_ite, nI_add, nI_mul, nI_nat, nI_ltE, nI_leE, nI_eqE, nI_eqN, nI_Neq, nI_Nlt, nI_Nle, nI_ltN, nI_leN, ↓reduceIte, ↓Nat.reduceEqDiff, and_f, nt_e, nt_t, nl_t, nl_f, ne_t, ne_f, and_self, or_self, or_true, true_or, or_false, false_or, if_true, if_false, and_true, true_and, and_false, false_and, not_true, not_false_iff, b2, b3, c2, c3]
  rw [b1, mbp_eq, mlet_eq, mbp_eq, if_neg (by rw [nI_ltE (by omega) (by decide)]; omega), mbp_eq, if_neg (by rw [nI_ltE (by decide) (by omega)]; omega), if_neg (by decide), b5, mbp_eq]
  refine mlet_k (v := nI (inZ α z || nearZ α z).toNat) (fun k => ?_) ?_
  · cases inZ α z <;> cases nearZ α z <;> simp (disch := omega) only [lit_17, lit_18, lit_19, lit_21, lit_22, lit_25, lit_26, lit_28, lit_29, lit_38, lit_42, lit_46, lit_50, lit_54, lit_70, lit_74, lit_75, lit_76, lit_77, lit_78, lit_79, lit_40503, mcatp_l, mcatp_r, eq_self, lit_0, lit_1, lit_2, lit_3, lit_4, lit_5, lit_6, lit_7, lit_8, lit_9, lit_10, lit_11, lit_12, lit_13, lit_14, lit_15, lit_16, lit_20, lit_23, lit_24, lit_31, lit_32, lit_39, lit_43, lit_45, lit_47, lit_48, lit_56, lit_57, lit_59, lit_60, lit_62, lit_63, lit_89, lit_92, lit_96, lit_97, lit_99, lit_100, lit_102, lit_103, lit_104, lit_110, lit_111, lit_115, lit_117, lit_194, lit_200, lit_644, lit_736, lit_999, lit_1000, lit_9999, lit_10000, lit_1000000000, ↓wp_mlet, ↓wp_mbp, ↓wp_ite, ↓wp_mix, ↓wp_mdiv, ↓wp_mnz, ↓wp_some, ↓wp_mbnd, ↓mlet_eq, ↓mbp_eq, ↓mbnd_eq, ↓mix_ite, ↓mdiv_ite, ↓mnz_ite, nI_add, nI_mul, nI_nat, nI_ltE, nI_leE, nI_eqE, nI_eqN, nI_Neq, nI_Nlt, nI_Nle, nI_ltN, nI_leN, ↓reduceIte, ↓Nat.reduceEqDiff, and_f, nt_e, nt_t, nl_t, nl_f, ne_t, ne_f, and_self, or_self, or_true, true_or, or_false, false_or, if_true, if_false, and_true, true_and, and_false, false_and, not_true, not_false_iff, toNat_0, Bool.false_and, Bool.true_and, Bool.and_false, Bool.and_true, Bool.false_eq_true, reduceCtorEq, Bool.true_eq_false, Bool.not_true, Bool.not_false, Bool.toNat_true, Bool.toNat_false, Bool.or_self, Bool.false_or, Bool.or_false, Bool.true_or]
  rw [if_pos rfl, b6, mbp_eq, if_pos rfl, b7, mbp_eq]
  refine mlet_k (v := ()) (fun k => ?_) ?_
  · rcases hv with ⟨q1, q2⟩ | ⟨q1, q2, q3, q4⟩
    · rw [if_pos (by rw [q1]), if_pos q2]
    · rw [if_neg (by rw [nI_eqE (by omega) (by decide)]; omega), q2]
      cases q5 : inZ α z with
      | true =>
        have q6 := q4.mpr q5
        simp (disch := omega) only [lit_17, lit_18, lit_19, lit_21, lit_22, lit_25, lit_26, lit_28, lit_29, lit_38, lit_42, lit_46, lit_50, lit_54, lit_70, lit_74, lit_75, lit_76, lit_77, lit_78, lit_79, lit_40503, mcatp_l, mcatp_r, eq_self, lit_0, lit_1, lit_2, lit_3, lit_4, lit_5, lit_6, lit_7, lit_8, lit_9, lit_10, lit_11, lit_12, lit_13, lit_14, lit_15, lit_16, lit_20, lit_23, lit_24, lit_31, lit_32, lit_39, lit_43, lit_45, lit_47, lit_48, lit_56, lit_57, lit_59, lit_60, lit_62, lit_63, lit_89, lit_92, lit_96, lit_97, lit_99, lit_100, lit_102, lit_103, lit_104, lit_110, lit_111, lit_115, lit_117, lit_194, lit_200, lit_644, lit_736, lit_999, lit_1000, lit_9999, lit_10000, lit_1000000000, ↓wp_mlet, ↓wp_mbp, ↓wp_ite, ↓wp_mix, ↓wp_mdiv, ↓wp_mnz, ↓wp_some, ↓wp_mbnd, ↓mlet_eq, ↓mbp_eq, ↓mbnd_eq, ↓mix_ite, ↓mdiv_ite, ↓mnz_ite, nI_add, nI_mul, nI_nat, nI_ltE, nI_leE, nI_eqE, nI_eqN, nI_Neq, nI_Nlt, nI_Nle, nI_ltN, nI_leN, ↓reduceIte, ↓Nat.reduceEqDiff, and_f, nt_e, nt_t, nl_t, nl_f, ne_t, ne_f, and_self, or_self, or_true, true_or, or_false, false_or, if_true, if_false, and_true, true_and, and_false, false_and, not_true, not_false_iff, toNat_0, Bool.false_and, Bool.true_and, Bool.and_false, Bool.and_true, Bool.false_eq_true, reduceCtorEq, Bool.true_eq_false, Bool.not_true, Bool.not_false, Bool.toNat_true]
      | false =>
        have q6 : vz ≠ 0 := fun h => by have := q4.mp h; rw [q5] at this; cases this
        simp (disch := omega) only [lit_17, lit_18, lit_19, lit_21, lit_22, lit_25, lit_26, lit_28, lit_29, lit_38, lit_42, lit_46, lit_50, lit_54, lit_70, lit_74, lit_75, lit_76, lit_77, lit_78, lit_79, lit_40503, mcatp_l, mcatp_r, eq_self, lit_0, lit_1, lit_2, lit_3, lit_4, lit_5, lit_6, lit_7, lit_8, lit_9, lit_10, lit_11, lit_12, lit_13, lit_14, lit_15, lit_16, lit_20, lit_23, lit_24, lit_31, lit_32, lit_39, lit_43, lit_45, lit_47, lit_48, lit_56, lit_57, lit_59, lit_60, lit_62, lit_63, lit_89, lit_92, lit_96, lit_97, lit_99, lit_100, lit_102, lit_103, lit_104, lit_110, lit_111, lit_115, lit_117, lit_194, lit_200, lit_644, lit_736, lit_999, lit_1000, lit_9999, lit_10000, lit_1000000000, ↓wp_mlet, ↓wp_mbp, ↓wp_ite, ↓wp_mix, ↓wp_mdiv, ↓wp_mnz, ↓wp_some, ↓wp_mbnd, ↓mlet_eq, ↓mbp_eq, ↓mbnd_eq, ↓mix_ite, ↓mdiv_ite, ↓mnz_ite, nI_add, nI_mul, nI_nat, nI_ltE, nI_leE, nI_eqE, nI_eqN, nI_Neq, nI_Nlt, nI_Nle, nI_ltN, nI_leN, ↓reduceIte, ↓Nat.reduceEqDiff, and_f, nt_e, nt_t, nl_t, nl_f, ne_t, ne_f, and_self, or_self, or_true, true_or, or_false, false_or, if_true, if_false, and_true, true_and, and_false, false_and, not_true, not_false_iff, toNat_0, Bool.false_and, Bool.true_and, Bool.and_false, Bool.and_true, Bool.false_eq_true, reduceCtorEq, Bool.true_eq_false, Bool.not_true, Bool.not_false, Bool.toNat_false]
  rw [b8, mbp_eq]
  refine mlet_k (v := ()) (fun k => ?_) ?_
  · by_cases q : α 13 = 0
    · rw [if_pos (by rw [q]; decide)]
    · obtain ⟨s1, s2, s3⟩ := hsh (by omega)
      rw [if_neg (by rw [nI_leE (by omega) (by decide)]; omega), s1, mbp_eq, b4, mbp_eq, mbp_eq, s2]
      exact if_pos s3
  rw [mlet_eq, nI_add]
theorem v_areZones (hR : RC (M 0) α) (hi : Inv H α) (hH : H < 800000) : ∃ M1, f_L_areZones M = some (nI 1, M1) ∧ Kp M M1 := by
  have bz := hi.2.2.2.2.2.2.1
  have sle : ∀ x, x ≤ 8 → sumN (fun k => α (31 + k)) x ≤ 20 * x := fun x hx => sumN_le x (fun k hk => (bz k (by omega)).1)
  obtain ⟨⟨c, M1⟩, ⟨h1, h2⟩, h3⟩ := mloopP (F := fun n x (s : Int32 × Mem) (kk : Int32 × Mem → Option (Int32 × Mem)) => f_L_areZones_L4 n s.1 x s.2 (fun a b => kk (a, b))) (c := 8) (fun x s => s.1 = nI (sumN (fun k => α (31 + k)) x) ∧ Kp M s.2) (fun m x s kk hx hs => by
    obtain ⟨c, M1⟩ := s
    obtain ⟨h1, h2⟩ := hs
    have h1 : c = nI (sumN (fun k => α (31 + k)) x) := h1
    have h2 : Kp M M1 := h2
    subst h1
    have := sle x (by omega)
    obtain ⟨M2, k2, e⟩ := z_step (h2.R hR) hi hH hx (c := sumN (fun k => α (31 + k)) x) (by omega) m (fun a b => kk (a, b))
    exact ⟨(nI (sumN (fun k => α (31 + k)) (x + 1)), M2), ⟨rfl, h2.trans k2⟩, e⟩) (fun m s kk hs => by
    obtain ⟨c, M1⟩ := s
    show f_L_areZones_L4 (m + 1) c (nI 8) M1 (fun a b => kk (a, b)) = _
    rw [f_L_areZones_L4.eq_2]
    simp (disch := omega) only [lit_17, lit_18, lit_19, lit_21, lit_22, lit_25, lit_26, lit_28, lit_29, lit_38, lit_42, lit_46, lit_50, lit_54, lit_70, lit_74, lit_75, lit_76, lit_77, lit_78, lit_79, lit_40503, mcatp_l, mcatp_r, eq_self, lit_0, lit_1, lit_2, lit_3, lit_4, lit_5, lit_6, lit_7, lit_8, lit_9, lit_10, lit_11, lit_12, lit_13, lit_14, lit_15, lit_16, lit_20, lit_23, lit_24, lit_31, lit_32, lit_39, lit_43, lit_45, lit_47, lit_48, lit_56, lit_57, lit_59, lit_60, lit_62, lit_63, lit_89, lit_92, lit_96, lit_97, lit_99, lit_100, lit_102, lit_103, lit_104, lit_110, lit_111, lit_115, lit_117, lit_194, lit_200, lit_644, lit_736, lit_999, lit_1000, lit_9999, lit_10000, lit_1000000000, ↓wp_mlet, ↓wp_mbp, ↓wp_ite, ↓wp_mix, ↓wp_mdiv, ↓wp_mnz, ↓wp_some, ↓wp_mbnd, ↓mlet_eq, ↓mbp_eq, ↓mbnd_eq, ↓mix_ite, ↓mdiv_ite, ↓mnz_ite, nI_add, nI_mul, nI_nat, nI_ltE, nI_leE, nI_eqE, nI_eqN, nI_Neq, nI_Nlt, nI_Nle, nI_ltN, nI_leN, ↓reduceIte, ↓Nat.reduceEqDiff, and_f, nt_e, nt_t, nl_t, nl_f, ne_t, ne_f, and_self, or_self, or_true, true_or, or_false, false_or, if_true, if_false, and_true, true_and, and_false, false_and, not_true, not_false_iff]) 8 9 0 (nI 0, M) (fun p => (mbp (f_X11_meanNoise p.2) fun r73 => (mn64 (FP.ddiv (FP.i2d p.1) (4620693217682128896 : UInt64)) (if (FP.cmpInt (-1) (FP.dcmp r73 (FP.ddiv (FP.i2d p.1) (4620693217682128896 : UInt64)))) = 0 then (mbnd (f_L_alarmsIn (0 : Int32) p.2) fun r75 M76 => (if r75 = 0 then (mbnd (f_L_alarmsIn (24 : Int32) M76) fun r78 M79 => (mbnd (f_L_alarmsIn (7 : Int32) M79) fun r80 M81 => (if r78 < r80 then (some ((0 : Int32), M81)) else (some ((1 : Int32), M81))))) else (some ((0 : Int32), M76)))) else (some ((0 : Int32), p.2)))))) (by omega) (by omega) ⟨rfl, Kp.rf⟩
  have h1 : c = nI (sumN (fun k => α (31 + k)) 8) := h1
  have h2 : Kp M M1 := h2
  subst h1
  have hR1 := h2.R hR
  have l8 := sle 8 (Nat.le_refl _)
  have e1 := c_sumOf (M := M1) (ia := 7) (f := fun k => α (31 + k)) hR1.2.2.1.2.2.2.1
  have nn : FP.ddiv (FP.i2d (nI (sumN (fun k => α (31 + k)) 8))) (4620693217682128896 : UInt64) &&& 9223372036854775807 ≤ 9218868437227405312 := nn_mean ⟨sumN (fun k => α (31 + k)) 8, by omega⟩
  have mc : FP.cmpInt (-1) (FP.dcmp (FP.ddiv (FP.i2d (nI (sumN (fun k => α (31 + k)) 8))) (4620693217682128896 : UInt64)) (FP.ddiv (FP.i2d (nI (sumN (fun k => α (31 + k)) 8))) (4620693217682128896 : UInt64))) = 0 := mean_cmp ⟨sumN (fun k => α (31 + k)) 8, by omega⟩
  have e2 : f_X11_meanNoise M1 = some (FP.ddiv (FP.i2d (nI (sumN (fun k => α (31 + k)) 8))) (4620693217682128896 : UInt64)) := by
    unfold f_X11_meanNoise
    rw [e1, mbp_eq]
    unfold mn64
    exact if_pos nn
  obtain ⟨M2, f1, k2⟩ := v_alarmsIn hR1 hi (by omega) (h := 0) (by decide)
  have hR2 := k2.R hR1
  obtain ⟨M3, f2, k3⟩ := v_alarmsIn hR2 hi (by omega) (h := 24) (by decide)
  have hR3 := k3.R hR2
  obtain ⟨M4, f3, k4⟩ := v_alarmsIn hR3 hi (by omega) (h := 7) (by decide)
  refine ⟨M4, ?_, h2.trans (k2.trans (k3.trans k4))⟩
  unfold f_L_areZones
  refine Eq.trans h3 ?_
  have hm : hrsN α 7 ≤ hrsN α 24 := hrsN_mono (by decide)
  have hl := hrsN_le hi (n := 24) (by omega)
  have f1' : f_L_alarmsIn 0 M1 = some (nI 0, M2) := f1
  have f2' : f_L_alarmsIn 24 M2 = some (nI (hrsN α 24), M3) := f2
  have f3' : f_L_alarmsIn 7 M3 = some (nI (hrsN α 7), M4) := f3
  show mbp (f_X11_meanNoise M1) _ = _
  rw [e2, mbp_eq]
  unfold mn64
  rw [if_pos nn, if_pos mc, f1', mbnd_eq, if_pos (show nI 0 = 0 from rfl), f2', mbnd_eq, f3', mbnd_eq, if_neg (by rw [nI_ltE (by omega) (by omega)]; omega)]
  rfl
end ZONES
