def vw (α : Sp) (k : Nat) : Sp := fun j => if j = 11 ∨ 47 ≤ j ∧ j < 56 then hrs α k j else α j
theorem vw_at (α : Sp) (k j : Nat) : vw α k j = if j = 11 ∨ 47 ≤ j ∧ j < 56 then hrs α k j else α j := Eq.trans rfl rfl
theorem vw_0 (α : Sp) : vw α 0 = α := by
  funext j
  rw [vw_at]
  split <;> rfl
theorem walkSp_cg {α β : Sp} (h : ∀ j, j = 10 ∨ j = 11 ∨ 47 ≤ j ∧ j < 56 → α j = β j) (h10 : β 10 ≤ 3) {j : Nat} (hj : j = 11 ∨ 47 ≤ j ∧ j < 56) : walkSp α j = walkSp β j := by
  unfold walkSp
  rw [h 10 (by omega), walkTo_at, walkTo_at]
  split
  · rename_i q
    unfold walkZ incSp
    have e : ∀ i, i = 11 ∨ 47 ≤ i ∧ i < 56 → up α 11 (α 11 + 1) i = up β 11 (β 11 + 1) i := fun i hi => by
      rw [up_at, up_at, h 11 (by omega)]
      split
      · rfl
      · exact h i (by omega)
    rw [e 11 (by omega), e (49 + 3 * ((j - 47) / 3)) (by omega), e (47 + 3 * ((j - 47) / 3)) (by omega), e (48 + 3 * ((j - 47) / 3)) (by omega)]
  · unfold incSp
    rw [up_at, up_at, h 11 (by omega)]
    split
    · rfl
    · exact h j (by omega)
theorem vw_s {α : Sp} {H k : Nat} (hi : Inv H α) (hH : H + k < 900000) : walkSp (vw α k) = vw α (k + 1) := by
  have hn := inv_hrs hi k (by omega)
  have h10 : hrs α k 10 = α 10 := hrs_c hi 10 (by omega) k (by omega)
  have h10' : vw α k 10 = α 10 := by rw [vw_at, if_neg (by decide)]
  have b10 : α 10 ≤ 3 := hi.1.2.2.2.2.2.2.2.2.2.2.1
  funext j
  by_cases q : j = 11 ∨ 47 ≤ j ∧ j < 56
  · rw [vw_at, if_pos q, walkSp_cg (β := hrs α k) (fun i hi2 => by
      by_cases qi : i = 11 ∨ 47 ≤ i ∧ i < 56
      · rw [vw_at, if_pos qi]
      · have : i = 10 := by omega
        subst this
        rw [h10', h10]) (by rw [h10]; exact b10) q]
    show _ = hourSp (hrs α k) j
    rw [hourSp_hz (by omega) (by omega), hz_g (by decide) (by omega)]
  · rw [walkSp_ne (by omega) (by omega) (by rw [h10']; exact b10), vw_at, if_neg q, vw_at, if_neg q]
theorem Gd_vw {α : Sp} {H k : Nat} (hi : Inv H α) (hH : H + k < 900000) : Gd (incSp (vw α k)) := by
  have hn := Gd_inc (inv_hrs hi k (by omega)) (by omega)
  have h10 : hrs α k 10 = α 10 := hrs_c hi 10 (by omega) k (by omega)
  have e : ∀ i, i = 10 ∨ i = 11 ∨ 47 ≤ i ∧ i < 56 → incSp (vw α k) i = incSp (hrs α k) i := fun i hi2 => by
    unfold incSp
    rw [up_at, up_at, vw_at, if_pos (Or.inl rfl)]
    split
    · rfl
    · by_cases q : i = 11 ∨ 47 ≤ i ∧ i < 56
      · rw [vw_at, if_pos q]
      · have : i = 10 := by omega
        subst this
        rw [vw_at, if_neg (by decide), h10]
  obtain ⟨h1, h2, h3⟩ := hn
  refine ⟨by rw [e 10 (by omega)]; exact h1, by rw [e 11 (by omega)]; exact h2, fun g hg => ?_⟩
  rw [e 10 (by omega)] at hg
  rw [e (47 + 3 * g) (by omega), e (48 + 3 * g) (by omega), e (49 + 3 * g) (by omega)]
  exact h3 g hg
theorem c_begin {M : Mem} {α : Sp} {g : Nat} (hb : Rb (M g) α) (g1 : Gd (incSp α)) : wp (f_X1_beginHour g M) (fun _ M1 => Rb (M1 g) (walkSp α) ∧ ∀ a, a ≠ g → M1 a = M a) := by
  obtain ⟨r0, r3, r4, r5, r6, r7, r8⟩ := id hb
  unfold f_X1_beginHour
  generalize hN : (1000 : Nat) = N
  have hI : Rb ((mup M g 6 0 (nI (α 11 + 1))) g) (incSp α) := by
    unfold incSp
    refine ⟨?_, ?_, ?_, fun k hk => ?_, fun k hk => ?_, fun k hk hk9 => ?_, fun k hk => ?_⟩
    · simp (disch := omega) only [mup_at, up_at, fil_at, ↓reduceIte, ↓Nat.reduceEqDiff, and_f, nt_e, nt_t, nl_t, nl_f, ne_t, ne_f, and_self, or_self, or_true, true_or, or_false, false_or, if_true, if_false, and_true, true_and, and_false, false_and, not_true, not_false_iff]
    · simp (disch := omega) only [mup_at, up_at, fil_at, ↓reduceIte, ↓Nat.reduceEqDiff, and_f, nt_e, nt_t, nl_t, nl_f, ne_t, ne_f, and_self, or_self, or_true, true_or, or_false, false_or, if_true, if_false, and_true, true_and, and_false, false_and, not_true, not_false_iff, r3]
    · simp (disch := omega) only [mup_at, up_at, fil_at, ↓reduceIte, ↓Nat.reduceEqDiff, and_f, nt_e, nt_t, nl_t, nl_f, ne_t, ne_f, and_self, or_self, or_true, true_or, or_false, false_or, if_true, if_false, and_true, true_and, and_false, false_and, not_true, not_false_iff, r4]
    · simp (disch := omega) only [mup_at, up_at, fil_at, ↓reduceIte, ↓Nat.reduceEqDiff, and_f, nt_e, nt_t, nl_t, nl_f, ne_t, ne_f, and_self, or_self, or_true, true_or, or_false, false_or, if_true, if_false, and_true, true_and, and_false, false_and, not_true, not_false_iff, r5 k hk]
    · simp (disch := omega) only [mup_at, up_at, fil_at, ↓reduceIte, ↓Nat.reduceEqDiff, and_f, nt_e, nt_t, nl_t, nl_f, ne_t, ne_f, and_self, or_self, or_true, true_or, or_false, false_or, if_true, if_false, and_true, true_and, and_false, false_and, not_true, not_false_iff, r6 k hk]
    · simp (disch := omega) only [mup_at, up_at, fil_at, ↓reduceIte, ↓Nat.reduceEqDiff, and_f, nt_e, nt_t, nl_t, nl_f, ne_t, ne_f, and_self, or_self, or_true, true_or, or_false, false_or, if_true, if_false, and_true, true_and, and_false, false_and, not_true, not_false_iff] at hk9
      have q := r7 k hk hk9
      refine ⟨?_, ?_, ?_⟩
      · simp (disch := omega) only [mup_at, up_at, fil_at, ↓reduceIte, ↓Nat.reduceEqDiff, and_f, nt_e, nt_t, nl_t, nl_f, ne_t, ne_f, and_self, or_self, or_true, true_or, or_false, false_or, if_true, if_false, and_true, true_and, and_false, false_and, not_true, not_false_iff, q.1]
      · simp (disch := omega) only [mup_at, up_at, fil_at, ↓reduceIte, ↓Nat.reduceEqDiff, and_f, nt_e, nt_t, nl_t, nl_f, ne_t, ne_f, and_self, or_self, or_true, true_or, or_false, false_or, if_true, if_false, and_true, true_and, and_false, false_and, not_true, not_false_iff, q.2.1]
      · simp (disch := omega) only [mup_at, up_at, fil_at, ↓reduceIte, ↓Nat.reduceEqDiff, and_f, nt_e, nt_t, nl_t, nl_f, ne_t, ne_f, and_self, or_self, or_true, true_or, or_false, false_or, if_true, if_false, and_true, true_and, and_false, false_and, not_true, not_false_iff, q.2.2]
    · obtain ⟨c, c1, c2⟩ := r8 k hk
      exact ⟨c, c1, by simp (disch := omega) only [mup_at, up_at, fil_at, ↓reduceIte, ↓Nat.reduceEqDiff, and_f, nt_e, nt_t, nl_t, nl_f, ne_t, ne_f, and_self, or_self, or_true, true_or, or_false, false_or, if_true, if_false, and_true, true_and, and_false, false_and, not_true, not_false_iff, c2]⟩
  obtain ⟨M1, ⟨h1, h2, h3⟩, e1⟩ := c_walk hN hI g1 (fun M13 => some ((), M13))
  have e10 : incSp α 10 = α 10 := by unfold incSp; rw [up_at, if_neg (by decide)]
  rw [e10] at h1
  simp only [lit_0, lit_1, lit_2, lit_3, lit_4, lit_5, lit_6, lit_7, lit_8, lit_9, lit_10, lit_11, lit_12, lit_13, lit_14, lit_15, lit_16, lit_20, lit_23, lit_24, lit_31, lit_32, lit_39, lit_43, lit_45, lit_47, lit_48, lit_56, lit_57, lit_59, lit_60, lit_62, lit_63, lit_89, lit_92, lit_96, lit_97, lit_99, lit_100, lit_102, lit_103, lit_104, lit_110, lit_111, lit_115, lit_117, lit_194, lit_200, lit_644, lit_736, lit_999, lit_1000, lit_9999, lit_10000, lit_1000000000, r0, nI_add, mlet_eq]
  rw [e1, wp_some]
  exact ⟨h1, fun a h => by rw [h3 a h, pm_g h]⟩
/-- the class's visit, hour by hour -/
theorem c_visitH {M : Mem} {α : Sp} {H t : Nat} (hR : RC (M 0) α) (hi : Inv H α) (hH : H < 800000) (ht : t < 8) (h0 : 0 < α 10) : wp (f_X11_visitByHours (nI t) M) (fun r M1 => r = nI (vis α t) ∧ ∀ a, a ≠ 11 → M1 a = M a) := by
  obtain ⟨v1, v2, v3⟩ := vis_spec hi (by omega) ht h0
  have b10 : α 10 ≤ 3 := hi.1.2.2.2.2.2.2.2.2.2.2.1
  unfold f_X11_visitByHours
  generalize hN : (1000 : Nat) = N
  simp only [lit_0, lit_1, lit_2, lit_3, lit_4, lit_5, lit_6, lit_7, lit_8, lit_9, lit_10, lit_11, lit_12, lit_13, lit_14, lit_15, lit_16, lit_20, lit_23, lit_24, lit_31, lit_32, lit_39, lit_43, lit_45, lit_47, lit_48, lit_56, lit_57, lit_59, lit_60, lit_62, lit_63, lit_89, lit_92, lit_96, lit_97, lit_99, lit_100, lit_102, lit_103, lit_104, lit_110, lit_111, lit_115, lit_117, lit_194, lit_200, lit_644, lit_736, lit_999, lit_1000, lit_9999, lit_10000, lit_1000000000, wp_mbnd]
  refine wp_mono (c_copyB (M := M) (g := 11) (g1 := 0) (α := α) (by decide) hR.2.2.1) ?_
  rintro - M1 ⟨q1, q2, q3⟩
  have hin : ∀ k M2, k < 800 → Rb (M2 11) (vw α k) → f_X1_hasGuardIn 11 (nI t) M2 = some (nI (inZ (hrs α k) t).toNat) := fun k M2 hk hb2 => by
    have h10 : hrs α k 10 = α 10 := hrs_c hi 10 (by omega) k (by omega)
    have e10 : vw α k 10 = α 10 := by rw [vw_at, if_neg (by decide)]
    have eg : ∀ g, g < α 10 → vw α k (47 + 3 * g) = hrs α k (47 + 3 * g) := fun g hg => by rw [vw_at, if_pos (by omega)]
    have hn := inv_hrs hi k (by omega)
    rw [c_inZ hb2 (by rw [e10]; exact b10) (by omega) (fun g hg => by
      rw [e10] at hg
      rw [eg g hg]
      have := (hn.2.2.2.2.2.2.2.2.1 g (by rw [h10]; exact hg)).1
      omega), inZ_cg (β := hrs α k) (by rw [e10, h10]) (fun g hg => by rw [h10] at hg; exact eg g hg)]
  have key := mloopP (F := fun m x (s : Int32 × Mem) kk => f_X11_visitByHours_L16 (nI t) m x s.2 (fun a b => kk (a, b))) (c := vis α t) (fun x s => s.1 = nI x ∧ Rb (s.2 11) (vw α x) ∧ ∀ a, a ≠ 11 → s.2 a = M a) (fun m x s kk hx h2 => by
    obtain ⟨a, M2⟩ := s
    obtain ⟨-, p2, p3⟩ := h2
    have p2' : Rb (M2 11) (vw α x) := p2
    have ei := hin x M2 (by omega) p2'
    rw [v3 x hx] at ei
    obtain ⟨r, M3, w1, w2, w3⟩ := c_begin p2' (Gd_vw hi (by omega))
    refine ⟨(nI (x + 1), M3), ⟨rfl, by rw [← vw_s hi (by omega)]; exact w2, fun a ha => (w3 a ha).trans (p3 a ha)⟩, ?_⟩
    show f_X11_visitByHours_L16 (nI t) (m + 1) (nI x) M2 (fun a b => kk (a, b)) = f_X11_visitByHours_L16 (nI t) m (nI (x + 1)) M3 (fun a b => kk (a, b))
    rw [f_X11_visitByHours_L16.eq_2]
    simp (disch := omega) only [lit_0, lit_1, lit_2, lit_3, lit_4, lit_5, lit_6, lit_7, lit_8, lit_9, lit_10, lit_11, lit_12, lit_13, lit_14, lit_15, lit_16, lit_20, lit_23, lit_24, lit_31, lit_32, lit_39, lit_43, lit_45, lit_47, lit_48, lit_56, lit_57, lit_59, lit_60, lit_62, lit_63, lit_89, lit_92, lit_96, lit_97, lit_99, lit_100, lit_102, lit_103, lit_104, lit_110, lit_111, lit_115, lit_117, lit_194, lit_200, lit_644, lit_736, lit_999, lit_1000, lit_9999, lit_10000, lit_1000000000, ↓wp_mlet, ↓wp_mbp, ↓wp_ite, ↓wp_mix, ↓wp_mdiv, ↓wp_mnz, ↓wp_some, ↓wp_mbnd, ↓mlet_eq, ↓mbp_eq, ↓mbnd_eq, ↓mix_ite, ↓mdiv_ite, ↓mnz_ite, nI_add, nI_mul, nI_nat, nI_ltE, nI_leE, nI_eqE, nI_eqN, nI_Neq, nI_Nlt, nI_Nle, nI_ltN, nI_leN, ↓reduceIte, ↓Nat.reduceEqDiff, and_f, nt_e, nt_t, nl_t, nl_f, ne_t, ne_f, and_self, or_self, or_true, true_or, or_false, false_or, if_true, if_false, and_true, true_and, and_false, false_and, not_true, not_false_iff, ei, Bool.toNat_false, w1]) (fun m s kk h2 => by
    obtain ⟨a, M2⟩ := s
    obtain ⟨p1, p2, p3⟩ := h2
    have p1' : a = nI (vis α t) := p1
    subst p1'
    have ei := hin (vis α t) M2 (by omega) p2
    rw [v2] at ei
    show f_X11_visitByHours_L16 (nI t) (m + 1) (nI (vis α t)) M2 (fun a b => kk (a, b)) = kk (nI (vis α t), M2)
    rw [f_X11_visitByHours_L16.eq_2]
    simp (disch := omega) only [lit_0, lit_1, lit_2, lit_3, lit_4, lit_5, lit_6, lit_7, lit_8, lit_9, lit_10, lit_11, lit_12, lit_13, lit_14, lit_15, lit_16, lit_20, lit_23, lit_24, lit_31, lit_32, lit_39, lit_43, lit_45, lit_47, lit_48, lit_56, lit_57, lit_59, lit_60, lit_62, lit_63, lit_89, lit_92, lit_96, lit_97, lit_99, lit_100, lit_102, lit_103, lit_104, lit_110, lit_111, lit_115, lit_117, lit_194, lit_200, lit_644, lit_736, lit_999, lit_1000, lit_9999, lit_10000, lit_1000000000, ↓wp_mlet, ↓wp_mbp, ↓wp_ite, ↓wp_mix, ↓wp_mdiv, ↓wp_mnz, ↓wp_some, ↓wp_mbnd, ↓mlet_eq, ↓mbp_eq, ↓mbnd_eq, ↓mix_ite, ↓mdiv_ite, ↓mnz_ite, nI_add, nI_mul, nI_nat, nI_ltE, nI_leE, nI_eqE, nI_eqN, nI_Neq, nI_Nlt, nI_Nle, nI_ltN, nI_leN, ↓reduceIte, ↓Nat.reduceEqDiff, and_f, nt_e, nt_t, nl_t, nl_f, ne_t, ne_f, and_self, or_self, or_true, true_or, or_false, false_or, if_true, if_false, and_true, true_and, and_false, false_and, not_true, not_false_iff, ei, Bool.toNat_true]) (vis α t) N 0 (nI 0, M1) (fun s => some (s.1, s.2)) (by omega) (by omega) ⟨rfl, by rw [vw_0]; exact q1, q3⟩
  obtain ⟨⟨a, M2⟩, ⟨p1, p2, p3⟩, p4⟩ := key
  have p1' : a = nI (vis α t) := p1
  subst p1'
  exact ⟨_, _, p4, rfl, p3⟩
theorem fmod8 {a b : Nat} {M : Mem} (ha : a < 8) (hb : b < 8) : f_J9_floorMod_7cf53 (nI a - nI b) (nI 8) M = some (nI ((a + 8 - b) % 8)) := by
  have h : ∀ a, a < 8 → ∀ b, b < 8 → (mdiv (nI 8) (mlet (mrem (nI a - nI b) (nI 8)) fun x1 => (if 0 ≤ ((nI a - nI b) ^^^ nI 8) then (some x1) else (if x1 = 0 then (some x1) else (some (x1 + nI 8)))))) = some (nI ((a + 8 - b) % 8)) := by decide +kernel
  exact h a ha b hb
theorem c_visitOf {M : Mem} {α : Sp} {H g t : Nat} (hR : RC (M 0) α) (hi : Inv H α) (hH : H < 800000) (hg : g < α 10) (ht : t < 8) : f_X1_visitOf 0 (nI g) (nI t) M = some (nI (vOf α g t)) := by
  obtain ⟨g1, g2, g3, g4, g5⟩ := hi.2.2.2.2.2.2.2.2.1 g hg
  have b10 : α 10 ≤ 3 := hi.1.2.2.2.2.2.2.2.2.2.2.1
  have b11 : α 11 ≤ H := hi.1.2.2.2.2.2.2.2.2.2.2.2.1
  obtain ⟨q1, q2, q3⟩ := hR.2.2.1.2.2.2.2.2.1 g (by omega) hg
  have q0 := hR.2.2.1.1
  have hm : α 11 % α (49 + 3 * g) < 900000 := Nat.lt_of_le_of_lt (Nat.mod_le _ _) (by omega)
  have hm2 : α 11 % α (49 + 3 * g) < α (49 + 3 * g) := Nat.mod_lt _ (by omega)
  have hs : vS α g t < 8 := by unfold vS; split <;> omega
  have hsp : vS α g t * α (49 + 3 * g) ≤ 7 * 4 := Nat.mul_le_mul (by omega) g5
  have hle : vS α g t ≠ 0 → α 11 % α (49 + 3 * g) ≤ vS α g t * α (49 + 3 * g) := fun h => by
    have : 1 * α (49 + 3 * g) ≤ vS α g t * α (49 + 3 * g) := Nat.mul_le_mul (by omega) (Nat.le_refl _)
    omega
  unfold f_X1_visitOf vOf
  by_cases hw : α (48 + 3 * g) = 1
  · have e2 : M 0 10 g = nI 1 := by rw [q2, hw]
    have ev : vS α g t = (t + 8 - α (47 + 3 * g)) % 8 := by unfold vS; rw [if_pos hw]
    have ef := fmod8 (M := M) ht (show α (47 + 3 * g) < 8 by omega)
    rw [← ev] at ef
    by_cases h0 : vS α g t = 0
    · rw [if_pos h0]
      rw [h0] at ef
      simp (disch := omega) only [lit_0, lit_1, lit_2, lit_3, lit_4, lit_5, lit_6, lit_7, lit_8, lit_9, lit_10, lit_11, lit_12, lit_13, lit_14, lit_15, lit_16, lit_20, lit_23, lit_24, lit_31, lit_32, lit_39, lit_43, lit_45, lit_47, lit_48, lit_56, lit_57, lit_59, lit_60, lit_62, lit_63, lit_89, lit_92, lit_96, lit_97, lit_99, lit_100, lit_102, lit_103, lit_104, lit_110, lit_111, lit_115, lit_117, lit_194, lit_200, lit_644, lit_736, lit_999, lit_1000, lit_9999, lit_10000, lit_1000000000, ↓wp_mlet, ↓wp_mbp, ↓wp_ite, ↓wp_mix, ↓wp_mdiv, ↓wp_mnz, ↓wp_some, ↓wp_mbnd, ↓mlet_eq, ↓mbp_eq, ↓mbnd_eq, ↓mix_ite, ↓mdiv_ite, ↓mnz_ite, nI_add, nI_mul, nI_nat, nI_ltE, nI_leE, nI_eqE, nI_eqN, nI_Neq, nI_Nlt, nI_Nle, nI_ltN, nI_leN, ↓reduceIte, ↓Nat.reduceEqDiff, and_f, nt_e, nt_t, nl_t, nl_f, ne_t, ne_f, and_self, or_self, or_true, true_or, or_false, false_or, if_true, if_false, and_true, true_and, and_false, false_and, not_true, not_false_iff, e2, q1, ef]
    · rw [if_neg h0]
      have := hle h0
      simp (disch := omega) only [lit_0, lit_1, lit_2, lit_3, lit_4, lit_5, lit_6, lit_7, lit_8, lit_9, lit_10, lit_11, lit_12, lit_13, lit_14, lit_15, lit_16, lit_20, lit_23, lit_24, lit_31, lit_32, lit_39, lit_43, lit_45, lit_47, lit_48, lit_56, lit_57, lit_59, lit_60, lit_62, lit_63, lit_89, lit_92, lit_96, lit_97, lit_99, lit_100, lit_102, lit_103, lit_104, lit_110, lit_111, lit_115, lit_117, lit_194, lit_200, lit_644, lit_736, lit_999, lit_1000, lit_9999, lit_10000, lit_1000000000, ↓wp_mlet, ↓wp_mbp, ↓wp_ite, ↓wp_mix, ↓wp_mdiv, ↓wp_mnz, ↓wp_some, ↓wp_mbnd, ↓mlet_eq, ↓mbp_eq, ↓mbnd_eq, ↓mix_ite, ↓mdiv_ite, ↓mnz_ite, nI_add, nI_mul, nI_nat, nI_ltE, nI_leE, nI_eqE, nI_eqN, nI_Neq, nI_Nlt, nI_Nle, nI_ltN, nI_leN, ↓reduceIte, ↓Nat.reduceEqDiff, and_f, nt_e, nt_t, nl_t, nl_f, ne_t, ne_f, and_self, or_self, or_true, true_or, or_false, false_or, if_true, if_false, and_true, true_and, and_false, false_and, not_true, not_false_iff, e2, q0, q1, q3, ef, nI_rem, nI_subE]
  · have e2 : M 0 10 g = nI 0 := by rw [q2, show 2 - α (48 + 3 * g) = 0 by omega]
    have ev : vS α g t = (α (47 + 3 * g) + 8 - t) % 8 := by unfold vS; rw [if_neg hw]
    have ef := fmod8 (M := M) (show α (47 + 3 * g) < 8 by omega) ht
    rw [← ev] at ef
    by_cases h0 : vS α g t = 0
    · rw [if_pos h0]
      rw [h0] at ef
      simp (disch := omega) only [lit_0, lit_1, lit_2, lit_3, lit_4, lit_5, lit_6, lit_7, lit_8, lit_9, lit_10, lit_11, lit_12, lit_13, lit_14, lit_15, lit_16, lit_20, lit_23, lit_24, lit_31, lit_32, lit_39, lit_43, lit_45, lit_47, lit_48, lit_56, lit_57, lit_59, lit_60, lit_62, lit_63, lit_89, lit_92, lit_96, lit_97, lit_99, lit_100, lit_102, lit_103, lit_104, lit_110, lit_111, lit_115, lit_117, lit_194, lit_200, lit_644, lit_736, lit_999, lit_1000, lit_9999, lit_10000, lit_1000000000, ↓wp_mlet, ↓wp_mbp, ↓wp_ite, ↓wp_mix, ↓wp_mdiv, ↓wp_mnz, ↓wp_some, ↓wp_mbnd, ↓mlet_eq, ↓mbp_eq, ↓mbnd_eq, ↓mix_ite, ↓mdiv_ite, ↓mnz_ite, nI_add, nI_mul, nI_nat, nI_ltE, nI_leE, nI_eqE, nI_eqN, nI_Neq, nI_Nlt, nI_Nle, nI_ltN, nI_leN, ↓reduceIte, ↓Nat.reduceEqDiff, and_f, nt_e, nt_t, nl_t, nl_f, ne_t, ne_f, and_self, or_self, or_true, true_or, or_false, false_or, if_true, if_false, and_true, true_and, and_false, false_and, not_true, not_false_iff, e2, q1, ef]
    · rw [if_neg h0]
      have := hle h0
      simp (disch := omega) only [lit_0, lit_1, lit_2, lit_3, lit_4, lit_5, lit_6, lit_7, lit_8, lit_9, lit_10, lit_11, lit_12, lit_13, lit_14, lit_15, lit_16, lit_20, lit_23, lit_24, lit_31, lit_32, lit_39, lit_43, lit_45, lit_47, lit_48, lit_56, lit_57, lit_59, lit_60, lit_62, lit_63, lit_89, lit_92, lit_96, lit_97, lit_99, lit_100, lit_102, lit_103, lit_104, lit_110, lit_111, lit_115, lit_117, lit_194, lit_200, lit_644, lit_736, lit_999, lit_1000, lit_9999, lit_10000, lit_1000000000, ↓wp_mlet, ↓wp_mbp, ↓wp_ite, ↓wp_mix, ↓wp_mdiv, ↓wp_mnz, ↓wp_some, ↓wp_mbnd, ↓mlet_eq, ↓mbp_eq, ↓mbnd_eq, ↓mix_ite, ↓mdiv_ite, ↓mnz_ite, nI_add, nI_mul, nI_nat, nI_ltE, nI_leE, nI_eqE, nI_eqN, nI_Neq, nI_Nlt, nI_Nle, nI_ltN, nI_leN, ↓reduceIte, ↓Nat.reduceEqDiff, and_f, nt_e, nt_t, nl_t, nl_f, ne_t, ne_f, and_self, or_self, or_true, true_or, or_false, false_or, if_true, if_false, and_true, true_and, and_false, false_and, not_true, not_false_iff, e2, q0, q1, q3, ef, nI_rem, nI_subE]
theorem c_visitR {M : Mem} {α : Sp} {H t : Nat} (hR : RC (M 0) α) (hi : Inv H α) (hH : H < 800000) (ht : t < 8) : f_X1_visitByRemainders 0 (nI t) M = some (nI (vis α t)) := by
  have b10 : α 10 ≤ 3 := hi.1.2.2.2.2.2.2.2.2.2.2.1
  have e4 : M 0 6 4 = nI (α 10) := hR.2.2.1.2.2.1
  unfold f_X1_visitByRemainders
  generalize hN : (1000 : Nat) = N
  have key := mloop (F := fun m x (s : Int32) kk => f_X1_visitByRemainders_L5 0 (nI t) M m s x kk) (c := α 10) (fun x => nI (minV α t x)) (fun m x kk hx => by
    have ev := c_visitOf (M := M) hR hi hH hx ht
    have h28 := (vOf_spec hi hx ht).1
    have h32 := (minV_spec hi ht x (by omega)).1
    show f_X1_visitByRemainders_L5 0 (nI t) M (m + 1) (nI (minV α t x)) (nI x) kk = f_X1_visitByRemainders_L5 0 (nI t) M m (nI (if vOf α x t < minV α t x then vOf α x t else minV α t x)) (nI (x + 1)) kk
    rw [f_X1_visitByRemainders_L5.eq_2]
    by_cases q : vOf α x t < minV α t x
    · simp (disch := omega) only [lit_0, lit_1, lit_2, lit_3, lit_4, lit_5, lit_6, lit_7, lit_8, lit_9, lit_10, lit_11, lit_12, lit_13, lit_14, lit_15, lit_16, lit_20, lit_23, lit_24, lit_31, lit_32, lit_39, lit_43, lit_45, lit_47, lit_48, lit_56, lit_57, lit_59, lit_60, lit_62, lit_63, lit_89, lit_92, lit_96, lit_97, lit_99, lit_100, lit_102, lit_103, lit_104, lit_110, lit_111, lit_115, lit_117, lit_194, lit_200, lit_644, lit_736, lit_999, lit_1000, lit_9999, lit_10000, lit_1000000000, ↓wp_mlet, ↓wp_mbp, ↓wp_ite, ↓wp_mix, ↓wp_mdiv, ↓wp_mnz, ↓wp_some, ↓wp_mbnd, ↓mlet_eq, ↓mbp_eq, ↓mbnd_eq, ↓mix_ite, ↓mdiv_ite, ↓mnz_ite, nI_add, nI_mul, nI_nat, nI_ltE, nI_leE, nI_eqE, nI_eqN, nI_Neq, nI_Nlt, nI_Nle, nI_ltN, nI_leN, ↓reduceIte, ↓Nat.reduceEqDiff, and_f, nt_e, nt_t, nl_t, nl_f, ne_t, ne_f, and_self, or_self, or_true, true_or, or_false, false_or, if_true, if_false, and_true, true_and, and_false, false_and, not_true, not_false_iff, e4, ev, q]
    · simp (disch := omega) only [lit_0, lit_1, lit_2, lit_3, lit_4, lit_5, lit_6, lit_7, lit_8, lit_9, lit_10, lit_11, lit_12, lit_13, lit_14, lit_15, lit_16, lit_20, lit_23, lit_24, lit_31, lit_32, lit_39, lit_43, lit_45, lit_47, lit_48, lit_56, lit_57, lit_59, lit_60, lit_62, lit_63, lit_89, lit_92, lit_96, lit_97, lit_99, lit_100, lit_102, lit_103, lit_104, lit_110, lit_111, lit_115, lit_117, lit_194, lit_200, lit_644, lit_736, lit_999, lit_1000, lit_9999, lit_10000, lit_1000000000, ↓wp_mlet, ↓wp_mbp, ↓wp_ite, ↓wp_mix, ↓wp_mdiv, ↓wp_mnz, ↓wp_some, ↓wp_mbnd, ↓mlet_eq, ↓mbp_eq, ↓mbnd_eq, ↓mix_ite, ↓mdiv_ite, ↓mnz_ite, nI_add, nI_mul, nI_nat, nI_ltE, nI_leE, nI_eqE, nI_eqN, nI_Neq, nI_Nlt, nI_Nle, nI_ltN, nI_leN, ↓reduceIte, ↓Nat.reduceEqDiff, and_f, nt_e, nt_t, nl_t, nl_f, ne_t, ne_f, and_self, or_self, or_true, true_or, or_false, false_or, if_true, if_false, and_true, true_and, and_false, false_and, not_true, not_false_iff, e4, ev, q]) (fun m kk => by
    show f_X1_visitByRemainders_L5 0 (nI t) M (m + 1) (nI (minV α t (α 10))) (nI (α 10)) kk = kk (nI (minV α t (α 10)))
    rw [f_X1_visitByRemainders_L5.eq_2]
    simp (disch := omega) only [lit_0, lit_1, lit_2, lit_3, lit_4, lit_5, lit_6, lit_7, lit_8, lit_9, lit_10, lit_11, lit_12, lit_13, lit_14, lit_15, lit_16, lit_20, lit_23, lit_24, lit_31, lit_32, lit_39, lit_43, lit_45, lit_47, lit_48, lit_56, lit_57, lit_59, lit_60, lit_62, lit_63, lit_89, lit_92, lit_96, lit_97, lit_99, lit_100, lit_102, lit_103, lit_104, lit_110, lit_111, lit_115, lit_117, lit_194, lit_200, lit_644, lit_736, lit_999, lit_1000, lit_9999, lit_10000, lit_1000000000, ↓wp_mlet, ↓wp_mbp, ↓wp_ite, ↓wp_mix, ↓wp_mdiv, ↓wp_mnz, ↓wp_some, ↓wp_mbnd, ↓mlet_eq, ↓mbp_eq, ↓mbnd_eq, ↓mix_ite, ↓mdiv_ite, ↓mnz_ite, nI_add, nI_mul, nI_nat, nI_ltE, nI_leE, nI_eqE, nI_eqN, nI_Neq, nI_Nlt, nI_Nle, nI_ltN, nI_leN, ↓reduceIte, ↓Nat.reduceEqDiff, and_f, nt_e, nt_t, nl_t, nl_f, ne_t, ne_f, and_self, or_self, or_true, true_or, or_false, false_or, if_true, if_false, and_true, true_and, and_false, false_and, not_true, not_false_iff, e4])
  have := key (α 10) N 0 (fun x7 => some x7) (by omega) (by omega)
  rw [lit_0, lit_32]
  exact this
