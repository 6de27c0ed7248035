/-! AN HOUR: the guards walk -/
def incSp (α : Sp) : Sp := up α 11 (α 11 + 1)
def walkZ (β : Sp) (g : Nat) : Nat := if β 11 % β (49 + 3 * g) = 0 then (β (47 + 3 * g) + (if β (48 + 3 * g) = 1 then 1 else 7)) % 8 else β (47 + 3 * g)
def walkTo (β : Sp) (x : Nat) : Sp := fun j => if 47 ≤ j ∧ j < 47 + 3 * x ∧ (j - 47) % 3 = 0 then walkZ β ((j - 47) / 3) else β j
theorem walkTo_at (β : Sp) (x j : Nat) : walkTo β x j = if 47 ≤ j ∧ j < 47 + 3 * x ∧ (j - 47) % 3 = 0 then walkZ β ((j - 47) / 3) else β j := Eq.trans rfl rfl
def walkSp (α : Sp) : Sp := walkTo (incSp α) (α 10)
theorem walkTo_ne {β : Sp} {x j : Nat} (h : ¬ (47 ≤ j ∧ j < 47 + 3 * x ∧ (j - 47) % 3 = 0)) : walkTo β x j = β j := by rw [walkTo_at, if_neg h]
theorem walkTo_0 (β : Sp) : walkTo β 0 = β := by
  funext j
  exact walkTo_ne (by omega)
theorem walkTo_z {β : Sp} {x g : Nat} (h : g < x) : walkTo β x (47 + 3 * g) = walkZ β g := by
  rw [walkTo_at, if_pos (by omega), show (47 + 3 * g - 47) / 3 = g by omega]
theorem walkTo_s {β : Sp} {x : Nat} : up (walkTo β x) (47 + 3 * x) (walkZ β x) = walkTo β (x + 1) := by
  funext j
  rw [up_at]
  by_cases h : j = 47 + 3 * x
  · subst h
    rw [if_pos rfl, walkTo_z (Nat.lt_succ_self x)]
  · rw [if_neg h, walkTo_at, walkTo_at]
    by_cases q : 47 ≤ j ∧ j < 47 + 3 * x ∧ (j - 47) % 3 = 0
    · rw [if_pos q, if_pos (by omega)]
    · rw [if_neg q, if_neg (by omega)]
theorem walkTo_n {β : Sp} {x : Nat} (h : ¬ β 11 % β (49 + 3 * x) = 0) : walkTo β x = walkTo β (x + 1) := by
  rw [← walkTo_s]
  funext j
  rw [up_at]
  by_cases q : j = 47 + 3 * x
  · subst q
    rw [if_pos rfl, walkTo_ne (by omega)]
    unfold walkZ
    rw [if_neg h]
  · rw [if_neg q]
/-- what is known of guards -/
def Gd (β : Sp) : Prop := β 10 ≤ 3 ∧ β 11 < 1000000 ∧ ∀ k, k < β 10 → β (47 + 3 * k) ≤ 7 ∧ 1 ≤ β (48 + 3 * k) ∧ β (48 + 3 * k) ≤ 2 ∧ 1 ≤ β (49 + 3 * k) ∧ β (49 + 3 * k) ≤ 4
theorem mS.of_up {M M1 : Mem} {β : Sp} {k v : Nat} (hk : ¬ (k = 48 ∨ k = 51 ∨ k = 54)) (h : mS M M1 β) : mS M (mup M1 12 48 k (nI v)) (up β k v) := ⟨by rw [pm_self, h.1, enc_up hk], fun a b hab => by rw [pm_ne hab, h.2 a b hab]⟩
theorem m_walk {M : Mem} {β : Sp} {N : Nat} (hN : 1000 = N) (hS : M 12 48 = enc β) (hg : Gd β) (kk : Mem → Option (Int32 × Mem)) : ∃ M1, mS M M1 (walkTo β (β 10)) ∧ f_X12_oneHour_L13 N (nI 0) M kk = kk M1 := by
  obtain ⟨g0, g1, g2⟩ := hg
  refine mloopP (F := fun n x s kk => f_X12_oneHour_L13 n x s kk) (c := β 10) (fun x M1 => mS M M1 (walkTo β x)) (fun n x M1 kk hx h => ?_) (fun n M1 kk h => ?_) (β 10) N 0 M kk (by omega) (by omega) ⟨by rw [walkTo_0]; exact hS, fun _ _ _ => rfl⟩
  · obtain ⟨p1, p2, p3, p4, p5⟩ := g2 x hx
    have hm : β 11 % β (49 + 3 * x) < 1000000 := Nat.lt_of_le_of_lt (Nat.mod_le _ _) g1
    have e10 : M1 12 48 10 = nI (β 10) := by rw [ms_n h.1 (by decide), walkTo_ne (by omega)]
    have e11 : M1 12 48 11 = nI (β 11) := by rw [ms_n h.1 (by decide), walkTo_ne (by omega)]
    have ep : f_X12_guard (nI x) (nI 2) M1 = some (nI (β (49 + 3 * x))) := by rw [m_guard2 h.1 (by omega), walkTo_ne (by omega)]
    have ez : f_X12_guard (nI x) (nI 0) M1 = some (nI (β (47 + 3 * x))) := by rw [m_guard0 h.1 (by omega), walkTo_ne (by omega)]
    have ew : f_X12_guard (nI x) (nI 1) M1 = some (enc β (48 + 3 * x)) := by
      rw [m_guard h.1 (by omega) (by decide), show 47 + 3 * x + 1 = 48 + 3 * x by omega]
      unfold enc
      rw [walkTo_ne (by omega)]
    by_cases hd : β 11 % β (49 + 3 * x) = 0
    · refine ⟨mup M1 12 48 (47 + 3 * x) (nI (walkZ β x)), by rw [← walkTo_s]; exact h.of_up (by omega), ?_⟩
      show f_X12_oneHour_L13 (n + 1) (nI x) M1 kk = f_X12_oneHour_L13 n (nI (x + 1)) _ kk
      rw [f_X12_oneHour_L13.eq_2]
      have hz : (if β 11 % β (49 + 3 * x) = 0 then (β (47 + 3 * x) + (if β (48 + 3 * x) = 1 then 1 else 7)) % 8 else β (47 + 3 * x)) = walkZ β x := rfl
      rw [if_pos hd] at hz
      by_cases hw : β (48 + 3 * x) = 1
      · have e1 : enc β (48 + 3 * x) = nI 1 := by rw [enc_n2 (by omega), hw]
        rw [if_pos hw] at hz
        have hz2 : (β (47 + 3 * x) + 1 + 8) % 8 = walkZ β x := by omega
        simp (disch := omega) only [lit_0, lit_1, lit_2, lit_3, lit_4, lit_5, lit_6, lit_7, lit_8, lit_9, lit_10, lit_11, lit_12, lit_13, lit_14, lit_15, lit_16, lit_20, lit_23, lit_24, lit_31, lit_32, lit_39, lit_43, lit_45, lit_47, lit_48, lit_56, lit_57, lit_59, lit_60, lit_62, lit_63, lit_89, lit_92, lit_96, lit_97, lit_99, lit_100, lit_102, lit_103, lit_104, lit_110, lit_111, lit_115, lit_117, lit_194, lit_200, lit_644, lit_736, lit_999, lit_1000, lit_9999, lit_10000, lit_1000000000, ↓wp_mlet, ↓wp_mbp, ↓wp_ite, ↓wp_mix, ↓wp_mdiv, ↓wp_mnz, ↓wp_some, ↓wp_mbnd, ↓mlet_eq, ↓mbp_eq, ↓mbnd_eq, ↓mix_ite, ↓mdiv_ite, ↓mnz_ite, nI_add, nI_mul, nI_nat, nI_ltE, nI_leE, nI_eqE, nI_eqN, nI_Neq, nI_Nlt, nI_Nle, nI_ltN, nI_leN, ↓reduceIte, ↓Nat.reduceEqDiff, and_f, nt_e, nt_t, nl_t, nl_f, ne_t, ne_f, and_self, or_self, or_true, true_or, or_false, false_or, if_true, if_false, and_true, true_and, and_false, false_and, not_true, not_false_iff, e10, e11, ep, nI_rem, hd, ez, ew, e1, hz2]
      · have e1 : enc β (48 + 3 * x) = -nI 1 := enc_2 (by omega) (by omega)
        rw [if_neg hw] at hz
        have hz2 : (β (47 + 3 * x) + 8 - 1) % 8 = walkZ β x := by omega
        have e2 : nI (β (47 + 3 * x)) + -nI 1 + nI 8 = nI (β (47 + 3 * x) + 8 - 1) := by
          rw [← Int32.sub_eq_add_neg]
          exact nI_sub_add (by omega)
        simp (disch := omega) only [lit_0, lit_1, lit_2, lit_3, lit_4, lit_5, lit_6, lit_7, lit_8, lit_9, lit_10, lit_11, lit_12, lit_13, lit_14, lit_15, lit_16, lit_20, lit_23, lit_24, lit_31, lit_32, lit_39, lit_43, lit_45, lit_47, lit_48, lit_56, lit_57, lit_59, lit_60, lit_62, lit_63, lit_89, lit_92, lit_96, lit_97, lit_99, lit_100, lit_102, lit_103, lit_104, lit_110, lit_111, lit_115, lit_117, lit_194, lit_200, lit_644, lit_736, lit_999, lit_1000, lit_9999, lit_10000, lit_1000000000, ↓wp_mlet, ↓wp_mbp, ↓wp_ite, ↓wp_mix, ↓wp_mdiv, ↓wp_mnz, ↓wp_some, ↓wp_mbnd, ↓mlet_eq, ↓mbp_eq, ↓mbnd_eq, ↓mix_ite, ↓mdiv_ite, ↓mnz_ite, nI_add, nI_mul, nI_nat, nI_ltE, nI_leE, nI_eqE, nI_eqN, nI_Neq, nI_Nlt, nI_Nle, nI_ltN, nI_leN, ↓reduceIte, ↓Nat.reduceEqDiff, and_f, nt_e, nt_t, nl_t, nl_f, ne_t, ne_f, and_self, or_self, or_true, true_or, or_false, false_or, if_true, if_false, and_true, true_and, and_false, false_and, not_true, not_false_iff, e10, e11, ep, nI_rem, hd, ez, ew, e1, e2, hz2]
    · refine ⟨M1, by rw [← walkTo_n hd]; exact h, ?_⟩
      show f_X12_oneHour_L13 (n + 1) (nI x) M1 kk = f_X12_oneHour_L13 n (nI (x + 1)) _ kk
      rw [f_X12_oneHour_L13.eq_2]
      simp (disch := omega) only [lit_0, lit_1, lit_2, lit_3, lit_4, lit_5, lit_6, lit_7, lit_8, lit_9, lit_10, lit_11, lit_12, lit_13, lit_14, lit_15, lit_16, lit_20, lit_23, lit_24, lit_31, lit_32, lit_39, lit_43, lit_45, lit_47, lit_48, lit_56, lit_57, lit_59, lit_60, lit_62, lit_63, lit_89, lit_92, lit_96, lit_97, lit_99, lit_100, lit_102, lit_103, lit_104, lit_110, lit_111, lit_115, lit_117, lit_194, lit_200, lit_644, lit_736, lit_999, lit_1000, lit_9999, lit_10000, lit_1000000000, ↓wp_mlet, ↓wp_mbp, ↓wp_ite, ↓wp_mix, ↓wp_mdiv, ↓wp_mnz, ↓wp_some, ↓wp_mbnd, ↓mlet_eq, ↓mbp_eq, ↓mbnd_eq, ↓mix_ite, ↓mdiv_ite, ↓mnz_ite, nI_add, nI_mul, nI_nat, nI_ltE, nI_leE, nI_eqE, nI_eqN, nI_Neq, nI_Nlt, nI_Nle, nI_ltN, nI_leN, ↓reduceIte, ↓Nat.reduceEqDiff, and_f, nt_e, nt_t, nl_t, nl_f, ne_t, ne_f, and_self, or_self, or_true, true_or, or_false, false_or, if_true, if_false, and_true, true_and, and_false, false_and, not_true, not_false_iff, e10, e11, ep, nI_rem, hd]
  · have e10 : M1 12 48 10 = nI (β 10) := by rw [ms_n h.1 (by decide), walkTo_ne (by omega)]
    show f_X12_oneHour_L13 (n + 1) (nI (β 10)) M1 kk = kk M1
    rw [f_X12_oneHour_L13.eq_2]
    simp (disch := omega) only [lit_0, lit_1, lit_2, lit_3, lit_4, lit_5, lit_6, lit_7, lit_8, lit_9, lit_10, lit_11, lit_12, lit_13, lit_14, lit_15, lit_16, lit_20, lit_23, lit_24, lit_31, lit_32, lit_39, lit_43, lit_45, lit_47, lit_48, lit_56, lit_57, lit_59, lit_60, lit_62, lit_63, lit_89, lit_92, lit_96, lit_97, lit_99, lit_100, lit_102, lit_103, lit_104, lit_110, lit_111, lit_115, lit_117, lit_194, lit_200, lit_644, lit_736, lit_999, lit_1000, lit_9999, lit_10000, lit_1000000000, ↓wp_mlet, ↓wp_mbp, ↓wp_ite, ↓wp_mix, ↓wp_mdiv, ↓wp_mnz, ↓wp_some, ↓wp_mbnd, ↓mlet_eq, ↓mbp_eq, ↓mbnd_eq, ↓mix_ite, ↓mdiv_ite, ↓mnz_ite, nI_add, nI_mul, nI_nat, nI_ltE, nI_leE, nI_eqE, nI_eqN, nI_Neq, nI_Nlt, nI_Nle, nI_ltN, nI_leN, ↓reduceIte, ↓Nat.reduceEqDiff, and_f, nt_e, nt_t, nl_t, nl_f, ne_t, ne_f, and_self, or_self, or_true, true_or, or_false, false_or, if_true, if_false, and_true, true_and, and_false, false_and, not_true, not_false_iff, e10]
/-- the class's guards walk -/
theorem c_walk {M : Mem} {β : Sp} {g N : Nat} (hN : 1000 = N) (hb : Rb (M g) β) (hg : Gd β) (kk : Mem → Option (Unit × Mem)) : ∃ M1, (Rb (M1 g) (walkTo β (β 10)) ∧ (∀ i, i ≠ 9 → M1 g i = M g i) ∧ ∀ a, a ≠ g → M1 a = M a) ∧ f_X1_beginHour_L12 g N (nI 0) M kk = kk M1 := by
  obtain ⟨g0, g1, g2⟩ := hg
  refine mloopP (F := fun n x s kk => f_X1_beginHour_L12 g n x s kk) (c := β 10) (fun x M1 => Rb (M1 g) (walkTo β x) ∧ (∀ i, i ≠ 9 → M1 g i = M g i) ∧ ∀ a, a ≠ g → M1 a = M a) (fun n x M1 kk hx h => ?_) (fun n M1 kk h => ?_) (β 10) N 0 M kk (by omega) (by omega) ⟨by rw [walkTo_0]; exact hb, fun _ _ => rfl, fun _ _ => rfl⟩
  · obtain ⟨hR, hi, ha⟩ := h
    obtain ⟨p1, p2, p3, p4, p5⟩ := g2 x hx
    have hm : β 11 % β (49 + 3 * x) < 1000000 := Nat.lt_of_le_of_lt (Nat.mod_le _ _) g1
    obtain ⟨r0, r3, r4, r5, r6, r7, r8⟩ := id hR
    have e10 : M1 g 6 4 = nI (β 10) := by rw [r4, walkTo_ne (by omega)]
    have e11 : M1 g 6 0 = nI (β 11) := by rw [r0, walkTo_ne (by omega)]
    obtain ⟨q1, q2, q3⟩ := r7 x (by omega) (by rw [walkTo_ne (by omega)]; exact hx)
    rw [walkTo_ne (by omega)] at q1 q2 q3
    by_cases hd : β 11 % β (49 + 3 * x) = 0
    · refine ⟨mup M1 g 9 x (nI (walkZ β x)), ⟨?_, ?_, ?_⟩, ?_⟩
      · rw [← walkTo_s]
        refine ⟨?_, ?_, ?_, fun k hk => ?_, fun k hk => ?_, fun k hk hk9 => ?_, fun k hk => ?_⟩
        · simp (disch := omega) only [mup_at, up_at, fil_at, ↓reduceIte, ↓Nat.reduceEqDiff, and_f, nt_e, nt_t, nl_t, nl_f, ne_t, ne_f, and_self, or_self, or_true, true_or, or_false, false_or, if_true, if_false, and_true, true_and, and_false, false_and, not_true, not_false_iff, r0]
        · simp (disch := omega) only [mup_at, up_at, fil_at, ↓reduceIte, ↓Nat.reduceEqDiff, and_f, nt_e, nt_t, nl_t, nl_f, ne_t, ne_f, and_self, or_self, or_true, true_or, or_false, false_or, if_true, if_false, and_true, true_and, and_false, false_and, not_true, not_false_iff, r3]
        · simp (disch := omega) only [mup_at, up_at, fil_at, ↓reduceIte, ↓Nat.reduceEqDiff, and_f, nt_e, nt_t, nl_t, nl_f, ne_t, ne_f, and_self, or_self, or_true, true_or, or_false, false_or, if_true, if_false, and_true, true_and, and_false, false_and, not_true, not_false_iff, r4]
        · simp (disch := omega) only [mup_at, up_at, fil_at, ↓reduceIte, ↓Nat.reduceEqDiff, and_f, nt_e, nt_t, nl_t, nl_f, ne_t, ne_f, and_self, or_self, or_true, true_or, or_false, false_or, if_true, if_false, and_true, true_and, and_false, false_and, not_true, not_false_iff, r5 k hk]
        · simp (disch := omega) only [mup_at, up_at, fil_at, ↓reduceIte, ↓Nat.reduceEqDiff, and_f, nt_e, nt_t, nl_t, nl_f, ne_t, ne_f, and_self, or_self, or_true, true_or, or_false, false_or, if_true, if_false, and_true, true_and, and_false, false_and, not_true, not_false_iff, r6 k hk]
        · simp (disch := omega) only [mup_at, up_at, fil_at, ↓reduceIte, ↓Nat.reduceEqDiff, and_f, nt_e, nt_t, nl_t, nl_f, ne_t, ne_f, and_self, or_self, or_true, true_or, or_false, false_or, if_true, if_false, and_true, true_and, and_false, false_and, not_true, not_false_iff] at hk9
          have q := r7 k hk hk9
          by_cases hk' : k = x
          · subst hk'
            refine ⟨?_, ?_, ?_⟩
            · simp (disch := omega) only [mup_at, up_at, fil_at, ↓reduceIte, ↓Nat.reduceEqDiff, and_f, nt_e, nt_t, nl_t, nl_f, ne_t, ne_f, and_self, or_self, or_true, true_or, or_false, false_or, if_true, if_false, and_true, true_and, and_false, false_and, not_true, not_false_iff]
            · simp (disch := omega) only [mup_at, up_at, fil_at, ↓reduceIte, ↓Nat.reduceEqDiff, and_f, nt_e, nt_t, nl_t, nl_f, ne_t, ne_f, and_self, or_self, or_true, true_or, or_false, false_or, if_true, if_false, and_true, true_and, and_false, false_and, not_true, not_false_iff, q.2.1]
            · simp (disch := omega) only [mup_at, up_at, fil_at, ↓reduceIte, ↓Nat.reduceEqDiff, and_f, nt_e, nt_t, nl_t, nl_f, ne_t, ne_f, and_self, or_self, or_true, true_or, or_false, false_or, if_true, if_false, and_true, true_and, and_false, false_and, not_true, not_false_iff, q.2.2]
          · refine ⟨?_, ?_, ?_⟩
            · simp (disch := omega) only [mup_at, up_at, fil_at, ↓reduceIte, ↓Nat.reduceEqDiff, and_f, nt_e, nt_t, nl_t, nl_f, ne_t, ne_f, and_self, or_self, or_true, true_or, or_false, false_or, if_true, if_false, and_true, true_and, and_false, false_and, not_true, not_false_iff, q.1]
            · simp (disch := omega) only [mup_at, up_at, fil_at, ↓reduceIte, ↓Nat.reduceEqDiff, and_f, nt_e, nt_t, nl_t, nl_f, ne_t, ne_f, and_self, or_self, or_true, true_or, or_false, false_or, if_true, if_false, and_true, true_and, and_false, false_and, not_true, not_false_iff, q.2.1]
            · simp (disch := omega) only [mup_at, up_at, fil_at, ↓reduceIte, ↓Nat.reduceEqDiff, and_f, nt_e, nt_t, nl_t, nl_f, ne_t, ne_f, and_self, or_self, or_true, true_or, or_false, false_or, if_true, if_false, and_true, true_and, and_false, false_and, not_true, not_false_iff, q.2.2]
        · obtain ⟨c, c1, c2⟩ := r8 k hk
          exact ⟨c, c1, by simp (disch := omega) only [mup_at, up_at, fil_at, ↓reduceIte, ↓Nat.reduceEqDiff, and_f, nt_e, nt_t, nl_t, nl_f, ne_t, ne_f, and_self, or_self, or_true, true_or, or_false, false_or, if_true, if_false, and_true, true_and, and_false, false_and, not_true, not_false_iff, c2]⟩
      · intro i h9
        rw [pm_ne (by omega)]
        exact hi i h9
      · intro a hne
        rw [pm_g hne]
        exact ha a hne
      · show f_X1_beginHour_L12 g (n + 1) (nI x) M1 kk = f_X1_beginHour_L12 g n (nI (x + 1)) _ kk
        rw [f_X1_beginHour_L12.eq_2]
        have hz : (if β 11 % β (49 + 3 * x) = 0 then (β (47 + 3 * x) + (if β (48 + 3 * x) = 1 then 1 else 7)) % 8 else β (47 + 3 * x)) = walkZ β x := rfl
        rw [if_pos hd] at hz
        by_cases hw : β (48 + 3 * x) = 1
        · rw [if_pos hw] at hz
          simp (disch := omega) only [lit_0, lit_1, lit_2, lit_3, lit_4, lit_5, lit_6, lit_7, lit_8, lit_9, lit_10, lit_11, lit_12, lit_13, lit_14, lit_15, lit_16, lit_20, lit_23, lit_24, lit_31, lit_32, lit_39, lit_43, lit_45, lit_47, lit_48, lit_56, lit_57, lit_59, lit_60, lit_62, lit_63, lit_89, lit_92, lit_96, lit_97, lit_99, lit_100, lit_102, lit_103, lit_104, lit_110, lit_111, lit_115, lit_117, lit_194, lit_200, lit_644, lit_736, lit_999, lit_1000, lit_9999, lit_10000, lit_1000000000, ↓wp_mlet, ↓wp_mbp, ↓wp_ite, ↓wp_mix, ↓wp_mdiv, ↓wp_mnz, ↓wp_some, ↓wp_mbnd, ↓mlet_eq, ↓mbp_eq, ↓mbnd_eq, ↓mix_ite, ↓mdiv_ite, ↓mnz_ite, nI_add, nI_mul, nI_nat, nI_ltE, nI_leE, nI_eqE, nI_eqN, nI_Neq, nI_Nlt, nI_Nle, nI_ltN, nI_leN, ↓reduceIte, ↓Nat.reduceEqDiff, and_f, nt_e, nt_t, nl_t, nl_f, ne_t, ne_f, and_self, or_self, or_true, true_or, or_false, false_or, if_true, if_false, and_true, true_and, and_false, false_and, not_true, not_false_iff, e10, e11, q1, q2, q3, nI_rem, hd, hw, hz, Nat.reduceSub]
        · have hw2 : β (48 + 3 * x) = 2 := by omega
          rw [if_neg hw] at hz
          simp (disch := omega) only [lit_0, lit_1, lit_2, lit_3, lit_4, lit_5, lit_6, lit_7, lit_8, lit_9, lit_10, lit_11, lit_12, lit_13, lit_14, lit_15, lit_16, lit_20, lit_23, lit_24, lit_31, lit_32, lit_39, lit_43, lit_45, lit_47, lit_48, lit_56, lit_57, lit_59, lit_60, lit_62, lit_63, lit_89, lit_92, lit_96, lit_97, lit_99, lit_100, lit_102, lit_103, lit_104, lit_110, lit_111, lit_115, lit_117, lit_194, lit_200, lit_644, lit_736, lit_999, lit_1000, lit_9999, lit_10000, lit_1000000000, ↓wp_mlet, ↓wp_mbp, ↓wp_ite, ↓wp_mix, ↓wp_mdiv, ↓wp_mnz, ↓wp_some, ↓wp_mbnd, ↓mlet_eq, ↓mbp_eq, ↓mbnd_eq, ↓mix_ite, ↓mdiv_ite, ↓mnz_ite, nI_add, nI_mul, nI_nat, nI_ltE, nI_leE, nI_eqE, nI_eqN, nI_Neq, nI_Nlt, nI_Nle, nI_ltN, nI_leN, ↓reduceIte, ↓Nat.reduceEqDiff, and_f, nt_e, nt_t, nl_t, nl_f, ne_t, ne_f, and_self, or_self, or_true, true_or, or_false, false_or, if_true, if_false, and_true, true_and, and_false, false_and, not_true, not_false_iff, e10, e11, q1, q2, q3, nI_rem, hd, hw2, hz, Nat.reduceSub]
    · refine ⟨M1, ⟨by rw [← walkTo_n hd]; exact hR, hi, ha⟩, ?_⟩
      show f_X1_beginHour_L12 g (n + 1) (nI x) M1 kk = f_X1_beginHour_L12 g n (nI (x + 1)) _ kk
      rw [f_X1_beginHour_L12.eq_2]
      simp (disch := omega) only [lit_0, lit_1, lit_2, lit_3, lit_4, lit_5, lit_6, lit_7, lit_8, lit_9, lit_10, lit_11, lit_12, lit_13, lit_14, lit_15, lit_16, lit_20, lit_23, lit_24, lit_31, lit_32, lit_39, lit_43, lit_45, lit_47, lit_48, lit_56, lit_57, lit_59, lit_60, lit_62, lit_63, lit_89, lit_92, lit_96, lit_97, lit_99, lit_100, lit_102, lit_103, lit_104, lit_110, lit_111, lit_115, lit_117, lit_194, lit_200, lit_644, lit_736, lit_999, lit_1000, lit_9999, lit_10000, lit_1000000000, ↓wp_mlet, ↓wp_mbp, ↓wp_ite, ↓wp_mix, ↓wp_mdiv, ↓wp_mnz, ↓wp_some, ↓wp_mbnd, ↓mlet_eq, ↓mbp_eq, ↓mbnd_eq, ↓mix_ite, ↓mdiv_ite, ↓mnz_ite, nI_add, nI_mul, nI_nat, nI_ltE, nI_leE, nI_eqE, nI_eqN, nI_Neq, nI_Nlt, nI_Nle, nI_ltN, nI_leN, ↓reduceIte, ↓Nat.reduceEqDiff, and_f, nt_e, nt_t, nl_t, nl_f, ne_t, ne_f, and_self, or_self, or_true, true_or, or_false, false_or, if_true, if_false, and_true, true_and, and_false, false_and, not_true, not_false_iff, e10, e11, q3, nI_rem, hd]
  · have e10 : M1 g 6 4 = nI (β 10) := by rw [h.1.2.2.1, walkTo_ne (by omega)]
    show f_X1_beginHour_L12 g (n + 1) (nI (β 10)) M1 kk = kk M1
    rw [f_X1_beginHour_L12.eq_2]
    simp (disch := omega) only [lit_0, lit_1, lit_2, lit_3, lit_4, lit_5, lit_6, lit_7, lit_8, lit_9, lit_10, lit_11, lit_12, lit_13, lit_14, lit_15, lit_16, lit_20, lit_23, lit_24, lit_31, lit_32, lit_39, lit_43, lit_45, lit_47, lit_48, lit_56, lit_57, lit_59, lit_60, lit_62, lit_63, lit_89, lit_92, lit_96, lit_97, lit_99, lit_100, lit_102, lit_103, lit_104, lit_110, lit_111, lit_115, lit_117, lit_194, lit_200, lit_644, lit_736, lit_999, lit_1000, lit_9999, lit_10000, lit_1000000000, ↓wp_mlet, ↓wp_mbp, ↓wp_ite, ↓wp_mix, ↓wp_mdiv, ↓wp_mnz, ↓wp_some, ↓wp_mbnd, ↓mlet_eq, ↓mbp_eq, ↓mbnd_eq, ↓mix_ite, ↓mdiv_ite, ↓mnz_ite, nI_add, nI_mul, nI_nat, nI_ltE, nI_leE, nI_eqE, nI_eqN, nI_Neq, nI_Nlt, nI_Nle, nI_ltN, nI_leN, ↓reduceIte, ↓Nat.reduceEqDiff, and_f, nt_e, nt_t, nl_t, nl_f, ne_t, ne_f, and_self, or_self, or_true, true_or, or_false, false_or, if_true, if_false, and_true, true_and, and_false, false_and, not_true, not_false_iff, e10]
