theorem elR_0 {B : Nat → Nat → Nat} {c T : Nat} : elR B c T 0 = B := by
  funext a b
  rw [elR_at, if_neg (by omega)]
theorem elR_c {B : Nat → Nat → Nat} {c T : Nat} : elR B c T (c + 1) = elR B c T c := by
  funext a b
  rw [elR_at, elR_at]
  by_cases q : a < c ∧ a ≠ c ∧ c ≤ b ∧ b ≤ T
  · rw [if_pos q, if_pos (by omega)]
  · rw [if_neg q, if_neg (by omega)]
theorem elR_s {B : Nat → Nat → Nat} {c T x : Nat} (h : x ≠ c) : elR B c T (x + 1) = rowU (elR B c T x) x c (T + 1) (fun j => (elR B c T x x j + 9409 - elR B c T x x c * elR B c T x c j) % 97) := by
  funext a b
  have e : ∀ j, elR B c T x x j = B x j := fun j => by rw [elR_at, if_neg (by omega)]
  have e2 : ∀ j, elR B c T x c j = B c j := fun j => by rw [elR_at, if_neg (by omega)]
  rw [rowU_at, elR_at]
  simp only [e, e2]
  by_cases q : a = x ∧ c ≤ b ∧ b < T + 1
  · obtain ⟨rfl, q2, q3⟩ := q
    rw [if_pos (by omega), if_pos (by omega)]
  · rw [if_neg q, elR_at]
    by_cases r : a < x ∧ a ≠ c ∧ c ≤ b ∧ b ≤ T
    · rw [if_pos r, if_pos (by omega)]
    · rw [if_neg r, if_neg (by omega)]
theorem c_elimA {M0 M : Mem} {A : Nat → Nat → Nat} {c T N : Nat} (hm : Mt M0 M A) (hT : T ≤ 3) (hc : c < T) (hb : bd T A) (hN : N = 1000) (kk : Mem → Option (Unit × Mem)) :
    ∃ M1, Mt M0 M1 (elA A c T) ∧ f_X8_eliminate_L19 (nI c) (nI T) (nI (ivN (A c c))) N (nI c) M kk = kk M1 := by
  have li := ivN_lt (hb c c hc (by omega))
  obtain ⟨M2, hm2, key⟩ := mloopP (F := fun n x (M1 : Mem) kk => f_X8_eliminate_L19 (nI c) (nI T) (nI (ivN (A c c))) n x M1 kk) (c := T + 1) (fun x M1 => c ≤ x ∧ Mt M0 M1 (rowU A c c x (fun j => A c j * ivN (A c c) % 97))) (fun n x M1 kk hx hm1 => by
    obtain ⟨hcx, hm1⟩ := hm1
    have m1 := Mt_at hm1 (show c < 3 by omega) (show x < 4 by omega)
    rw [rowU_at, if_neg (by omega)] at m1
    have b1 := mul_lt (hb c x hc (by omega)) li
    have e := nI_rem (a := A c x * ivN (A c c)) (b := 97) (by omega) (by decide)
    refine ⟨mup M1 12 (21 + c) x (nI (A c x * ivN (A c c) % 97)), ⟨by omega, ?_⟩, ?_⟩
    · rw [← rowU_s hcx]
      exact Mt_up hm1 (by omega)
    · show f_X8_eliminate_L19 (nI c) (nI T) (nI (ivN (A c c))) (n + 1) (nI x) M1 kk = _
      rw [f_X8_eliminate_L19.eq_2]
      simp (disch := omega) only [lit_0, lit_1, lit_2, lit_3, lit_4, lit_5, lit_6, lit_7, lit_8, lit_9, lit_10, lit_11, lit_12, lit_13, lit_14, lit_15, lit_16, lit_20, lit_23, lit_24, lit_31, lit_32, lit_39, lit_43, lit_45, lit_47, lit_48, lit_56, lit_57, lit_59, lit_60, lit_62, lit_63, lit_89, lit_92, lit_96, lit_97, lit_99, lit_100, lit_102, lit_103, lit_104, lit_110, lit_111, lit_115, lit_117, lit_194, lit_200, lit_644, lit_736, lit_999, lit_1000, lit_9999, lit_10000, lit_1000000000, ↓wp_mlet, ↓wp_mbp, ↓wp_ite, ↓wp_mix, ↓wp_mdiv, ↓wp_mnz, ↓wp_some, ↓wp_mbnd, ↓mlet_eq, ↓mbp_eq, ↓mbnd_eq, ↓mix_ite, ↓mdiv_ite, ↓mnz_ite, nI_add, nI_mul, nI_nat, nI_ltE, nI_leE, nI_eqE, nI_eqN, nI_Neq, nI_Nlt, nI_Nle, nI_ltN, nI_leN, ↓reduceIte, ↓Nat.reduceEqDiff, and_f, nt_e, nt_t, nl_t, nl_f, ne_t, ne_f, and_self, or_self, or_true, true_or, or_false, false_or, if_true, if_false, and_true, true_and, and_false, false_and, not_true, not_false_iff, m1, e]) (fun n M1 kk _ => by
    show f_X8_eliminate_L19 (nI c) (nI T) (nI (ivN (A c c))) (n + 1) (nI (T + 1)) M1 kk = _
    rw [f_X8_eliminate_L19.eq_2]
    simp (disch := omega) only [lit_0, lit_1, lit_2, lit_3, lit_4, lit_5, lit_6, lit_7, lit_8, lit_9, lit_10, lit_11, lit_12, lit_13, lit_14, lit_15, lit_16, lit_20, lit_23, lit_24, lit_31, lit_32, lit_39, lit_43, lit_45, lit_47, lit_48, lit_56, lit_57, lit_59, lit_60, lit_62, lit_63, lit_89, lit_92, lit_96, lit_97, lit_99, lit_100, lit_102, lit_103, lit_104, lit_110, lit_111, lit_115, lit_117, lit_194, lit_200, lit_644, lit_736, lit_999, lit_1000, lit_9999, lit_10000, lit_1000000000, ↓wp_mlet, ↓wp_mbp, ↓wp_ite, ↓wp_mix, ↓wp_mdiv, ↓wp_mnz, ↓wp_some, ↓wp_mbnd, ↓mlet_eq, ↓mbp_eq, ↓mbnd_eq, ↓mix_ite, ↓mdiv_ite, ↓mnz_ite, nI_add, nI_mul, nI_nat, nI_ltE, nI_leE, nI_eqE, nI_eqN, nI_Neq, nI_Nlt, nI_Nle, nI_ltN, nI_leN, ↓reduceIte, ↓Nat.reduceEqDiff, and_f, nt_e, nt_t, nl_t, nl_f, ne_t, ne_f, and_self, or_self, or_true, true_or, or_false, false_or, if_true, if_false, and_true, true_and, and_false, false_and, not_true, not_false_iff]) (T + 1 - c) N c M kk (by omega) (by omega) ⟨Nat.le_refl c, by rw [rowU_0]; exact hm⟩
  exact ⟨M2, hm2.2, key⟩
theorem c_elimR {M0 M : Mem} {B : Nat → Nat → Nat} {c T N : Nat} (hm : Mt M0 M B) (hT : T ≤ 3) (hc : c < T) (hb : bd T B) (hN : N = 1000) (kk : Mem → Option (Unit × Mem)) :
    ∃ M1, Mt M0 M1 (elR B c T T) ∧ f_X8_eliminate_L48 (nI c) (nI T) N (nI 0) M kk = kk M1 := by
  obtain ⟨M2, hm2, key⟩ := mloopP (F := fun n x (M1 : Mem) kk => f_X8_eliminate_L48 (nI c) (nI T) n x M1 kk) (c := T) (fun x M1 => Mt M0 M1 (elR B c T x)) (fun n x M1 kk hx hm1 => by
    by_cases q : x = c
    · refine ⟨M1, ?_, ?_⟩
      · have h2 : elR B c T (x + 1) = elR B c T x := by rw [q]; exact elR_c
        rw [h2]; exact hm1
      · show f_X8_eliminate_L48 (nI c) (nI T) (n + 1) (nI x) M1 kk = _
        rw [f_X8_eliminate_L48.eq_2]
        simp (disch := omega) only [lit_0, lit_1, lit_2, lit_3, lit_4, lit_5, lit_6, lit_7, lit_8, lit_9, lit_10, lit_11, lit_12, lit_13, lit_14, lit_15, lit_16, lit_20, lit_23, lit_24, lit_31, lit_32, lit_39, lit_43, lit_45, lit_47, lit_48, lit_56, lit_57, lit_59, lit_60, lit_62, lit_63, lit_89, lit_92, lit_96, lit_97, lit_99, lit_100, lit_102, lit_103, lit_104, lit_110, lit_111, lit_115, lit_117, lit_194, lit_200, lit_644, lit_736, lit_999, lit_1000, lit_9999, lit_10000, lit_1000000000, ↓wp_mlet, ↓wp_mbp, ↓wp_ite, ↓wp_mix, ↓wp_mdiv, ↓wp_mnz, ↓wp_some, ↓wp_mbnd, ↓mlet_eq, ↓mbp_eq, ↓mbnd_eq, ↓mix_ite, ↓mdiv_ite, ↓mnz_ite, nI_add, nI_mul, nI_nat, nI_ltE, nI_leE, nI_eqE, nI_eqN, nI_Neq, nI_Nlt, nI_Nle, nI_ltN, nI_leN, ↓reduceIte, ↓Nat.reduceEqDiff, and_f, nt_e, nt_t, nl_t, nl_f, ne_t, ne_f, and_self, or_self, or_true, true_or, or_false, false_or, if_true, if_false, and_true, true_and, and_false, false_and, not_true, not_false_iff]
    · have hb1 := bd_R (c := c) (x := x) hb
      obtain ⟨r, M3, e, h3⟩ := c_sub hm1 (show x < 3 by omega) (show c < 3 by omega) q hT (by omega) (fun b _ h => hb1 x b (by omega) h) (fun b _ h => hb1 c b (by omega) h)
      refine ⟨M3, ?_, ?_⟩
      · rw [elR_s q]; exact h3
      · show f_X8_eliminate_L48 (nI c) (nI T) (n + 1) (nI x) M1 kk = _
        rw [f_X8_eliminate_L48.eq_2]
        simp (disch := omega) only [lit_0, lit_1, lit_2, lit_3, lit_4, lit_5, lit_6, lit_7, lit_8, lit_9, lit_10, lit_11, lit_12, lit_13, lit_14, lit_15, lit_16, lit_20, lit_23, lit_24, lit_31, lit_32, lit_39, lit_43, lit_45, lit_47, lit_48, lit_56, lit_57, lit_59, lit_60, lit_62, lit_63, lit_89, lit_92, lit_96, lit_97, lit_99, lit_100, lit_102, lit_103, lit_104, lit_110, lit_111, lit_115, lit_117, lit_194, lit_200, lit_644, lit_736, lit_999, lit_1000, lit_9999, lit_10000, lit_1000000000, ↓wp_mlet, ↓wp_mbp, ↓wp_ite, ↓wp_mix, ↓wp_mdiv, ↓wp_mnz, ↓wp_some, ↓wp_mbnd, ↓mlet_eq, ↓mbp_eq, ↓mbnd_eq, ↓mix_ite, ↓mdiv_ite, ↓mnz_ite, nI_add, nI_mul, nI_nat, nI_ltE, nI_leE, nI_eqE, nI_eqN, nI_Neq, nI_Nlt, nI_Nle, nI_ltN, nI_leN, ↓reduceIte, ↓Nat.reduceEqDiff, and_f, nt_e, nt_t, nl_t, nl_f, ne_t, ne_f, and_self, or_self, or_true, true_or, or_false, false_or, if_true, if_false, and_true, true_and, and_false, false_and, not_true, not_false_iff, e]) (fun n M1 kk _ => by
    show f_X8_eliminate_L48 (nI c) (nI T) (n + 1) (nI T) M1 kk = _
    rw [f_X8_eliminate_L48.eq_2]
    simp (disch := omega) only [lit_0, lit_1, lit_2, lit_3, lit_4, lit_5, lit_6, lit_7, lit_8, lit_9, lit_10, lit_11, lit_12, lit_13, lit_14, lit_15, lit_16, lit_20, lit_23, lit_24, lit_31, lit_32, lit_39, lit_43, lit_45, lit_47, lit_48, lit_56, lit_57, lit_59, lit_60, lit_62, lit_63, lit_89, lit_92, lit_96, lit_97, lit_99, lit_100, lit_102, lit_103, lit_104, lit_110, lit_111, lit_115, lit_117, lit_194, lit_200, lit_644, lit_736, lit_999, lit_1000, lit_9999, lit_10000, lit_1000000000, ↓wp_mlet, ↓wp_mbp, ↓wp_ite, ↓wp_mix, ↓wp_mdiv, ↓wp_mnz, ↓wp_some, ↓wp_mbnd, ↓mlet_eq, ↓mbp_eq, ↓mbnd_eq, ↓mix_ite, ↓mdiv_ite, ↓mnz_ite, nI_add, nI_mul, nI_nat, nI_ltE, nI_leE, nI_eqE, nI_eqN, nI_Neq, nI_Nlt, nI_Nle, nI_ltN, nI_leN, ↓reduceIte, ↓Nat.reduceEqDiff, and_f, nt_e, nt_t, nl_t, nl_f, ne_t, ne_f, and_self, or_self, or_true, true_or, or_false, false_or, if_true, if_false, and_true, true_and, and_false, false_and, not_true, not_false_iff]) T N 0 M kk (by omega) (by omega) (by rw [elR_0]; exact hm)
  exact ⟨M2, hm2, key⟩
theorem c_elim {M0 M : Mem} {A : Nat → Nat → Nat} {c T : Nat} (hm : Mt M0 M A) (hT : T ≤ 3) (hc : c < T) (hb : bd T A) : wp (f_X8_eliminate (nI c) (nI T) M) fun _ M1 => Mt M0 M1 (el T c A) := by
  have m1 := Mt_at hm (show c < 3 by omega) (show c < 4 by omega)
  have l := hb c c hc (by omega)
  have e := ivN_nI l
  unfold f_X8_eliminate
  generalize hN : (1000 : Nat) = N
  obtain ⟨M1, h1, k1⟩ := c_elimA hm hT hc hb hN.symm (fun M7 => f_X8_eliminate_L48 (nI c) (nI T) N (nI 0) M7 (fun M17 => some ((), M17)))
  obtain ⟨M2, h2, k2⟩ := c_elimR h1 hT hc (bd_A hb) hN.symm (fun M17 => some ((), M17))
  simp (disch := omega) only [lit_0, lit_1, lit_2, lit_3, lit_4, lit_5, lit_6, lit_7, lit_8, lit_9, lit_10, lit_11, lit_12, lit_13, lit_14, lit_15, lit_16, lit_20, lit_23, lit_24, lit_31, lit_32, lit_39, lit_43, lit_45, lit_47, lit_48, lit_56, lit_57, lit_59, lit_60, lit_62, lit_63, lit_89, lit_92, lit_96, lit_97, lit_99, lit_100, lit_102, lit_103, lit_104, lit_110, lit_111, lit_115, lit_117, lit_194, lit_200, lit_644, lit_736, lit_999, lit_1000, lit_9999, lit_10000, lit_1000000000, ↓wp_mlet, ↓wp_mbp, ↓wp_ite, ↓wp_mix, ↓wp_mdiv, ↓wp_mnz, ↓wp_some, ↓wp_mbnd, ↓mlet_eq, ↓mbp_eq, ↓mbnd_eq, ↓mix_ite, ↓mdiv_ite, ↓mnz_ite, nI_add, nI_mul, nI_nat, nI_ltE, nI_leE, nI_eqE, nI_eqN, nI_Neq, nI_Nlt, nI_Nle, nI_ltN, nI_leN, ↓reduceIte, ↓Nat.reduceEqDiff, and_f, nt_e, nt_t, nl_t, nl_f, ne_t, ne_f, and_self, or_self, or_true, true_or, or_false, false_or, if_true, if_false, and_true, true_and, and_false, false_and, not_true, not_false_iff, m1, e]
  rw [k1, k2, wp_some]
  exact h2
/-- the fit -/
theorem c_fit {M : Mem} {g ga ia T : Nat} {s t : Nat → Nat} (h : Lk M g ga ia T s t) (hg : g ≠ 12) (hga : ¬ (ga = 12 ∧ 21 ≤ ia ∧ ia ≤ 24)) :
    wp (f_X8_fit g ga ia M) fun _ M1 => (∀ k, k < 3 → M1 12 24 k = nI (cf T s t k).val) ∧ ∀ a b, ¬ (a = 12 ∧ 21 ≤ b ∧ b ≤ 24) → M1 a b = M a b := by
  obtain ⟨h3, hT, hs, ht, hu⟩ := id h
  unfold f_X8_fit
  generalize hN : (1000 : Nat) = N
  simp only [lit_0, lit_1, lit_2, lit_3, lit_4, lit_5, lit_6, lit_7, lit_8, lit_9, lit_10, lit_11, lit_12, lit_13, lit_14, lit_15, lit_16, lit_20, lit_23, lit_24, lit_31, lit_32, lit_39, lit_43, lit_45, lit_47, lit_48, lit_56, lit_57, lit_59, lit_60, lit_62, lit_63, lit_89, lit_92, lit_96, lit_97, lit_99, lit_100, lit_102, lit_103, lit_104, lit_110, lit_111, lit_115, lit_117, lit_194, lit_200, lit_644, lit_736, lit_999, lit_1000, lit_9999, lit_10000, lit_1000000000, mlet_eq, h3]
  obtain ⟨M1, ⟨A, hm1, hA⟩, k1⟩ := mloopP (F := fun n x (M1 : Mem) kk => f_X8_fit_L8 g ga ia (nI T) n x M1 kk) (c := T) (fun x M1 => ∃ A, Mt M M1 A ∧ ∀ i, i < x → (∀ j, j < T → A i j = pw (t i + 1) j) ∧ A i T = s (t i)) (fun n x M1 kk hx hP => by
    obtain ⟨A, hm1, hA⟩ := hP
    have lx := hu.1 x hx
    have e1 : M1 ga ia x = nI (t x) := by rw [hm1.2 ga ia hga, ht x hx]
    have e2 : M1 g 2 (t x) = nI (s (t x)) := by rw [hm1.2 g 2 (by omega), (hs (t x) lx).1]
    obtain ⟨r, M3, e, h3⟩ := c_setEq (v := s (t x)) hm1 (show x < 3 by omega) hT.2 lx
    refine ⟨M3, ⟨_, h3, fun i hi => ⟨fun j hj => ?_, ?_⟩⟩, ?_⟩
    · rw [ma_at, if_neg (by omega), rowU_at]
      by_cases q : i = x
      · subst q
        rw [if_pos (by omega)]
      · rw [if_neg (by omega)]
        exact (hA i (by omega)).1 j hj
    · rw [ma_at]
      by_cases q : i = x
      · subst q
        rw [if_pos (by omega)]
      · rw [if_neg (by omega), rowU_at, if_neg (by omega)]
        exact (hA i (by omega)).2
    · show f_X8_fit_L8 g ga ia (nI T) (n + 1) (nI x) M1 kk = _
      rw [f_X8_fit_L8.eq_2]
      simp (disch := omega) only [lit_0, lit_1, lit_2, lit_3, lit_4, lit_5, lit_6, lit_7, lit_8, lit_9, lit_10, lit_11, lit_12, lit_13, lit_14, lit_15, lit_16, lit_20, lit_23, lit_24, lit_31, lit_32, lit_39, lit_43, lit_45, lit_47, lit_48, lit_56, lit_57, lit_59, lit_60, lit_62, lit_63, lit_89, lit_92, lit_96, lit_97, lit_99, lit_100, lit_102, lit_103, lit_104, lit_110, lit_111, lit_115, lit_117, lit_194, lit_200, lit_644, lit_736, lit_999, lit_1000, lit_9999, lit_10000, lit_1000000000, ↓wp_mlet, ↓wp_mbp, ↓wp_ite, ↓wp_mix, ↓wp_mdiv, ↓wp_mnz, ↓wp_some, ↓wp_mbnd, ↓mlet_eq, ↓mbp_eq, ↓mbnd_eq, ↓mix_ite, ↓mdiv_ite, ↓mnz_ite, nI_add, nI_mul, nI_nat, nI_ltE, nI_leE, nI_eqE, nI_eqN, nI_Neq, nI_Nlt, nI_Nle, nI_ltN, nI_leN, ↓reduceIte, ↓Nat.reduceEqDiff, and_f, nt_e, nt_t, nl_t, nl_f, ne_t, ne_f, and_self, or_self, or_true, true_or, or_false, false_or, if_true, if_false, and_true, true_and, and_false, false_and, not_true, not_false_iff, e1, e2, e]) (fun n M1 kk _ => by
    show f_X8_fit_L8 g ga ia (nI T) (n + 1) (nI T) M1 kk = _
    rw [f_X8_fit_L8.eq_2]
    simp (disch := omega) only [lit_0, lit_1, lit_2, lit_3, lit_4, lit_5, lit_6, lit_7, lit_8, lit_9, lit_10, lit_11, lit_12, lit_13, lit_14, lit_15, lit_16, lit_20, lit_23, lit_24, lit_31, lit_32, lit_39, lit_43, lit_45, lit_47, lit_48, lit_56, lit_57, lit_59, lit_60, lit_62, lit_63, lit_89, lit_92, lit_96, lit_97, lit_99, lit_100, lit_102, lit_103, lit_104, lit_110, lit_111, lit_115, lit_117, lit_194, lit_200, lit_644, lit_736, lit_999, lit_1000, lit_9999, lit_10000, lit_1000000000, ↓wp_mlet, ↓wp_mbp, ↓wp_ite, ↓wp_mix, ↓wp_mdiv, ↓wp_mnz, ↓wp_some, ↓wp_mbnd, ↓mlet_eq, ↓mbp_eq, ↓mbnd_eq, ↓mix_ite, ↓mdiv_ite, ↓mnz_ite, nI_add, nI_mul, nI_nat, nI_ltE, nI_leE, nI_eqE, nI_eqN, nI_Neq, nI_Nlt, nI_Nle, nI_ltN, nI_leN, ↓reduceIte, ↓Nat.reduceEqDiff, and_f, nt_e, nt_t, nl_t, nl_f, ne_t, ne_f, and_self, or_self, or_true, true_or, or_false, false_or, if_true, if_false, and_true, true_and, and_false, false_and, not_true, not_false_iff]) T N 0 M (fun M8 => f_X8_fit_L43 (nI T) N (nI 0) M8 (fun M15 => f_X8_fit_L65 (nI T) N (nI 0) M15 (fun M24 => some ((), M24)))) (by omega) (by omega) ⟨_, Mt_0 M, fun i hi => by omega⟩
  have hb : bd T A := fun a b ha hb => by
    by_cases q : b = T
    · rw [q, (hA a ha).2]
      have := (hs (t a) (hu.1 a ha)).2
      omega
    · rw [(hA a ha).1 b (by omega)]
      exact pw_lt b
  obtain ⟨M2, hm2, k2⟩ := mloopP (F := fun n x (M1 : Mem) kk => f_X8_fit_L43 (nI T) n x M1 kk) (c := T) (fun x M1 => Mt M M1 (elN T A x)) (fun n x M1 kk hx hm1 => by
    obtain ⟨r, M3, e, h3⟩ := c_elim hm1 hT.2 hx (bd_N hb x)
    refine ⟨M3, h3, ?_⟩
    show f_X8_fit_L43 (nI T) (n + 1) (nI x) M1 kk = _
    rw [f_X8_fit_L43.eq_2]
    simp (disch := omega) only [lit_0, lit_1, lit_2, lit_3, lit_4, lit_5, lit_6, lit_7, lit_8, lit_9, lit_10, lit_11, lit_12, lit_13, lit_14, lit_15, lit_16, lit_20, lit_23, lit_24, lit_31, lit_32, lit_39, lit_43, lit_45, lit_47, lit_48, lit_56, lit_57, lit_59, lit_60, lit_62, lit_63, lit_89, lit_92, lit_96, lit_97, lit_99, lit_100, lit_102, lit_103, lit_104, lit_110, lit_111, lit_115, lit_117, lit_194, lit_200, lit_644, lit_736, lit_999, lit_1000, lit_9999, lit_10000, lit_1000000000, ↓wp_mlet, ↓wp_mbp, ↓wp_ite, ↓wp_mix, ↓wp_mdiv, ↓wp_mnz, ↓wp_some, ↓wp_mbnd, ↓mlet_eq, ↓mbp_eq, ↓mbnd_eq, ↓mix_ite, ↓mdiv_ite, ↓mnz_ite, nI_add, nI_mul, nI_nat, nI_ltE, nI_leE, nI_eqE, nI_eqN, nI_Neq, nI_Nlt, nI_Nle, nI_ltN, nI_leN, ↓reduceIte, ↓Nat.reduceEqDiff, and_f, nt_e, nt_t, nl_t, nl_f, ne_t, ne_f, and_self, or_self, or_true, true_or, or_false, false_or, if_true, if_false, and_true, true_and, and_false, false_and, not_true, not_false_iff, e]) (fun n M1 kk _ => by
    show f_X8_fit_L43 (nI T) (n + 1) (nI T) M1 kk = _
    rw [f_X8_fit_L43.eq_2]
    simp (disch := omega) only [lit_0, lit_1, lit_2, lit_3, lit_4, lit_5, lit_6, lit_7, lit_8, lit_9, lit_10, lit_11, lit_12, lit_13, lit_14, lit_15, lit_16, lit_20, lit_23, lit_24, lit_31, lit_32, lit_39, lit_43, lit_45, lit_47, lit_48, lit_56, lit_57, lit_59, lit_60, lit_62, lit_63, lit_89, lit_92, lit_96, lit_97, lit_99, lit_100, lit_102, lit_103, lit_104, lit_110, lit_111, lit_115, lit_117, lit_194, lit_200, lit_644, lit_736, lit_999, lit_1000, lit_9999, lit_10000, lit_1000000000, ↓wp_mlet, ↓wp_mbp, ↓wp_ite, ↓wp_mix, ↓wp_mdiv, ↓wp_mnz, ↓wp_some, ↓wp_mbnd, ↓mlet_eq, ↓mbp_eq, ↓mbnd_eq, ↓mix_ite, ↓mdiv_ite, ↓mnz_ite, nI_add, nI_mul, nI_nat, nI_ltE, nI_leE, nI_eqE, nI_eqN, nI_Neq, nI_Nlt, nI_Nle, nI_ltN, nI_leN, ↓reduceIte, ↓Nat.reduceEqDiff, and_f, nt_e, nt_t, nl_t, nl_f, ne_t, ne_f, and_self, or_self, or_true, true_or, or_false, false_or, if_true, if_false, and_true, true_and, and_false, false_and, not_true, not_false_iff]) T N 0 M1 (fun M15 => f_X8_fit_L65 (nI T) N (nI 0) M15 (fun M24 => some ((), M24))) (by omega) (by omega) hm1
  have hg2 := gauss_ok hT hb hu hA
  have hbN := bd_N hb T
  generalize elN T A T = E at hm2 hg2 hbN
  obtain ⟨M4, ⟨hm4, h4⟩, k4⟩ := mloopP (F := fun n x (M1 : Mem) kk => f_X8_fit_L65 (nI T) n x M1 kk) (c := 3) (fun x M1 => Mt M M1 E ∧ ∀ k, k < x → M1 12 24 k = nI (cf T s t k).val) (fun n x M1 kk hx hP => by
    obtain ⟨hm1, h1⟩ := hP
    have mm : ∀ v, Mt M (mup M1 12 24 x v) E := fun v => ⟨fun i j hi hj => by rw [mup_at, if_neg (by omega)]; exact hm1.1 i j hi hj, fun a b hab => by rw [pm_ne (by omega)]; exact hm1.2 a b hab⟩
    by_cases q : T ≤ x
    · have e : cf T s t x = 0 := cf_deg q
      refine ⟨mup M1 12 24 x (nI 0), ⟨mm _, fun k hk => ?_⟩, ?_⟩
      · rw [mup_at]
        by_cases r : k = x
        · subst r
          rw [if_pos (by omega), e]; rfl
        · rw [if_neg (by omega)]
          exact h1 k (by omega)
      · show f_X8_fit_L65 (nI T) (n + 1) (nI x) M1 kk = _
        rw [f_X8_fit_L65.eq_2]
        simp (disch := omega) only [lit_0, lit_1, lit_2, lit_3, lit_4, lit_5, lit_6, lit_7, lit_8, lit_9, lit_10, lit_11, lit_12, lit_13, lit_14, lit_15, lit_16, lit_20, lit_23, lit_24, lit_31, lit_32, lit_39, lit_43, lit_45, lit_47, lit_48, lit_56, lit_57, lit_59, lit_60, lit_62, lit_63, lit_89, lit_92, lit_96, lit_97, lit_99, lit_100, lit_102, lit_103, lit_104, lit_110, lit_111, lit_115, lit_117, lit_194, lit_200, lit_644, lit_736, lit_999, lit_1000, lit_9999, lit_10000, lit_1000000000, ↓wp_mlet, ↓wp_mbp, ↓wp_ite, ↓wp_mix, ↓wp_mdiv, ↓wp_mnz, ↓wp_some, ↓wp_mbnd, ↓mlet_eq, ↓mbp_eq, ↓mbnd_eq, ↓mix_ite, ↓mdiv_ite, ↓mnz_ite, nI_add, nI_mul, nI_nat, nI_ltE, nI_leE, nI_eqE, nI_eqN, nI_Neq, nI_Nlt, nI_Nle, nI_ltN, nI_leN, ↓reduceIte, ↓Nat.reduceEqDiff, and_f, nt_e, nt_t, nl_t, nl_f, ne_t, ne_f, and_self, or_self, or_true, true_or, or_false, false_or, if_true, if_false, and_true, true_and, and_false, false_and, not_true, not_false_iff]
    · have e1 := Mt_at hm1 (show x < 3 by omega) (show T < 4 by omega)
      have e : E x T = (cf T s t x).val := zz_eq (hbN x T (by omega) (Nat.le_refl T)) (cf T s t x).isLt (by rw [hg2 x (by omega), zz_self])
      refine ⟨mup M1 12 24 x (nI (E x T)), ⟨mm _, fun k hk => ?_⟩, ?_⟩
      · rw [mup_at]
        by_cases r : k = x
        · subst r
          rw [if_pos (by omega), e]
        · rw [if_neg (by omega)]
          exact h1 k (by omega)
      · show f_X8_fit_L65 (nI T) (n + 1) (nI x) M1 kk = _
        rw [f_X8_fit_L65.eq_2]
        simp (disch := omega) only [lit_0, lit_1, lit_2, lit_3, lit_4, lit_5, lit_6, lit_7, lit_8, lit_9, lit_10, lit_11, lit_12, lit_13, lit_14, lit_15, lit_16, lit_20, lit_23, lit_24, lit_31, lit_32, lit_39, lit_43, lit_45, lit_47, lit_48, lit_56, lit_57, lit_59, lit_60, lit_62, lit_63, lit_89, lit_92, lit_96, lit_97, lit_99, lit_100, lit_102, lit_103, lit_104, lit_110, lit_111, lit_115, lit_117, lit_194, lit_200, lit_644, lit_736, lit_999, lit_1000, lit_9999, lit_10000, lit_1000000000, ↓wp_mlet, ↓wp_mbp, ↓wp_ite, ↓wp_mix, ↓wp_mdiv, ↓wp_mnz, ↓wp_some, ↓wp_mbnd, ↓mlet_eq, ↓mbp_eq, ↓mbnd_eq, ↓mix_ite, ↓mdiv_ite, ↓mnz_ite, nI_add, nI_mul, nI_nat, nI_ltE, nI_leE, nI_eqE, nI_eqN, nI_Neq, nI_Nlt, nI_Nle, nI_ltN, nI_leN, ↓reduceIte, ↓Nat.reduceEqDiff, and_f, nt_e, nt_t, nl_t, nl_f, ne_t, ne_f, and_self, or_self, or_true, true_or, or_false, false_or, if_true, if_false, and_true, true_and, and_false, false_and, not_true, not_false_iff, e1]) (fun n M1 kk _ => by
    show f_X8_fit_L65 (nI T) (n + 1) (nI 3) M1 kk = _
    rw [f_X8_fit_L65.eq_2]
    simp (disch := omega) only [lit_0, lit_1, lit_2, lit_3, lit_4, lit_5, lit_6, lit_7, lit_8, lit_9, lit_10, lit_11, lit_12, lit_13, lit_14, lit_15, lit_16, lit_20, lit_23, lit_24, lit_31, lit_32, lit_39, lit_43, lit_45, lit_47, lit_48, lit_56, lit_57, lit_59, lit_60, lit_62, lit_63, lit_89, lit_92, lit_96, lit_97, lit_99, lit_100, lit_102, lit_103, lit_104, lit_110, lit_111, lit_115, lit_117, lit_194, lit_200, lit_644, lit_736, lit_999, lit_1000, lit_9999, lit_10000, lit_1000000000, ↓wp_mlet, ↓wp_mbp, ↓wp_ite, ↓wp_mix, ↓wp_mdiv, ↓wp_mnz, ↓wp_some, ↓wp_mbnd, ↓mlet_eq, ↓mbp_eq, ↓mbnd_eq, ↓mix_ite, ↓mdiv_ite, ↓mnz_ite, nI_add, nI_mul, nI_nat, nI_ltE, nI_leE, nI_eqE, nI_eqN, nI_Neq, nI_Nlt, nI_Nle, nI_ltN, nI_leN, ↓reduceIte, ↓Nat.reduceEqDiff, and_f, nt_e, nt_t, nl_t, nl_f, ne_t, ne_f, and_self, or_self, or_true, true_or, or_false, false_or, if_true, if_false, and_true, true_and, and_false, false_and, not_true, not_false_iff]) 3 N 0 M2 (fun M24 => some ((), M24)) (by omega) (by omega) ⟨hm2, fun k hk => by omega⟩
  rw [k1, k2, k4, wp_some]
  exact ⟨h4, hm4.2⟩
