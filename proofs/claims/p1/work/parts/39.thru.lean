theorem ivN_nI {a : Nat} (h : a < 97) : mInv.getD a (nI 0) = nI (ivN a) := ivN_I h
theorem nI_fac {x k : Nat} (h : k ≤ x + 96) : nI x - nI 1 - nI k + nI 97 = nI (x + 96 - k) := by
  have h1 : nI (x + 96 - k) + nI k + nI 1 = nI x + nI 97 := by
    rw [nI_add, nI_add, nI_add]; congr 1; omega
  generalize nI (x + 96 - k) = a at h1 ⊢
  generalize nI x = b at h1 ⊢
  generalize nI k = c at h1 ⊢
  generalize nI 1 = d at h1 ⊢
  generalize nI 97 = e at h1 ⊢
  clear h
  grobner
theorem nI_facM {x k : Nat} (h : k ≤ x + 193) : nI x - nI k - nI 1 + nI 194 = nI (x + 193 - k) := by
  have h1 : nI (x + 193 - k) + nI k + nI 1 = nI x + nI 194 := by
    rw [nI_add, nI_add, nI_add]; congr 1; omega
  generalize nI (x + 193 - k) = a at h1 ⊢
  generalize nI x = b at h1 ⊢
  generalize nI k = c at h1 ⊢
  generalize nI 1 = d at h1 ⊢
  generalize nI 194 = e at h1 ⊢
  clear h
  grobner
theorem mul_lt {a b A B : Nat} (ha : a < A) (hb : b < B) : a * b < A * B := Nat.mul_lt_mul'' ha hb
theorem pn_s {x : Nat} {t : Nat → Nat} {i k : Nat} : pn x t i (k + 1) = if k = i then pn x t i k else pn x t i k * (x + 96 - t k) % 97 := Eq.trans rfl rfl
theorem pd_s {t : Nat → Nat} {i k : Nat} : pd t i (k + 1) = if k = i then pd t i k else pd t i k * (t i + 97 - t k) % 97 := Eq.trans rfl rfl
theorem smC_s {T x : Nat} {s t : Nat → Nat} {k : Nat} : smC T x s t (k + 1) = smC T x s t k + s (t k) * qC T x t k := Eq.trans rfl rfl
theorem tmM_s {x : Nat} {s t : Nat → Nat} {i k : Nat} : tmM x s t i (k + 1) = if k = i then tmM x s t i k else tmM x s t i k * ((x + 193 - t k) % 97) % 97 * ivN ((t i + 97 - t k) % 97) % 97 := Eq.trans rfl rfl
theorem smM_s {T x : Nat} {s t : Nat → Nat} {k : Nat} : smM T x s t (k + 1) = (smM T x s t k + tmM x s t k T) % 97 := Eq.trans rfl rfl
/-- what the class looks at: threshold, shares, and T chosen holders -/
def Lk (M : Mem) (g ga ia T : Nat) (s t : Nat → Nat) : Prop := M g 1 3 = nI T ∧ (1 ≤ T ∧ T ≤ 3) ∧ (∀ k, k < 8 → M g 2 k = nI (s k) ∧ s k ≤ 96) ∧ (∀ i, i < T → M ga ia i = nI (t i)) ∧ Tu T t
theorem c_quotL {M : Mem} {g ga ia T i x N : Nat} {s t : Nat → Nat} (hN : 1000 = N) (h : Lk M g ga ia T s t) (hi : i < T) (hx : x ≤ 96) (kk : Int32 → Int32 → Option Int32) :
    f_X6_quotientsOf_L14 g ga ia (nI i) M (nI x - nI 1) N (nI 1) (nI 1) (nI 0) kk = kk (nI (pn x t i T)) (nI (pd t i T)) := by
  obtain ⟨h3, hT, hs, ht, hu⟩ := h
  have key := mloop (F := fun n x4 (s : Int32 × Int32) kk => f_X6_quotientsOf_L14 g ga ia (nI i) M (nI x - nI 1) n s.1 s.2 x4 (fun a b => kk (a, b))) (c := T) (fun k => (nI (pn x t i k), nI (pd t i k))) (fun n k kk hk => by
    show f_X6_quotientsOf_L14 g ga ia (nI i) M (nI x - nI 1) (n + 1) (nI (pn x t i k)) (nI (pd t i k)) (nI k) (fun a b => kk (a, b)) = f_X6_quotientsOf_L14 g ga ia (nI i) M (nI x - nI 1) n (nI (pn x t i (k + 1))) (nI (pd t i (k + 1))) (nI (k + 1)) (fun a b => kk (a, b))
    rw [f_X6_quotientsOf_L14.eq_2, pn_s, pd_s]
    by_cases q : k = i
    · rw [if_pos q, if_pos q]
      simp (disch := omega) only [lit_0, lit_1, lit_2, lit_3, lit_4, lit_5, lit_6, lit_7, lit_8, lit_9, lit_10, lit_11, lit_12, lit_13, lit_14, lit_15, lit_16, lit_20, lit_23, lit_24, lit_31, lit_32, lit_39, lit_43, lit_45, lit_47, lit_48, lit_56, lit_57, lit_59, lit_60, lit_62, lit_63, lit_89, lit_92, lit_96, lit_97, lit_99, lit_100, lit_102, lit_103, lit_104, lit_110, lit_111, lit_115, lit_117, lit_194, lit_200, lit_644, lit_736, lit_999, lit_1000, lit_9999, lit_10000, lit_1000000000, ↓wp_mlet, ↓wp_mbp, ↓wp_ite, ↓wp_mix, ↓wp_mdiv, ↓wp_mnz, ↓wp_some, ↓wp_mbnd, ↓mlet_eq, ↓mbp_eq, ↓mbnd_eq, ↓mix_ite, ↓mdiv_ite, ↓mnz_ite, nI_add, nI_mul, nI_nat, nI_ltE, nI_leE, nI_eqE, nI_eqN, nI_Neq, nI_Nlt, nI_Nle, nI_ltN, nI_leN, ↓reduceIte, ↓Nat.reduceEqDiff, and_f, nt_e, nt_t, nl_t, nl_f, ne_t, ne_f, and_self, or_self, or_true, true_or, or_false, false_or, if_true, if_false, and_true, true_and, and_false, false_and, not_true, not_false_iff, h3]
    · have l1 := hu.1 k hk
      have l2 := hu.1 i hi
      have e1 := nI_fac (x := x) (k := t k) (by omega)
      have e2 := nI_sub_add (a := t i) (b := t k) (c := 97) (by omega)
      have b1 := mul_lt (pn_lt (x := x) (t := t) (i := i) k) (show x + 96 - t k < 200 by omega)
      have b2 := mul_lt (pd_lt (t := t) (i := i) k) (show t i + 97 - t k < 200 by omega)
      rw [if_neg q, if_neg q, ← nI_rem (a := pn x t i k * (x + 96 - t k)) (by omega) (by decide), ← nI_rem (a := pd t i k * (t i + 97 - t k)) (by omega) (by decide)]
      simp (disch := omega) only [lit_0, lit_1, lit_2, lit_3, lit_4, lit_5, lit_6, lit_7, lit_8, lit_9, lit_10, lit_11, lit_12, lit_13, lit_14, lit_15, lit_16, lit_20, lit_23, lit_24, lit_31, lit_32, lit_39, lit_43, lit_45, lit_47, lit_48, lit_56, lit_57, lit_59, lit_60, lit_62, lit_63, lit_89, lit_92, lit_96, lit_97, lit_99, lit_100, lit_102, lit_103, lit_104, lit_110, lit_111, lit_115, lit_117, lit_194, lit_200, lit_644, lit_736, lit_999, lit_1000, lit_9999, lit_10000, lit_1000000000, ↓wp_mlet, ↓wp_mbp, ↓wp_ite, ↓wp_mix, ↓wp_mdiv, ↓wp_mnz, ↓wp_some, ↓wp_mbnd, ↓mlet_eq, ↓mbp_eq, ↓mbnd_eq, ↓mix_ite, ↓mdiv_ite, ↓mnz_ite, nI_add, nI_mul, nI_nat, nI_ltE, nI_leE, nI_eqE, nI_eqN, nI_Neq, nI_Nlt, nI_Nle, nI_ltN, nI_leN, ↓reduceIte, ↓Nat.reduceEqDiff, and_f, nt_e, nt_t, nl_t, nl_f, ne_t, ne_f, and_self, or_self, or_true, true_or, or_false, false_or, if_true, if_false, and_true, true_and, and_false, false_and, not_true, not_false_iff, h3, ht k hk, ht i hi, e1, e2]) (fun n kk => by
    show f_X6_quotientsOf_L14 g ga ia (nI i) M (nI x - nI 1) (n + 1) (nI (pn x t i T)) (nI (pd t i T)) (nI T) (fun a b => kk (a, b)) = _
    rw [f_X6_quotientsOf_L14.eq_2]
    simp (disch := omega) only [lit_0, lit_1, lit_2, lit_3, lit_4, lit_5, lit_6, lit_7, lit_8, lit_9, lit_10, lit_11, lit_12, lit_13, lit_14, lit_15, lit_16, lit_20, lit_23, lit_24, lit_31, lit_32, lit_39, lit_43, lit_45, lit_47, lit_48, lit_56, lit_57, lit_59, lit_60, lit_62, lit_63, lit_89, lit_92, lit_96, lit_97, lit_99, lit_100, lit_102, lit_103, lit_104, lit_110, lit_111, lit_115, lit_117, lit_194, lit_200, lit_644, lit_736, lit_999, lit_1000, lit_9999, lit_10000, lit_1000000000, ↓wp_mlet, ↓wp_mbp, ↓wp_ite, ↓wp_mix, ↓wp_mdiv, ↓wp_mnz, ↓wp_some, ↓wp_mbnd, ↓mlet_eq, ↓mbp_eq, ↓mbnd_eq, ↓mix_ite, ↓mdiv_ite, ↓mnz_ite, nI_add, nI_mul, nI_nat, nI_ltE, nI_leE, nI_eqE, nI_eqN, nI_Neq, nI_Nlt, nI_Nle, nI_ltN, nI_leN, ↓reduceIte, ↓Nat.reduceEqDiff, and_f, nt_e, nt_t, nl_t, nl_f, ne_t, ne_f, and_self, or_self, or_true, true_or, or_false, false_or, if_true, if_false, and_true, true_and, and_false, false_and, not_true, not_false_iff, h3]) T N 0 (fun s => kk s.1 s.2) (by omega) (by omega)
  exact key
theorem c_quot {M : Mem} {g ga ia T i x : Nat} {s t : Nat → Nat} (h : Lk M g ga ia T s t) (hi : i < T) (hx : x ≤ 96) : f_X6_quotientsOf g ga ia (nI i) (nI x) M = some (nI (qC T x t i)) := by
  unfold f_X6_quotientsOf
  generalize hN : (1000 : Nat) = N
  simp only [lit_0, lit_1, lit_2, lit_3, lit_4, lit_5, lit_6, lit_7, lit_8, lit_9, lit_10, lit_11, lit_12, lit_13, lit_14, lit_15, lit_16, lit_20, lit_23, lit_24, lit_31, lit_32, lit_39, lit_43, lit_45, lit_47, lit_48, lit_56, lit_57, lit_59, lit_60, lit_62, lit_63, lit_89, lit_92, lit_96, lit_97, lit_99, lit_100, lit_102, lit_103, lit_104, lit_110, lit_111, lit_115, lit_117, lit_194, lit_200, lit_644, lit_736, lit_999, lit_1000, lit_9999, lit_10000, lit_1000000000, mlet_eq]
  rw [c_quotL hN h hi hx]
  have l := pd_lt (t := t) (i := i) T
  have b := mul_lt (pn_lt (x := x) (t := t) (i := i) T) (ivN_lt l)
  have e := ivN_nI l
  unfold qC
  rw [← nI_rem (by omega) (by decide)]
  simp (disch := omega) only [lit_0, lit_1, lit_2, lit_3, lit_4, lit_5, lit_6, lit_7, lit_8, lit_9, lit_10, lit_11, lit_12, lit_13, lit_14, lit_15, lit_16, lit_20, lit_23, lit_24, lit_31, lit_32, lit_39, lit_43, lit_45, lit_47, lit_48, lit_56, lit_57, lit_59, lit_60, lit_62, lit_63, lit_89, lit_92, lit_96, lit_97, lit_99, lit_100, lit_102, lit_103, lit_104, lit_110, lit_111, lit_115, lit_117, lit_194, lit_200, lit_644, lit_736, lit_999, lit_1000, lit_9999, lit_10000, lit_1000000000, ↓wp_mlet, ↓wp_mbp, ↓wp_ite, ↓wp_mix, ↓wp_mdiv, ↓wp_mnz, ↓wp_some, ↓wp_mbnd, ↓mlet_eq, ↓mbp_eq, ↓mbnd_eq, ↓mix_ite, ↓mdiv_ite, ↓mnz_ite, nI_add, nI_mul, nI_nat, nI_ltE, nI_leE, nI_eqE, nI_eqN, nI_Neq, nI_Nlt, nI_Nle, nI_ltN, nI_leN, ↓reduceIte, ↓Nat.reduceEqDiff, and_f, nt_e, nt_t, nl_t, nl_f, ne_t, ne_f, and_self, or_self, or_true, true_or, or_false, false_or, if_true, if_false, and_true, true_and, and_false, false_and, not_true, not_false_iff, e]
theorem smC_le {M : Mem} {g ga ia T x : Nat} {s t : Nat → Nat} (h : Lk M g ga ia T s t) : ∀ k, k ≤ T → smC T x s t k ≤ 10000 * k
  | 0, _ => Nat.le_refl _
  | k + 1, hk => by
    obtain ⟨h3, hT, hs, ht, hu⟩ := id h
    have l1 := (hs (t k) (hu.1 k (by omega))).2
    have b := mul_lt (show s (t k) < 97 by omega) (qC_lt (T := T) (x := x) (t := t) (i := k))
    have := smC_le (x := x) h k (by omega)
    rw [smC_s]
    omega
theorem c_thr {M : Mem} {g ga ia T x : Nat} {s t : Nat → Nat} (h : Lk M g ga ia T s t) (hx : x ≤ 96) : f_X6_valueThrough g ga ia (nI x) M = some (nI (thr T s t x)) := by
  obtain ⟨h3, hT, hs, ht, hu⟩ := id h
  unfold f_X6_valueThrough
  generalize hN : (1000 : Nat) = N
  have key := mloop (F := fun n x4 s kk => f_X6_valueThrough_L5 g ga ia (nI x) M n s x4 kk) (c := T) (fun k => nI (smC T x s t k)) (fun n k kk hk => by
    show f_X6_valueThrough_L5 g ga ia (nI x) M (n + 1) (nI (smC T x s t k)) (nI k) kk = f_X6_valueThrough_L5 g ga ia (nI x) M n (nI (smC T x s t (k + 1))) (nI (k + 1)) kk
    have l1 := hu.1 k hk
    have e1 := c_quot h hk hx
    have e2 := (hs (t k) l1).1
    rw [f_X6_valueThrough_L5.eq_2, smC_s]
    simp (disch := omega) only [lit_0, lit_1, lit_2, lit_3, lit_4, lit_5, lit_6, lit_7, lit_8, lit_9, lit_10, lit_11, lit_12, lit_13, lit_14, lit_15, lit_16, lit_20, lit_23, lit_24, lit_31, lit_32, lit_39, lit_43, lit_45, lit_47, lit_48, lit_56, lit_57, lit_59, lit_60, lit_62, lit_63, lit_89, lit_92, lit_96, lit_97, lit_99, lit_100, lit_102, lit_103, lit_104, lit_110, lit_111, lit_115, lit_117, lit_194, lit_200, lit_644, lit_736, lit_999, lit_1000, lit_9999, lit_10000, lit_1000000000, ↓wp_mlet, ↓wp_mbp, ↓wp_ite, ↓wp_mix, ↓wp_mdiv, ↓wp_mnz, ↓wp_some, ↓wp_mbnd, ↓mlet_eq, ↓mbp_eq, ↓mbnd_eq, ↓mix_ite, ↓mdiv_ite, ↓mnz_ite, nI_add, nI_mul, nI_nat, nI_ltE, nI_leE, nI_eqE, nI_eqN, nI_Neq, nI_Nlt, nI_Nle, nI_ltN, nI_leN, ↓reduceIte, ↓Nat.reduceEqDiff, and_f, nt_e, nt_t, nl_t, nl_f, ne_t, ne_f, and_self, or_self, or_true, true_or, or_false, false_or, if_true, if_false, and_true, true_and, and_false, false_and, not_true, not_false_iff, h3, ht k hk, e1, e2]) (fun n kk => by
    show f_X6_valueThrough_L5 g ga ia (nI x) M (n + 1) (nI (smC T x s t T)) (nI T) kk = _
    rw [f_X6_valueThrough_L5.eq_2]
    simp (disch := omega) only [lit_0, lit_1, lit_2, lit_3, lit_4, lit_5, lit_6, lit_7, lit_8, lit_9, lit_10, lit_11, lit_12, lit_13, lit_14, lit_15, lit_16, lit_20, lit_23, lit_24, lit_31, lit_32, lit_39, lit_43, lit_45, lit_47, lit_48, lit_56, lit_57, lit_59, lit_60, lit_62, lit_63, lit_89, lit_92, lit_96, lit_97, lit_99, lit_100, lit_102, lit_103, lit_104, lit_110, lit_111, lit_115, lit_117, lit_194, lit_200, lit_644, lit_736, lit_999, lit_1000, lit_9999, lit_10000, lit_1000000000, ↓wp_mlet, ↓wp_mbp, ↓wp_ite, ↓wp_mix, ↓wp_mdiv, ↓wp_mnz, ↓wp_some, ↓wp_mbnd, ↓mlet_eq, ↓mbp_eq, ↓mbnd_eq, ↓mix_ite, ↓mdiv_ite, ↓mnz_ite, nI_add, nI_mul, nI_nat, nI_ltE, nI_leE, nI_eqE, nI_eqN, nI_Neq, nI_Nlt, nI_Nle, nI_ltN, nI_leN, ↓reduceIte, ↓Nat.reduceEqDiff, and_f, nt_e, nt_t, nl_t, nl_f, ne_t, ne_f, and_self, or_self, or_true, true_or, or_false, false_or, if_true, if_false, and_true, true_and, and_false, false_and, not_true, not_false_iff, h3]) T N 0 (fun x7 => some (mrem x7 (nI 97))) (by omega) (by omega)
  have e0 : f_X6_valueThrough_L5 g ga ia (nI x) M N 0 0 (fun x7 => some (mrem x7 97)) = f_X6_valueThrough_L5 g ga ia (nI x) M N (nI (smC T x s t 0)) (nI 0) (fun x7 => some (mrem x7 (nI 97))) := rfl
  rw [e0, key, nI_rem (by have := smC_le (x := x) h T (Nat.le_refl T); omega) (by decide), thrC hT hu]
