/-! WHO IS ON THE CURVE -/
def onC (T : Nat) (s t : Nat → Nat) (h : Nat) : Bool := decide (thr T s t (h + 1) = s h)
theorem onC_t {T : Nat} {s t : Nat → Nat} {h : Nat} : (onC T s t h = true) = (thr T s t (h + 1) = s h) := by unfold onC; exact propext decide_eq_true_iff
theorem onC_f {T : Nat} {s t : Nat → Nat} {h : Nat} : (onC T s t h = false) = ¬ (thr T s t (h + 1) = s h) := by unfold onC; exact propext decide_eq_false_iff_not
theorem onC_self {T : Nat} {s t : Nat → Nat} (hT : 1 ≤ T ∧ T ≤ 3) (hu : Tu T t) (hs : ∀ k, k < 8 → s k ≤ 96) {i : Nat} (hi : i < T) : onC T s t (t i) = true := by
  rw [onC_t]
  have := hs (t i) (hu.1 i hi)
  refine zz_eq thr_lt (by omega) ?_
  rw [zz_thr]
  exact cf_on hT hu i hi
def cnt (P : Nat → Bool) : Nat → Nat
  | 0 => 0
  | k + 1 => cnt P k + (P k).toNat
theorem cnt_s {P : Nat → Bool} {k : Nat} : cnt P (k + 1) = cnt P k + (P k).toNat := Eq.trans rfl rfl
theorem cnt_le {P : Nat → Bool} : ∀ k, cnt P k ≤ k
  | 0 => Nat.le_refl _
  | k + 1 => by
    have := cnt_le (P := P) k
    have h2 : (P k).toNat ≤ 1 := by cases P k <;> decide
    rw [cnt_s]
    omega
theorem cnt_all {P : Nat → Bool} : ∀ n, cnt P n = n ↔ ∀ k, k < n → P k = true
  | 0 => ⟨fun _ k hk => by omega, fun _ => rfl⟩
  | n + 1 => by
    have ih := cnt_all (P := P) n
    have l := cnt_le (P := P) n
    rw [cnt_s]
    constructor
    · intro h k hk
      have h2 : (P n).toNat ≤ 1 := by cases P n <;> decide
      by_cases q : k = n
      · subst q
        cases e : P k with
        | true => rfl
        | false => rw [e] at h; simp at h; omega
      · exact ih.mp (by omega) k (by omega)
    · intro h
      rw [ih.mpr (fun k hk => h k (by omega)), h n (by omega)]
      rfl
theorem cnt_cg {P Q : Nat → Bool} : ∀ n, (∀ k, k < n → P k = Q k) → cnt P n = cnt Q n
  | 0, _ => rfl
  | n + 1, h => by rw [cnt_s, cnt_s, cnt_cg n (fun k hk => h k (by omega)), h n (by omega)]
theorem cnt_mono {P Q : Nat → Bool} : ∀ n, (∀ k, k < n → P k = true → Q k = true) → cnt P n ≤ cnt Q n
  | 0, _ => Nat.le_refl _
  | n + 1, h => by
    have ih := cnt_mono n (fun k hk => h k (by omega))
    have h2 := h n (by omega)
    have h3 : (P n).toNat ≤ (Q n).toNat := by
      cases e : P n
      · exact Nat.zero_le _
      · rw [h2 e]; exact Nat.le_refl _
    rw [cnt_s, cnt_s]
    omega
/-- all of the first n of t are on the curve through T of them -/
def one (T : Nat) (s t : Nat → Nat) (n : Nat) : Bool := decide (∀ k, k < n → onC T s t (t k) = true)
theorem one_t {T : Nat} {s t : Nat → Nat} {n : Nat} : (one T s t n = true) = (∀ k, k < n → onC T s t (t k) = true) := by unfold one; exact propext decide_eq_true_iff
theorem c_one {M : Mem} {g ga ia T n : Nat} {s t : Nat → Nat} (h : Lk M g ga ia T s t) (hTn : T ≤ n) (hn : n ≤ 8) (hm : ∀ k, k < n → M ga ia k = nI (t k) ∧ t k < 8) : f_X6_isOneCurve g ga ia (nI n) M = some (nI (one T s t n).toNat) := by
  obtain ⟨h3, hT, hs, ht, hu⟩ := id h
  unfold f_X6_isOneCurve
  generalize hN : (1000 : Nat) = N
  simp only [lit_0, lit_1, lit_2, lit_3, lit_4, lit_5, lit_6, lit_7, lit_8, lit_9, lit_10, lit_11, lit_12, lit_13, lit_14, lit_15, lit_16, lit_20, lit_23, lit_24, lit_31, lit_32, lit_39, lit_43, lit_45, lit_47, lit_48, lit_56, lit_57, lit_59, lit_60, lit_62, lit_63, lit_89, lit_92, lit_96, lit_97, lit_99, lit_100, lit_102, lit_103, lit_104, lit_110, lit_111, lit_115, lit_117, lit_194, lit_200, lit_644, lit_736, lit_999, lit_1000, lit_9999, lit_10000, lit_1000000000, mlet_eq, h3]
  have key := floop (β := Int32) (F := fun m x kk => f_X6_isOneCurve_L5 g ga ia (nI n) M m x kk) (c := n) (fun k => !(onC T s t (t k))) (fun _ => nI 0) (fun m k kk hk => by
    show f_X6_isOneCurve_L5 g ga ia (nI n) M (m + 1) (nI k) kk = _
    obtain ⟨e1, lk⟩ := hm k hk
    have e2 := (hs (t k) lk).1
    have e3 := c_thr h (x := t k + 1) (by omega)
    have b1 := (hs (t k) lk).2
    have b2 := thr_lt (T := T) (s := s) (t := t) (x := t k + 1)
    rw [f_X6_isOneCurve_L5.eq_2]
    unfold f_X6_positionOf
    cases e : onC T s t (t k) with
    | true =>
      rw [onC_t] at e
      simp (disch := omega) only [lit_0, lit_1, lit_2, lit_3, lit_4, lit_5, lit_6, lit_7, lit_8, lit_9, lit_10, lit_11, lit_12, lit_13, lit_14, lit_15, lit_16, lit_20, lit_23, lit_24, lit_31, lit_32, lit_39, lit_43, lit_45, lit_47, lit_48, lit_56, lit_57, lit_59, lit_60, lit_62, lit_63, lit_89, lit_92, lit_96, lit_97, lit_99, lit_100, lit_102, lit_103, lit_104, lit_110, lit_111, lit_115, lit_117, lit_194, lit_200, lit_644, lit_736, lit_999, lit_1000, lit_9999, lit_10000, lit_1000000000, ↓wp_mlet, ↓wp_mbp, ↓wp_ite, ↓wp_mix, ↓wp_mdiv, ↓wp_mnz, ↓wp_some, ↓wp_mbnd, ↓mlet_eq, ↓mbp_eq, ↓mbnd_eq, ↓mix_ite, ↓mdiv_ite, ↓mnz_ite, nI_add, nI_mul, nI_nat, nI_ltE, nI_leE, nI_eqE, nI_eqN, nI_Neq, nI_Nlt, nI_Nle, nI_ltN, nI_leN, ↓reduceIte, ↓Nat.reduceEqDiff, and_f, nt_e, nt_t, nl_t, nl_f, ne_t, ne_f, and_self, or_self, or_true, true_or, or_false, false_or, if_true, if_false, and_true, true_and, and_false, false_and, not_true, not_false_iff, e1, e2, e3, toNat_0, Bool.false_and, Bool.true_and, Bool.and_false, Bool.and_true, Bool.false_eq_true, reduceCtorEq, Bool.true_eq_false, Bool.not_true, Bool.not_false]
    | false =>
      rw [onC_f] at e
      simp (disch := omega) only [lit_0, lit_1, lit_2, lit_3, lit_4, lit_5, lit_6, lit_7, lit_8, lit_9, lit_10, lit_11, lit_12, lit_13, lit_14, lit_15, lit_16, lit_20, lit_23, lit_24, lit_31, lit_32, lit_39, lit_43, lit_45, lit_47, lit_48, lit_56, lit_57, lit_59, lit_60, lit_62, lit_63, lit_89, lit_92, lit_96, lit_97, lit_99, lit_100, lit_102, lit_103, lit_104, lit_110, lit_111, lit_115, lit_117, lit_194, lit_200, lit_644, lit_736, lit_999, lit_1000, lit_9999, lit_10000, lit_1000000000, ↓wp_mlet, ↓wp_mbp, ↓wp_ite, ↓wp_mix, ↓wp_mdiv, ↓wp_mnz, ↓wp_some, ↓wp_mbnd, ↓mlet_eq, ↓mbp_eq, ↓mbnd_eq, ↓mix_ite, ↓mdiv_ite, ↓mnz_ite, nI_add, nI_mul, nI_nat, nI_ltE, nI_leE, nI_eqE, nI_eqN, nI_Neq, nI_Nlt, nI_Nle, nI_ltN, nI_leN, ↓reduceIte, ↓Nat.reduceEqDiff, and_f, nt_e, nt_t, nl_t, nl_f, ne_t, ne_f, and_self, or_self, or_true, true_or, or_false, false_or, if_true, if_false, and_true, true_and, and_false, false_and, not_true, not_false_iff, e1, e2, e3, toNat_0, Bool.false_and, Bool.true_and, Bool.and_false, Bool.and_true, Bool.false_eq_true, reduceCtorEq, Bool.true_eq_false, Bool.not_true, Bool.not_false]) (fun m kk => by
    show f_X6_isOneCurve_L5 g ga ia (nI n) M (m + 1) (nI n) kk = _
    rw [f_X6_isOneCurve_L5.eq_2]
    simp (disch := omega) only [lit_0, lit_1, lit_2, lit_3, lit_4, lit_5, lit_6, lit_7, lit_8, lit_9, lit_10, lit_11, lit_12, lit_13, lit_14, lit_15, lit_16, lit_20, lit_23, lit_24, lit_31, lit_32, lit_39, lit_43, lit_45, lit_47, lit_48, lit_56, lit_57, lit_59, lit_60, lit_62, lit_63, lit_89, lit_92, lit_96, lit_97, lit_99, lit_100, lit_102, lit_103, lit_104, lit_110, lit_111, lit_115, lit_117, lit_194, lit_200, lit_644, lit_736, lit_999, lit_1000, lit_9999, lit_10000, lit_1000000000, ↓wp_mlet, ↓wp_mbp, ↓wp_ite, ↓wp_mix, ↓wp_mdiv, ↓wp_mnz, ↓wp_some, ↓wp_mbnd, ↓mlet_eq, ↓mbp_eq, ↓mbnd_eq, ↓mix_ite, ↓mdiv_ite, ↓mnz_ite, nI_add, nI_mul, nI_nat, nI_ltE, nI_leE, nI_eqE, nI_eqN, nI_Neq, nI_Nlt, nI_Nle, nI_ltN, nI_leN, ↓reduceIte, ↓Nat.reduceEqDiff, and_f, nt_e, nt_t, nl_t, nl_f, ne_t, ne_f, and_self, or_self, or_true, true_or, or_false, false_or, if_true, if_false, and_true, true_and, and_false, false_and, not_true, not_false_iff]) (n - T) N T (fun _ => some (nI 1)) (by omega) (by omega)
  rw [key]
  cases e : fnd (fun k => !(onC T s t (t k))) T (n - T) with
  | some r =>
    obtain ⟨r1, r2, r3, -⟩ := fnd_some e
    have : one T s t n = false := by
      cases q : one T s t n with
      | false => rfl
      | true =>
        rw [one_t] at q
        rw [q r (by omega)] at r3
        cases r3
    rw [this]
    rfl
  | none =>
    have h1 := fnd_none e
    have : one T s t n = true := by
      rw [one_t]
      intro k hk
      by_cases q : k < T
      · exact onC_self hT hu (fun k hk => (hs k hk).2) q
      · have := h1 k (by omega) (by omega)
        simpa using this
    rw [this]
    rfl
theorem c_oneS {M : Mem} {g ga ia T n : Nat} (h3 : M g 1 3 = nI T) (hT : T ≤ 3) (hn : n ≤ T) : f_X6_isOneCurve g ga ia (nI n) M = some (nI 1) := by
  unfold f_X6_isOneCurve
  simp only [lit_0, lit_1, lit_2, lit_3, lit_4, lit_5, lit_6, lit_7, lit_8, lit_9, lit_10, lit_11, lit_12, lit_13, lit_14, lit_15, lit_16, lit_20, lit_23, lit_24, lit_31, lit_32, lit_39, lit_43, lit_45, lit_47, lit_48, lit_56, lit_57, lit_59, lit_60, lit_62, lit_63, lit_89, lit_92, lit_96, lit_97, lit_99, lit_100, lit_102, lit_103, lit_104, lit_110, lit_111, lit_115, lit_117, lit_194, lit_200, lit_644, lit_736, lit_999, lit_1000, lit_9999, lit_10000, lit_1000000000, mlet_eq, h3]
  rw [f_X6_isOneCurve_L5.eq_2]
  simp (disch := omega) only [lit_0, lit_1, lit_2, lit_3, lit_4, lit_5, lit_6, lit_7, lit_8, lit_9, lit_10, lit_11, lit_12, lit_13, lit_14, lit_15, lit_16, lit_20, lit_23, lit_24, lit_31, lit_32, lit_39, lit_43, lit_45, lit_47, lit_48, lit_56, lit_57, lit_59, lit_60, lit_62, lit_63, lit_89, lit_92, lit_96, lit_97, lit_99, lit_100, lit_102, lit_103, lit_104, lit_110, lit_111, lit_115, lit_117, lit_194, lit_200, lit_644, lit_736, lit_999, lit_1000, lit_9999, lit_10000, lit_1000000000, ↓wp_mlet, ↓wp_mbp, ↓wp_ite, ↓wp_mix, ↓wp_mdiv, ↓wp_mnz, ↓wp_some, ↓wp_mbnd, ↓mlet_eq, ↓mbp_eq, ↓mbnd_eq, ↓mix_ite, ↓mdiv_ite, ↓mnz_ite, nI_add, nI_mul, nI_nat, nI_ltE, nI_leE, nI_eqE, nI_eqN, nI_Neq, nI_Nlt, nI_Nle, nI_ltN, nI_leN, ↓reduceIte, ↓Nat.reduceEqDiff, and_f, nt_e, nt_t, nl_t, nl_f, ne_t, ne_f, and_self, or_self, or_true, true_or, or_false, false_or, if_true, if_false, and_true, true_and, and_false, false_and, not_true, not_false_iff]
/-- how many keys are on the curve in 12 24 -/
theorem c_count {M : Mem} {g T n : Nat} {s t ky : Nat → Nat} (h5 : M g 1 5 = nI n) (hn : n ≤ 8) (hk : ∀ k, k < n → M g 4 k = nI (ky k) ∧ ky k < 8) (hs : ∀ k, k < 8 → M g 2 k = nI (s k) ∧ s k ≤ 96) (hc : ∀ k, k < 3 → M 12 24 k = nI (cf T s t k).val) : f_X8_countOnCurve g M = some (nI (cnt (fun k => onC T s t (ky k)) n)) := by
  unfold f_X8_countOnCurve
  generalize hN : (1000 : Nat) = N
  have key := mloop (F := fun m x s kk => f_X8_countOnCurve_L4 g M m s x kk) (c := n) (fun x => nI (cnt (fun k => onC T s t (ky k)) x)) (fun m x kk hx => by
    show f_X8_countOnCurve_L4 g M (m + 1) (nI (cnt (fun k => onC T s t (ky k)) x)) (nI x) kk = f_X8_countOnCurve_L4 g M m (nI (cnt (fun k => onC T s t (ky k)) (x + 1))) (nI (x + 1)) kk
    obtain ⟨e1, l1⟩ := hk x hx
    obtain ⟨e2, l2⟩ := hs (ky x) l1
    have lc := fun k => (cf T s t k).isLt
    have l0 := lc 0
    have l1' := lc 1
    have l2' := lc 2
    have e3 := c_valueOn (x := ky x + 1) (hc 0 (by decide)) (hc 1 (by decide)) (hc 2 (by decide)) (by omega) (by omega) (by omega) (by omega)
    have e4 : (((cf T s t 2).val * (ky x + 1) + (cf T s t 1).val) % 97 * (ky x + 1) + (cf T s t 0).val) % 97 = thr T s t (ky x + 1) := by
      refine zz_eq (Nat.mod_lt _ (by decide)) thr_lt ?_
      rw [zz_thr, zz_mod, zz_add, zz_mul, zz_mod, zz_add, zz_mul, zz_self, zz_self, zz_self]
      unfold ev
      generalize cf T s t 0 = a
      generalize cf T s t 1 = b
      generalize cf T s t 2 = c
      generalize zz (ky x + 1) = d
      clear e1 l1 e2 l2 lc l0 l1' l2' e3
      grobner
    rw [e4] at e3
    have lt := thr_lt (T := T) (s := s) (t := t) (x := ky x + 1)
    have lx := cnt_le (P := fun k => onC T s t (ky k)) x
    rw [f_X8_countOnCurve_L4.eq_2, cnt_s]
    unfold f_X6_positionOf
    generalize cnt (fun k => onC T s t (ky k)) x = cx at lx ⊢
    by_cases q : thr T s t (ky x + 1) = s (ky x)
    · have e5 : onC T s t (ky x) = true := by rw [onC_t]; exact q
      simp (disch := omega) only [lit_0, lit_1, lit_2, lit_3, lit_4, lit_5, lit_6, lit_7, lit_8, lit_9, lit_10, lit_11, lit_12, lit_13, lit_14, lit_15, lit_16, lit_20, lit_23, lit_24, lit_31, lit_32, lit_39, lit_43, lit_45, lit_47, lit_48, lit_56, lit_57, lit_59, lit_60, lit_62, lit_63, lit_89, lit_92, lit_96, lit_97, lit_99, lit_100, lit_102, lit_103, lit_104, lit_110, lit_111, lit_115, lit_117, lit_194, lit_200, lit_644, lit_736, lit_999, lit_1000, lit_9999, lit_10000, lit_1000000000, ↓wp_mlet, ↓wp_mbp, ↓wp_ite, ↓wp_mix, ↓wp_mdiv, ↓wp_mnz, ↓wp_some, ↓wp_mbnd, ↓mlet_eq, ↓mbp_eq, ↓mbnd_eq, ↓mix_ite, ↓mdiv_ite, ↓mnz_ite, nI_add, nI_mul, nI_nat, nI_ltE, nI_leE, nI_eqE, nI_eqN, nI_Neq, nI_Nlt, nI_Nle, nI_ltN, nI_leN, ↓reduceIte, ↓Nat.reduceEqDiff, and_f, nt_e, nt_t, nl_t, nl_f, ne_t, ne_f, and_self, or_self, or_true, true_or, or_false, false_or, if_true, if_false, and_true, true_and, and_false, false_and, not_true, not_false_iff, e1, e2, e3, e5, h5, Bool.toNat_true]
    · have e5 : onC T s t (ky x) = false := by rw [onC_f]; exact q
      simp (disch := omega) only [lit_0, lit_1, lit_2, lit_3, lit_4, lit_5, lit_6, lit_7, lit_8, lit_9, lit_10, lit_11, lit_12, lit_13, lit_14, lit_15, lit_16, lit_20, lit_23, lit_24, lit_31, lit_32, lit_39, lit_43, lit_45, lit_47, lit_48, lit_56, lit_57, lit_59, lit_60, lit_62, lit_63, lit_89, lit_92, lit_96, lit_97, lit_99, lit_100, lit_102, lit_103, lit_104, lit_110, lit_111, lit_115, lit_117, lit_194, lit_200, lit_644, lit_736, lit_999, lit_1000, lit_9999, lit_10000, lit_1000000000, ↓wp_mlet, ↓wp_mbp, ↓wp_ite, ↓wp_mix, ↓wp_mdiv, ↓wp_mnz, ↓wp_some, ↓wp_mbnd, ↓mlet_eq, ↓mbp_eq, ↓mbnd_eq, ↓mix_ite, ↓mdiv_ite, ↓mnz_ite, nI_add, nI_mul, nI_nat, nI_ltE, nI_leE, nI_eqE, nI_eqN, nI_Neq, nI_Nlt, nI_Nle, nI_ltN, nI_leN, ↓reduceIte, ↓Nat.reduceEqDiff, and_f, nt_e, nt_t, nl_t, nl_f, ne_t, ne_f, and_self, or_self, or_true, true_or, or_false, false_or, if_true, if_false, and_true, true_and, and_false, false_and, not_true, not_false_iff, e1, e2, e3, e5, h5, Bool.toNat_false, Nat.add_zero]) (fun m kk => by
    show f_X8_countOnCurve_L4 g M (m + 1) (nI (cnt (fun k => onC T s t (ky k)) n)) (nI n) kk = _
    rw [f_X8_countOnCurve_L4.eq_2]
    simp (disch := omega) only [lit_0, lit_1, lit_2, lit_3, lit_4, lit_5, lit_6, lit_7, lit_8, lit_9, lit_10, lit_11, lit_12, lit_13, lit_14, lit_15, lit_16, lit_20, lit_23, lit_24, lit_31, lit_32, lit_39, lit_43, lit_45, lit_47, lit_48, lit_56, lit_57, lit_59, lit_60, lit_62, lit_63, lit_89, lit_92, lit_96, lit_97, lit_99, lit_100, lit_102, lit_103, lit_104, lit_110, lit_111, lit_115, lit_117, lit_194, lit_200, lit_644, lit_736, lit_999, lit_1000, lit_9999, lit_10000, lit_1000000000, ↓wp_mlet, ↓wp_mbp, ↓wp_ite, ↓wp_mix, ↓wp_mdiv, ↓wp_mnz, ↓wp_some, ↓wp_mbnd, ↓mlet_eq, ↓mbp_eq, ↓mbnd_eq, ↓mix_ite, ↓mdiv_ite, ↓mnz_ite, nI_add, nI_mul, nI_nat, nI_ltE, nI_leE, nI_eqE, nI_eqN, nI_Neq, nI_Nlt, nI_Nle, nI_ltN, nI_leN, ↓reduceIte, ↓Nat.reduceEqDiff, and_f, nt_e, nt_t, nl_t, nl_f, ne_t, ne_f, and_self, or_self, or_true, true_or, or_false, false_or, if_true, if_false, and_true, true_and, and_false, false_and, not_true, not_false_iff, h5]) n N 0 (fun x => some x) (by omega) (by omega)
  exact key
/-- the model's count -/
theorem m_onIt {M : Mem} {T n : Nat} {s t ky : Nat → Nat} (h : Lm M T s t) (h9 : M 12 48 9 = nI n) (hn : n ≤ 8) (hk : ∀ k, k < n → M 12 48 (23 + k) = nI (ky k) ∧ ky k < 8) : f_X12_onIt M = some (nI (cnt (fun k => onC T s t (ky k)) n)) := by
  obtain ⟨h3, hT, hs, ht, hu⟩ := id h
  unfold f_X12_onIt
  generalize hN : (1000 : Nat) = N
  have key := mloop (F := fun m x s kk => f_X12_onIt_L4 M m s x kk) (c := n) (fun x => nI (cnt (fun k => onC T s t (ky k)) x)) (fun m x kk hx => by
    show f_X12_onIt_L4 M (m + 1) (nI (cnt (fun k => onC T s t (ky k)) x)) (nI x) kk = f_X12_onIt_L4 M m (nI (cnt (fun k => onC T s t (ky k)) (x + 1))) (nI (x + 1)) kk
    obtain ⟨e1, l1⟩ := hk x hx
    obtain ⟨e2, l2⟩ := hs (ky x) l1
    have e3 := m_thr h (x := ky x + 1) (by omega)
    have lt := thr_lt (T := T) (s := s) (t := t) (x := ky x + 1)
    have lx := cnt_le (P := fun k => onC T s t (ky k)) x
    rw [f_X12_onIt_L4.eq_2, cnt_s]
    generalize cnt (fun k => onC T s t (ky k)) x = cx at lx ⊢
    by_cases q : thr T s t (ky x + 1) = s (ky x)
    · have e5 : onC T s t (ky x) = true := by rw [onC_t]; exact q
      simp (disch := omega) only [lit_0, lit_1, lit_2, lit_3, lit_4, lit_5, lit_6, lit_7, lit_8, lit_9, lit_10, lit_11, lit_12, lit_13, lit_14, lit_15, lit_16, lit_20, lit_23, lit_24, lit_31, lit_32, lit_39, lit_43, lit_45, lit_47, lit_48, lit_56, lit_57, lit_59, lit_60, lit_62, lit_63, lit_89, lit_92, lit_96, lit_97, lit_99, lit_100, lit_102, lit_103, lit_104, lit_110, lit_111, lit_115, lit_117, lit_194, lit_200, lit_644, lit_736, lit_999, lit_1000, lit_9999, lit_10000, lit_1000000000, ↓wp_mlet, ↓wp_mbp, ↓wp_ite, ↓wp_mix, ↓wp_mdiv, ↓wp_mnz, ↓wp_some, ↓wp_mbnd, ↓mlet_eq, ↓mbp_eq, ↓mbnd_eq, ↓mix_ite, ↓mdiv_ite, ↓mnz_ite, nI_add, nI_mul, nI_nat, nI_ltE, nI_leE, nI_eqE, nI_eqN, nI_Neq, nI_Nlt, nI_Nle, nI_ltN, nI_leN, ↓reduceIte, ↓Nat.reduceEqDiff, and_f, nt_e, nt_t, nl_t, nl_f, ne_t, ne_f, and_self, or_self, or_true, true_or, or_false, false_or, if_true, if_false, and_true, true_and, and_false, false_and, not_true, not_false_iff, h9, e1, e2, e3, e5, Bool.toNat_true]
    · have e5 : onC T s t (ky x) = false := by rw [onC_f]; exact q
      simp (disch := omega) only [lit_0, lit_1, lit_2, lit_3, lit_4, lit_5, lit_6, lit_7, lit_8, lit_9, lit_10, lit_11, lit_12, lit_13, lit_14, lit_15, lit_16, lit_20, lit_23, lit_24, lit_31, lit_32, lit_39, lit_43, lit_45, lit_47, lit_48, lit_56, lit_57, lit_59, lit_60, lit_62, lit_63, lit_89, lit_92, lit_96, lit_97, lit_99, lit_100, lit_102, lit_103, lit_104, lit_110, lit_111, lit_115, lit_117, lit_194, lit_200, lit_644, lit_736, lit_999, lit_1000, lit_9999, lit_10000, lit_1000000000, ↓wp_mlet, ↓wp_mbp, ↓wp_ite, ↓wp_mix, ↓wp_mdiv, ↓wp_mnz, ↓wp_some, ↓wp_mbnd, ↓mlet_eq, ↓mbp_eq, ↓mbnd_eq, ↓mix_ite, ↓mdiv_ite, ↓mnz_ite, nI_add, nI_mul, nI_nat, nI_ltE, nI_leE, nI_eqE, nI_eqN, nI_Neq, nI_Nlt, nI_Nle, nI_ltN, nI_leN, ↓reduceIte, ↓Nat.reduceEqDiff, and_f, nt_e, nt_t, nl_t, nl_f, ne_t, ne_f, and_self, or_self, or_true, true_or, or_false, false_or, if_true, if_false, and_true, true_and, and_false, false_and, not_true, not_false_iff, h9, e1, e2, e3, e5, Bool.toNat_false, Nat.add_zero]) (fun m kk => by
    show f_X12_onIt_L4 M (m + 1) (nI (cnt (fun k => onC T s t (ky k)) n)) (nI n) kk = _
    rw [f_X12_onIt_L4.eq_2]
    simp (disch := omega) only [lit_0, lit_1, lit_2, lit_3, lit_4, lit_5, lit_6, lit_7, lit_8, lit_9, lit_10, lit_11, lit_12, lit_13, lit_14, lit_15, lit_16, lit_20, lit_23, lit_24, lit_31, lit_32, lit_39, lit_43, lit_45, lit_47, lit_48, lit_56, lit_57, lit_59, lit_60, lit_62, lit_63, lit_89, lit_92, lit_96, lit_97, lit_99, lit_100, lit_102, lit_103, lit_104, lit_110, lit_111, lit_115, lit_117, lit_194, lit_200, lit_644, lit_736, lit_999, lit_1000, lit_9999, lit_10000, lit_1000000000, ↓wp_mlet, ↓wp_mbp, ↓wp_ite, ↓wp_mix, ↓wp_mdiv, ↓wp_mnz, ↓wp_some, ↓wp_mbnd, ↓mlet_eq, ↓mbp_eq, ↓mbnd_eq, ↓mix_ite, ↓mdiv_ite, ↓mnz_ite, nI_add, nI_mul, nI_nat, nI_ltE, nI_leE, nI_eqE, nI_eqN, nI_Neq, nI_Nlt, nI_Nle, nI_ltN, nI_leN, ↓reduceIte, ↓Nat.reduceEqDiff, and_f, nt_e, nt_t, nl_t, nl_f, ne_t, ne_f, and_self, or_self, or_true, true_or, or_false, false_or, if_true, if_false, and_true, true_and, and_false, false_and, not_true, not_false_iff, h9]) n N 0 (fun x => some x) (by omega) (by omega)
  exact key
