/-! THE MODEL'S MOST -/
theorem mx_zero {f : Nat → Nat} {n : Nat} (h : ∀ k, k < n → f k = 0) : mx f n = 0 := Nat.le_zero.mp (mx_le n (fun k hk => Nat.le_of_eq (h k hk)))
def ut (u : Nat → Nat) (c k : Nat) : Nat → Nat := fun i => if i = c then k else u i
theorem ut_at {u : Nat → Nat} {c k i : Nat} : ut u c k i = if i = c then k else u i := Eq.trans rfl rfl
def wv (n : Nat) (F : (Nat → Nat) → Nat) : Nat → Nat → Nat → (Nat → Nat) → Nat
  | 0, _, _, u => F u
  | d + 1, c, lo, u => mx (fun k => if lo ≤ k then wv n F d (c + 1) (k + 1) (ut u c k) else 0) n
theorem wv_s {n : Nat} {F : (Nat → Nat) → Nat} {d c lo : Nat} {u : Nat → Nat} : wv n F (d + 1) c lo u = mx (fun k => if lo ≤ k then wv n F d (c + 1) (k + 1) (ut u c k) else 0) n := Eq.trans rfl rfl
theorem wv_le {n B : Nat} {F : (Nat → Nat) → Nat} (hF : ∀ u, F u ≤ B) : ∀ d c lo u, wv n F d c lo u ≤ B
  | 0, _, _, u => hF u
  | d + 1, c, lo, u => by
    rw [wv_s]
    refine mx_le n (fun k _ => ?_)
    split
    · exact wv_le hF d _ _ _
    · exact Nat.zero_le _
/-- the vault's keys, as the model has them -/
def Km (M : Mem) (T n : Nat) (s ky : Nat → Nat) : Prop := (M 12 48 5 = nI T ∧ (1 ≤ T ∧ T ≤ 3) ∧ T ≤ n ∧ n ≤ 8 ∧ M 12 48 9 = nI n) ∧ (∀ k, k < 8 → M 12 48 (15 + k) = nI (s k) ∧ s k ≤ 96) ∧ (∀ k, k < n → M 12 48 (23 + k) = nI (ky k)) ∧ Tu n ky
theorem Km.frame {M M1 : Mem} {T n : Nat} {s ky : Nat → Nat} (h : Km M T n s ky) (hf : M1 12 48 = M 12 48) : Km M1 T n s ky := by
  unfold Km
  rw [hf]
  exact h
/-- c places chosen, below lo -/
def Cho (M : Mem) (c lo : Nat) (ky u : Nat → Nat) : Prop := (∀ i, i < c → M 12 56 i = nI (ky (u i)) ∧ u i < lo) ∧ ∀ i j, i < j → j < c → u i < u j
def Fr (c : Nat) (M M1 : Mem) : Prop := ∀ a b k, ¬ (a = 12 ∧ b = 56 ∧ c ≤ k) → M1 a b k = M a b k
theorem Cho.lm {M : Mem} {T n lo : Nat} {s ky u : Nat → Nat} (h : Km M T n s ky) (hc : Cho M T lo ky u) (hlo : lo ≤ n) : Lm M T s (fun i => ky (u i)) := by
  obtain ⟨⟨h1, h2, h3, h4, h5⟩, h6, h7, h8⟩ := h
  obtain ⟨c1, c2⟩ := hc
  refine ⟨h1, h2, h6, fun i hi => (c1 i hi).1, fun i hi => h8.1 _ (by have := (c1 i hi).2; omega), fun i j h1 h2 => h8.2 _ _ (c2 i j h1 h2) (by have := (c1 j h2).2; omega)⟩
theorem m_base {M : Mem} {T n lo : Nat} {s ky u : Nat → Nat} (h : Km M T n s ky) (hc : Cho M T lo ky u) (hlo : lo ≤ n) : f_X12_onIt M = some (nI (onN T n s ky u)) :=
  m_onIt (hc.lm h hlo) h.1.2.2.2.2 h.1.2.2.2.1 (fun k hk => ⟨h.2.2.1 k hk, h.2.2.2.1 k hk⟩)
theorem m_most0 {M : Mem} {T n lo : Nat} {s ky u : Nat → Nat} (h : Km M T n s ky) (hT : 3 ≤ T) (hc : Cho M 3 lo ky u) (hlo : lo ≤ n) : wp (f_X12_most_0 (nI 3) (nI lo) M) fun r M1 => r = nI (wv n (onN T n s ky) (T - 3) 3 lo u) ∧ Fr 3 M M1 := by
  obtain rfl : T = 3 := by have := h.1.2.1.2; omega
  have e := m_base h hc hlo
  have e5 := h.1.1
  unfold f_X12_most_0
  simp (disch := omega) only [lit_0, lit_1, lit_2, lit_3, lit_4, lit_5, lit_6, lit_7, lit_8, lit_9, lit_10, lit_11, lit_12, lit_13, lit_14, lit_15, lit_16, lit_20, lit_23, lit_24, lit_31, lit_32, lit_39, lit_43, lit_45, lit_47, lit_48, lit_56, lit_57, lit_59, lit_60, lit_62, lit_63, lit_89, lit_92, lit_96, lit_97, lit_99, lit_100, lit_102, lit_103, lit_104, lit_110, lit_111, lit_115, lit_117, lit_194, lit_200, lit_644, lit_736, lit_999, lit_1000, lit_9999, lit_10000, lit_1000000000, ↓wp_mlet, ↓wp_mbp, ↓wp_ite, ↓wp_mix, ↓wp_mdiv, ↓wp_mnz, ↓wp_some, ↓wp_mbnd, ↓mlet_eq, ↓mbp_eq, ↓mbnd_eq, ↓mix_ite, ↓mdiv_ite, ↓mnz_ite, nI_add, nI_mul, nI_nat, nI_ltE, nI_leE, nI_eqE, nI_eqN, nI_Neq, nI_Nlt, nI_Nle, nI_ltN, nI_leN, ↓reduceIte, ↓Nat.reduceEqDiff, and_f, nt_e, nt_t, nl_t, nl_f, ne_t, ne_f, and_self, or_self, or_true, true_or, or_false, false_or, if_true, if_false, and_true, true_and, and_false, false_and, not_true, not_false_iff, e5, e]
  exact ⟨rfl, fun _ _ _ _ => rfl⟩
theorem m_most1 {M : Mem} {T n lo : Nat} {s ky u : Nat → Nat} (h : Km M T n s ky) (hT : 2 ≤ T) (hc : Cho M 2 lo ky u) (hlo : lo ≤ n) : wp (f_X12_most_1 (nI 2) (nI lo) M) fun r M1 => r = nI (wv n (onN T n s ky) (T - 2) 2 lo u) ∧ Fr 2 M M1 := by
  have e5 := h.1.1
  have hT3 := h.1.2.1.2
  have hn8 := h.1.2.2.2.1
  unfold f_X12_most_1
  generalize hN : (1000 : Nat) = N
  by_cases q : T = 2
  · have e := m_base (T := T) h (by rw [q]; exact hc) hlo
    simp (disch := omega) only [lit_0, lit_1, lit_2, lit_3, lit_4, lit_5, lit_6, lit_7, lit_8, lit_9, lit_10, lit_11, lit_12, lit_13, lit_14, lit_15, lit_16, lit_20, lit_23, lit_24, lit_31, lit_32, lit_39, lit_43, lit_45, lit_47, lit_48, lit_56, lit_57, lit_59, lit_60, lit_62, lit_63, lit_89, lit_92, lit_96, lit_97, lit_99, lit_100, lit_102, lit_103, lit_104, lit_110, lit_111, lit_115, lit_117, lit_194, lit_200, lit_644, lit_736, lit_999, lit_1000, lit_9999, lit_10000, lit_1000000000, ↓wp_mlet, ↓wp_mbp, ↓wp_ite, ↓wp_mix, ↓wp_mdiv, ↓wp_mnz, ↓wp_some, ↓wp_mbnd, ↓mlet_eq, ↓mbp_eq, ↓mbnd_eq, ↓mix_ite, ↓mdiv_ite, ↓mnz_ite, nI_add, nI_mul, nI_nat, nI_ltE, nI_leE, nI_eqE, nI_eqN, nI_Neq, nI_Nlt, nI_Nle, nI_ltN, nI_leN, ↓reduceIte, ↓Nat.reduceEqDiff, and_f, nt_e, nt_t, nl_t, nl_f, ne_t, ne_f, and_self, or_self, or_true, true_or, or_false, false_or, if_true, if_false, and_true, true_and, and_false, false_and, not_true, not_false_iff, e5, e]
    refine ⟨?_, fun _ _ _ _ => rfl⟩
    rw [q, Nat.sub_self]
    rfl
  · simp (disch := omega) only [lit_0, lit_1, lit_2, lit_3, lit_4, lit_5, lit_6, lit_7, lit_8, lit_9, lit_10, lit_11, lit_12, lit_13, lit_14, lit_15, lit_16, lit_20, lit_23, lit_24, lit_31, lit_32, lit_39, lit_43, lit_45, lit_47, lit_48, lit_56, lit_57, lit_59, lit_60, lit_62, lit_63, lit_89, lit_92, lit_96, lit_97, lit_99, lit_100, lit_102, lit_103, lit_104, lit_110, lit_111, lit_115, lit_117, lit_194, lit_200, lit_644, lit_736, lit_999, lit_1000, lit_9999, lit_10000, lit_1000000000, ↓wp_mlet, ↓wp_mbp, ↓wp_ite, ↓wp_mix, ↓wp_mdiv, ↓wp_mnz, ↓wp_some, ↓wp_mbnd, ↓mlet_eq, ↓mbp_eq, ↓mbnd_eq, ↓mix_ite, ↓mdiv_ite, ↓mnz_ite, nI_add, nI_mul, nI_nat, nI_ltE, nI_leE, nI_eqE, nI_eqN, nI_Neq, nI_Nlt, nI_Nle, nI_ltN, nI_leN, ↓reduceIte, ↓Nat.reduceEqDiff, and_f, nt_e, nt_t, nl_t, nl_f, ne_t, ne_f, and_self, or_self, or_true, true_or, or_false, false_or, if_true, if_false, and_true, true_and, and_false, false_and, not_true, not_false_iff, e5]
    obtain ⟨d, hd⟩ : ∃ d, T - 2 = d + 1 := ⟨T - 2 - 1, by omega⟩
    have hd2 : T - 3 = d := by omega
    have lw : ∀ c lo u, wv n (onN T n s ky) d c lo u ≤ n := fun c lo u => wv_le (fun u => onN_le) d c lo u
    obtain ⟨s2, ⟨hv, -, hf⟩, key⟩ := mloopP (F := fun m x (s2 : Int32 × Mem) kk => f_X12_most_1_L20 (nI 2) m s2.1 x s2.2 (fun a b => kk (a, b))) (c := n) (fun x s2 => s2.1 = nI (mx (fun k => if lo ≤ k then wv n (onN T n s ky) d 3 (k + 1) (ut u 2 k) else 0) x) ∧ lo ≤ x ∧ Fr 2 M s2.2) (fun m x s2 kk hx hP => by
      obtain ⟨v, M1⟩ := s2
      obtain ⟨hv, hx1, hf⟩ := hP
      simp only [] at hv hx1 hf
      subst hv
      have f48 : M1 12 48 = M 12 48 := funext fun k => hf 12 48 k (by omega)
      have hK1 : Km M1 T n s ky := h.frame f48
      have e9 := hK1.1.2.2.2.2
      have ek := hK1.2.2.1 x hx
      have hK2 : Km (mup M1 12 56 2 (nI (ky x))) T n s ky := hK1.frame (pm_ne (by decide))
      have hc2 : Cho (mup M1 12 56 2 (nI (ky x))) 3 (x + 1) ky (ut u 2 x) := by
        refine ⟨fun i hi => ?_, fun i j h1 h2 => ?_⟩
        · rw [mup_at, ut_at]
          by_cases r : i = 2
          · rw [if_pos (by omega), if_pos r]
            exact ⟨rfl, by omega⟩
          · rw [if_neg (by omega), if_neg r, hf 12 56 i (by omega)]
            have := hc.1 i (by omega)
            exact ⟨this.1, by omega⟩
        · rw [ut_at, ut_at, if_neg (by omega)]
          by_cases r : j = 2
          · rw [if_pos r]
            have := (hc.1 i (by omega)).2
            omega
          · rw [if_neg r]
            exact hc.2 i j h1 (by omega)
      obtain ⟨r, M3, e, h3, h4⟩ := m_most0 hK2 (by omega) hc2 (by omega)
      subst h3
      rw [hd2] at e
      have l1 := lw 3 (x + 1) (ut u 2 x)
      have l2 : mx (fun k => if lo ≤ k then wv n (onN T n s ky) d 3 (k + 1) (ut u 2 k) else 0) x ≤ n := mx_le x (fun k _ => by
        split
        · exact lw _ _ _
        · exact Nat.zero_le _)
      refine ⟨(nI (mx (fun k => if lo ≤ k then wv n (onN T n s ky) d 3 (k + 1) (ut u 2 k) else 0) (x + 1)), M3), ⟨rfl, by omega, fun a b k hab => ?_⟩, ?_⟩
      · show M3 a b k = M a b k
        rw [h4 a b k (by omega), mup_at, if_neg (by omega), hf a b k hab]
      · show f_X12_most_1_L20 (nI 2) (m + 1) (nI (mx (fun k => if lo ≤ k then wv n (onN T n s ky) d 3 (k + 1) (ut u 2 k) else 0) x)) (nI x) M1 _ = f_X12_most_1_L20 (nI 2) m (nI (mx (fun k => if lo ≤ k then wv n (onN T n s ky) d 3 (k + 1) (ut u 2 k) else 0) (x + 1))) (nI (x + 1)) M3 _
        rw [f_X12_most_1_L20.eq_2, mx_s]
        simp only [if_pos hx1]
        generalize mx (fun k => if lo ≤ k then wv n (onN T n s ky) d 3 (k + 1) (ut u 2 k) else 0) x = y at l2 ⊢
        generalize wv n (onN T n s ky) d 3 (x + 1) (ut u 2 x) = z at l1 e ⊢
        by_cases r : y < z
        · simp (disch := omega) only [lit_0, lit_1, lit_2, lit_3, lit_4, lit_5, lit_6, lit_7, lit_8, lit_9, lit_10, lit_11, lit_12, lit_13, lit_14, lit_15, lit_16, lit_20, lit_23, lit_24, lit_31, lit_32, lit_39, lit_43, lit_45, lit_47, lit_48, lit_56, lit_57, lit_59, lit_60, lit_62, lit_63, lit_89, lit_92, lit_96, lit_97, lit_99, lit_100, lit_102, lit_103, lit_104, lit_110, lit_111, lit_115, lit_117, lit_194, lit_200, lit_644, lit_736, lit_999, lit_1000, lit_9999, lit_10000, lit_1000000000, ↓wp_mlet, ↓wp_mbp, ↓wp_ite, ↓wp_mix, ↓wp_mdiv, ↓wp_mnz, ↓wp_some, ↓wp_mbnd, ↓mlet_eq, ↓mbp_eq, ↓mbnd_eq, ↓mix_ite, ↓mdiv_ite, ↓mnz_ite, nI_add, nI_mul, nI_nat, nI_ltE, nI_leE, nI_eqE, nI_eqN, nI_Neq, nI_Nlt, nI_Nle, nI_ltN, nI_leN, ↓reduceIte, ↓Nat.reduceEqDiff, and_f, nt_e, nt_t, nl_t, nl_f, ne_t, ne_f, and_self, or_self, or_true, true_or, or_false, false_or, if_true, if_false, and_true, true_and, and_false, false_and, not_true, not_false_iff, e9, ek, e]
        · simp (disch := omega) only [lit_0, lit_1, lit_2, lit_3, lit_4, lit_5, lit_6, lit_7, lit_8, lit_9, lit_10, lit_11, lit_12, lit_13, lit_14, lit_15, lit_16, lit_20, lit_23, lit_24, lit_31, lit_32, lit_39, lit_43, lit_45, lit_47, lit_48, lit_56, lit_57, lit_59, lit_60, lit_62, lit_63, lit_89, lit_92, lit_96, lit_97, lit_99, lit_100, lit_102, lit_103, lit_104, lit_110, lit_111, lit_115, lit_117, lit_194, lit_200, lit_644, lit_736, lit_999, lit_1000, lit_9999, lit_10000, lit_1000000000, ↓wp_mlet, ↓wp_mbp, ↓wp_ite, ↓wp_mix, ↓wp_mdiv, ↓wp_mnz, ↓wp_some, ↓wp_mbnd, ↓mlet_eq, ↓mbp_eq, ↓mbnd_eq, ↓mix_ite, ↓mdiv_ite, ↓mnz_ite, nI_add, nI_mul, nI_nat, nI_ltE, nI_leE, nI_eqE, nI_eqN, nI_Neq, nI_Nlt, nI_Nle, nI_ltN, nI_leN, ↓reduceIte, ↓Nat.reduceEqDiff, and_f, nt_e, nt_t, nl_t, nl_f, ne_t, ne_f, and_self, or_self, or_true, true_or, or_false, false_or, if_true, if_false, and_true, true_and, and_false, false_and, not_true, not_false_iff, e9, ek, e]) (fun m s2 kk hP => by
      obtain ⟨v, M1⟩ := s2
      have e9 : M1 12 48 9 = nI n := (hP.2.2 12 48 9 (by omega)).trans h.1.2.2.2.2
      show f_X12_most_1_L20 (nI 2) (m + 1) v (nI n) M1 (fun a b => kk (a, b)) = kk (v, M1)
      rw [f_X12_most_1_L20.eq_2]
      simp (disch := omega) only [lit_0, lit_1, lit_2, lit_3, lit_4, lit_5, lit_6, lit_7, lit_8, lit_9, lit_10, lit_11, lit_12, lit_13, lit_14, lit_15, lit_16, lit_20, lit_23, lit_24, lit_31, lit_32, lit_39, lit_43, lit_45, lit_47, lit_48, lit_56, lit_57, lit_59, lit_60, lit_62, lit_63, lit_89, lit_92, lit_96, lit_97, lit_99, lit_100, lit_102, lit_103, lit_104, lit_110, lit_111, lit_115, lit_117, lit_194, lit_200, lit_644, lit_736, lit_999, lit_1000, lit_9999, lit_10000, lit_1000000000, ↓wp_mlet, ↓wp_mbp, ↓wp_ite, ↓wp_mix, ↓wp_mdiv, ↓wp_mnz, ↓wp_some, ↓wp_mbnd, ↓mlet_eq, ↓mbp_eq, ↓mbnd_eq, ↓mix_ite, ↓mdiv_ite, ↓mnz_ite, nI_add, nI_mul, nI_nat, nI_ltE, nI_leE, nI_eqE, nI_eqN, nI_Neq, nI_Nlt, nI_Nle, nI_ltN, nI_leN, ↓reduceIte, ↓Nat.reduceEqDiff, and_f, nt_e, nt_t, nl_t, nl_f, ne_t, ne_f, and_self, or_self, or_true, true_or, or_false, false_or, if_true, if_false, and_true, true_and, and_false, false_and, not_true, not_false_iff, e9]) (n - lo) N lo (nI 0, M) (fun s2 => some (s2.1, s2.2)) (by omega) (by omega) ⟨by rw [mx_zero (fun k hk => if_neg (by omega))], Nat.le_refl lo, fun _ _ _ _ => rfl⟩
    rw [key, wp_some, hd, wv_s]
    exact ⟨hv, hf⟩
theorem m_most2 {M : Mem} {T n lo : Nat} {s ky u : Nat → Nat} (h : Km M T n s ky) (hT : 1 ≤ T) (hc : Cho M 1 lo ky u) (hlo : lo ≤ n) : wp (f_X12_most_2 (nI 1) (nI lo) M) fun r M1 => r = nI (wv n (onN T n s ky) (T - 1) 1 lo u) ∧ Fr 1 M M1 := by
  have e5 := h.1.1
  have hT3 := h.1.2.1.2
  have hn8 := h.1.2.2.2.1
  unfold f_X12_most_2
  generalize hN : (1000 : Nat) = N
  by_cases q : T = 1
  · have e := m_base (T := T) h (by rw [q]; exact hc) hlo
    simp (disch := omega) only [lit_0, lit_1, lit_2, lit_3, lit_4, lit_5, lit_6, lit_7, lit_8, lit_9, lit_10, lit_11, lit_12, lit_13, lit_14, lit_15, lit_16, lit_20, lit_23, lit_24, lit_31, lit_32, lit_39, lit_43, lit_45, lit_47, lit_48, lit_56, lit_57, lit_59, lit_60, lit_62, lit_63, lit_89, lit_92, lit_96, lit_97, lit_99, lit_100, lit_102, lit_103, lit_104, lit_110, lit_111, lit_115, lit_117, lit_194, lit_200, lit_644, lit_736, lit_999, lit_1000, lit_9999, lit_10000, lit_1000000000, ↓wp_mlet, ↓wp_mbp, ↓wp_ite, ↓wp_mix, ↓wp_mdiv, ↓wp_mnz, ↓wp_some, ↓wp_mbnd, ↓mlet_eq, ↓mbp_eq, ↓mbnd_eq, ↓mix_ite, ↓mdiv_ite, ↓mnz_ite, nI_add, nI_mul, nI_nat, nI_ltE, nI_leE, nI_eqE, nI_eqN, nI_Neq, nI_Nlt, nI_Nle, nI_ltN, nI_leN, ↓reduceIte, ↓Nat.reduceEqDiff, and_f, nt_e, nt_t, nl_t, nl_f, ne_t, ne_f, and_self, or_self, or_true, true_or, or_false, false_or, if_true, if_false, and_true, true_and, and_false, false_and, not_true, not_false_iff, e5, e]
    refine ⟨?_, fun _ _ _ _ => rfl⟩
    rw [q, Nat.sub_self]
    rfl
  · simp (disch := omega) only [lit_0, lit_1, lit_2, lit_3, lit_4, lit_5, lit_6, lit_7, lit_8, lit_9, lit_10, lit_11, lit_12, lit_13, lit_14, lit_15, lit_16, lit_20, lit_23, lit_24, lit_31, lit_32, lit_39, lit_43, lit_45, lit_47, lit_48, lit_56, lit_57, lit_59, lit_60, lit_62, lit_63, lit_89, lit_92, lit_96, lit_97, lit_99, lit_100, lit_102, lit_103, lit_104, lit_110, lit_111, lit_115, lit_117, lit_194, lit_200, lit_644, lit_736, lit_999, lit_1000, lit_9999, lit_10000, lit_1000000000, ↓wp_mlet, ↓wp_mbp, ↓wp_ite, ↓wp_mix, ↓wp_mdiv, ↓wp_mnz, ↓wp_some, ↓wp_mbnd, ↓mlet_eq, ↓mbp_eq, ↓mbnd_eq, ↓mix_ite, ↓mdiv_ite, ↓mnz_ite, nI_add, nI_mul, nI_nat, nI_ltE, nI_leE, nI_eqE, nI_eqN, nI_Neq, nI_Nlt, nI_Nle, nI_ltN, nI_leN, ↓reduceIte, ↓Nat.reduceEqDiff, and_f, nt_e, nt_t, nl_t, nl_f, ne_t, ne_f, and_self, or_self, or_true, true_or, or_false, false_or, if_true, if_false, and_true, true_and, and_false, false_and, not_true, not_false_iff, e5]
    obtain ⟨d, hd⟩ : ∃ d, T - 1 = d + 1 := ⟨T - 1 - 1, by omega⟩
    have hd2 : T - 2 = d := by omega
    have lw : ∀ c lo u, wv n (onN T n s ky) d c lo u ≤ n := fun c lo u => wv_le (fun u => onN_le) d c lo u
    obtain ⟨s2, ⟨hv, -, hf⟩, key⟩ := mloopP (F := fun m x (s2 : Int32 × Mem) kk => f_X12_most_2_L20 (nI 1) m s2.1 x s2.2 (fun a b => kk (a, b))) (c := n) (fun x s2 => s2.1 = nI (mx (fun k => if lo ≤ k then wv n (onN T n s ky) d 2 (k + 1) (ut u 1 k) else 0) x) ∧ lo ≤ x ∧ Fr 1 M s2.2) (fun m x s2 kk hx hP => by
      obtain ⟨v, M1⟩ := s2
      obtain ⟨hv, hx1, hf⟩ := hP
      simp only [] at hv hx1 hf
      subst hv
      have f48 : M1 12 48 = M 12 48 := funext fun k => hf 12 48 k (by omega)
      have hK1 : Km M1 T n s ky := h.frame f48
      have e9 := hK1.1.2.2.2.2
      have ek := hK1.2.2.1 x hx
      have hK2 : Km (mup M1 12 56 1 (nI (ky x))) T n s ky := hK1.frame (pm_ne (by decide))
      have hc2 : Cho (mup M1 12 56 1 (nI (ky x))) 2 (x + 1) ky (ut u 1 x) := by
        refine ⟨fun i hi => ?_, fun i j h1 h2 => ?_⟩
        · rw [mup_at, ut_at]
          by_cases r : i = 1
          · rw [if_pos (by omega), if_pos r]
            exact ⟨rfl, by omega⟩
          · rw [if_neg (by omega), if_neg r, hf 12 56 i (by omega)]
            have := hc.1 i (by omega)
            exact ⟨this.1, by omega⟩
        · rw [ut_at, ut_at, if_neg (by omega)]
          by_cases r : j = 1
          · rw [if_pos r]
            have := (hc.1 i (by omega)).2
            omega
          · rw [if_neg r]
            exact hc.2 i j h1 (by omega)
      obtain ⟨r, M3, e, h3, h4⟩ := m_most1 hK2 (by omega) hc2 (by omega)
      subst h3
      rw [hd2] at e
      have l1 := lw 2 (x + 1) (ut u 1 x)
      have l2 : mx (fun k => if lo ≤ k then wv n (onN T n s ky) d 2 (k + 1) (ut u 1 k) else 0) x ≤ n := mx_le x (fun k _ => by
        split
        · exact lw _ _ _
        · exact Nat.zero_le _)
      refine ⟨(nI (mx (fun k => if lo ≤ k then wv n (onN T n s ky) d 2 (k + 1) (ut u 1 k) else 0) (x + 1)), M3), ⟨rfl, by omega, fun a b k hab => ?_⟩, ?_⟩
      · show M3 a b k = M a b k
        rw [h4 a b k (by omega), mup_at, if_neg (by omega), hf a b k hab]
      · show f_X12_most_2_L20 (nI 1) (m + 1) (nI (mx (fun k => if lo ≤ k then wv n (onN T n s ky) d 2 (k + 1) (ut u 1 k) else 0) x)) (nI x) M1 _ = f_X12_most_2_L20 (nI 1) m (nI (mx (fun k => if lo ≤ k then wv n (onN T n s ky) d 2 (k + 1) (ut u 1 k) else 0) (x + 1))) (nI (x + 1)) M3 _
        rw [f_X12_most_2_L20.eq_2, mx_s]
        simp only [if_pos hx1]
        generalize mx (fun k => if lo ≤ k then wv n (onN T n s ky) d 2 (k + 1) (ut u 1 k) else 0) x = y at l2 ⊢
        generalize wv n (onN T n s ky) d 2 (x + 1) (ut u 1 x) = z at l1 e ⊢
        by_cases r : y < z
        · simp (disch := omega) only [lit_0, lit_1, lit_2, lit_3, lit_4, lit_5, lit_6, lit_7, lit_8, lit_9, lit_10, lit_11, lit_12, lit_13, lit_14, lit_15, lit_16, lit_20, lit_23, lit_24, lit_31, lit_32, lit_39, lit_43, lit_45, lit_47, lit_48, lit_56, lit_57, lit_59, lit_60, lit_62, lit_63, lit_89, lit_92, lit_96, lit_97, lit_99, lit_100, lit_102, lit_103, lit_104, lit_110, lit_111, lit_115, lit_117, lit_194, lit_200, lit_644, lit_736, lit_999, lit_1000, lit_9999, lit_10000, lit_1000000000, ↓wp_mlet, ↓wp_mbp, ↓wp_ite, ↓wp_mix, ↓wp_mdiv, ↓wp_mnz, ↓wp_some, ↓wp_mbnd, ↓mlet_eq, ↓mbp_eq, ↓mbnd_eq, ↓mix_ite, ↓mdiv_ite, ↓mnz_ite, nI_add, nI_mul, nI_nat, nI_ltE, nI_leE, nI_eqE, nI_eqN, nI_Neq, nI_Nlt, nI_Nle, nI_ltN, nI_leN, ↓reduceIte, ↓Nat.reduceEqDiff, and_f, nt_e, nt_t, nl_t, nl_f, ne_t, ne_f, and_self, or_self, or_true, true_or, or_false, false_or, if_true, if_false, and_true, true_and, and_false, false_and, not_true, not_false_iff, e9, ek, e]
        · simp (disch := omega) only [lit_0, lit_1, lit_2, lit_3, lit_4, lit_5, lit_6, lit_7, lit_8, lit_9, lit_10, lit_11, lit_12, lit_13, lit_14, lit_15, lit_16, lit_20, lit_23, lit_24, lit_31, lit_32, lit_39, lit_43, lit_45, lit_47, lit_48, lit_56, lit_57, lit_59, lit_60, lit_62, lit_63, lit_89, lit_92, lit_96, lit_97, lit_99, lit_100, lit_102, lit_103, lit_104, lit_110, lit_111, lit_115, lit_117, lit_194, lit_200, lit_644, lit_736, lit_999, lit_1000, lit_9999, lit_10000, lit_1000000000, ↓wp_mlet, ↓wp_mbp, ↓wp_ite, ↓wp_mix, ↓wp_mdiv, ↓wp_mnz, ↓wp_some, ↓wp_mbnd, ↓mlet_eq, ↓mbp_eq, ↓mbnd_eq, ↓mix_ite, ↓mdiv_ite, ↓mnz_ite, nI_add, nI_mul, nI_nat, nI_ltE, nI_leE, nI_eqE, nI_eqN, nI_Neq, nI_Nlt, nI_Nle, nI_ltN, nI_leN, ↓reduceIte, ↓Nat.reduceEqDiff, and_f, nt_e, nt_t, nl_t, nl_f, ne_t, ne_f, and_self, or_self, or_true, true_or, or_false, false_or, if_true, if_false, and_true, true_and, and_false, false_and, not_true, not_false_iff, e9, ek, e]) (fun m s2 kk hP => by
      obtain ⟨v, M1⟩ := s2
      have e9 : M1 12 48 9 = nI n := (hP.2.2 12 48 9 (by omega)).trans h.1.2.2.2.2
      show f_X12_most_2_L20 (nI 1) (m + 1) v (nI n) M1 (fun a b => kk (a, b)) = kk (v, M1)
      rw [f_X12_most_2_L20.eq_2]
      simp (disch := omega) only [lit_0, lit_1, lit_2, lit_3, lit_4, lit_5, lit_6, lit_7, lit_8, lit_9, lit_10, lit_11, lit_12, lit_13, lit_14, lit_15, lit_16, lit_20, lit_23, lit_24, lit_31, lit_32, lit_39, lit_43, lit_45, lit_47, lit_48, lit_56, lit_57, lit_59, lit_60, lit_62, lit_63, lit_89, lit_92, lit_96, lit_97, lit_99, lit_100, lit_102, lit_103, lit_104, lit_110, lit_111, lit_115, lit_117, lit_194, lit_200, lit_644, lit_736, lit_999, lit_1000, lit_9999, lit_10000, lit_1000000000, ↓wp_mlet, ↓wp_mbp, ↓wp_ite, ↓wp_mix, ↓wp_mdiv, ↓wp_mnz, ↓wp_some, ↓wp_mbnd, ↓mlet_eq, ↓mbp_eq, ↓mbnd_eq, ↓mix_ite, ↓mdiv_ite, ↓mnz_ite, nI_add, nI_mul, nI_nat, nI_ltE, nI_leE, nI_eqE, nI_eqN, nI_Neq, nI_Nlt, nI_Nle, nI_ltN, nI_leN, ↓reduceIte, ↓Nat.reduceEqDiff, and_f, nt_e, nt_t, nl_t, nl_f, ne_t, ne_f, and_self, or_self, or_true, true_or, or_false, false_or, if_true, if_false, and_true, true_and, and_false, false_and, not_true, not_false_iff, e9]) (n - lo) N lo (nI 0, M) (fun s2 => some (s2.1, s2.2)) (by omega) (by omega) ⟨by rw [mx_zero (fun k hk => if_neg (by omega))], Nat.le_refl lo, fun _ _ _ _ => rfl⟩
    rw [key, wp_some, hd, wv_s]
    exact ⟨hv, hf⟩
theorem m_most3 {M : Mem} {T n lo : Nat} {s ky u : Nat → Nat} (h : Km M T n s ky) (hT : 0 ≤ T) (hc : Cho M 0 lo ky u) (hlo : lo ≤ n) : wp (f_X12_most_3 (nI 0) (nI lo) M) fun r M1 => r = nI (wv n (onN T n s ky) (T - 0) 0 lo u) ∧ Fr 0 M M1 := by
  have e5 := h.1.1
  have hT3 := h.1.2.1.2
  have hn8 := h.1.2.2.2.1
  unfold f_X12_most_3
  generalize hN : (1000 : Nat) = N
  by_cases q : T = 0
  · have e := m_base (T := T) h (by rw [q]; exact hc) hlo
    simp (disch := omega) only [lit_0, lit_1, lit_2, lit_3, lit_4, lit_5, lit_6, lit_7, lit_8, lit_9, lit_10, lit_11, lit_12, lit_13, lit_14, lit_15, lit_16, lit_20, lit_23, lit_24, lit_31, lit_32, lit_39, lit_43, lit_45, lit_47, lit_48, lit_56, lit_57, lit_59, lit_60, lit_62, lit_63, lit_89, lit_92, lit_96, lit_97, lit_99, lit_100, lit_102, lit_103, lit_104, lit_110, lit_111, lit_115, lit_117, lit_194, lit_200, lit_644, lit_736, lit_999, lit_1000, lit_9999, lit_10000, lit_1000000000, ↓wp_mlet, ↓wp_mbp, ↓wp_ite, ↓wp_mix, ↓wp_mdiv, ↓wp_mnz, ↓wp_some, ↓wp_mbnd, ↓mlet_eq, ↓mbp_eq, ↓mbnd_eq, ↓mix_ite, ↓mdiv_ite, ↓mnz_ite, nI_add, nI_mul, nI_nat, nI_ltE, nI_leE, nI_eqE, nI_eqN, nI_Neq, nI_Nlt, nI_Nle, nI_ltN, nI_leN, ↓reduceIte, ↓Nat.reduceEqDiff, and_f, nt_e, nt_t, nl_t, nl_f, ne_t, ne_f, and_self, or_self, or_true, true_or, or_false, false_or, if_true, if_false, and_true, true_and, and_false, false_and, not_true, not_false_iff, e5, e]
    refine ⟨?_, fun _ _ _ _ => rfl⟩
    rw [q, Nat.sub_self]
    rfl
  · simp (disch := omega) only [lit_0, lit_1, lit_2, lit_3, lit_4, lit_5, lit_6, lit_7, lit_8, lit_9, lit_10, lit_11, lit_12, lit_13, lit_14, lit_15, lit_16, lit_20, lit_23, lit_24, lit_31, lit_32, lit_39, lit_43, lit_45, lit_47, lit_48, lit_56, lit_57, lit_59, lit_60, lit_62, lit_63, lit_89, lit_92, lit_96, lit_97, lit_99, lit_100, lit_102, lit_103, lit_104, lit_110, lit_111, lit_115, lit_117, lit_194, lit_200, lit_644, lit_736, lit_999, lit_1000, lit_9999, lit_10000, lit_1000000000, ↓wp_mlet, ↓wp_mbp, ↓wp_ite, ↓wp_mix, ↓wp_mdiv, ↓wp_mnz, ↓wp_some, ↓wp_mbnd, ↓mlet_eq, ↓mbp_eq, ↓mbnd_eq, ↓mix_ite, ↓mdiv_ite, ↓mnz_ite, nI_add, nI_mul, nI_nat, nI_ltE, nI_leE, nI_eqE, nI_eqN, nI_Neq, nI_Nlt, nI_Nle, nI_ltN, nI_leN, ↓reduceIte, ↓Nat.reduceEqDiff, and_f, nt_e, nt_t, nl_t, nl_f, ne_t, ne_f, and_self, or_self, or_true, true_or, or_false, false_or, if_true, if_false, and_true, true_and, and_false, false_and, not_true, not_false_iff, e5]
    obtain ⟨d, hd⟩ : ∃ d, T - 0 = d + 1 := ⟨T - 0 - 1, by omega⟩
    have hd2 : T - 1 = d := by omega
    have lw : ∀ c lo u, wv n (onN T n s ky) d c lo u ≤ n := fun c lo u => wv_le (fun u => onN_le) d c lo u
    obtain ⟨s2, ⟨hv, -, hf⟩, key⟩ := mloopP (F := fun m x (s2 : Int32 × Mem) kk => f_X12_most_3_L20 (nI 0) m s2.1 x s2.2 (fun a b => kk (a, b))) (c := n) (fun x s2 => s2.1 = nI (mx (fun k => if lo ≤ k then wv n (onN T n s ky) d 1 (k + 1) (ut u 0 k) else 0) x) ∧ lo ≤ x ∧ Fr 0 M s2.2) (fun m x s2 kk hx hP => by
      obtain ⟨v, M1⟩ := s2
      obtain ⟨hv, hx1, hf⟩ := hP
      simp only [] at hv hx1 hf
      subst hv
      have f48 : M1 12 48 = M 12 48 := funext fun k => hf 12 48 k (by omega)
      have hK1 : Km M1 T n s ky := h.frame f48
      have e9 := hK1.1.2.2.2.2
      have ek := hK1.2.2.1 x hx
      have hK2 : Km (mup M1 12 56 0 (nI (ky x))) T n s ky := hK1.frame (pm_ne (by decide))
      have hc2 : Cho (mup M1 12 56 0 (nI (ky x))) 1 (x + 1) ky (ut u 0 x) := by
        refine ⟨fun i hi => ?_, fun i j h1 h2 => ?_⟩
        · rw [mup_at, ut_at]
          by_cases r : i = 0
          · rw [if_pos (by omega), if_pos r]
            exact ⟨rfl, by omega⟩
          · rw [if_neg (by omega), if_neg r, hf 12 56 i (by omega)]
            have := hc.1 i (by omega)
            exact ⟨this.1, by omega⟩
        · rw [ut_at, ut_at, if_neg (by omega)]
          by_cases r : j = 0
          · rw [if_pos r]
            have := (hc.1 i (by omega)).2
            omega
          · rw [if_neg r]
            exact hc.2 i j h1 (by omega)
      obtain ⟨r, M3, e, h3, h4⟩ := m_most2 hK2 (by omega) hc2 (by omega)
      subst h3
      rw [hd2] at e
      have l1 := lw 1 (x + 1) (ut u 0 x)
      have l2 : mx (fun k => if lo ≤ k then wv n (onN T n s ky) d 1 (k + 1) (ut u 0 k) else 0) x ≤ n := mx_le x (fun k _ => by
        split
        · exact lw _ _ _
        · exact Nat.zero_le _)
      refine ⟨(nI (mx (fun k => if lo ≤ k then wv n (onN T n s ky) d 1 (k + 1) (ut u 0 k) else 0) (x + 1)), M3), ⟨rfl, by omega, fun a b k hab => ?_⟩, ?_⟩
      · show M3 a b k = M a b k
        rw [h4 a b k (by omega), mup_at, if_neg (by omega), hf a b k hab]
      · show f_X12_most_3_L20 (nI 0) (m + 1) (nI (mx (fun k => if lo ≤ k then wv n (onN T n s ky) d 1 (k + 1) (ut u 0 k) else 0) x)) (nI x) M1 _ = f_X12_most_3_L20 (nI 0) m (nI (mx (fun k => if lo ≤ k then wv n (onN T n s ky) d 1 (k + 1) (ut u 0 k) else 0) (x + 1))) (nI (x + 1)) M3 _
        rw [f_X12_most_3_L20.eq_2, mx_s]
        simp only [if_pos hx1]
        generalize mx (fun k => if lo ≤ k then wv n (onN T n s ky) d 1 (k + 1) (ut u 0 k) else 0) x = y at l2 ⊢
        generalize wv n (onN T n s ky) d 1 (x + 1) (ut u 0 x) = z at l1 e ⊢
        by_cases r : y < z
        · simp (disch := omega) only [lit_0, lit_1, lit_2, lit_3, lit_4, lit_5, lit_6, lit_7, lit_8, lit_9, lit_10, lit_11, lit_12, lit_13, lit_14, lit_15, lit_16, lit_20, lit_23, lit_24, lit_31, lit_32, lit_39, lit_43, lit_45, lit_47, lit_48, lit_56, lit_57, lit_59, lit_60, lit_62, lit_63, lit_89, lit_92, lit_96, lit_97, lit_99, lit_100, lit_102, lit_103, lit_104, lit_110, lit_111, lit_115, lit_117, lit_194, lit_200, lit_644, lit_736, lit_999, lit_1000, lit_9999, lit_10000, lit_1000000000, ↓wp_mlet, ↓wp_mbp, ↓wp_ite, ↓wp_mix, ↓wp_mdiv, ↓wp_mnz, ↓wp_some, ↓wp_mbnd, ↓mlet_eq, ↓mbp_eq, ↓mbnd_eq, ↓mix_ite, ↓mdiv_ite, ↓mnz_ite, nI_add, nI_mul, nI_nat, nI_ltE, nI_leE, nI_eqE, nI_eqN, nI_Neq, nI_Nlt, nI_Nle, nI_ltN, nI_leN, ↓reduceIte, ↓Nat.reduceEqDiff, and_f, nt_e, nt_t, nl_t, nl_f, ne_t, ne_f, and_self, or_self, or_true, true_or, or_false, false_or, if_true, if_false, and_true, true_and, and_false, false_and, not_true, not_false_iff, e9, ek, e]
        · simp (disch := omega) only [lit_0, lit_1, lit_2, lit_3, lit_4, lit_5, lit_6, lit_7, lit_8, lit_9, lit_10, lit_11, lit_12, lit_13, lit_14, lit_15, lit_16, lit_20, lit_23, lit_24, lit_31, lit_32, lit_39, lit_43, lit_45, lit_47, lit_48, lit_56, lit_57, lit_59, lit_60, lit_62, lit_63, lit_89, lit_92, lit_96, lit_97, lit_99, lit_100, lit_102, lit_103, lit_104, lit_110, lit_111, lit_115, lit_117, lit_194, lit_200, lit_644, lit_736, lit_999, lit_1000, lit_9999, lit_10000, lit_1000000000, ↓wp_mlet, ↓wp_mbp, ↓wp_ite, ↓wp_mix, ↓wp_mdiv, ↓wp_mnz, ↓wp_some, ↓wp_mbnd, ↓mlet_eq, ↓mbp_eq, ↓mbnd_eq, ↓mix_ite, ↓mdiv_ite, ↓mnz_ite, nI_add, nI_mul, nI_nat, nI_ltE, nI_leE, nI_eqE, nI_eqN, nI_Neq, nI_Nlt, nI_Nle, nI_ltN, nI_leN, ↓reduceIte, ↓Nat.reduceEqDiff, and_f, nt_e, nt_t, nl_t, nl_f, ne_t, ne_f, and_self, or_self, or_true, true_or, or_false, false_or, if_true, if_false, and_true, true_and, and_false, false_and, not_true, not_false_iff, e9, ek, e]) (fun m s2 kk hP => by
      obtain ⟨v, M1⟩ := s2
      have e9 : M1 12 48 9 = nI n := (hP.2.2 12 48 9 (by omega)).trans h.1.2.2.2.2
      show f_X12_most_3_L20 (nI 0) (m + 1) v (nI n) M1 (fun a b => kk (a, b)) = kk (v, M1)
      rw [f_X12_most_3_L20.eq_2]
      simp (disch := omega) only [lit_0, lit_1, lit_2, lit_3, lit_4, lit_5, lit_6, lit_7, lit_8, lit_9, lit_10, lit_11, lit_12, lit_13, lit_14, lit_15, lit_16, lit_20, lit_23, lit_24, lit_31, lit_32, lit_39, lit_43, lit_45, lit_47, lit_48, lit_56, lit_57, lit_59, lit_60, lit_62, lit_63, lit_89, lit_92, lit_96, lit_97, lit_99, lit_100, lit_102, lit_103, lit_104, lit_110, lit_111, lit_115, lit_117, lit_194, lit_200, lit_644, lit_736, lit_999, lit_1000, lit_9999, lit_10000, lit_1000000000, ↓wp_mlet, ↓wp_mbp, ↓wp_ite, ↓wp_mix, ↓wp_mdiv, ↓wp_mnz, ↓wp_some, ↓wp_mbnd, ↓mlet_eq, ↓mbp_eq, ↓mbnd_eq, ↓mix_ite, ↓mdiv_ite, ↓mnz_ite, nI_add, nI_mul, nI_nat, nI_ltE, nI_leE, nI_eqE, nI_eqN, nI_Neq, nI_Nlt, nI_Nle, nI_ltN, nI_leN, ↓reduceIte, ↓Nat.reduceEqDiff, and_f, nt_e, nt_t, nl_t, nl_f, ne_t, ne_f, and_self, or_self, or_true, true_or, or_false, false_or, if_true, if_false, and_true, true_and, and_false, false_and, not_true, not_false_iff, e9]) (n - lo) N lo (nI 0, M) (fun s2 => some (s2.1, s2.2)) (by omega) (by omega) ⟨by rw [mx_zero (fun k hk => if_neg (by omega))], Nat.le_refl lo, fun _ _ _ _ => rfl⟩
    rw [key, wp_some, hd, wv_s]
    exact ⟨hv, hf⟩
