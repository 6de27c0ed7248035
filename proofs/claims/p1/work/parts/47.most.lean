/-! THE MOST -/
def mx (f : Nat → Nat) : Nat → Nat
  | 0 => 0
  | k + 1 => if mx f k < f k then f k else mx f k
theorem mx_s {f : Nat → Nat} {k : Nat} : mx f (k + 1) = if mx f k < f k then f k else mx f k := Eq.trans rfl rfl
theorem mx_ge {f : Nat → Nat} : ∀ n k, k < n → f k ≤ mx f n := by
  intro n
  induction n with
  | zero => intro k hk; omega
  | succ n ih =>
    intro k hk
    rw [mx_s]
    by_cases q : k = n
    · subst q
      split <;> omega
    · have := ih k (by omega)
      split <;> omega
theorem mx_le {f : Nat → Nat} {B : Nat} : ∀ n, (∀ k, k < n → f k ≤ B) → mx f n ≤ B := by
  intro n
  induction n with
  | zero => intro _; exact Nat.zero_le _
  | succ n ih =>
    intro h
    have h1 := ih (fun k hk => h k (by omega))
    have h2 := h n (by omega)
    rw [mx_s]
    split <;> omega
/-- how many keys are on the curve through the keys at places u -/
def onN (T n : Nat) (s ky u : Nat → Nat) : Nat := cnt (fun k => onC T s (fun i => ky (u i)) (ky k)) n
theorem onN_le {T n : Nat} {s ky u : Nat → Nat} : onN T n s ky u ≤ n := cnt_le n
def fC (T n : Nat) (s ky : Nat → Nat) (x : Nat) : Nat := if pop x = T then onN T n s ky (sel x) else 0
theorem fC_at {T n : Nat} {s ky : Nat → Nat} {x : Nat} : fC T n s ky x = if pop x = T then onN T n s ky (sel x) else 0 := Eq.trans rfl rfl
def fS (T : Nat) (s ky : Nat → Nat) (x : Nat) : Nat := if pop x ≤ T ∨ one T s (fun i => ky (sel x i)) (pop x) = true then pop x else 0
theorem fS_at {T : Nat} {s ky : Nat → Nat} {x : Nat} : fS T s ky x = if pop x ≤ T ∨ one T s (fun i => ky (sel x i)) (pop x) = true then pop x else 0 := Eq.trans rfl rfl
theorem fS_0 {T : Nat} {s ky : Nat → Nat} : fS T s ky 0 = 0 := by
  rw [fS_at]
  split <;> rfl
theorem fC_le {T n : Nat} {s ky : Nat → Nat} {x : Nat} : fC T n s ky x ≤ n := by
  rw [fC_at]
  split
  · exact onN_le
  · exact Nat.zero_le _
theorem fS_le {T : Nat} {s ky : Nat → Nat} {x : Nat} : fS T s ky x ≤ 8 := by
  rw [fS_at]
  split
  · exact pop_le
  · exact Nat.zero_le _
theorem Lk_sel {M : Mem} {g T n x : Nat} {s ky : Nat → Nat} (h : Kc M g T n s ky) (hx : x < 2 ^ n) (hT : T ≤ pop x) (hm : ∀ j, j < pop x → M 12 25 j = nI (ky (sel x j))) : Lk M g 12 25 T s (fun i => ky (sel x i)) := by
  obtain ⟨⟨h1, h2, h3, h4, h5⟩, h6, h7, h8⟩ := h
  exact ⟨h1, h2, h6, fun i hi => hm i (by omega), tu_sel h8 h4 hx hT⟩
theorem c_mostC {M : Mem} {g T n : Nat} {s ky : Nat → Nat} (h : Kc M g T n s ky) (hg : g ≠ 12) : wp (f_X8_mostOnCurves g M) fun r M1 => r = nI (mx (fC T n s ky) (2 ^ n)) ∧ ∀ a b, ¬ (a = 12 ∧ 21 ≤ b ∧ b ≤ 25) → M1 a b = M a b := by
  obtain ⟨⟨h1, h2, h3, h4, h5⟩, h6, h7, h8⟩ := id h
  have l := pow_le h4
  have l0 : 0 < 2 ^ n := Nat.pow_pos (by decide)
  unfold f_X8_mostOnCurves
  generalize hN : (1000 : Nat) = N
  obtain ⟨P, hP⟩ : ∃ P, 2 ^ n = P := ⟨_, rfl⟩
  rw [hP] at l l0 ⊢
  obtain ⟨s2, ⟨hv, -, hf⟩, key⟩ := mloopP (F := fun m x (s2 : Int32 × Mem) kk => f_X8_mostOnCurves_L4 g m s2.1 x s2.2 (fun a b => kk (a, b))) (c := P) (fun x s2 => s2.1 = nI (mx (fC T n s ky) x) ∧ 1 ≤ x ∧ ∀ a b, ¬ (a = 12 ∧ 21 ≤ b ∧ b ≤ 25) → s2.2 a b = M a b) (fun m x s2 kk hx hP2 => by
    obtain ⟨v, M1⟩ := s2
    obtain ⟨hv, x1, hf⟩ := hP2
    simp only [] at hv x1 hf
    subst hv
    have hK1 : Kc M1 g T n s ky := h.frame (fun b => hf g b (by omega))
    have e5 : M1 g 1 5 = nI n := hK1.1.2.2.2.2
    have e3 : M1 g 1 3 = nI T := hK1.1.1
    have lp := pop_le (x := x)
    have lm : mx (fC T n s ky) x ≤ 8 := Nat.le_trans (mx_le x (fun k _ => fC_le)) h4
    have ep := fun M => pop_I (x := x) (M := M) (by omega)
    have e6 := nI_shl1 (a := n) (by omega)
    rw [hP] at e6
    by_cases q : pop x = T
    · obtain ⟨⟨⟩, M3, c1, c2, c3⟩ := c_choose hK1 hg (x := x) (by omega)
      have hK3 : Kc M3 g T n s ky := hK1.frame (fun b => c3 g b (by omega))
      have hl := Lk_sel hK3 (x := x) (by omega) (by omega) c2
      obtain ⟨⟨⟩, M4, d1, d2, d3⟩ := c_fit hl hg (by decide)
      have hK4 : Kc M4 g T n s ky := hK3.frame (fun b => d3 g b (by omega))
      have e7 := c_count (T := T) (s := s) (t := fun i => ky (sel x i)) (ky := ky) (n := n) hK4.1.2.2.2.2 h4 (fun k hk => ⟨hK4.2.2.1 k hk, h8.1 k hk⟩) hK4.2.1 d2
      have ef : fC T n s ky x = cnt (fun k => onC T s (fun i => ky (sel x i)) (ky k)) n := by rw [fC_at, if_pos q]; rfl
      have lc : cnt (fun k => onC T s (fun i => ky (sel x i)) (ky k)) n ≤ n := cnt_le n
      refine ⟨(nI (mx (fC T n s ky) (x + 1)), M4), ⟨rfl, by omega, fun a b hab => ?_⟩, ?_⟩
      · show M4 a b = M a b
        rw [d3 a b (by omega), c3 a b (by omega), hf a b hab]
      · show f_X8_mostOnCurves_L4 g (m + 1) (nI (mx (fC T n s ky) x)) (nI x) M1 _ = f_X8_mostOnCurves_L4 g m (nI (mx (fC T n s ky) (x + 1))) (nI (x + 1)) M4 _
        rw [f_X8_mostOnCurves_L4.eq_2, mx_s, ef]
        generalize cnt (fun k => onC T s (fun i => ky (sel x i)) (ky k)) n = c at lc e7 ⊢
        generalize mx (fC T n s ky) x = d at lm ⊢
        by_cases r : d < c
        · simp (disch := omega) only [lit_0, lit_1, lit_2, lit_3, lit_4, lit_5, lit_6, lit_7, lit_8, lit_9, lit_10, lit_11, lit_12, lit_13, lit_14, lit_15, lit_16, lit_20, lit_23, lit_24, lit_31, lit_32, lit_39, lit_43, lit_45, lit_47, lit_48, lit_56, lit_57, lit_59, lit_60, lit_62, lit_63, lit_89, lit_92, lit_96, lit_97, lit_99, lit_100, lit_102, lit_103, lit_104, lit_110, lit_111, lit_115, lit_117, lit_194, lit_200, lit_644, lit_736, lit_999, lit_1000, lit_9999, lit_10000, lit_1000000000, ↓wp_mlet, ↓wp_mbp, ↓wp_ite, ↓wp_mix, ↓wp_mdiv, ↓wp_mnz, ↓wp_some, ↓wp_mbnd, ↓mlet_eq, ↓mbp_eq, ↓mbnd_eq, ↓mix_ite, ↓mdiv_ite, ↓mnz_ite, nI_add, nI_mul, nI_nat, nI_ltE, nI_leE, nI_eqE, nI_eqN, nI_Neq, nI_Nlt, nI_Nle, nI_ltN, nI_leN, ↓reduceIte, ↓Nat.reduceEqDiff, and_f, nt_e, nt_t, nl_t, nl_f, ne_t, ne_f, and_self, or_self, or_true, true_or, or_false, false_or, if_true, if_false, and_true, true_and, and_false, false_and, not_true, not_false_iff, e5, e6, ep, e3, c1, d1, e7]
        · simp (disch := omega) only [lit_0, lit_1, lit_2, lit_3, lit_4, lit_5, lit_6, lit_7, lit_8, lit_9, lit_10, lit_11, lit_12, lit_13, lit_14, lit_15, lit_16, lit_20, lit_23, lit_24, lit_31, lit_32, lit_39, lit_43, lit_45, lit_47, lit_48, lit_56, lit_57, lit_59, lit_60, lit_62, lit_63, lit_89, lit_92, lit_96, lit_97, lit_99, lit_100, lit_102, lit_103, lit_104, lit_110, lit_111, lit_115, lit_117, lit_194, lit_200, lit_644, lit_736, lit_999, lit_1000, lit_9999, lit_10000, lit_1000000000, ↓wp_mlet, ↓wp_mbp, ↓wp_ite, ↓wp_mix, ↓wp_mdiv, ↓wp_mnz, ↓wp_some, ↓wp_mbnd, ↓mlet_eq, ↓mbp_eq, ↓mbnd_eq, ↓mix_ite, ↓mdiv_ite, ↓mnz_ite, nI_add, nI_mul, nI_nat, nI_ltE, nI_leE, nI_eqE, nI_eqN, nI_Neq, nI_Nlt, nI_Nle, nI_ltN, nI_leN, ↓reduceIte, ↓Nat.reduceEqDiff, and_f, nt_e, nt_t, nl_t, nl_f, ne_t, ne_f, and_self, or_self, or_true, true_or, or_false, false_or, if_true, if_false, and_true, true_and, and_false, false_and, not_true, not_false_iff, e5, e6, ep, e3, c1, d1, e7]
    · have ef : fC T n s ky x = 0 := by rw [fC_at, if_neg q]
      refine ⟨(nI (mx (fC T n s ky) (x + 1)), M1), ⟨rfl, by omega, hf⟩, ?_⟩
      show f_X8_mostOnCurves_L4 g (m + 1) (nI (mx (fC T n s ky) x)) (nI x) M1 _ = f_X8_mostOnCurves_L4 g m (nI (mx (fC T n s ky) (x + 1))) (nI (x + 1)) M1 _
      rw [f_X8_mostOnCurves_L4.eq_2, mx_s, ef, if_neg (Nat.not_lt_zero _)]
      generalize mx (fC T n s ky) x = d at lm ⊢
      simp (disch := omega) only [lit_0, lit_1, lit_2, lit_3, lit_4, lit_5, lit_6, lit_7, lit_8, lit_9, lit_10, lit_11, lit_12, lit_13, lit_14, lit_15, lit_16, lit_20, lit_23, lit_24, lit_31, lit_32, lit_39, lit_43, lit_45, lit_47, lit_48, lit_56, lit_57, lit_59, lit_60, lit_62, lit_63, lit_89, lit_92, lit_96, lit_97, lit_99, lit_100, lit_102, lit_103, lit_104, lit_110, lit_111, lit_115, lit_117, lit_194, lit_200, lit_644, lit_736, lit_999, lit_1000, lit_9999, lit_10000, lit_1000000000, ↓wp_mlet, ↓wp_mbp, ↓wp_ite, ↓wp_mix, ↓wp_mdiv, ↓wp_mnz, ↓wp_some, ↓wp_mbnd, ↓mlet_eq, ↓mbp_eq, ↓mbnd_eq, ↓mix_ite, ↓mdiv_ite, ↓mnz_ite, nI_add, nI_mul, nI_nat, nI_ltE, nI_leE, nI_eqE, nI_eqN, nI_Neq, nI_Nlt, nI_Nle, nI_ltN, nI_leN, ↓reduceIte, ↓Nat.reduceEqDiff, and_f, nt_e, nt_t, nl_t, nl_f, ne_t, ne_f, and_self, or_self, or_true, true_or, or_false, false_or, if_true, if_false, and_true, true_and, and_false, false_and, not_true, not_false_iff, e5, e6, ep, e3]) (fun m s2 kk hP2 => by
    obtain ⟨v, M1⟩ := s2
    have hK1 : Kc M1 g T n s ky := h.frame (fun b => hP2.2.2 g b (by omega))
    have e5 : M1 g 1 5 = nI n := hK1.1.2.2.2.2
    have e6 := nI_shl1 (a := n) (by omega)
    rw [hP] at e6
    show f_X8_mostOnCurves_L4 g (m + 1) v (nI P) M1 (fun a b => kk (a, b)) = kk (v, M1)
    rw [f_X8_mostOnCurves_L4.eq_2]
    simp (disch := omega) only [lit_0, lit_1, lit_2, lit_3, lit_4, lit_5, lit_6, lit_7, lit_8, lit_9, lit_10, lit_11, lit_12, lit_13, lit_14, lit_15, lit_16, lit_20, lit_23, lit_24, lit_31, lit_32, lit_39, lit_43, lit_45, lit_47, lit_48, lit_56, lit_57, lit_59, lit_60, lit_62, lit_63, lit_89, lit_92, lit_96, lit_97, lit_99, lit_100, lit_102, lit_103, lit_104, lit_110, lit_111, lit_115, lit_117, lit_194, lit_200, lit_644, lit_736, lit_999, lit_1000, lit_9999, lit_10000, lit_1000000000, ↓wp_mlet, ↓wp_mbp, ↓wp_ite, ↓wp_mix, ↓wp_mdiv, ↓wp_mnz, ↓wp_some, ↓wp_mbnd, ↓mlet_eq, ↓mbp_eq, ↓mbnd_eq, ↓mix_ite, ↓mdiv_ite, ↓mnz_ite, nI_add, nI_mul, nI_nat, nI_ltE, nI_leE, nI_eqE, nI_eqN, nI_Neq, nI_Nlt, nI_Nle, nI_ltN, nI_leN, ↓reduceIte, ↓Nat.reduceEqDiff, and_f, nt_e, nt_t, nl_t, nl_f, ne_t, ne_f, and_self, or_self, or_true, true_or, or_false, false_or, if_true, if_false, and_true, true_and, and_false, false_and, not_true, not_false_iff, e5, e6]) (P - 1) N 1 (nI 0, M) (fun s2 => some (s2.1, s2.2)) (by omega) (by omega) ⟨by rw [mx_s, fC_at, if_neg (show pop 0 ≠ T by show 0 ≠ T; omega)]; rfl, by omega, fun _ _ _ => rfl⟩
  have e0 : f_X8_mostOnCurves_L4 g N 0 1 M (fun x17 M18 => some (x17, M18)) = f_X8_mostOnCurves_L4 g N (nI 0) (nI 1) M (fun a b => some (a, b)) := rfl
  rw [e0, key, wp_some]
  exact ⟨hv, hf⟩
theorem c_mostS {M : Mem} {g T n : Nat} {s ky : Nat → Nat} (h : Kc M g T n s ky) (hg : g ≠ 12) : wp (f_X8_mostInSets g M) fun r M1 => r = nI (mx (fS T s ky) (2 ^ n)) ∧ ∀ a b, ¬ (a = 12 ∧ 21 ≤ b ∧ b ≤ 25) → M1 a b = M a b := by
  obtain ⟨⟨h1, h2, h3, h4, h5⟩, h6, h7, h8⟩ := id h
  have l := pow_le h4
  have l0 : 0 < 2 ^ n := Nat.pow_pos (by decide)
  unfold f_X8_mostInSets
  generalize hN : (1000 : Nat) = N
  obtain ⟨P, hP⟩ : ∃ P, 2 ^ n = P := ⟨_, rfl⟩
  rw [hP] at l l0 ⊢
  obtain ⟨s2, ⟨hv, -, hf⟩, key⟩ := mloopP (F := fun m x (s2 : Int32 × Mem) kk => f_X8_mostInSets_L4 g m s2.1 x s2.2 (fun a b => kk (a, b))) (c := P) (fun x s2 => s2.1 = nI (mx (fS T s ky) x) ∧ 1 ≤ x ∧ ∀ a b, ¬ (a = 12 ∧ 21 ≤ b ∧ b ≤ 25) → s2.2 a b = M a b) (fun m x s2 kk hx hP2 => by
    obtain ⟨v, M1⟩ := s2
    obtain ⟨hv, x1, hf⟩ := hP2
    simp only [] at hv x1 hf
    subst hv
    have hK1 : Kc M1 g T n s ky := h.frame (fun b => hf g b (by omega))
    have e5 : M1 g 1 5 = nI n := hK1.1.2.2.2.2
    have e3 : M1 g 1 3 = nI T := hK1.1.1
    have lp := pop_le (x := x)
    have lm : mx (fS T s ky) x ≤ 8 := mx_le x (fun k _ => fS_le)
    have ep := fun M => pop_I (x := x) (M := M) (by omega)
    have e6 := nI_shl1 (a := n) (by omega)
    rw [hP] at e6
    generalize hd : mx (fS T s ky) x = d at lm
    by_cases r : pop x ≤ d
    · have ef : ¬ d < fS T s ky x := by
        rw [fS_at]
        split <;> omega
      refine ⟨(nI (mx (fS T s ky) (x + 1)), M1), ⟨rfl, by omega, hf⟩, ?_⟩
      show f_X8_mostInSets_L4 g (m + 1) (nI d) (nI x) M1 _ = f_X8_mostInSets_L4 g m (nI (mx (fS T s ky) (x + 1))) (nI (x + 1)) M1 _
      rw [f_X8_mostInSets_L4.eq_2, mx_s, hd, if_neg ef]
      simp (disch := omega) only [lit_0, lit_1, lit_2, lit_3, lit_4, lit_5, lit_6, lit_7, lit_8, lit_9, lit_10, lit_11, lit_12, lit_13, lit_14, lit_15, lit_16, lit_20, lit_23, lit_24, lit_31, lit_32, lit_39, lit_43, lit_45, lit_47, lit_48, lit_56, lit_57, lit_59, lit_60, lit_62, lit_63, lit_89, lit_92, lit_96, lit_97, lit_99, lit_100, lit_102, lit_103, lit_104, lit_110, lit_111, lit_115, lit_117, lit_194, lit_200, lit_644, lit_736, lit_999, lit_1000, lit_9999, lit_10000, lit_1000000000, ↓wp_mlet, ↓wp_mbp, ↓wp_ite, ↓wp_mix, ↓wp_mdiv, ↓wp_mnz, ↓wp_some, ↓wp_mbnd, ↓mlet_eq, ↓mbp_eq, ↓mbnd_eq, ↓mix_ite, ↓mdiv_ite, ↓mnz_ite, nI_add, nI_mul, nI_nat, nI_ltE, nI_leE, nI_eqE, nI_eqN, nI_Neq, nI_Nlt, nI_Nle, nI_ltN, nI_leN, ↓reduceIte, ↓Nat.reduceEqDiff, and_f, nt_e, nt_t, nl_t, nl_f, ne_t, ne_f, and_self, or_self, or_true, true_or, or_false, false_or, if_true, if_false, and_true, true_and, and_false, false_and, not_true, not_false_iff, e5, e6, ep]
    · obtain ⟨⟨⟩, M3, c1, c2, c3⟩ := c_choose hK1 hg (x := x) (by omega)
      have hK3 : Kc M3 g T n s ky := hK1.frame (fun b => c3 g b (by omega))
      have hf3 : ∀ a b, ¬ (a = 12 ∧ 21 ≤ b ∧ b ≤ 25) → M3 a b = M a b := fun a b hab => by rw [c3 a b (by omega), hf a b hab]
      by_cases q : pop x ≤ T
      · have e7 := c_oneS (ga := 12) (ia := 25) hK3.1.1 h2.2 q
        have ef : fS T s ky x = pop x := by rw [fS_at, if_pos (Or.inl q)]
        refine ⟨(nI (mx (fS T s ky) (x + 1)), M3), ⟨rfl, by omega, hf3⟩, ?_⟩
        show f_X8_mostInSets_L4 g (m + 1) (nI d) (nI x) M1 _ = f_X8_mostInSets_L4 g m (nI (mx (fS T s ky) (x + 1))) (nI (x + 1)) M3 _
        rw [f_X8_mostInSets_L4.eq_2, mx_s, hd, ef, if_pos (show d < pop x by omega)]
        simp (disch := omega) only [lit_0, lit_1, lit_2, lit_3, lit_4, lit_5, lit_6, lit_7, lit_8, lit_9, lit_10, lit_11, lit_12, lit_13, lit_14, lit_15, lit_16, lit_20, lit_23, lit_24, lit_31, lit_32, lit_39, lit_43, lit_45, lit_47, lit_48, lit_56, lit_57, lit_59, lit_60, lit_62, lit_63, lit_89, lit_92, lit_96, lit_97, lit_99, lit_100, lit_102, lit_103, lit_104, lit_110, lit_111, lit_115, lit_117, lit_194, lit_200, lit_644, lit_736, lit_999, lit_1000, lit_9999, lit_10000, lit_1000000000, ↓wp_mlet, ↓wp_mbp, ↓wp_ite, ↓wp_mix, ↓wp_mdiv, ↓wp_mnz, ↓wp_some, ↓wp_mbnd, ↓mlet_eq, ↓mbp_eq, ↓mbnd_eq, ↓mix_ite, ↓mdiv_ite, ↓mnz_ite, nI_add, nI_mul, nI_nat, nI_ltE, nI_leE, nI_eqE, nI_eqN, nI_Neq, nI_Nlt, nI_Nle, nI_ltN, nI_leN, ↓reduceIte, ↓Nat.reduceEqDiff, and_f, nt_e, nt_t, nl_t, nl_f, ne_t, ne_f, and_self, or_self, or_true, true_or, or_false, false_or, if_true, if_false, and_true, true_and, and_false, false_and, not_true, not_false_iff, e5, e6, ep, c1, e7]
      · have hl := Lk_sel hK3 (x := x) (by omega) (by omega) c2
        have e7 := c_one hl (show T ≤ pop x by omega) lp (fun k hk => ⟨c2 k hk, h8.1 _ (sel_p h4 (by omega) hk).1⟩)
        cases q2 : one T s (fun i => ky (sel x i)) (pop x) with
        | true =>
          have ef : fS T s ky x = pop x := by rw [fS_at, if_pos (Or.inr q2)]
          rw [q2] at e7
          refine ⟨(nI (mx (fS T s ky) (x + 1)), M3), ⟨rfl, by omega, hf3⟩, ?_⟩
          show f_X8_mostInSets_L4 g (m + 1) (nI d) (nI x) M1 _ = f_X8_mostInSets_L4 g m (nI (mx (fS T s ky) (x + 1))) (nI (x + 1)) M3 _
          rw [f_X8_mostInSets_L4.eq_2, mx_s, hd, ef, if_pos (show d < pop x by omega)]
          simp (disch := omega) only [lit_0, lit_1, lit_2, lit_3, lit_4, lit_5, lit_6, lit_7, lit_8, lit_9, lit_10, lit_11, lit_12, lit_13, lit_14, lit_15, lit_16, lit_20, lit_23, lit_24, lit_31, lit_32, lit_39, lit_43, lit_45, lit_47, lit_48, lit_56, lit_57, lit_59, lit_60, lit_62, lit_63, lit_89, lit_92, lit_96, lit_97, lit_99, lit_100, lit_102, lit_103, lit_104, lit_110, lit_111, lit_115, lit_117, lit_194, lit_200, lit_644, lit_736, lit_999, lit_1000, lit_9999, lit_10000, lit_1000000000, ↓wp_mlet, ↓wp_mbp, ↓wp_ite, ↓wp_mix, ↓wp_mdiv, ↓wp_mnz, ↓wp_some, ↓wp_mbnd, ↓mlet_eq, ↓mbp_eq, ↓mbnd_eq, ↓mix_ite, ↓mdiv_ite, ↓mnz_ite, nI_add, nI_mul, nI_nat, nI_ltE, nI_leE, nI_eqE, nI_eqN, nI_Neq, nI_Nlt, nI_Nle, nI_ltN, nI_leN, ↓reduceIte, ↓Nat.reduceEqDiff, and_f, nt_e, nt_t, nl_t, nl_f, ne_t, ne_f, and_self, or_self, or_true, true_or, or_false, false_or, if_true, if_false, and_true, true_and, and_false, false_and, not_true, not_false_iff, e5, e6, ep, c1, e7, Bool.toNat_true]
        | false =>
          have ef : fS T s ky x = 0 := by rw [fS_at, if_neg (by rw [q2]; simp; omega)]
          rw [q2] at e7
          refine ⟨(nI (mx (fS T s ky) (x + 1)), M3), ⟨rfl, by omega, hf3⟩, ?_⟩
          show f_X8_mostInSets_L4 g (m + 1) (nI d) (nI x) M1 _ = f_X8_mostInSets_L4 g m (nI (mx (fS T s ky) (x + 1))) (nI (x + 1)) M3 _
          rw [f_X8_mostInSets_L4.eq_2, mx_s, hd, ef, if_neg (show ¬ d < 0 by omega)]
          simp (disch := omega) only [lit_0, lit_1, lit_2, lit_3, lit_4, lit_5, lit_6, lit_7, lit_8, lit_9, lit_10, lit_11, lit_12, lit_13, lit_14, lit_15, lit_16, lit_20, lit_23, lit_24, lit_31, lit_32, lit_39, lit_43, lit_45, lit_47, lit_48, lit_56, lit_57, lit_59, lit_60, lit_62, lit_63, lit_89, lit_92, lit_96, lit_97, lit_99, lit_100, lit_102, lit_103, lit_104, lit_110, lit_111, lit_115, lit_117, lit_194, lit_200, lit_644, lit_736, lit_999, lit_1000, lit_9999, lit_10000, lit_1000000000, ↓wp_mlet, ↓wp_mbp, ↓wp_ite, ↓wp_mix, ↓wp_mdiv, ↓wp_mnz, ↓wp_some, ↓wp_mbnd, ↓mlet_eq, ↓mbp_eq, ↓mbnd_eq, ↓mix_ite, ↓mdiv_ite, ↓mnz_ite, nI_add, nI_mul, nI_nat, nI_ltE, nI_leE, nI_eqE, nI_eqN, nI_Neq, nI_Nlt, nI_Nle, nI_ltN, nI_leN, ↓reduceIte, ↓Nat.reduceEqDiff, and_f, nt_e, nt_t, nl_t, nl_f, ne_t, ne_f, and_self, or_self, or_true, true_or, or_false, false_or, if_true, if_false, and_true, true_and, and_false, false_and, not_true, not_false_iff, e5, e6, ep, c1, e7, Bool.toNat_false]) (fun m s2 kk hP2 => by
    obtain ⟨v, M1⟩ := s2
    have hK1 : Kc M1 g T n s ky := h.frame (fun b => hP2.2.2 g b (by omega))
    have e5 : M1 g 1 5 = nI n := hK1.1.2.2.2.2
    have e6 := nI_shl1 (a := n) (by omega)
    rw [hP] at e6
    show f_X8_mostInSets_L4 g (m + 1) v (nI P) M1 (fun a b => kk (a, b)) = kk (v, M1)
    rw [f_X8_mostInSets_L4.eq_2]
    simp (disch := omega) only [lit_0, lit_1, lit_2, lit_3, lit_4, lit_5, lit_6, lit_7, lit_8, lit_9, lit_10, lit_11, lit_12, lit_13, lit_14, lit_15, lit_16, lit_20, lit_23, lit_24, lit_31, lit_32, lit_39, lit_43, lit_45, lit_47, lit_48, lit_56, lit_57, lit_59, lit_60, lit_62, lit_63, lit_89, lit_92, lit_96, lit_97, lit_99, lit_100, lit_102, lit_103, lit_104, lit_110, lit_111, lit_115, lit_117, lit_194, lit_200, lit_644, lit_736, lit_999, lit_1000, lit_9999, lit_10000, lit_1000000000, ↓wp_mlet, ↓wp_mbp, ↓wp_ite, ↓wp_mix, ↓wp_mdiv, ↓wp_mnz, ↓wp_some, ↓wp_mbnd, ↓mlet_eq, ↓mbp_eq, ↓mbnd_eq, ↓mix_ite, ↓mdiv_ite, ↓mnz_ite, nI_add, nI_mul, nI_nat, nI_ltE, nI_leE, nI_eqE, nI_eqN, nI_Neq, nI_Nlt, nI_Nle, nI_ltN, nI_leN, ↓reduceIte, ↓Nat.reduceEqDiff, and_f, nt_e, nt_t, nl_t, nl_f, ne_t, ne_f, and_self, or_self, or_true, true_or, or_false, false_or, if_true, if_false, and_true, true_and, and_false, false_and, not_true, not_false_iff, e5, e6]) (P - 1) N 1 (nI 0, M) (fun s2 => some (s2.1, s2.2)) (by omega) (by omega) ⟨by rw [mx_s, fS_0]; rfl, by omega, fun _ _ _ => rfl⟩
  have e0 : f_X8_mostInSets_L4 g N 0 1 M (fun x15 M16 => some (x15, M16)) = f_X8_mostInSets_L4 g N (nI 0) (nI 1) M (fun a b => some (a, b)) := rfl
  rw [e0, key, wp_some]
  exact ⟨hv, hf⟩
