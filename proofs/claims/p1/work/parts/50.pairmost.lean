def Inc (T n : Nat) (u : Nat → Nat) : Prop := (∀ i, i < T → u i < n) ∧ ∀ i j, i < j → j < T → u i < u j
theorem wv_ub {n T B : Nat} {F : (Nat → Nat) → Nat} (hF : ∀ u, Inc T n u → F u ≤ B) : ∀ d c lo u, c + d = T → lo ≤ n → (∀ i, i < c → u i < lo) → (∀ i j, i < j → j < c → u i < u j) → wv n F d c lo u ≤ B
  | 0, c, lo, u, h1, h2, h3, h4 => hF u ⟨fun i hi => by have := h3 i (by omega); omega, fun i j hij hj => h4 i j hij (by omega)⟩
  | d + 1, c, lo, u, h1, h2, h3, h4 => by
    rw [wv_s]
    refine mx_le n (fun k hk => ?_)
    split
    · rename_i hlk
      refine wv_ub hF d (c + 1) (k + 1) (ut u c k) (by omega) (by omega) (fun i hi => ?_) (fun i j hij hj => ?_)
      · rw [ut_at]
        split
        · omega
        · have := h3 i (by omega)
          omega
      · rw [ut_at, ut_at, if_neg (by omega)]
        split
        · have := h3 i (by omega)
          omega
        · exact h4 i j hij (by omega)
    · exact Nat.zero_le _
theorem wv_lb {n T : Nat} {F : (Nat → Nat) → Nat} (hcg : ∀ u u', (∀ i, i < T → u i = u' i) → F u = F u') {v : Nat → Nat} (hv : Inc T n v) : ∀ d c lo u, c + d = T → (∀ i, i < c → u i = v i) → (c < T → lo ≤ v c) → F v ≤ wv n F d c lo u
  | 0, c, lo, u, h1, h2, h3 => Nat.le_of_eq (hcg v u (fun i hi => (h2 i (by omega)).symm))
  | d + 1, c, lo, u, h1, h2, h3 => by
    rw [wv_s]
    have ih := wv_lb hcg hv d (c + 1) (v c + 1) (ut u c (v c)) (by omega) (fun i hi => by
      rw [ut_at]
      split
      · rename_i q; rw [q]
      · exact h2 i (by omega)) (fun q => hv.2 c (c + 1) (by omega) q)
    have := mx_ge (f := fun k => if lo ≤ k then wv n F d (c + 1) (k + 1) (ut u c k) else 0) n (v c) (hv.1 c (by omega))
    simp only [if_pos (h3 (by omega))] at this
    omega
theorem most_MC {T n : Nat} {s ky u : Nat → Nat} (hT : 1 ≤ T ∧ T ≤ 3) (hTn : T ≤ n) (hn : n ≤ 8) : wv n (onN T n s ky) T 0 0 u = mx (fC T n s ky) (2 ^ n) := by
  refine Nat.le_antisymm (wv_ub (T := T) (fun v hv => ?_) T 0 0 u (by omega) (Nat.zero_le _) (fun i hi => by omega) (fun i j _ hj => by omega)) (mx_le _ fun x hx => ?_)
  · have key : ∃ x, x < 2 ^ n ∧ pop x = T ∧ ∀ i, i < T → sel x i = v i := by
      rcases (show T = 1 ∨ T = 2 ∨ T = 3 by omega) with rfl | rfl | rfl
      · have v0 := hv.1 0 (by decide)
        obtain ⟨a1, a2, a3⟩ := tup_1 ⟨v 0, by omega⟩ ⟨n, by omega⟩ v0
        refine ⟨_, a1, a2, fun i hi => ?_⟩
        obtain rfl : i = 0 := by omega
        exact a3
      · have v0 := hv.1 0 (by decide)
        have v1 := hv.1 1 (by decide)
        obtain ⟨a1, a2, a3, a4⟩ := tup_2 ⟨v 0, by omega⟩ ⟨v 1, by omega⟩ ⟨n, by omega⟩ (hv.2 0 1 (by decide) (by decide)) v1
        refine ⟨_, a1, a2, fun i hi => ?_⟩
        rcases (show i = 0 ∨ i = 1 by omega) with rfl | rfl
        · exact a3
        · exact a4
      · have v0 := hv.1 0 (by decide)
        have v1 := hv.1 1 (by decide)
        have v2 := hv.1 2 (by decide)
        obtain ⟨a1, a2, a3, a4, a5⟩ := tup_3 ⟨v 0, by omega⟩ ⟨v 1, by omega⟩ ⟨v 2, by omega⟩ ⟨n, by omega⟩ (hv.2 0 1 (by decide) (by decide)) (hv.2 1 2 (by decide) (by decide)) v2
        refine ⟨_, a1, a2, fun i hi => ?_⟩
        rcases (show i = 0 ∨ i = 1 ∨ i = 2 by omega) with rfl | rfl | rfl
        · exact a3
        · exact a4
        · exact a5
    obtain ⟨x, h1, h2, h3⟩ := key
    have := mx_ge (f := fC T n s ky) (2 ^ n) x h1
    rw [fC_at, if_pos h2, onN_cg hT h3] at this
    exact this
  · rw [fC_at]
    by_cases q : pop x = T
    · rw [if_pos q]
      exact wv_lb (fun u u' h => onN_cg hT h) (v := sel x) ⟨fun i hi => (sel_p hn hx (by omega)).1, fun i j h1 h2 => sel_lt hn hx (by omega) h1⟩ T 0 0 u (by omega) (fun i hi => by omega) (fun _ => Nat.zero_le _)
    · rw [if_neg q]
      exact Nat.zero_le _
theorem Kc0 {M : Mem} {H : Nat} {α : Sp} (hk : Rk (M 0) α) (hi : Inv H α) (he : en α) : Kc M 0 (α 5) (α 9) (sh α) (ky α) := by
  have hu := ky_tu hi (Nat.le_refl (α 9))
  obtain ⟨h1, h2, h3, h4, h5, h6, h7⟩ := hk
  obtain ⟨⟨b0, b1, b2, b3, b4, b5, b6, b7, b8, b9, b10, b11, b14⟩, i1, i2, bs, bk, bn, bz, bt, bg, bl⟩ := hi
  exact ⟨⟨h3, ⟨i2 he.1, b5⟩, he.2, by omega, h4⟩, fun k hk => ⟨h5 k hk, bs k hk⟩, fun k hk => h7 k (by omega) hk, hu⟩
theorem Km0 {M : Mem} {H : Nat} {α : Sp} (hS : M 12 48 = enc α) (hi : Inv H α) (he : en α) : Km M (α 5) (α 9) (sh α) (ky α) := by
  have hu := ky_tu hi (Nat.le_refl (α 9))
  obtain ⟨⟨b0, b1, b2, b3, b4, b5, b6, b7, b8, b9, b10, b11, b14⟩, i1, i2, bs, bk, bn, bz, bt, bg, bl⟩ := hi
  exact ⟨⟨ms_n hS (by decide), ⟨i2 he.1, b5⟩, he.2, by omega, ms_n hS (by decide)⟩, fun k hk => ⟨ms_n hS (by omega), bs k hk⟩, fun k hk => ms_n hS (by omega), hu⟩
/-- the greatest number of keys that agree -/
def mostA (α : Sp) : Nat := mx (fC (α 5) (α 9) (sh α) (ky α)) (2 ^ (α 9))
theorem m_most {M : Mem} {H : Nat} {α : Sp} (hS : M 12 48 = enc α) (hi : Inv H α) (he : en α) : wp (f_X12_most_3 (nI 0) (nI 0) M) fun r M1 => r = nI (mostA α) ∧ ∀ a b, ¬ (a = 12 ∧ b = 56) → M1 a b = M a b := by
  have hK := Km0 hS hi he
  refine wp_mono (m_most3 (lo := 0) (u := id) hK (Nat.zero_le _) ⟨fun i hi => by omega, fun i j _ hj => by omega⟩ (Nat.zero_le _)) ?_
  rintro r M1 ⟨rfl, h2⟩
  refine ⟨?_, fun a b hab => funext fun k => h2 a b k (by omega)⟩
  rw [Nat.sub_zero, most_MC hK.1.2.1 hK.1.2.2.1 hK.1.2.2.2.1]
  rfl
theorem m_mostAgree {M : Mem} {H n : Nat} {α : Sp} (hr : Rel n M) (hS : M 12 48 = enc α) (hi : Inv H α) : (en α → wp (f_X12_mostAgreeing M) fun r M2 => r = nI (mostA α) ∧ Rel (n + 1) M2 ∧ M2 12 47 0 = nI 0) ∧ (¬ en α → wp (f_X12_mostAgreeing M) fun r M2 => Rel (n + 1) M2 ∧ M2 12 47 0 = nI 1) := by
  obtain ⟨m1, m2⟩ := m_enough hS hi
  unfold f_X12_mostAgreeing
  refine ⟨fun he => ?_, fun he => ?_⟩
  · have hS' := ms_t (x := nI 0) hS
    obtain ⟨r, M3, e, rfl, h3⟩ := m_most hS' hi he
    rw [m1 he]
    simp (disch := omega) only [lit_0, lit_1, lit_2, lit_3, lit_4, lit_5, lit_6, lit_7, lit_8, lit_9, lit_10, lit_11, lit_12, lit_13, lit_14, lit_15, lit_16, lit_20, lit_23, lit_24, lit_31, lit_32, lit_39, lit_43, lit_45, lit_47, lit_48, lit_56, lit_57, lit_59, lit_60, lit_62, lit_63, lit_89, lit_92, lit_96, lit_97, lit_99, lit_100, lit_102, lit_103, lit_104, lit_110, lit_111, lit_115, lit_117, lit_194, lit_200, lit_644, lit_736, lit_999, lit_1000, lit_9999, lit_10000, lit_1000000000, ↓wp_mlet, ↓wp_mbp, ↓wp_ite, ↓wp_mix, ↓wp_mdiv, ↓wp_mnz, ↓wp_some, ↓wp_mbnd, ↓mlet_eq, ↓mbp_eq, ↓mbnd_eq, ↓mix_ite, ↓mdiv_ite, ↓mnz_ite, nI_add, nI_mul, nI_nat, nI_ltE, nI_leE, nI_eqE, nI_eqN, nI_Neq, nI_Nlt, nI_Nle, nI_ltN, nI_leN, ↓reduceIte, ↓Nat.reduceEqDiff, and_f, nt_e, nt_t, nl_t, nl_f, ne_t, ne_f, and_self, or_self, or_true, true_or, or_false, false_or, if_true, if_false, and_true, true_and, and_false, false_and, not_true, not_false_iff, e]
    refine ⟨Rel_w hr (fun i hi => ?_) (fun a b hab => ?_), ?_⟩
    · rw [h3 12 47 (by decide), mup_at, if_neg (by omega)]
    · rw [h3 a b (by omega), pm_ne (by omega)]
    · rw [h3 12 47 (by decide)]; exact thr0
  · rw [m2 he]
    simp (disch := omega) only [lit_0, lit_1, lit_2, lit_3, lit_4, lit_5, lit_6, lit_7, lit_8, lit_9, lit_10, lit_11, lit_12, lit_13, lit_14, lit_15, lit_16, lit_20, lit_23, lit_24, lit_31, lit_32, lit_39, lit_43, lit_45, lit_47, lit_48, lit_56, lit_57, lit_59, lit_60, lit_62, lit_63, lit_89, lit_92, lit_96, lit_97, lit_99, lit_100, lit_102, lit_103, lit_104, lit_110, lit_111, lit_115, lit_117, lit_194, lit_200, lit_644, lit_736, lit_999, lit_1000, lit_9999, lit_10000, lit_1000000000, ↓wp_mlet, ↓wp_mbp, ↓wp_ite, ↓wp_mix, ↓wp_mdiv, ↓wp_mnz, ↓wp_some, ↓wp_mbnd, ↓mlet_eq, ↓mbp_eq, ↓mbnd_eq, ↓mix_ite, ↓mdiv_ite, ↓mnz_ite, nI_add, nI_mul, nI_nat, nI_ltE, nI_leE, nI_eqE, nI_eqN, nI_Neq, nI_Nlt, nI_Nle, nI_ltN, nI_leN, ↓reduceIte, ↓Nat.reduceEqDiff, and_f, nt_e, nt_t, nl_t, nl_f, ne_t, ne_f, and_self, or_self, or_true, true_or, or_false, false_or, if_true, if_false, and_true, true_and, and_false, false_and, not_true, not_false_iff]
    exact ⟨Rel_thr hr _, thr0⟩
theorem pair_mostAgreeing {n : Nat} {M : Mem} (hr : Rel n M) : Pair n (fun x => if x = 4 then 1 else 0) M f_X11_mostAgreeing f_X12_mostAgreeing := by
  have hr0 := hr
  obtain ⟨α, αh, αs, K, nx, fed, b, H, ⟨hk, hd, hb, hj⟩, hS, hH, hs, hx, hi, hih, his, hbb⟩ := hr
  obtain ⟨c1, c2⟩ := c_require hk hi
  unfold Pair f_X11_mostAgreeing
  by_cases he : en α
  · obtain ⟨r, M1, e1, rfl, f2⟩ := c_mostC (Kc0 hk hi he) (by decide)
    have hr0' : Rel n M1 := Rel_w0 hr0 (fun i hi => by rw [f2 12 47 (by decide)]) (fun a b hab => f2 a b (by omega))
    have hS1 : M1 12 48 = enc α := by rw [f2 12 48 (by decide)]; exact hS
    rw [c1 he]
    show wp (mbpxm (some (Sum.inr ())) M fun r1 => _) _
    unfold mbpxm
    simp (disch := omega) only [lit_0, lit_1, lit_2, lit_3, lit_4, lit_5, lit_6, lit_7, lit_8, lit_9, lit_10, lit_11, lit_12, lit_13, lit_14, lit_15, lit_16, lit_20, lit_23, lit_24, lit_31, lit_32, lit_39, lit_43, lit_45, lit_47, lit_48, lit_56, lit_57, lit_59, lit_60, lit_62, lit_63, lit_89, lit_92, lit_96, lit_97, lit_99, lit_100, lit_102, lit_103, lit_104, lit_110, lit_111, lit_115, lit_117, lit_194, lit_200, lit_644, lit_736, lit_999, lit_1000, lit_9999, lit_10000, lit_1000000000, ↓wp_mlet, ↓wp_mbp, ↓wp_ite, ↓wp_mix, ↓wp_mdiv, ↓wp_mnz, ↓wp_some, ↓wp_mbnd, ↓mlet_eq, ↓mbp_eq, ↓mbnd_eq, ↓mix_ite, ↓mdiv_ite, ↓mnz_ite, nI_add, nI_mul, nI_nat, nI_ltE, nI_leE, nI_eqE, nI_eqN, nI_Neq, nI_Nlt, nI_Nle, nI_ltN, nI_leN, ↓reduceIte, ↓Nat.reduceEqDiff, and_f, nt_e, nt_t, nl_t, nl_f, ne_t, ne_f, and_self, or_self, or_true, true_or, or_false, false_or, if_true, if_false, and_true, true_and, and_false, false_and, not_true, not_false_iff, e1]
    refine wp_mono ((m_mostAgree hr0' hS1 hi).1 he) ?_
    rintro r M2 ⟨rfl, h2, h3⟩
    exact ⟨h2, h3, rfl⟩
  · rw [c2 he]
    show wp (mbpxm (some (Sum.inl 4)) M fun r1 => _) _
    unfold mbpxm
    simp only [wp_some]
    refine wp_mono ((m_mostAgree hr0 hS hi).2 he) ?_
    rintro r M2 ⟨h2, h3⟩
    exact ⟨h2, h3, by decide, by decide⟩
theorem m_mostAgreeS {M : Mem} {H n : Nat} {α : Sp} (hr : Rel n M) (hS : M 12 48 = enc α) (hi : Inv H α) : (en α → wp (f_X12_mostAgreeingBySets M) fun r M2 => r = nI (mostA α) ∧ Rel (n + 1) M2 ∧ M2 12 47 0 = nI 0) ∧ (¬ en α → wp (f_X12_mostAgreeingBySets M) fun r M2 => Rel (n + 1) M2 ∧ M2 12 47 0 = nI 1) := by
  obtain ⟨m1, m2⟩ := m_mostAgree hr hS hi
  unfold f_X12_mostAgreeingBySets
  refine ⟨fun he => ?_, fun he => ?_⟩
  · rw [wp_mbnd]
    refine wp_mono (m1 he) ?_
    intro r M2 h
    rw [wp_some]
    exact h
  · rw [wp_mbnd]
    refine wp_mono (m2 he) ?_
    intro r M2 h
    rw [wp_some]
    exact h
theorem mostA_S {H : Nat} {α : Sp} (hi : Inv H α) (he : en α) : mx (fS (α 5) (sh α) (ky α)) (2 ^ (α 9)) = mostA α := by
  have hu := ky_tu hi (Nat.le_refl (α 9))
  obtain ⟨⟨b0, b1, b2, b3, b4, b5, b6, b7, b8, b9, b10, b11, b14⟩, i1, i2, bs, bk, bn, bz, bt, bg, bl⟩ := hi
  exact (most_CS ⟨i2 he.1, b5⟩ he.2 (by omega) bs hu).symm
theorem pair_mostAgreeingBySets {n : Nat} {M : Mem} (hr : Rel n M) : Pair n (fun x => if x = 4 then 1 else 0) M f_X11_mostAgreeingBySets f_X12_mostAgreeingBySets := by
  have hr0 := hr
  obtain ⟨α, αh, αs, K, nx, fed, b, H, ⟨hk, hd, hb, hj⟩, hS, hH, hs, hx, hi, hih, his, hbb⟩ := hr
  obtain ⟨c1, c2⟩ := c_require hk hi
  unfold Pair f_X11_mostAgreeingBySets
  by_cases he : en α
  · obtain ⟨r, M1, e1, rfl, f2⟩ := c_mostS (Kc0 hk hi he) (by decide)
    have hr0' : Rel n M1 := Rel_w0 hr0 (fun i hi => by rw [f2 12 47 (by decide)]) (fun a b hab => f2 a b (by omega))
    have hS1 : M1 12 48 = enc α := by rw [f2 12 48 (by decide)]; exact hS
    rw [mostA_S hi he] at e1
    rw [c1 he]
    show wp (mbpxm (some (Sum.inr ())) M fun r1 => _) _
    unfold mbpxm
    simp (disch := omega) only [lit_0, lit_1, lit_2, lit_3, lit_4, lit_5, lit_6, lit_7, lit_8, lit_9, lit_10, lit_11, lit_12, lit_13, lit_14, lit_15, lit_16, lit_20, lit_23, lit_24, lit_31, lit_32, lit_39, lit_43, lit_45, lit_47, lit_48, lit_56, lit_57, lit_59, lit_60, lit_62, lit_63, lit_89, lit_92, lit_96, lit_97, lit_99, lit_100, lit_102, lit_103, lit_104, lit_110, lit_111, lit_115, lit_117, lit_194, lit_200, lit_644, lit_736, lit_999, lit_1000, lit_9999, lit_10000, lit_1000000000, ↓wp_mlet, ↓wp_mbp, ↓wp_ite, ↓wp_mix, ↓wp_mdiv, ↓wp_mnz, ↓wp_some, ↓wp_mbnd, ↓mlet_eq, ↓mbp_eq, ↓mbnd_eq, ↓mix_ite, ↓mdiv_ite, ↓mnz_ite, nI_add, nI_mul, nI_nat, nI_ltE, nI_leE, nI_eqE, nI_eqN, nI_Neq, nI_Nlt, nI_Nle, nI_ltN, nI_leN, ↓reduceIte, ↓Nat.reduceEqDiff, and_f, nt_e, nt_t, nl_t, nl_f, ne_t, ne_f, and_self, or_self, or_true, true_or, or_false, false_or, if_true, if_false, and_true, true_and, and_false, false_and, not_true, not_false_iff, e1]
    refine wp_mono ((m_mostAgreeS hr0' hS1 hi).1 he) ?_
    rintro r M2 ⟨rfl, h2, h3⟩
    exact ⟨h2, h3, rfl⟩
  · rw [c2 he]
    show wp (mbpxm (some (Sum.inl 4)) M fun r1 => _) _
    unfold mbpxm
    simp only [wp_some]
    refine wp_mono ((m_mostAgreeS hr0 hS hi).2 he) ?_
    rintro r M2 ⟨h2, h3⟩
    exact ⟨h2, h3, by decide, by decide⟩
