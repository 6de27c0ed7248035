def gp (α : Sp) (z : Nat) (p : Out) : Nat → Out
  | 0 => p
  | k + 1 => if α (47 + 3 * k) = z then pt (if α (48 + 3 * k) = 1 then 62 else 60) (gp α z p k) else gp α z p k
theorem gp_s {α : Sp} {z k : Nat} {p : Out} : gp α z p (k + 1) = if α (47 + 3 * k) = z then pt (if α (48 + 3 * k) = 1 then 62 else 60) (gp α z p k) else gp α z p k := Eq.trans rfl rfl
theorem gp_1 {α : Sp} {z : Nat} {p : Out} : ∀ k, (gp α z p k).1 ≤ p.1 + k
  | 0 => Nat.le_refl _
  | k + 1 => by
    have := gp_1 (α := α) (z := z) (p := p) k
    rw [gp_s]
    split
    · rw [pt_1]; omega
    · omega
def itm (z : Nat) (p : Out) : Out := if 0 < z then pt 32 p else p
theorem itm_1 {z : Nat} {p : Out} : (itm z p).1 ≤ p.1 + 1 := pt_le
def zp (α : Sp) : Nat → Out
  | 0 => (0, fun _ => 0)
  | z + 1 => gp α z (pnum (α (31 + z)) (itm z (zp α z))) (α 10)
theorem zp_s {α : Sp} {z : Nat} : zp α (z + 1) = gp α z (pnum (α (31 + z)) (itm z (zp α z))) (α 10) := Eq.trans rfl rfl
theorem zp_1 {α : Sp} (h : α 10 ≤ 3) : ∀ z, (zp α z).1 ≤ 9 * z
  | 0 => Nat.le_refl _
  | z + 1 => by
    have h1 := zp_1 h z
    have h2 := gp_1 (α := α) (z := z) (p := pnum (α (31 + z)) (itm z (zp α z))) (α 10)
    have h3 := pnum_1 (n := α (31 + z)) (p := itm z (zp α z))
    have h4 := itm_1 (z := z) (p := zp α z)
    rw [zp_s]
    omega
def lp (α : Sp) : Nat → Out
  | 0 => (0, fun _ => 0)
  | k + 1 => pnum (α (58 + 3 * k)) (pt (α (57 + 3 * k)) (pnum (α (56 + 3 * k)) (itm k (lp α k))))
theorem lp_s {α : Sp} {k : Nat} : lp α (k + 1) = pnum (α (58 + 3 * k)) (pt (α (57 + 3 * k)) (pnum (α (56 + 3 * k)) (itm k (lp α k)))) := Eq.trans rfl rfl
theorem lp_1 {α : Sp} : ∀ n, (∀ k, k < n → α (58 + 3 * k) ≤ 9) → (lp α n).1 ≤ 8 * n
  | 0, _ => Nat.le_refl _
  | k + 1, h => by
    have h1 := lp_1 k (fun i hi => h i (by omega))
    have h3 := pnum_1 (n := α (56 + 3 * k)) (p := itm k (lp α k))
    have h4 := itm_1 (z := k) (p := lp α k)
    rw [lp_s, pnum_9 (h k (by omega)), pt_1]
    omega
theorem c_item {M0 M : Mem} {p : Out} {z : Nat} (h : Oc M0 M p) (hp : p.1 < 200) (hz : z < 100) : wp (f_X7_startItem (nI z) M) fun _ M1 => Oc M0 M1 (itm z p) := by
  unfold f_X7_startItem itm
  by_cases q : 0 < z
  · obtain ⟨⟨⟩, M1, e, h1⟩ := c_put (c := 32) h hp (by decide)
    rw [if_pos q]
    simp (disch := omega) only [lit_0, lit_1, lit_2, lit_3, lit_4, lit_5, lit_6, lit_7, lit_8, lit_9, lit_10, lit_11, lit_12, lit_13, lit_14, lit_15, lit_16, lit_20, lit_23, lit_24, lit_31, lit_32, lit_39, lit_43, lit_45, lit_47, lit_48, lit_56, lit_57, lit_59, lit_60, lit_62, lit_63, lit_89, lit_92, lit_96, lit_97, lit_99, lit_100, lit_102, lit_103, lit_104, lit_110, lit_111, lit_115, lit_117, lit_194, lit_200, lit_644, lit_736, lit_999, lit_1000, lit_9999, lit_10000, lit_1000000000, ↓wp_mlet, ↓wp_mbp, ↓wp_ite, ↓wp_mix, ↓wp_mdiv, ↓wp_mnz, ↓wp_some, ↓wp_mbnd, ↓mlet_eq, ↓mbp_eq, ↓mbnd_eq, ↓mix_ite, ↓mdiv_ite, ↓mnz_ite, nI_add, nI_mul, nI_nat, nI_ltE, nI_leE, nI_eqE, nI_eqN, nI_Neq, nI_Nlt, nI_Nle, nI_ltN, nI_leN, ↓reduceIte, ↓Nat.reduceEqDiff, and_f, nt_e, nt_t, nl_t, nl_f, ne_t, ne_f, and_self, or_self, or_true, true_or, or_false, false_or, if_true, if_false, and_true, true_and, and_false, false_and, not_true, not_false_iff, e]
    exact h1
  · rw [if_neg q]
    simp (disch := omega) only [lit_0, lit_1, lit_2, lit_3, lit_4, lit_5, lit_6, lit_7, lit_8, lit_9, lit_10, lit_11, lit_12, lit_13, lit_14, lit_15, lit_16, lit_20, lit_23, lit_24, lit_31, lit_32, lit_39, lit_43, lit_45, lit_47, lit_48, lit_56, lit_57, lit_59, lit_60, lit_62, lit_63, lit_89, lit_92, lit_96, lit_97, lit_99, lit_100, lit_102, lit_103, lit_104, lit_110, lit_111, lit_115, lit_117, lit_194, lit_200, lit_644, lit_736, lit_999, lit_1000, lit_9999, lit_10000, lit_1000000000, ↓wp_mlet, ↓wp_mbp, ↓wp_ite, ↓wp_mix, ↓wp_mdiv, ↓wp_mnz, ↓wp_some, ↓wp_mbnd, ↓mlet_eq, ↓mbp_eq, ↓mbnd_eq, ↓mix_ite, ↓mdiv_ite, ↓mnz_ite, nI_add, nI_mul, nI_nat, nI_ltE, nI_leE, nI_eqE, nI_eqN, nI_Neq, nI_Nlt, nI_Nle, nI_ltN, nI_leN, ↓reduceIte, ↓Nat.reduceEqDiff, and_f, nt_e, nt_t, nl_t, nl_f, ne_t, ne_f, and_self, or_self, or_true, true_or, or_false, false_or, if_true, if_false, and_true, true_and, and_false, false_and, not_true, not_false_iff]
    exact h
theorem m_item {M0 M : Mem} {p : Out} {z : Nat} {β : Type} (h : Om M0 M p) (hp : p.1 < 140) (hz : z < 100) : ∃ M1, Om M0 M1 (itm z p) ∧ ∀ k : Mem → Option (β × Mem), (mlet k fun k => if nI z ≤ nI 0 then k M else mbnd (f_X12_writes (nI 32) M) fun _ M8 => k M8) = k M1 := by
  unfold itm
  by_cases q : 0 < z
  · obtain ⟨⟨⟩, M1, e, h1⟩ := m_put (c := 32) h hp (by decide)
    refine ⟨M1, by rw [if_pos q]; exact h1, fun k => ?_⟩
    rw [mlet_eq, if_neg (by rw [nI_leE (by omega) (by omega)]; omega), e, mbnd_eq]
  · refine ⟨M, by rw [if_neg q]; exact h, fun k => ?_⟩
    rw [mlet_eq, if_pos (by rw [nI_leE (by omega) (by omega)]; omega)]
theorem c_guardsIn {M0 M : Mem} {α : Sp} {H z : Nat} {p : Out} (hb : Rb (M0 0) α) (hi : Inv H α) (h : Oc M0 M p) (hp : p.1 < 190) (hz : z < 8) : wp (f_X11_putGuardsIn (nI z) M) fun _ M1 => Oc M0 M1 (gp α z p (α 10)) := by
  have b10 := hi.1.2.2.2.2.2.2.2.2.2.2.1
  have bg := hi.2.2.2.2.2.2.2.2.1
  unfold f_X11_putGuardsIn
  generalize hN : (1000 : Nat) = N
  obtain ⟨M2, h2, key⟩ := mloopP (F := fun m x M1 kk => f_X11_putGuardsIn_L10 (nI z) m x M1 kk) (c := α 10) (fun x M1 => Oc M0 M1 (gp α z p x)) (fun m x M1 kk hx h1 => by
    have e0 : M1 0 = M0 0 := funext fun b => h1.2 0 b (by omega)
    have e4 : M1 0 6 4 = nI (α 10) := by rw [e0]; exact hb.2.2.1
    obtain ⟨g1, g2, -⟩ := hb.2.2.2.2.2.1 x (by omega) hx
    obtain ⟨w1, w2, w3, w4, w5⟩ := bg x hx
    rw [← e0] at g1 g2
    have l := gp_1 (α := α) (z := z) (p := p) x
    rw [gp_s]
    by_cases q : α (47 + 3 * x) = z
    · rw [if_pos q]
      by_cases r : α (48 + 3 * x) = 1
      · obtain ⟨⟨⟩, M3, e, h3⟩ := c_put (c := 62) h1 (by omega) (by decide)
        refine ⟨M3, by rw [if_pos r]; exact h3, ?_⟩
        show f_X11_putGuardsIn_L10 (nI z) (m + 1) (nI x) M1 kk = _
        rw [f_X11_putGuardsIn_L10.eq_2]
        rw [r] at g2
        simp (disch := omega) only [lit_0, lit_1, lit_2, lit_3, lit_4, lit_5, lit_6, lit_7, lit_8, lit_9, lit_10, lit_11, lit_12, lit_13, lit_14, lit_15, lit_16, lit_20, lit_23, lit_24, lit_31, lit_32, lit_39, lit_43, lit_45, lit_47, lit_48, lit_56, lit_57, lit_59, lit_60, lit_62, lit_63, lit_89, lit_92, lit_96, lit_97, lit_99, lit_100, lit_102, lit_103, lit_104, lit_110, lit_111, lit_115, lit_117, lit_194, lit_200, lit_644, lit_736, lit_999, lit_1000, lit_9999, lit_10000, lit_1000000000, ↓wp_mlet, ↓wp_mbp, ↓wp_ite, ↓wp_mix, ↓wp_mdiv, ↓wp_mnz, ↓wp_some, ↓wp_mbnd, ↓mlet_eq, ↓mbp_eq, ↓mbnd_eq, ↓mix_ite, ↓mdiv_ite, ↓mnz_ite, nI_add, nI_mul, nI_nat, nI_ltE, nI_leE, nI_eqE, nI_eqN, nI_Neq, nI_Nlt, nI_Nle, nI_ltN, nI_leN, ↓reduceIte, ↓Nat.reduceEqDiff, and_f, nt_e, nt_t, nl_t, nl_f, ne_t, ne_f, and_self, or_self, or_true, true_or, or_false, false_or, if_true, if_false, and_true, true_and, and_false, false_and, not_true, not_false_iff, e4, g1, g2, e, Nat.reduceSub]
      · obtain ⟨⟨⟩, M3, e, h3⟩ := c_put (c := 60) h1 (by omega) (by decide)
        refine ⟨M3, by rw [if_neg r]; exact h3, ?_⟩
        have r2 : α (48 + 3 * x) = 2 := by omega
        show f_X11_putGuardsIn_L10 (nI z) (m + 1) (nI x) M1 kk = _
        rw [f_X11_putGuardsIn_L10.eq_2]
        rw [r2] at g2
        simp (disch := omega) only [lit_0, lit_1, lit_2, lit_3, lit_4, lit_5, lit_6, lit_7, lit_8, lit_9, lit_10, lit_11, lit_12, lit_13, lit_14, lit_15, lit_16, lit_20, lit_23, lit_24, lit_31, lit_32, lit_39, lit_43, lit_45, lit_47, lit_48, lit_56, lit_57, lit_59, lit_60, lit_62, lit_63, lit_89, lit_92, lit_96, lit_97, lit_99, lit_100, lit_102, lit_103, lit_104, lit_110, lit_111, lit_115, lit_117, lit_194, lit_200, lit_644, lit_736, lit_999, lit_1000, lit_9999, lit_10000, lit_1000000000, ↓wp_mlet, ↓wp_mbp, ↓wp_ite, ↓wp_mix, ↓wp_mdiv, ↓wp_mnz, ↓wp_some, ↓wp_mbnd, ↓mlet_eq, ↓mbp_eq, ↓mbnd_eq, ↓mix_ite, ↓mdiv_ite, ↓mnz_ite, nI_add, nI_mul, nI_nat, nI_ltE, nI_leE, nI_eqE, nI_eqN, nI_Neq, nI_Nlt, nI_Nle, nI_ltN, nI_leN, ↓reduceIte, ↓Nat.reduceEqDiff, and_f, nt_e, nt_t, nl_t, nl_f, ne_t, ne_f, and_self, or_self, or_true, true_or, or_false, false_or, if_true, if_false, and_true, true_and, and_false, false_and, not_true, not_false_iff, e4, g1, g2, e, Nat.reduceSub]
    · rw [if_neg q]
      refine ⟨M1, h1, ?_⟩
      show f_X11_putGuardsIn_L10 (nI z) (m + 1) (nI x) M1 kk = _
      rw [f_X11_putGuardsIn_L10.eq_2]
      simp (disch := omega) only [lit_0, lit_1, lit_2, lit_3, lit_4, lit_5, lit_6, lit_7, lit_8, lit_9, lit_10, lit_11, lit_12, lit_13, lit_14, lit_15, lit_16, lit_20, lit_23, lit_24, lit_31, lit_32, lit_39, lit_43, lit_45, lit_47, lit_48, lit_56, lit_57, lit_59, lit_60, lit_62, lit_63, lit_89, lit_92, lit_96, lit_97, lit_99, lit_100, lit_102, lit_103, lit_104, lit_110, lit_111, lit_115, lit_117, lit_194, lit_200, lit_644, lit_736, lit_999, lit_1000, lit_9999, lit_10000, lit_1000000000, ↓wp_mlet, ↓wp_mbp, ↓wp_ite, ↓wp_mix, ↓wp_mdiv, ↓wp_mnz, ↓wp_some, ↓wp_mbnd, ↓mlet_eq, ↓mbp_eq, ↓mbnd_eq, ↓mix_ite, ↓mdiv_ite, ↓mnz_ite, nI_add, nI_mul, nI_nat, nI_ltE, nI_leE, nI_eqE, nI_eqN, nI_Neq, nI_Nlt, nI_Nle, nI_ltN, nI_leN, ↓reduceIte, ↓Nat.reduceEqDiff, and_f, nt_e, nt_t, nl_t, nl_f, ne_t, ne_f, and_self, or_self, or_true, true_or, or_false, false_or, if_true, if_false, and_true, true_and, and_false, false_and, not_true, not_false_iff, e4, g1]) (fun m M1 kk h1 => by
    have e0 : M1 0 = M0 0 := funext fun b => h1.2 0 b (by omega)
    have e4 : M1 0 6 4 = nI (α 10) := by rw [e0]; exact hb.2.2.1
    show f_X11_putGuardsIn_L10 (nI z) (m + 1) (nI (α 10)) M1 kk = _
    rw [f_X11_putGuardsIn_L10.eq_2]
    simp (disch := omega) only [lit_0, lit_1, lit_2, lit_3, lit_4, lit_5, lit_6, lit_7, lit_8, lit_9, lit_10, lit_11, lit_12, lit_13, lit_14, lit_15, lit_16, lit_20, lit_23, lit_24, lit_31, lit_32, lit_39, lit_43, lit_45, lit_47, lit_48, lit_56, lit_57, lit_59, lit_60, lit_62, lit_63, lit_89, lit_92, lit_96, lit_97, lit_99, lit_100, lit_102, lit_103, lit_104, lit_110, lit_111, lit_115, lit_117, lit_194, lit_200, lit_644, lit_736, lit_999, lit_1000, lit_9999, lit_10000, lit_1000000000, ↓wp_mlet, ↓wp_mbp, ↓wp_ite, ↓wp_mix, ↓wp_mdiv, ↓wp_mnz, ↓wp_some, ↓wp_mbnd, ↓mlet_eq, ↓mbp_eq, ↓mbnd_eq, ↓mix_ite, ↓mdiv_ite, ↓mnz_ite, nI_add, nI_mul, nI_nat, nI_ltE, nI_leE, nI_eqE, nI_eqN, nI_Neq, nI_Nlt, nI_Nle, nI_ltN, nI_leN, ↓reduceIte, ↓Nat.reduceEqDiff, and_f, nt_e, nt_t, nl_t, nl_f, ne_t, ne_f, and_self, or_self, or_true, true_or, or_false, false_or, if_true, if_false, and_true, true_and, and_false, false_and, not_true, not_false_iff, e4]) (α 10) N 0 M (fun M13 => some ((), M13)) (by omega) (by omega) h
  simp only [lit_0, lit_1, lit_2, lit_3, lit_4, lit_5, lit_6, lit_7, lit_8, lit_9, lit_10, lit_11, lit_12, lit_13, lit_14, lit_15, lit_16, lit_20, lit_23, lit_24, lit_31, lit_32, lit_39, lit_43, lit_45, lit_47, lit_48, lit_56, lit_57, lit_59, lit_60, lit_62, lit_63, lit_89, lit_92, lit_96, lit_97, lit_99, lit_100, lit_102, lit_103, lit_104, lit_110, lit_111, lit_115, lit_117, lit_194, lit_200, lit_644, lit_736, lit_999, lit_1000, lit_9999, lit_10000, lit_1000000000]
  rw [key, wp_some]
  exact h2
theorem c_writeZones {M : Mem} {α : Sp} {H : Nat} (hR : RC (M 0) α) (hi : Inv H α) : wp (f_X11_writeZones M) fun r M1 => r = nI (zp α 8).1 ∧ Oc M M1 (zp α 8) := by
  have b10 := hi.1.2.2.2.2.2.2.2.2.2.2.1
  have bz := hi.2.2.2.2.2.2.1
  have hb := hR.2.2.1
  unfold f_X11_writeZones f_X7_clear
  generalize hN : (1000 : Nat) = N
  have h0 : Oc M (mup M 12 45 1 (nI 0)) (zp α 0) := ⟨⟨by rw [mup_at, if_pos (by decide)]; rfl, fun i hi => by exact absurd hi (Nat.not_lt_zero _)⟩, fun a b hab => pm_ne (by omega)⟩
  obtain ⟨M2, h2, key⟩ := mloopP (F := fun m x M1 kk => f_X11_writeZones_L9 m x M1 kk) (c := 8) (fun x M1 => Oc M M1 (zp α x)) (fun m x M1 kk hx h1 => by
    have l1 := zp_1 b10 x
    have l2 := itm_1 (z := x) (p := zp α x)
    have l3 := pnum_1 (n := α (31 + x)) (p := itm x (zp α x))
    have lz := (bz x hx).1
    obtain ⟨⟨⟩, M3, e3, h3⟩ := c_item h1 (by omega) (show x < 100 by omega)
    have ez : M3 0 7 x = nI (α (31 + x)) := by
      rw [h3.2 0 7 (by omega)]
      exact hb.2.2.2.1 x hx
    obtain ⟨⟨⟩, M4, e4, h4⟩ := c_num (n := α (31 + x)) h3 (by omega) (by omega)
    obtain ⟨⟨⟩, M5, e5, h5⟩ := c_guardsIn hb hi h4 (by omega) hx
    refine ⟨M5, by rw [zp_s]; exact h5, ?_⟩
    show f_X11_writeZones_L9 (m + 1) (nI x) M1 kk = _
    rw [f_X11_writeZones_L9.eq_2]
    simp (disch := omega) only [lit_0, lit_1, lit_2, lit_3, lit_4, lit_5, lit_6, lit_7, lit_8, lit_9, lit_10, lit_11, lit_12, lit_13, lit_14, lit_15, lit_16, lit_20, lit_23, lit_24, lit_31, lit_32, lit_39, lit_43, lit_45, lit_47, lit_48, lit_56, lit_57, lit_59, lit_60, lit_62, lit_63, lit_89, lit_92, lit_96, lit_97, lit_99, lit_100, lit_102, lit_103, lit_104, lit_110, lit_111, lit_115, lit_117, lit_194, lit_200, lit_644, lit_736, lit_999, lit_1000, lit_9999, lit_10000, lit_1000000000, ↓wp_mlet, ↓wp_mbp, ↓wp_ite, ↓wp_mix, ↓wp_mdiv, ↓wp_mnz, ↓wp_some, ↓wp_mbnd, ↓mlet_eq, ↓mbp_eq, ↓mbnd_eq, ↓mix_ite, ↓mdiv_ite, ↓mnz_ite, nI_add, nI_mul, nI_nat, nI_ltE, nI_leE, nI_eqE, nI_eqN, nI_Neq, nI_Nlt, nI_Nle, nI_ltN, nI_leN, ↓reduceIte, ↓Nat.reduceEqDiff, and_f, nt_e, nt_t, nl_t, nl_f, ne_t, ne_f, and_self, or_self, or_true, true_or, or_false, false_or, if_true, if_false, and_true, true_and, and_false, false_and, not_true, not_false_iff, e3, ez, e4, e5]) (fun m M1 kk h1 => by
    show f_X11_writeZones_L9 (m + 1) (nI 8) M1 kk = _
    rw [f_X11_writeZones_L9.eq_2]
    simp (disch := omega) only [lit_0, lit_1, lit_2, lit_3, lit_4, lit_5, lit_6, lit_7, lit_8, lit_9, lit_10, lit_11, lit_12, lit_13, lit_14, lit_15, lit_16, lit_20, lit_23, lit_24, lit_31, lit_32, lit_39, lit_43, lit_45, lit_47, lit_48, lit_56, lit_57, lit_59, lit_60, lit_62, lit_63, lit_89, lit_92, lit_96, lit_97, lit_99, lit_100, lit_102, lit_103, lit_104, lit_110, lit_111, lit_115, lit_117, lit_194, lit_200, lit_644, lit_736, lit_999, lit_1000, lit_9999, lit_10000, lit_1000000000, ↓wp_mlet, ↓wp_mbp, ↓wp_ite, ↓wp_mix, ↓wp_mdiv, ↓wp_mnz, ↓wp_some, ↓wp_mbnd, ↓mlet_eq, ↓mbp_eq, ↓mbnd_eq, ↓mix_ite, ↓mdiv_ite, ↓mnz_ite, nI_add, nI_mul, nI_nat, nI_ltE, nI_leE, nI_eqE, nI_eqN, nI_Neq, nI_Nlt, nI_Nle, nI_ltN, nI_leN, ↓reduceIte, ↓Nat.reduceEqDiff, and_f, nt_e, nt_t, nl_t, nl_f, ne_t, ne_f, and_self, or_self, or_true, true_or, or_false, false_or, if_true, if_false, and_true, true_and, and_false, false_and, not_true, not_false_iff]) 8 N 0 (mup M 12 45 1 (nI 0)) (fun M13 => some (M13 12 45 1, M13)) (by omega) (by omega) h0
  simp (disch := omega) only [lit_0, lit_1, lit_2, lit_3, lit_4, lit_5, lit_6, lit_7, lit_8, lit_9, lit_10, lit_11, lit_12, lit_13, lit_14, lit_15, lit_16, lit_20, lit_23, lit_24, lit_31, lit_32, lit_39, lit_43, lit_45, lit_47, lit_48, lit_56, lit_57, lit_59, lit_60, lit_62, lit_63, lit_89, lit_92, lit_96, lit_97, lit_99, lit_100, lit_102, lit_103, lit_104, lit_110, lit_111, lit_115, lit_117, lit_194, lit_200, lit_644, lit_736, lit_999, lit_1000, lit_9999, lit_10000, lit_1000000000, ↓wp_mlet, ↓wp_mbp, ↓wp_ite, ↓wp_mix, ↓wp_mdiv, ↓wp_mnz, ↓wp_some, ↓wp_mbnd, ↓mlet_eq, ↓mbp_eq, ↓mbnd_eq, ↓mix_ite, ↓mdiv_ite, ↓mnz_ite, nI_add, nI_mul, nI_nat, nI_ltE, nI_leE, nI_eqE, nI_eqN, nI_Neq, nI_Nlt, nI_Nle, nI_ltN, nI_leN, ↓reduceIte, ↓Nat.reduceEqDiff, and_f, nt_e, nt_t, nl_t, nl_f, ne_t, ne_f, and_self, or_self, or_true, true_or, or_false, false_or, if_true, if_false, and_true, true_and, and_false, false_and, not_true, not_false_iff]
  rw [key, wp_some]
  exact ⟨h2.1.1, h2⟩
theorem c_writeLog {M : Mem} {α : Sp} {H : Nat} (hR : RC (M 0) α) (hi : Inv H α) (hH : H < 90000) : wp (f_X11_writeLog M) fun r M1 => r = nI (lp α (α 14)).1 ∧ Oc M M1 (lp α (α 14)) := by
  have b11 := hi.1.2.2.2.2.2.2.2.2.2.2.2.1
  have b14 := hi.1.2.2.2.2.2.2.2.2.2.2.2.2
  have bl := hi.2.2.2.2.2.2.2.2.2
  have hj := hR.2.2.2
  unfold f_X11_writeLog f_X7_clear
  generalize hN : (1000 : Nat) = N
  have h0 : Oc M (mup M 12 45 1 (nI 0)) (lp α 0) := ⟨⟨by rw [mup_at, if_pos (by decide)]; rfl, fun i hi => by exact absurd hi (Nat.not_lt_zero _)⟩, fun a b hab => pm_ne (by omega)⟩
  obtain ⟨M2, h2, key⟩ := mloopP (F := fun m x M1 kk => f_X11_writeLog_L17 m x M1 kk) (c := α 14) (fun x M1 => Oc M M1 (lp α x)) (fun m x M1 kk hx h1 => by
    have l1 := lp_1 (α := α) x (fun k hk => by have := (bl k (by omega)).2.2; omega)
    have l2 := itm_1 (z := x) (p := lp α x)
    have l3 := pnum_1 (n := α (56 + 3 * x)) (p := itm x (lp α x))
    obtain ⟨w1, w2, w3⟩ := bl x hx
    obtain ⟨g1, g2, g3⟩ := hj.2.1 x (by omega) hx
    obtain ⟨⟨⟩, M3, e3, h3⟩ := c_item h1 (by omega) (show x < 100 by omega)
    have i1 : M1 0 12 0 = nI (α 14) := by rw [h1.2 0 12 (by omega)]; exact hj.1
    have i3 : M3 0 13 x = nI (α (56 + 3 * x)) := by rw [h3.2 0 13 (by omega)]; exact g1
    obtain ⟨⟨⟩, M4, e4, h4⟩ := c_num (n := α (56 + 3 * x)) h3 (by omega) (by omega)
    have i4 : M4 0 14 x = nI (α (57 + 3 * x)) := by rw [h4.2 0 14 (by omega)]; exact g2
    obtain ⟨⟨⟩, M5, e5, h5⟩ := c_put (c := α (57 + 3 * x)) h4 (by omega) (by omega)
    have i5 : M5 0 15 x = nI (α (58 + 3 * x)) := by rw [h5.2 0 15 (by omega)]; exact g3
    obtain ⟨⟨⟩, M6, e6, h6⟩ := c_num (n := α (58 + 3 * x)) h5 (by rw [pt_1]; omega) (by omega)
    refine ⟨M6, by rw [lp_s]; exact h6, ?_⟩
    show f_X11_writeLog_L17 (m + 1) (nI x) M1 kk = _
    rw [f_X11_writeLog_L17.eq_2]
    simp (disch := omega) only [lit_0, lit_1, lit_2, lit_3, lit_4, lit_5, lit_6, lit_7, lit_8, lit_9, lit_10, lit_11, lit_12, lit_13, lit_14, lit_15, lit_16, lit_20, lit_23, lit_24, lit_31, lit_32, lit_39, lit_43, lit_45, lit_47, lit_48, lit_56, lit_57, lit_59, lit_60, lit_62, lit_63, lit_89, lit_92, lit_96, lit_97, lit_99, lit_100, lit_102, lit_103, lit_104, lit_110, lit_111, lit_115, lit_117, lit_194, lit_200, lit_644, lit_736, lit_999, lit_1000, lit_9999, lit_10000, lit_1000000000, ↓wp_mlet, ↓wp_mbp, ↓wp_ite, ↓wp_mix, ↓wp_mdiv, ↓wp_mnz, ↓wp_some, ↓wp_mbnd, ↓mlet_eq, ↓mbp_eq, ↓mbnd_eq, ↓mix_ite, ↓mdiv_ite, ↓mnz_ite, nI_add, nI_mul, nI_nat, nI_ltE, nI_leE, nI_eqE, nI_eqN, nI_Neq, nI_Nlt, nI_Nle, nI_ltN, nI_leN, ↓reduceIte, ↓Nat.reduceEqDiff, and_f, nt_e, nt_t, nl_t, nl_f, ne_t, ne_f, and_self, or_self, or_true, true_or, or_false, false_or, if_true, if_false, and_true, true_and, and_false, false_and, not_true, not_false_iff, i1, e3, i3, e4, i4, e5, i5, e6]) (fun m M1 kk h1 => by
    have i1 : M1 0 12 0 = nI (α 14) := by rw [h1.2 0 12 (by omega)]; exact hj.1
    show f_X11_writeLog_L17 (m + 1) (nI (α 14)) M1 kk = _
    rw [f_X11_writeLog_L17.eq_2]
    simp (disch := omega) only [lit_0, lit_1, lit_2, lit_3, lit_4, lit_5, lit_6, lit_7, lit_8, lit_9, lit_10, lit_11, lit_12, lit_13, lit_14, lit_15, lit_16, lit_20, lit_23, lit_24, lit_31, lit_32, lit_39, lit_43, lit_45, lit_47, lit_48, lit_56, lit_57, lit_59, lit_60, lit_62, lit_63, lit_89, lit_92, lit_96, lit_97, lit_99, lit_100, lit_102, lit_103, lit_104, lit_110, lit_111, lit_115, lit_117, lit_194, lit_200, lit_644, lit_736, lit_999, lit_1000, lit_9999, lit_10000, lit_1000000000, ↓wp_mlet, ↓wp_mbp, ↓wp_ite, ↓wp_mix, ↓wp_mdiv, ↓wp_mnz, ↓wp_some, ↓wp_mbnd, ↓mlet_eq, ↓mbp_eq, ↓mbnd_eq, ↓mix_ite, ↓mdiv_ite, ↓mnz_ite, nI_add, nI_mul, nI_nat, nI_ltE, nI_leE, nI_eqE, nI_eqN, nI_Neq, nI_Nlt, nI_Nle, nI_ltN, nI_leN, ↓reduceIte, ↓Nat.reduceEqDiff, and_f, nt_e, nt_t, nl_t, nl_f, ne_t, ne_f, and_self, or_self, or_true, true_or, or_false, false_or, if_true, if_false, and_true, true_and, and_false, false_and, not_true, not_false_iff, i1]) (α 14) N 0 (mup M 12 45 1 (nI 0)) (fun M15 => some (M15 12 45 1, M15)) (by omega) (by omega) h0
  simp (disch := omega) only [lit_0, lit_1, lit_2, lit_3, lit_4, lit_5, lit_6, lit_7, lit_8, lit_9, lit_10, lit_11, lit_12, lit_13, lit_14, lit_15, lit_16, lit_20, lit_23, lit_24, lit_31, lit_32, lit_39, lit_43, lit_45, lit_47, lit_48, lit_56, lit_57, lit_59, lit_60, lit_62, lit_63, lit_89, lit_92, lit_96, lit_97, lit_99, lit_100, lit_102, lit_103, lit_104, lit_110, lit_111, lit_115, lit_117, lit_194, lit_200, lit_644, lit_736, lit_999, lit_1000, lit_9999, lit_10000, lit_1000000000, ↓wp_mlet, ↓wp_mbp, ↓wp_ite, ↓wp_mix, ↓wp_mdiv, ↓wp_mnz, ↓wp_some, ↓wp_mbnd, ↓mlet_eq, ↓mbp_eq, ↓mbnd_eq, ↓mix_ite, ↓mdiv_ite, ↓mnz_ite, nI_add, nI_mul, nI_nat, nI_ltE, nI_leE, nI_eqE, nI_eqN, nI_Neq, nI_Nlt, nI_Nle, nI_ltN, nI_leN, ↓reduceIte, ↓Nat.reduceEqDiff, and_f, nt_e, nt_t, nl_t, nl_f, ne_t, ne_f, and_self, or_self, or_true, true_or, or_false, false_or, if_true, if_false, and_true, true_and, and_false, false_and, not_true, not_false_iff]
  rw [key, wp_some]
  exact ⟨h2.1.1, h2⟩
