theorem m_other {M : Mem} {a b : Int32} (e1 : f_X12_here (1 : Int32) M = some b) (K : Int32 → Option (Unit × Mem)) : (mlet K fun k59_16 => (mlet (fun (_u : Unit) => (k59_16 (1 : Int32))) fun k54_14 => (mlet (fun (_u : Unit) => (mlet (fun (_u : Unit) => (mlet (fun (_u : Unit) => (k59_16 (0 : Int32))) fun k58_13 => (if a = (103 : Int32) then (mbp (f_X12_here (1 : Int32) M) fun r11 => (if r11 = (117 : Int32) then (k54_14 ()) else (k58_13 ()))) else (k58_13 ())))) fun k38_9 => (if a = (115 : Int32) then (mbp (f_X12_here (1 : Int32) M) fun r7 => (if r7 = (104 : Int32) then (k54_14 ()) else (k38_9 ()))) else (k38_9 ())))) fun k22_5 => (if a = (104 : Int32) then (mbp (f_X12_here (1 : Int32) M) fun r3 => (if r3 = (117 : Int32) then (k54_14 ()) else (k22_5 ()))) else (k22_5 ()))))) = K (if (a = 104 ∧ b = 117) ∨ (a = 115 ∧ b = 104) ∨ (a = 103 ∧ b = 117) then 1 else 0) := by
  simp only [mlet_eq, e1, mbp_eq]
  by_cases h1 : a = 104
  · subst h1
    by_cases h4 : b = 117
    · subst h4; rfl
    · rw [if_pos rfl, if_neg h4, if_neg (by decide), if_neg (by decide), if_neg (by simp [h4])]
  · rw [if_neg h1]
    by_cases h2 : a = 115
    · subst h2
      by_cases h5 : b = 104
      · subst h5; rfl
      · rw [if_pos rfl, if_neg h5, if_neg (by decide), if_neg (by simp [h5])]
    · rw [if_neg h2]
      by_cases h3 : a = 103
      · subst h3
        by_cases h4 : b = 117
        · subst h4; rfl
        · rw [if_pos rfl, if_neg h4, if_neg (by simp [h4])]
      · rw [if_neg h3, if_neg (by simp [h1, h2, h3])]
theorem m_readsOne {M : Mem} {tx : Nat → Nat} {L p c : Nat} (h : Mst M M tx L c (r0 p z0)) : wp (f_X12_readsOne M) fun _ M1 => ROm M M1 tx L p c := by
  have h' := h
  obtain ⟨⟨t1, t2, t3⟩, ⟨t4, t5, t6⟩, ⟨t7, t8⟩, t9, t10⟩ := h'
  have eh0 : f_X12_here (nI 0) M = some (pk tx L p) := m_here (j := 0) h (by decide)
  have eh1 : f_X12_here (nI 1) M = some (pk tx L (p + 1)) := m_here (j := 1) h (by decide)
  have at' : ∀ q k, k < 65536 → (pk tx L q = nI k) = (isAt tx L q (nI k) = true) := fun q k hk => pk_at (fun i hi => (t3 i hi).2) hk
  have l98 : (98 : Int32) = nI 98 := rfl
  have l116 : (116 : Int32) = nI 116 := rfl
  have l119 : (119 : Int32) = nI 119 := rfl
  have M20 : ∀ v, Mst (mup M 12 54 (6 * c) v) (mup M 12 54 (6 * c) v) tx L c (r0 p z0) := fun v => ⟨⟨t1, by rw [mup_at, if_neg (by omega)]; exact t2, fun i hi => by rw [mup_at, if_neg (by omega)]; exact t3 i hi⟩, ⟨by rw [mup_at, if_neg (by omega)]; exact t4, by rw [mup_at, if_neg (by omega)]; exact t5, by rw [mup_at, if_neg (by omega)]; exact t6⟩, ⟨t7, t8⟩, fun _ j hj => absurd hj (Nat.not_lt_zero _), fun _ _ _ _ => rfl⟩
  have eh0' : f_X12_here (0 : Int32) M = some (pk tx L p) := eh0
  have eh1' : f_X12_here (1 : Int32) M = some (pk tx L (p + 1)) := eh1
  unfold f_X12_readsOne
  rw [eh0', mbp_eq, m_other eh1']
  have cond : ((pk tx L p = 104 ∧ pk tx L (p + 1) = 117) ∨ (pk tx L p = 115 ∧ pk tx L (p + 1) = 104) ∨ (pk tx L p = 103 ∧ pk tx L (p + 1) = 117)) ↔ ((isAt tx L p 104 = true ∧ isAt tx L (p + 1) 117 = true) ∨ (isAt tx L p 115 = true ∧ isAt tx L (p + 1) 104 = true) ∨ (isAt tx L p 103 = true ∧ isAt tx L (p + 1) 117 = true)) := by
    rw [show (pk tx L p = 104) = (isAt tx L p 104 = true) from at' p 104 (by decide), show (pk tx L p = 115) = (isAt tx L p 115 = true) from at' p 115 (by decide), show (pk tx L p = 103) = (isAt tx L p 103 = true) from at' p 103 (by decide), show (pk tx L (p + 1) = 117) = (isAt tx L (p + 1) 117 = true) from at' (p + 1) 117 (by decide), show (pk tx L (p + 1) = 104) = (isAt tx L (p + 1) 104 = true) from at' (p + 1) 104 (by decide)]
  have ne : ∀ {a b : Int32} {q : Nat}, a ≠ b → isAt tx L q a = true → ¬ isAt tx L q b = true := fun hab h1 h2 => hab (isAt_inj h1 h2)
  have x0 : ∀ w, wsel tx L p = some w → ((w = 9 ∨ w = 2 ∨ w = 7) → ((isAt tx L p 104 = true ∧ isAt tx L (p + 1) 117 = true) ∨ (isAt tx L p 115 = true ∧ isAt tx L (p + 1) 104 = true) ∨ (isAt tx L p 103 = true ∧ isAt tx L (p + 1) 117 = true))) ∧ (¬ (w = 9 ∨ w = 2 ∨ w = 7) → ¬ ((isAt tx L p 104 = true ∧ isAt tx L (p + 1) 117 = true) ∨ (isAt tx L p 115 = true ∧ isAt tx L (p + 1) 104 = true) ∨ (isAt tx L p 103 = true ∧ isAt tx L (p + 1) 117 = true))) := by
    intro w
    unfold wsel
    by_cases q1 : isAt tx L p 104 = true
    · have n1 := ne (show (104 : Int32) ≠ 115 by decide) q1
      have n2 := ne (show (104 : Int32) ≠ 103 by decide) q1
      rw [if_pos q1]
      by_cases q2 : isAt tx L (p + 1) 117 = true
      · rw [if_pos q2]
        intro e
        cases e
        exact ⟨fun _ => Or.inl ⟨q1, q2⟩, fun e => absurd (Or.inl rfl) e⟩
      · rw [if_neg q2]
        intro e
        cases e
        exact ⟨fun e => by omega, fun _ hh => hh.elim (fun h => q2 h.2) (fun h => h.elim (fun h => n1 h.1) (fun h => n2 h.1))⟩
    · rw [if_neg q1]
      by_cases q3 : isAt tx L p 115 = true
      · have n2 := ne (show (115 : Int32) ≠ 103 by decide) q3
        rw [if_pos q3]
        by_cases q2 : isAt tx L (p + 1) 104 = true
        · rw [if_pos q2]
          intro e
          cases e
          exact ⟨fun _ => Or.inr (Or.inl ⟨q3, q2⟩), fun e => absurd (Or.inr (Or.inl rfl)) e⟩
        · rw [if_neg q2]
          intro e
          cases e
          exact ⟨fun e => by omega, fun _ hh => hh.elim (fun h => q1 h.1) (fun h => h.elim (fun h => q2 h.2) (fun h => n2 h.1))⟩
      · rw [if_neg q3]
        by_cases q4 : isAt tx L p 103 = true
        · rw [if_pos q4]
          by_cases q2 : isAt tx L (p + 1) 117 = true
          · rw [if_pos q2]
            intro e
            cases e
            exact ⟨fun _ => Or.inr (Or.inr ⟨q4, q2⟩), fun e => absurd (Or.inr (Or.inr rfl)) e⟩
          · rw [if_neg q2]
            intro e
            cases e
            exact ⟨fun e => by omega, fun _ hh => hh.elim (fun h => q1 h.1) (fun h => h.elim (fun h => q3 h.1) (fun h => q2 h.2))⟩
        · rw [if_neg q4]
          intro e
          refine ⟨fun e2 => ?_, fun _ hh => hh.elim (fun h => q1 h.1) (fun h => h.elim (fun h => q3 h.1) (fun h => q4 h.1))⟩
          exfalso
          have e3 : w = 4 ∨ w = 5 ∨ w = 6 ∨ w = 8 ∨ w = 10 := by
            split at e
            · cases e; decide
            split at e
            · cases e; decide
            split at e
            · cases e; decide
            split at e
            · cases e; decide
            split at e
            · cases e; decide
            · cases e
          omega
  have x15 : ∀ w, wsel tx L p = some w → ((w = 9 ∨ w = 2 ∨ w = 7) → (if ((pk tx L p = 104 ∧ pk tx L (p + 1) = 117) ∨ (pk tx L p = 115 ∧ pk tx L (p + 1) = 104) ∨ (pk tx L p = 103 ∧ pk tx L (p + 1) = 117)) then (1 : Int32) else 0) = nI 1) ∧ (¬ (w = 9 ∨ w = 2 ∨ w = 7) → (if ((pk tx L p = 104 ∧ pk tx L (p + 1) = 117) ∨ (pk tx L p = 115 ∧ pk tx L (p + 1) = 104) ∨ (pk tx L p = 103 ∧ pk tx L (p + 1) = 117)) then (1 : Int32) else 0) = nI 0) := fun w hw => ⟨fun h => if_pos (cond.mpr ((x0 w hw).1 h)), fun h => if_neg (fun q => (x0 w hw).2 h (cond.mp q))⟩
  by_cases q_h : isAt tx L p 104 = true
  · have e0 : pk tx L p = nI 104 := by rw [at' p 104 (by decide)]; exact q_h
    by_cases r : isAt tx L (p + 1) 117 = true
    · have e1 : pk tx L (p + 1) = nI 117 := by rw [at' (p + 1) 117 (by decide)]; exact r
      have hw : wsel tx L p = some 9 := by unfold wsel; rw [if_pos q_h, if_pos r]
      have x15' := (x15 9 hw).1 (by decide)
      rw [x15']
      obtain ⟨⟨⟩, M2, e2, h2⟩ := m_num' (k := 1) (m := 1) 5 (by decide) (by decide) (by decide) (M20 (nI (codeW 9))) (fun _ => rfl)
      obtain ⟨⟨⟩, M3, e3, h3⟩ := m_num' (k := 2) (m := 1) 3 (by decide) (by decide) (by decide) h2 (fun q => by rw [(num_ok q).2, lit_cnt]; rfl)
      have x21 := h3.2.1.2.1
      have ec : codeW 9 = 204 := rfl
      rw [ec] at e2
      simp (disch := omega) only [lit_0, lit_1, lit_2, lit_3, lit_4, lit_5, lit_6, lit_7, lit_8, lit_9, lit_10, lit_11, lit_12, lit_13, lit_14, lit_15, lit_16, lit_20, lit_23, lit_24, lit_31, lit_32, lit_39, lit_43, lit_45, lit_47, lit_48, lit_56, lit_57, lit_59, lit_60, lit_62, lit_63, lit_89, lit_92, lit_96, lit_97, lit_99, lit_100, lit_102, lit_103, lit_104, lit_110, lit_111, lit_115, lit_117, lit_194, lit_200, lit_644, lit_736, lit_999, lit_1000, lit_9999, lit_10000, lit_1000000000, ↓wp_mlet, ↓wp_mbp, ↓wp_ite, ↓wp_mix, ↓wp_mdiv, ↓wp_mnz, ↓wp_some, ↓wp_mbnd, ↓mlet_eq, ↓mbp_eq, ↓mbnd_eq, ↓mix_ite, ↓mdiv_ite, ↓mnz_ite, nI_add, nI_mul, nI_nat, nI_ltE, nI_leE, nI_eqE, nI_eqN, nI_Neq, nI_Nlt, nI_Nle, nI_ltN, nI_leN, ↓reduceIte, ↓Nat.reduceEqDiff, and_f, nt_e, nt_t, nl_t, nl_f, ne_t, ne_f, and_self, or_self, or_true, true_or, or_false, false_or, if_true, if_false, and_true, true_and, and_false, false_and, not_true, not_false_iff, e0, t5, l98, l116, l119, e2, e3, x21]
      exact ro_end (w := 9) hw (by
        rw [cmd_chain hw (by decide), show frm 9 = [32, 100, 32, 100] from rfl, chain_c, chain_c, chain_c, chain_c]
        simp only [op32, op100, op110, op115]
        rw [show mTx.getD 5 [] = ltr 9 ++ [32] from rfl, lit_app]
        rw [show mTx.getD 3 [] = [32] from rfl]
        rfl) h3
    · have e1 : (pk tx L (p + 1) = nI 117) = False := eq_false (by rw [at' (p + 1) 117 (by decide)]; exact r)
      have hw : wsel tx L p = some 0 := by unfold wsel; rw [if_pos q_h, if_neg r]
      have x15' := (x15 0 hw).2 (by decide)
      rw [x15']
      obtain ⟨⟨⟩, M2, e2, h2⟩ := m_says' 6 (by decide) (M20 (nI (codeW 0)))
      have x21 := h2.2.1.2.1
      have ec : codeW 0 = 104 := rfl
      rw [ec] at e2
      simp (disch := omega) only [lit_0, lit_1, lit_2, lit_3, lit_4, lit_5, lit_6, lit_7, lit_8, lit_9, lit_10, lit_11, lit_12, lit_13, lit_14, lit_15, lit_16, lit_20, lit_23, lit_24, lit_31, lit_32, lit_39, lit_43, lit_45, lit_47, lit_48, lit_56, lit_57, lit_59, lit_60, lit_62, lit_63, lit_89, lit_92, lit_96, lit_97, lit_99, lit_100, lit_102, lit_103, lit_104, lit_110, lit_111, lit_115, lit_117, lit_194, lit_200, lit_644, lit_736, lit_999, lit_1000, lit_9999, lit_10000, lit_1000000000, ↓wp_mlet, ↓wp_mbp, ↓wp_ite, ↓wp_mix, ↓wp_mdiv, ↓wp_mnz, ↓wp_some, ↓wp_mbnd, ↓mlet_eq, ↓mbp_eq, ↓mbnd_eq, ↓mix_ite, ↓mdiv_ite, ↓mnz_ite, nI_add, nI_mul, nI_nat, nI_ltE, nI_leE, nI_eqE, nI_eqN, nI_Neq, nI_Nlt, nI_Nle, nI_ltN, nI_leN, ↓reduceIte, ↓Nat.reduceEqDiff, and_f, nt_e, nt_t, nl_t, nl_f, ne_t, ne_f, and_self, or_self, or_true, true_or, or_false, false_or, if_true, if_false, and_true, true_and, and_false, false_and, not_true, not_false_iff, e0, t5, l98, l116, l119, e2, x21]
      exact ro_end (w := 0) hw (by
        rw [cmd_chain hw (by decide), show frm 0 = [] from rfl]
        rfl) h2
  by_cases q_s : isAt tx L p 115 = true
  · have e0 : pk tx L p = nI 115 := by rw [at' p 115 (by decide)]; exact q_s
    by_cases r : isAt tx L (p + 1) 104 = true
    · have e1 : pk tx L (p + 1) = nI 104 := by rw [at' (p + 1) 104 (by decide)]; exact r
      have hw : wsel tx L p = some 2 := by unfold wsel; rw [if_neg q_h, if_pos q_s, if_pos r]
      have x15' := (x15 2 hw).1 (by decide)
      rw [x15']
      obtain ⟨⟨⟩, M2, e2, h2⟩ := m_num' (k := 1) (m := 1) 7 (by decide) (by decide) (by decide) (M20 (nI (codeW 2))) (fun _ => rfl)
      obtain ⟨⟨⟩, M3, e3, h3⟩ := m_num' (k := 2) (m := 2) 3 (by decide) (by decide) (by decide) h2 (fun q => by rw [(num_ok q).2, lit_cnt]; rfl)
      have x21 := h3.2.1.2.1
      have ec : codeW 2 = 215 := rfl
      rw [ec] at e2
      simp (disch := omega) only [lit_0, lit_1, lit_2, lit_3, lit_4, lit_5, lit_6, lit_7, lit_8, lit_9, lit_10, lit_11, lit_12, lit_13, lit_14, lit_15, lit_16, lit_20, lit_23, lit_24, lit_31, lit_32, lit_39, lit_43, lit_45, lit_47, lit_48, lit_56, lit_57, lit_59, lit_60, lit_62, lit_63, lit_89, lit_92, lit_96, lit_97, lit_99, lit_100, lit_102, lit_103, lit_104, lit_110, lit_111, lit_115, lit_117, lit_194, lit_200, lit_644, lit_736, lit_999, lit_1000, lit_9999, lit_10000, lit_1000000000, ↓wp_mlet, ↓wp_mbp, ↓wp_ite, ↓wp_mix, ↓wp_mdiv, ↓wp_mnz, ↓wp_some, ↓wp_mbnd, ↓mlet_eq, ↓mbp_eq, ↓mbnd_eq, ↓mix_ite, ↓mdiv_ite, ↓mnz_ite, nI_add, nI_mul, nI_nat, nI_ltE, nI_leE, nI_eqE, nI_eqN, nI_Neq, nI_Nlt, nI_Nle, nI_ltN, nI_leN, ↓reduceIte, ↓Nat.reduceEqDiff, and_f, nt_e, nt_t, nl_t, nl_f, ne_t, ne_f, and_self, or_self, or_true, true_or, or_false, false_or, if_true, if_false, and_true, true_and, and_false, false_and, not_true, not_false_iff, e0, t5, l98, l116, l119, e2, e3, x21]
      exact ro_end (w := 2) hw (by
        rw [cmd_chain hw (by decide), show frm 2 = [32, 100, 32, 110] from rfl, chain_c, chain_c, chain_c, chain_c]
        simp only [op32, op100, op110, op115]
        rw [show mTx.getD 7 [] = ltr 2 ++ [32] from rfl, lit_app]
        rw [show mTx.getD 3 [] = [32] from rfl]
        rfl) h3
    · have e1 : (pk tx L (p + 1) = nI 104) = False := eq_false (by rw [at' (p + 1) 104 (by decide)]; exact r)
      have hw : wsel tx L p = some 1 := by unfold wsel; rw [if_neg q_h, if_pos q_s, if_neg r]
      have x15' := (x15 1 hw).2 (by decide)
      rw [x15']
      obtain ⟨⟨⟩, M2, e2, h2⟩ := m_readsSeal (M20 (nI (codeW 1)))
      have x21 := h2.2.1.2.1
      have ec : codeW 1 = 115 := rfl
      rw [ec] at e2
      simp (disch := omega) only [lit_0, lit_1, lit_2, lit_3, lit_4, lit_5, lit_6, lit_7, lit_8, lit_9, lit_10, lit_11, lit_12, lit_13, lit_14, lit_15, lit_16, lit_20, lit_23, lit_24, lit_31, lit_32, lit_39, lit_43, lit_45, lit_47, lit_48, lit_56, lit_57, lit_59, lit_60, lit_62, lit_63, lit_89, lit_92, lit_96, lit_97, lit_99, lit_100, lit_102, lit_103, lit_104, lit_110, lit_111, lit_115, lit_117, lit_194, lit_200, lit_644, lit_736, lit_999, lit_1000, lit_9999, lit_10000, lit_1000000000, ↓wp_mlet, ↓wp_mbp, ↓wp_ite, ↓wp_mix, ↓wp_mdiv, ↓wp_mnz, ↓wp_some, ↓wp_mbnd, ↓mlet_eq, ↓mbp_eq, ↓mbnd_eq, ↓mix_ite, ↓mdiv_ite, ↓mnz_ite, nI_add, nI_mul, nI_nat, nI_ltE, nI_leE, nI_eqE, nI_eqN, nI_Neq, nI_Nlt, nI_Nle, nI_ltN, nI_leN, ↓reduceIte, ↓Nat.reduceEqDiff, and_f, nt_e, nt_t, nl_t, nl_f, ne_t, ne_f, and_self, or_self, or_true, true_or, or_false, false_or, if_true, if_false, and_true, true_and, and_false, false_and, not_true, not_false_iff, e0, t5, l98, l116, l119, e2, x21]
      exact ro_end (w := 1) hw (by
        rw [cmd_chain hw (by decide), show frm 1 = [32, 110, 32, 110, 32, 110, 32, 110] from rfl, chain_c, chain_c, chain_c, chain_c, chain_c, chain_c, chain_c, chain_c]
        simp only [op32, op100, op110, op115]
        rw [show mTx.getD 2 [] = ltr 1 ++ [32] from rfl, lit_app]
        rfl) h2
  by_cases q_g : isAt tx L p 103 = true
  · have e0 : pk tx L p = nI 103 := by rw [at' p 103 (by decide)]; exact q_g
    by_cases r : isAt tx L (p + 1) 117 = true
    · have e1 : pk tx L (p + 1) = nI 117 := by rw [at' (p + 1) 117 (by decide)]; exact r
      have hw : wsel tx L p = some 7 := by unfold wsel; rw [if_neg q_h, if_neg q_s, if_pos q_g, if_pos r]
      have x15' := (x15 7 hw).1 (by decide)
      rw [x15']
      obtain ⟨⟨⟩, M2, e2, h2⟩ := m_readsGuard (M20 (nI (codeW 7)))
      have x21 := h2.2.1.2.1
      have ec : codeW 7 = 203 := rfl
      rw [ec] at e2
      simp (disch := omega) only [lit_0, lit_1, lit_2, lit_3, lit_4, lit_5, lit_6, lit_7, lit_8, lit_9, lit_10, lit_11, lit_12, lit_13, lit_14, lit_15, lit_16, lit_20, lit_23, lit_24, lit_31, lit_32, lit_39, lit_43, lit_45, lit_47, lit_48, lit_56, lit_57, lit_59, lit_60, lit_62, lit_63, lit_89, lit_92, lit_96, lit_97, lit_99, lit_100, lit_102, lit_103, lit_104, lit_110, lit_111, lit_115, lit_117, lit_194, lit_200, lit_644, lit_736, lit_999, lit_1000, lit_9999, lit_10000, lit_1000000000, ↓wp_mlet, ↓wp_mbp, ↓wp_ite, ↓wp_mix, ↓wp_mdiv, ↓wp_mnz, ↓wp_some, ↓wp_mbnd, ↓mlet_eq, ↓mbp_eq, ↓mbnd_eq, ↓mix_ite, ↓mdiv_ite, ↓mnz_ite, nI_add, nI_mul, nI_nat, nI_ltE, nI_leE, nI_eqE, nI_eqN, nI_Neq, nI_Nlt, nI_Nle, nI_ltN, nI_leN, ↓reduceIte, ↓Nat.reduceEqDiff, and_f, nt_e, nt_t, nl_t, nl_f, ne_t, ne_f, and_self, or_self, or_true, true_or, or_false, false_or, if_true, if_false, and_true, true_and, and_false, false_and, not_true, not_false_iff, e0, t5, l98, l116, l119, e2, x21]
      exact ro_end (w := 7) hw (by
        rw [cmd_chain hw (by decide), show frm 7 = [32, 100, 115, 100] from rfl, chain_c, chain_c, chain_c, chain_c]
        simp only [op32, op100, op110, op115]
        rw [show mTx.getD 0 [] = ltr 7 ++ [32] from rfl, lit_app]
        rfl) h2
    · have e1 : (pk tx L (p + 1) = nI 117) = False := eq_false (by rw [at' (p + 1) 117 (by decide)]; exact r)
      have hw : wsel tx L p = some 3 := by unfold wsel; rw [if_neg q_h, if_neg q_s, if_pos q_g, if_neg r]
      have x15' := (x15 3 hw).2 (by decide)
      rw [x15']
      obtain ⟨⟨⟩, M2, e2, h2⟩ := m_num' (k := 1) (m := 1) 8 (by decide) (by decide) (by decide) (M20 (nI (codeW 3))) (fun _ => rfl)
      have x21 := h2.2.1.2.1
      have ec : codeW 3 = 103 := rfl
      rw [ec] at e2
      simp (disch := omega) only [lit_0, lit_1, lit_2, lit_3, lit_4, lit_5, lit_6, lit_7, lit_8, lit_9, lit_10, lit_11, lit_12, lit_13, lit_14, lit_15, lit_16, lit_20, lit_23, lit_24, lit_31, lit_32, lit_39, lit_43, lit_45, lit_47, lit_48, lit_56, lit_57, lit_59, lit_60, lit_62, lit_63, lit_89, lit_92, lit_96, lit_97, lit_99, lit_100, lit_102, lit_103, lit_104, lit_110, lit_111, lit_115, lit_117, lit_194, lit_200, lit_644, lit_736, lit_999, lit_1000, lit_9999, lit_10000, lit_1000000000, ↓wp_mlet, ↓wp_mbp, ↓wp_ite, ↓wp_mix, ↓wp_mdiv, ↓wp_mnz, ↓wp_some, ↓wp_mbnd, ↓mlet_eq, ↓mbp_eq, ↓mbnd_eq, ↓mix_ite, ↓mdiv_ite, ↓mnz_ite, nI_add, nI_mul, nI_nat, nI_ltE, nI_leE, nI_eqE, nI_eqN, nI_Neq, nI_Nlt, nI_Nle, nI_ltN, nI_leN, ↓reduceIte, ↓Nat.reduceEqDiff, and_f, nt_e, nt_t, nl_t, nl_f, ne_t, ne_f, and_self, or_self, or_true, true_or, or_false, false_or, if_true, if_false, and_true, true_and, and_false, false_and, not_true, not_false_iff, e0, t5, l98, l116, l119, e2, x21]
      exact ro_end (w := 3) hw (by
        rw [cmd_chain hw (by decide), show frm 3 = [32, 100] from rfl, chain_c, chain_c]
        simp only [op32, op100, op110, op115]
        rw [show mTx.getD 8 [] = ltr 3 ++ [32] from rfl, lit_app]
        rfl) h2
  by_cases q_b : isAt tx L p 98 = true
  · have e0 : pk tx L p = nI 98 := by rw [at' p 98 (by decide)]; exact q_b
    have hw : wsel tx L p = some 4 := by unfold wsel; rw [if_neg q_h, if_neg q_s, if_neg q_g, if_pos q_b]
    have x15' := (x15 4 hw).2 (by decide)
    rw [x15']
    obtain ⟨⟨⟩, M2, e2, h2⟩ := m_num' (k := 1) (m := 1) 9 (by decide) (by decide) (by decide) (M20 (nI (codeW 4))) (fun _ => rfl)
    have x21 := h2.2.1.2.1
    have ec : codeW 4 = 98 := rfl
    rw [ec] at e2
    simp (disch := omega) only [lit_0, lit_1, lit_2, lit_3, lit_4, lit_5, lit_6, lit_7, lit_8, lit_9, lit_10, lit_11, lit_12, lit_13, lit_14, lit_15, lit_16, lit_20, lit_23, lit_24, lit_31, lit_32, lit_39, lit_43, lit_45, lit_47, lit_48, lit_56, lit_57, lit_59, lit_60, lit_62, lit_63, lit_89, lit_92, lit_96, lit_97, lit_99, lit_100, lit_102, lit_103, lit_104, lit_110, lit_111, lit_115, lit_117, lit_194, lit_200, lit_644, lit_736, lit_999, lit_1000, lit_9999, lit_10000, lit_1000000000, ↓wp_mlet, ↓wp_mbp, ↓wp_ite, ↓wp_mix, ↓wp_mdiv, ↓wp_mnz, ↓wp_some, ↓wp_mbnd, ↓mlet_eq, ↓mbp_eq, ↓mbnd_eq, ↓mix_ite, ↓mdiv_ite, ↓mnz_ite, nI_add, nI_mul, nI_nat, nI_ltE, nI_leE, nI_eqE, nI_eqN, nI_Neq, nI_Nlt, nI_Nle, nI_ltN, nI_leN, ↓reduceIte, ↓Nat.reduceEqDiff, and_f, nt_e, nt_t, nl_t, nl_f, ne_t, ne_f, and_self, or_self, or_true, true_or, or_false, false_or, if_true, if_false, and_true, true_and, and_false, false_and, not_true, not_false_iff, e0, t5, l98, l116, l119, e2, x21]
    exact ro_end (w := 4) hw (by
      rw [cmd_chain hw (by decide), show frm 4 = [32, 100] from rfl, chain_c, chain_c]
      simp only [op32, op100, op110, op115]
      rw [show mTx.getD 9 [] = ltr 4 ++ [32] from rfl, lit_app]
      rfl) h2
  by_cases q_o : isAt tx L p 111 = true
  · have e0 : pk tx L p = nI 111 := by rw [at' p 111 (by decide)]; exact q_o
    have hw : wsel tx L p = some 5 := by unfold wsel; rw [if_neg q_h, if_neg q_s, if_neg q_g, if_neg q_b, if_pos q_o]
    have x15' := (x15 5 hw).2 (by decide)
    rw [x15']
    obtain ⟨⟨⟩, M2, e2, h2⟩ := m_says' 10 (by decide) (M20 (nI (codeW 5)))
    have x21 := h2.2.1.2.1
    have ec : codeW 5 = 111 := rfl
    rw [ec] at e2
    simp (disch := omega) only [lit_0, lit_1, lit_2, lit_3, lit_4, lit_5, lit_6, lit_7, lit_8, lit_9, lit_10, lit_11, lit_12, lit_13, lit_14, lit_15, lit_16, lit_20, lit_23, lit_24, lit_31, lit_32, lit_39, lit_43, lit_45, lit_47, lit_48, lit_56, lit_57, lit_59, lit_60, lit_62, lit_63, lit_89, lit_92, lit_96, lit_97, lit_99, lit_100, lit_102, lit_103, lit_104, lit_110, lit_111, lit_115, lit_117, lit_194, lit_200, lit_644, lit_736, lit_999, lit_1000, lit_9999, lit_10000, lit_1000000000, ↓wp_mlet, ↓wp_mbp, ↓wp_ite, ↓wp_mix, ↓wp_mdiv, ↓wp_mnz, ↓wp_some, ↓wp_mbnd, ↓mlet_eq, ↓mbp_eq, ↓mbnd_eq, ↓mix_ite, ↓mdiv_ite, ↓mnz_ite, nI_add, nI_mul, nI_nat, nI_ltE, nI_leE, nI_eqE, nI_eqN, nI_Neq, nI_Nlt, nI_Nle, nI_ltN, nI_leN, ↓reduceIte, ↓Nat.reduceEqDiff, and_f, nt_e, nt_t, nl_t, nl_f, ne_t, ne_f, and_self, or_self, or_true, true_or, or_false, false_or, if_true, if_false, and_true, true_and, and_false, false_and, not_true, not_false_iff, e0, t5, l98, l116, l119, e2, x21]
    exact ro_end (w := 5) hw (by
      rw [cmd_chain hw (by decide), show frm 5 = [] from rfl]
      rfl) h2
  by_cases q_c : isAt tx L p 99 = true
  · have e0 : pk tx L p = nI 99 := by rw [at' p 99 (by decide)]; exact q_c
    have hw : wsel tx L p = some 6 := by unfold wsel; rw [if_neg q_h, if_neg q_s, if_neg q_g, if_neg q_b, if_neg q_o, if_pos q_c]
    have x15' := (x15 6 hw).2 (by decide)
    rw [x15']
    obtain ⟨⟨⟩, M2, e2, h2⟩ := m_says' 11 (by decide) (M20 (nI (codeW 6)))
    have x21 := h2.2.1.2.1
    have ec : codeW 6 = 99 := rfl
    rw [ec] at e2
    simp (disch := omega) only [lit_0, lit_1, lit_2, lit_3, lit_4, lit_5, lit_6, lit_7, lit_8, lit_9, lit_10, lit_11, lit_12, lit_13, lit_14, lit_15, lit_16, lit_20, lit_23, lit_24, lit_31, lit_32, lit_39, lit_43, lit_45, lit_47, lit_48, lit_56, lit_57, lit_59, lit_60, lit_62, lit_63, lit_89, lit_92, lit_96, lit_97, lit_99, lit_100, lit_102, lit_103, lit_104, lit_110, lit_111, lit_115, lit_117, lit_194, lit_200, lit_644, lit_736, lit_999, lit_1000, lit_9999, lit_10000, lit_1000000000, ↓wp_mlet, ↓wp_mbp, ↓wp_ite, ↓wp_mix, ↓wp_mdiv, ↓wp_mnz, ↓wp_some, ↓wp_mbnd, ↓mlet_eq, ↓mbp_eq, ↓mbnd_eq, ↓mix_ite, ↓mdiv_ite, ↓mnz_ite, nI_add, nI_mul, nI_nat, nI_ltE, nI_leE, nI_eqE, nI_eqN, nI_Neq, nI_Nlt, nI_Nle, nI_ltN, nI_leN, ↓reduceIte, ↓Nat.reduceEqDiff, and_f, nt_e, nt_t, nl_t, nl_f, ne_t, ne_f, and_self, or_self, or_true, true_or, or_false, false_or, if_true, if_false, and_true, true_and, and_false, false_and, not_true, not_false_iff, e0, t5, l98, l116, l119, e2, x21]
    exact ro_end (w := 6) hw (by
      rw [cmd_chain hw (by decide), show frm 6 = [] from rfl]
      rfl) h2
  by_cases q_t : isAt tx L p 116 = true
  · have e0 : pk tx L p = nI 116 := by rw [at' p 116 (by decide)]; exact q_t
    have hw : wsel tx L p = some 8 := by unfold wsel; rw [if_neg q_h, if_neg q_s, if_neg q_g, if_neg q_b, if_neg q_o, if_neg q_c, if_pos q_t]
    have x15' := (x15 8 hw).2 (by decide)
    rw [x15']
    obtain ⟨⟨⟩, M2, e2, h2⟩ := m_num' (k := 1) (m := 1) 12 (by decide) (by decide) (by decide) (M20 (nI (codeW 8))) (fun _ => rfl)
    have x21 := h2.2.1.2.1
    have ec : codeW 8 = 116 := rfl
    rw [ec] at e2
    simp (disch := omega) only [lit_0, lit_1, lit_2, lit_3, lit_4, lit_5, lit_6, lit_7, lit_8, lit_9, lit_10, lit_11, lit_12, lit_13, lit_14, lit_15, lit_16, lit_20, lit_23, lit_24, lit_31, lit_32, lit_39, lit_43, lit_45, lit_47, lit_48, lit_56, lit_57, lit_59, lit_60, lit_62, lit_63, lit_89, lit_92, lit_96, lit_97, lit_99, lit_100, lit_102, lit_103, lit_104, lit_110, lit_111, lit_115, lit_117, lit_194, lit_200, lit_644, lit_736, lit_999, lit_1000, lit_9999, lit_10000, lit_1000000000, ↓wp_mlet, ↓wp_mbp, ↓wp_ite, ↓wp_mix, ↓wp_mdiv, ↓wp_mnz, ↓wp_some, ↓wp_mbnd, ↓mlet_eq, ↓mbp_eq, ↓mbnd_eq, ↓mix_ite, ↓mdiv_ite, ↓mnz_ite, nI_add, nI_mul, nI_nat, nI_ltE, nI_leE, nI_eqE, nI_eqN, nI_Neq, nI_Nlt, nI_Nle, nI_ltN, nI_leN, ↓reduceIte, ↓Nat.reduceEqDiff, and_f, nt_e, nt_t, nl_t, nl_f, ne_t, ne_f, and_self, or_self, or_true, true_or, or_false, false_or, if_true, if_false, and_true, true_and, and_false, false_and, not_true, not_false_iff, e0, t5, l98, l116, l119, e2, x21]
    exact ro_end (w := 8) hw (by
      rw [cmd_chain hw (by decide), show frm 8 = [32, 100] from rfl, chain_c, chain_c]
      simp only [op32, op100, op110, op115]
      rw [show mTx.getD 12 [] = ltr 8 ++ [32] from rfl, lit_app]
      rfl) h2
  by_cases q_w : isAt tx L p 119 = true
  · have e0 : pk tx L p = nI 119 := by rw [at' p 119 (by decide)]; exact q_w
    have hw : wsel tx L p = some 10 := by unfold wsel; rw [if_neg q_h, if_neg q_s, if_neg q_g, if_neg q_b, if_neg q_o, if_neg q_c, if_neg q_t, if_pos q_w]
    have x15' := (x15 10 hw).2 (by decide)
    rw [x15']
    obtain ⟨⟨⟩, M2, e2, h2⟩ := m_readsWait (M20 (nI (codeW 10)))
    have x21 := h2.2.1.2.1
    have ec : codeW 10 = 119 := rfl
    rw [ec] at e2
    simp (disch := omega) only [lit_0, lit_1, lit_2, lit_3, lit_4, lit_5, lit_6, lit_7, lit_8, lit_9, lit_10, lit_11, lit_12, lit_13, lit_14, lit_15, lit_16, lit_20, lit_23, lit_24, lit_31, lit_32, lit_39, lit_43, lit_45, lit_47, lit_48, lit_56, lit_57, lit_59, lit_60, lit_62, lit_63, lit_89, lit_92, lit_96, lit_97, lit_99, lit_100, lit_102, lit_103, lit_104, lit_110, lit_111, lit_115, lit_117, lit_194, lit_200, lit_644, lit_736, lit_999, lit_1000, lit_9999, lit_10000, lit_1000000000, ↓wp_mlet, ↓wp_mbp, ↓wp_ite, ↓wp_mix, ↓wp_mdiv, ↓wp_mnz, ↓wp_some, ↓wp_mbnd, ↓mlet_eq, ↓mbp_eq, ↓mbnd_eq, ↓mix_ite, ↓mdiv_ite, ↓mnz_ite, nI_add, nI_mul, nI_nat, nI_ltE, nI_leE, nI_eqE, nI_eqN, nI_Neq, nI_Nlt, nI_Nle, nI_ltN, nI_leN, ↓reduceIte, ↓Nat.reduceEqDiff, and_f, nt_e, nt_t, nl_t, nl_f, ne_t, ne_f, and_self, or_self, or_true, true_or, or_false, false_or, if_true, if_false, and_true, true_and, and_false, false_and, not_true, not_false_iff, e0, t5, l98, l116, l119, e2, x21]
    exact ro_end (w := 10) hw (by rw [cmd_some hw]; rfl) h2
  have hw : wsel tx L p = none := by unfold wsel; rw [if_neg q_h, if_neg q_s, if_neg q_g, if_neg q_b, if_neg q_o, if_neg q_c, if_neg q_t, if_neg q_w]
  have n_h : (pk tx L p = nI 104) = False := eq_false (by rw [at' p 104 (by decide)]; exact q_h)
  have n_s : (pk tx L p = nI 115) = False := eq_false (by rw [at' p 115 (by decide)]; exact q_s)
  have n_g : (pk tx L p = nI 103) = False := eq_false (by rw [at' p 103 (by decide)]; exact q_g)
  have n_b : (pk tx L p = nI 98) = False := eq_false (by rw [at' p 98 (by decide)]; exact q_b)
  have n_o : (pk tx L p = nI 111) = False := eq_false (by rw [at' p 111 (by decide)]; exact q_o)
  have n_c : (pk tx L p = nI 99) = False := eq_false (by rw [at' p 99 (by decide)]; exact q_c)
  have n_t : (pk tx L p = nI 116) = False := eq_false (by rw [at' p 116 (by decide)]; exact q_t)
  have n_w : (pk tx L p = nI 119) = False := eq_false (by rw [at' p 119 (by decide)]; exact q_w)
  have hr : cmdS tx L p z0 = (false, p, 0, z0) := cmd_none hw
  have x15' : (if (pk tx L p = 104 ∧ pk tx L (p + 1) = 117) ∨ (pk tx L p = 115 ∧ pk tx L (p + 1) = 104) ∨ (pk tx L p = 103 ∧ pk tx L (p + 1) = 117) then (1 : Int32) else 0) = nI 0 := if_neg (by
    rw [show (pk tx L p = 104) = False from n_h, show (pk tx L p = 115) = False from n_s, show (pk tx L p = 103) = False from n_g]
    simp)
  rw [x15']
  have x21 : ∀ v, (mup (mup M 12 54 (6 * c) v) 12 47 22 (nI 1)) 12 47 21 = nI c := fun v => by rw [mup_at, if_neg (by decide), mup_at, if_neg (by omega)]; exact t5
  simp (disch := omega) only [lit_0, lit_1, lit_2, lit_3, lit_4, lit_5, lit_6, lit_7, lit_8, lit_9, lit_10, lit_11, lit_12, lit_13, lit_14, lit_15, lit_16, lit_20, lit_23, lit_24, lit_31, lit_32, lit_39, lit_43, lit_45, lit_47, lit_48, lit_56, lit_57, lit_59, lit_60, lit_62, lit_63, lit_89, lit_92, lit_96, lit_97, lit_99, lit_100, lit_102, lit_103, lit_104, lit_110, lit_111, lit_115, lit_117, lit_194, lit_200, lit_644, lit_736, lit_999, lit_1000, lit_9999, lit_10000, lit_1000000000, ↓wp_mlet, ↓wp_mbp, ↓wp_ite, ↓wp_mix, ↓wp_mdiv, ↓wp_mnz, ↓wp_some, ↓wp_mbnd, ↓mlet_eq, ↓mbp_eq, ↓mbnd_eq, ↓mix_ite, ↓mdiv_ite, ↓mnz_ite, nI_add, nI_mul, nI_nat, nI_ltE, nI_leE, nI_eqE, nI_eqN, nI_Neq, nI_Nlt, nI_Nle, nI_ltN, nI_leN, ↓reduceIte, ↓Nat.reduceEqDiff, and_f, nt_e, nt_t, nl_t, nl_f, ne_t, ne_f, and_self, or_self, or_true, true_or, or_false, false_or, if_true, if_false, and_true, true_and, and_false, false_and, not_true, not_false_iff, t5, l98, l116, l119, n_h, n_s, n_g, n_b, n_o, n_c, n_t, n_w, x21]
  refine ⟨⟨t1, ?_, fun i hi => ?_⟩, ⟨?_, ?_, ?_⟩, ?_, fun hh => ?_, fun a b k hab => ?_⟩
  · rw [mup_at, if_neg (by decide), mup_at, if_neg (by decide), mup_at, if_neg (by omega)]; exact t2
  · rw [mup_at, if_neg (by omega), mup_at, if_neg (by omega), mup_at, if_neg (by omega)]; exact t3 i hi
  · rw [mup_at, if_neg (by decide), mup_at, if_neg (by decide), mup_at, if_neg (by omega), hr]; exact t4
  · rw [mup_at, if_pos (by decide)]
  · rw [mup_at, if_neg (by decide), mup_at, if_pos (by decide), hr]; rfl
  · rw [hr]; exact t7
  · rw [hr] at hh; cases hh
  · rw [mup_at, if_neg (by omega), mup_at, if_neg (by omega), mup_at, if_neg (by omega)]
