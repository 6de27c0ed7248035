theorem mup_same {M : Mem} {g i k : Nat} {v : Int32} (h : M g i k = v) : mup M g i k v = M := by
  funext a b c
  rw [mup_at]
  split
  · rename_i q
    rw [q.1, q.2.1, q.2.2, h]
  · rfl
theorem hz_g {γ : Sp} {x j : Nat} (hx : x ≤ 8) (h : j = 10 ∨ j = 11 ∨ 47 ≤ j) : hz γ x j = γ j := by
  rw [hz_at, if_neg (by omega), if_neg (by omega), if_neg (by omega)]
theorem hT_g {γ : Sp} {x j : Nat} (hx : x ≤ 8) (h : j = 10 ∨ j = 11 ∨ 47 ≤ j ∧ j < 56) : hT γ x j = γ j := by
  rw [hT_at, if_neg (by omega), hz_g hx (by omega)]
theorem hz_s0 {γ : Sp} {x : Nat} (hx : x < 8) (ha : isAl γ x = false) : up (hz γ x) (31 + x) (nzV γ x) = hz γ (x + 1) := by
  funext j
  rw [up_at]
  by_cases h : j = 31 + x
  · subst h
    rw [if_pos rfl, hz_at, if_neg (by omega), if_pos (by omega), show 31 + x - 31 = x by omega]
  · rw [if_neg h]
    by_cases h2 : j = 39 + x
    · subst h2
      rw [hz_at, hz_at, if_neg (by omega), if_neg (by omega), if_neg (by omega), if_neg (by omega), if_neg (by omega), if_pos (by omega), show 39 + x - 39 = x by omega, ha]
      rfl
    · by_cases h3 : j = 13
      · subst h3
        rw [hz_at, hz_at, if_pos rfl, if_pos rfl]
        show γ 13 + cntA γ x = γ 13 + (cntA γ x + (isAl γ x).toNat)
        rw [ha]
        rfl
      · rw [hz_at, hz_at, if_neg h3, if_neg h3]
        by_cases h4 : 31 ≤ j ∧ j < 31 + x
        · rw [if_pos h4, if_pos (show 31 ≤ j ∧ j < 31 + (x + 1) by omega)]
        · rw [if_neg h4, if_neg (show ¬ (31 ≤ j ∧ j < 31 + (x + 1)) by omega)]
          by_cases h5 : 39 ≤ j ∧ j < 39 + x
          · rw [if_pos h5, if_pos (show 39 ≤ j ∧ j < 39 + (x + 1) by omega)]
          · rw [if_neg h5, if_neg (show ¬ (39 ≤ j ∧ j < 39 + (x + 1)) by omega)]
theorem hz_s1 {γ : Sp} {x : Nat} (hx : x < 8) (ha : isAl γ x = true) : up (up (up (hz γ x) (31 + x) (nzV γ x)) (39 + x) (γ (39 + x) + 1)) 13 (γ 13 + cntA γ x + 1) = hz γ (x + 1) := by
  funext j
  rw [up_at, up_at, up_at]
  by_cases h3 : j = 13
  · subst h3
    rw [if_pos rfl, hz_at, if_pos rfl]
    show _ = γ 13 + (cntA γ x + (isAl γ x).toNat)
    rw [ha]
    rfl
  · rw [if_neg h3]
    by_cases h2 : j = 39 + x
    · subst h2
      rw [if_pos rfl, hz_at, if_neg (by omega), if_neg (by omega), if_pos (by omega), show 39 + x - 39 = x by omega, ha]
      rfl
    · rw [if_neg h2]
      by_cases h : j = 31 + x
      · subst h
        rw [if_pos rfl, hz_at, if_neg (by omega), if_pos (by omega), show 31 + x - 31 = x by omega]
      · rw [if_neg h, hz_at, hz_at, if_neg h3, if_neg h3]
        by_cases h4 : 31 ≤ j ∧ j < 31 + x
        · rw [if_pos h4, if_pos (show 31 ≤ j ∧ j < 31 + (x + 1) by omega)]
        · rw [if_neg h4, if_neg (show ¬ (31 ≤ j ∧ j < 31 + (x + 1)) by omega)]
          by_cases h5 : 39 ≤ j ∧ j < 39 + x
          · rw [if_pos h5, if_pos (show 39 ≤ j ∧ j < 39 + (x + 1) by omega)]
          · rw [if_neg h5, if_neg (show ¬ (39 ≤ j ∧ j < 39 + (x + 1)) by omega)]
theorem hT_up {γ : Sp} {x k v : Nat} (hk : k ≠ 14) (hk2 : ¬ (56 ≤ k ∧ k < 92)) : ∀ j, up (hT γ x) k v j = if j = 14 ∨ 56 ≤ j ∧ j < 92 then lgs γ x j else up (hz γ x) k v j := by
  intro j
  rw [up_at, up_at, hT_at]
  by_cases h : j = 14 ∨ 56 ≤ j ∧ j < 92
  · rw [if_pos h, if_pos h, if_neg (by omega)]
  · rw [if_neg h, if_neg h]
theorem hT_s0 {γ : Sp} {x : Nat} (hx : x < 8) (ha : isAl γ x = false) : up (hT γ x) (31 + x) (nzV γ x) = hT γ (x + 1) := by
  funext j
  rw [hT_up (by omega) (by omega), hz_s0 hx ha, hT_at]
  have : lgs γ (x + 1) = lgs γ x := by
    show (if isAl γ x then sLog (lgs γ x) 97 x else lgs γ x) = lgs γ x
    rw [ha]
    rfl
  rw [this]
theorem hT_s1 {γ : Sp} {x : Nat} (hx : x < 8) (h14 : γ 14 ≤ 12) (ha : isAl γ x = true) : sLog (up (up (up (hT γ x) (31 + x) (nzV γ x)) (39 + x) (γ (39 + x) + 1)) 13 (γ 13 + cntA γ x + 1)) 97 x = hT γ (x + 1) := by
  have hl : lgs γ (x + 1) = sLog (lgs γ x) 97 x := by
    show (if isAl γ x then sLog (lgs γ x) 97 x else lgs γ x) = _
    rw [ha]
    rfl
  have hd : ∀ j, (up (up (up (hT γ x) (31 + x) (nzV γ x)) (39 + x) (γ (39 + x) + 1)) 13 (γ 13 + cntA γ x + 1)) j = if j = 14 ∨ 56 ≤ j ∧ j < 92 then lgs γ x j else hz γ (x + 1) j := by
    intro j
    rw [← hz_s1 hx ha, up_at, up_at, up_at, up_at, up_at, up_at, hT_at]
    by_cases h : j = 14 ∨ 56 ≤ j ∧ j < 92
    · rw [if_pos h, if_neg (by omega), if_neg (by omega), if_neg (by omega), if_pos h]
    · rw [if_neg h, if_neg h]
  funext j
  by_cases h : j = 14 ∨ 56 ≤ j ∧ j < 92
  · rw [hT_at, if_pos h, hl]
    refine sLog_cg (fun i hi => ?_) h
    rw [hd i]
    by_cases q : i = 14 ∨ 56 ≤ i ∧ i < 92
    · rw [if_pos q]
    · rw [if_neg q]
      have : i = 11 := by omega
      subst this
      rw [hz_g (by omega) (by omega), lgs_ne h14 (by decide) (by decide)]
  · rw [sLog_ne (by rw [hd, if_pos (Or.inl rfl)]; exact lgs_14 h14 x) (by omega) (by omega), hd, if_neg h, hT_at, if_neg h]
theorem Gd.b {γ : Sp} (h : Gd γ) : ∀ k, k < γ 10 → γ (47 + 3 * k) < 2147483648 := fun k hk => by have := (h.2.2 k hk).1; omega
/-- the zones of an hour, in the model -/
theorem m_zones {M : Mem} {γ : Sp} {N : Nat} (hN : 1000 = N) (hS : M 12 48 = enc γ) (hg : Gd γ) (h14 : γ 14 ≤ 12) (hn : ∀ k, k < 8 → γ (31 + k) ≤ 20) (kk : Int32 → Mem → Option (Int32 × Mem)) : ∃ M1, mS M M1 (hT γ 8) ∧ f_X12_oneHour_L81 N (nI 0) (nI 0) M kk = kk (nI (cntA γ 8)) M1 := by
  have h0 : hT γ 0 = γ := by
    funext j
    rw [hT_at]
    split
    · rfl
    · rw [hz_at]
      by_cases q : j = 13
      · subst q
        rw [if_pos rfl]
        rfl
      · rw [if_neg q, if_neg (show ¬ (31 ≤ j ∧ j < 31 + 0) by omega), if_neg (show ¬ (39 ≤ j ∧ j < 39 + 0) by omega)]
  have key := mloopP (F := fun n x (s : Int32 × Mem) kk => f_X12_oneHour_L81 n s.1 x s.2 (fun a b => kk (a, b))) (c := 8) (fun x s => s.1 = nI (cntA γ x) ∧ mS M s.2 (hT γ x)) (fun n x s kk hx h => ?_) (fun n s kk h => ?_) 8 N 0 (nI 0, M) (fun s => kk s.1 s.2) (by omega) (by omega) ⟨rfl, by rw [h0]; exact hS, fun _ _ _ => rfl⟩
  · obtain ⟨⟨a, M1⟩, ⟨e1, e2⟩, e3⟩ := key
    have e1' : a = nI (cntA γ 8) := e1
    subst e1'
    exact ⟨M1, e2, e3⟩
  · obtain ⟨a, M1⟩ := s
    obtain ⟨e1, hM⟩ := h
    have e1' : a = nI (cntA γ x) := e1
    subst e1'
    have hM' : mS M M1 (hT γ x) := hM
    have hS1 := hM'.1
    have b10 : hT γ x 10 = γ 10 := hT_g (by omega) (by omega)
    have bg : ∀ k, k < γ 10 → hT γ x (47 + 3 * k) = γ (47 + 3 * k) := fun k hk => hT_g (by omega) (by have := hg.1; omega)
    have ei : f_X12_isIn (nI x) M1 = some (nI (inZ γ x).toNat) := by
      rw [m_inZ0 hS1 (by rw [b10]; exact hg.1) hx (fun k hk => by rw [b10] at hk; rw [bg k hk]; exact hg.b k hk), inZ_cg b10 bg]
    have en : f_X12_isNear (nI x) M1 = some (nI (nearZ γ x).toNat) := by
      rw [m_near hS1 (by rw [b10]; exact hg.1) hx (fun k hk => by rw [b10] at hk; rw [bg k hk]; exact hg.b k hk), nearZ_cg b10 bg]
    have ev : M1 12 48 (31 + x) = nI (γ (31 + x)) := by
      rw [ms_n hS1 (by omega), hT_at, if_neg (by omega), hz_at, if_neg (by omega), if_neg (by omega), if_neg (by omega)]
    have ea : M1 12 48 (39 + x) = nI (γ (39 + x)) := by
      rw [ms_n hS1 (by omega), hT_at, if_neg (by omega), hz_at, if_neg (by omega), if_neg (by omega), if_neg (by omega)]
    have ec : M1 12 48 13 = nI (γ 13 + cntA γ x) := by
      rw [ms_n hS1 (by omega), hT_at, if_neg (by omega), hz_at, if_pos rfl]
    have hv := hn x hx
    show ∃ s' : Int32 × Mem, (s'.1 = nI (cntA γ (x + 1)) ∧ mS M s'.2 (hT γ (x + 1))) ∧ f_X12_oneHour_L81 (n + 1) (nI (cntA γ x)) (nI x) M1 (fun a b => kk (a, b)) = f_X12_oneHour_L81 n s'.1 (nI (x + 1)) s'.2 (fun a b => kk (a, b))
    rw [f_X12_oneHour_L81.eq_2]
    by_cases ha : isAl γ x = true
    · have hnz : nzV γ x = 0 := by unfold nzV; rw [ha]; simp
      have hal := ha
      unfold isAl at hal
      simp only [Bool.and_eq_true, Bool.not_eq_true', decide_eq_true_eq] at hal
      obtain ⟨l1, l2, l3⟩ := hal
      have hS2 : mS M (mup (mup (mup M1 12 48 (31 + x) (nI (nzV γ x))) 12 48 (39 + x) (nI (γ (39 + x) + 1))) 12 48 13 (nI (γ 13 + cntA γ x + 1))) (up (up (up (hT γ x) (31 + x) (nzV γ x)) (39 + x) (γ (39 + x) + 1)) 13 (γ 13 + cntA γ x + 1)) :=
        ((hM'.of_up (by omega)).of_up (by omega)).of_up (by omega)
      obtain ⟨⟨⟩, M2, el, hl⟩ := m_logs (k := 97) (w := x) hS2.1 (by
        rw [up_at, if_neg (by decide), up_at, if_neg (by omega), up_at, if_neg (by omega), hT_at, if_pos (Or.inl rfl)]
        exact lgs_14 h14 x)
      rw [hnz] at el
      refine ⟨(nI (cntA γ (x + 1)), M2), ⟨rfl, ?_⟩, ?_⟩
      · have := hS2.trans hl
        rw [hT_s1 hx h14 ha] at this
        exact this
      · have ecn : cntA γ (x + 1) = cntA γ x + 1 := by
          show cntA γ x + (isAl γ x).toNat = _
          rw [ha]
          rfl
        rw [ecn]
        simp (disch := omega) only [lit_0, lit_1, lit_2, lit_3, lit_4, lit_5, lit_6, lit_7, lit_8, lit_9, lit_10, lit_11, lit_12, lit_13, lit_14, lit_15, lit_16, lit_20, lit_23, lit_24, lit_31, lit_32, lit_39, lit_43, lit_45, lit_47, lit_48, lit_56, lit_57, lit_59, lit_60, lit_62, lit_63, lit_89, lit_92, lit_96, lit_97, lit_99, lit_100, lit_102, lit_103, lit_104, lit_110, lit_111, lit_115, lit_117, lit_194, lit_200, lit_644, lit_736, lit_999, lit_1000, lit_9999, lit_10000, lit_1000000000, ↓wp_mlet, ↓wp_mbp, ↓wp_ite, ↓wp_mix, ↓wp_mdiv, ↓wp_mnz, ↓wp_some, ↓wp_mbnd, ↓mlet_eq, ↓mbp_eq, ↓mbnd_eq, ↓mix_ite, ↓mdiv_ite, ↓mnz_ite, nI_add, nI_mul, nI_nat, nI_ltE, nI_leE, nI_eqE, nI_eqN, nI_Neq, nI_Nlt, nI_Nle, nI_ltN, nI_leN, ↓reduceIte, ↓Nat.reduceEqDiff, and_f, nt_e, nt_t, nl_t, nl_f, ne_t, ne_f, and_self, or_self, or_true, true_or, or_false, false_or, if_true, if_false, and_true, true_and, and_false, false_and, not_true, not_false_iff, mup_at, up_at, fil_at, ↓reduceIte, ↓Nat.reduceEqDiff, and_f, nt_e, nt_t, nl_t, nl_f, ne_t, ne_f, and_self, or_self, or_true, true_or, or_false, false_or, if_true, if_false, and_true, true_and, and_false, false_and, not_true, not_false_iff, ei, en, ev, ea, ec, l1, l3, Bool.toNat_false, Bool.toNat_true, el]
    · have ha' : isAl γ x = false := by simpa using ha
      have ecn : cntA γ (x + 1) = cntA γ x := by
        show cntA γ x + (isAl γ x).toNat = _
        rw [ha']
        rfl
      refine ⟨(nI (cntA γ x), mup M1 12 48 (31 + x) (nI (nzV γ x))), ⟨by rw [ecn], by rw [← hT_s0 hx ha']; exact hM'.of_up (by omega)⟩, ?_⟩
      have ha0 : isAl γ x = false := ha'
      unfold isAl at ha'
      cases hb1 : inZ γ x with
      | true =>
        have hnz : nzV γ x = 0 := by unfold nzV; rw [hb1]; simp
        rw [hnz]
        simp (disch := omega) only [lit_0, lit_1, lit_2, lit_3, lit_4, lit_5, lit_6, lit_7, lit_8, lit_9, lit_10, lit_11, lit_12, lit_13, lit_14, lit_15, lit_16, lit_20, lit_23, lit_24, lit_31, lit_32, lit_39, lit_43, lit_45, lit_47, lit_48, lit_56, lit_57, lit_59, lit_60, lit_62, lit_63, lit_89, lit_92, lit_96, lit_97, lit_99, lit_100, lit_102, lit_103, lit_104, lit_110, lit_111, lit_115, lit_117, lit_194, lit_200, lit_644, lit_736, lit_999, lit_1000, lit_9999, lit_10000, lit_1000000000, ↓wp_mlet, ↓wp_mbp, ↓wp_ite, ↓wp_mix, ↓wp_mdiv, ↓wp_mnz, ↓wp_some, ↓wp_mbnd, ↓mlet_eq, ↓mbp_eq, ↓mbnd_eq, ↓mix_ite, ↓mdiv_ite, ↓mnz_ite, nI_add, nI_mul, nI_nat, nI_ltE, nI_leE, nI_eqE, nI_eqN, nI_Neq, nI_Nlt, nI_Nle, nI_ltN, nI_leN, ↓reduceIte, ↓Nat.reduceEqDiff, and_f, nt_e, nt_t, nl_t, nl_f, ne_t, ne_f, and_self, or_self, or_true, true_or, or_false, false_or, if_true, if_false, and_true, true_and, and_false, false_and, not_true, not_false_iff, mup_at, up_at, fil_at, ↓reduceIte, ↓Nat.reduceEqDiff, and_f, nt_e, nt_t, nl_t, nl_f, ne_t, ne_f, and_self, or_self, or_true, true_or, or_false, false_or, if_true, if_false, and_true, true_and, and_false, false_and, not_true, not_false_iff, ei, ev, hb1, Bool.toNat_true]
      | false =>
        by_cases hv0 : γ (31 + x) = 0
        · have hnz : nzV γ x = 0 := by unfold nzV; rw [hv0]; simp
          rw [hnz]
          simp (disch := omega) only [lit_0, lit_1, lit_2, lit_3, lit_4, lit_5, lit_6, lit_7, lit_8, lit_9, lit_10, lit_11, lit_12, lit_13, lit_14, lit_15, lit_16, lit_20, lit_23, lit_24, lit_31, lit_32, lit_39, lit_43, lit_45, lit_47, lit_48, lit_56, lit_57, lit_59, lit_60, lit_62, lit_63, lit_89, lit_92, lit_96, lit_97, lit_99, lit_100, lit_102, lit_103, lit_104, lit_110, lit_111, lit_115, lit_117, lit_194, lit_200, lit_644, lit_736, lit_999, lit_1000, lit_9999, lit_10000, lit_1000000000, ↓wp_mlet, ↓wp_mbp, ↓wp_ite, ↓wp_mix, ↓wp_mdiv, ↓wp_mnz, ↓wp_some, ↓wp_mbnd, ↓mlet_eq, ↓mbp_eq, ↓mbnd_eq, ↓mix_ite, ↓mdiv_ite, ↓mnz_ite, nI_add, nI_mul, nI_nat, nI_ltE, nI_leE, nI_eqE, nI_eqN, nI_Neq, nI_Nlt, nI_Nle, nI_ltN, nI_leN, ↓reduceIte, ↓Nat.reduceEqDiff, and_f, nt_e, nt_t, nl_t, nl_f, ne_t, ne_f, and_self, or_self, or_true, true_or, or_false, false_or, if_true, if_false, and_true, true_and, and_false, false_and, not_true, not_false_iff, mup_at, up_at, fil_at, ↓reduceIte, ↓Nat.reduceEqDiff, and_f, nt_e, nt_t, nl_t, nl_f, ne_t, ne_f, and_self, or_self, or_true, true_or, or_false, false_or, if_true, if_false, and_true, true_and, and_false, false_and, not_true, not_false_iff, ei, ev, hb1, hv0, Bool.toNat_false]
        · have hnz : nzV γ x = γ (31 + x) - 1 := by
            unfold nzV
            rw [hb1, ha0, decide_eq_false hv0]
            rfl
          rw [hnz]
          by_cases hv5 : γ (31 + x) < 5
          · simp (disch := omega) only [lit_0, lit_1, lit_2, lit_3, lit_4, lit_5, lit_6, lit_7, lit_8, lit_9, lit_10, lit_11, lit_12, lit_13, lit_14, lit_15, lit_16, lit_20, lit_23, lit_24, lit_31, lit_32, lit_39, lit_43, lit_45, lit_47, lit_48, lit_56, lit_57, lit_59, lit_60, lit_62, lit_63, lit_89, lit_92, lit_96, lit_97, lit_99, lit_100, lit_102, lit_103, lit_104, lit_110, lit_111, lit_115, lit_117, lit_194, lit_200, lit_644, lit_736, lit_999, lit_1000, lit_9999, lit_10000, lit_1000000000, ↓wp_mlet, ↓wp_mbp, ↓wp_ite, ↓wp_mix, ↓wp_mdiv, ↓wp_mnz, ↓wp_some, ↓wp_mbnd, ↓mlet_eq, ↓mbp_eq, ↓mbnd_eq, ↓mix_ite, ↓mdiv_ite, ↓mnz_ite, nI_add, nI_mul, nI_nat, nI_ltE, nI_leE, nI_eqE, nI_eqN, nI_Neq, nI_Nlt, nI_Nle, nI_ltN, nI_leN, ↓reduceIte, ↓Nat.reduceEqDiff, and_f, nt_e, nt_t, nl_t, nl_f, ne_t, ne_f, and_self, or_self, or_true, true_or, or_false, false_or, if_true, if_false, and_true, true_and, and_false, false_and, not_true, not_false_iff, mup_at, up_at, fil_at, ↓reduceIte, ↓Nat.reduceEqDiff, and_f, nt_e, nt_t, nl_t, nl_f, ne_t, ne_f, and_self, or_self, or_true, true_or, or_false, false_or, if_true, if_false, and_true, true_and, and_false, false_and, not_true, not_false_iff, ei, ev, hb1, nI_subE, Bool.toNat_false]
          · cases hb2 : nearZ γ x with
            | true => simp (disch := omega) only [lit_0, lit_1, lit_2, lit_3, lit_4, lit_5, lit_6, lit_7, lit_8, lit_9, lit_10, lit_11, lit_12, lit_13, lit_14, lit_15, lit_16, lit_20, lit_23, lit_24, lit_31, lit_32, lit_39, lit_43, lit_45, lit_47, lit_48, lit_56, lit_57, lit_59, lit_60, lit_62, lit_63, lit_89, lit_92, lit_96, lit_97, lit_99, lit_100, lit_102, lit_103, lit_104, lit_110, lit_111, lit_115, lit_117, lit_194, lit_200, lit_644, lit_736, lit_999, lit_1000, lit_9999, lit_10000, lit_1000000000, ↓wp_mlet, ↓wp_mbp, ↓wp_ite, ↓wp_mix, ↓wp_mdiv, ↓wp_mnz, ↓wp_some, ↓wp_mbnd, ↓mlet_eq, ↓mbp_eq, ↓mbnd_eq, ↓mix_ite, ↓mdiv_ite, ↓mnz_ite, nI_add, nI_mul, nI_nat, nI_ltE, nI_leE, nI_eqE, nI_eqN, nI_Neq, nI_Nlt, nI_Nle, nI_ltN, nI_leN, ↓reduceIte, ↓Nat.reduceEqDiff, and_f, nt_e, nt_t, nl_t, nl_f, ne_t, ne_f, and_self, or_self, or_true, true_or, or_false, false_or, if_true, if_false, and_true, true_and, and_false, false_and, not_true, not_false_iff, mup_at, up_at, fil_at, ↓reduceIte, ↓Nat.reduceEqDiff, and_f, nt_e, nt_t, nl_t, nl_f, ne_t, ne_f, and_self, or_self, or_true, true_or, or_false, false_or, if_true, if_false, and_true, true_and, and_false, false_and, not_true, not_false_iff, ei, en, ev, hb1, hb2, nI_subE, Bool.toNat_false, Bool.toNat_true]
            | false =>
              exfalso
              rw [hb1, hb2, decide_eq_true (by omega)] at ha'
              cases ha'
  · obtain ⟨a, M1⟩ := s
    show f_X12_oneHour_L81 (n + 1) a (nI 8) M1 (fun a b => kk (a, b)) = kk (a, M1)
    rw [f_X12_oneHour_L81.eq_2]
    simp (disch := omega) only [lit_0, lit_1, lit_2, lit_3, lit_4, lit_5, lit_6, lit_7, lit_8, lit_9, lit_10, lit_11, lit_12, lit_13, lit_14, lit_15, lit_16, lit_20, lit_23, lit_24, lit_31, lit_32, lit_39, lit_43, lit_45, lit_47, lit_48, lit_56, lit_57, lit_59, lit_60, lit_62, lit_63, lit_89, lit_92, lit_96, lit_97, lit_99, lit_100, lit_102, lit_103, lit_104, lit_110, lit_111, lit_115, lit_117, lit_194, lit_200, lit_644, lit_736, lit_999, lit_1000, lit_9999, lit_10000, lit_1000000000, ↓wp_mlet, ↓wp_mbp, ↓wp_ite, ↓wp_mix, ↓wp_mdiv, ↓wp_mnz, ↓wp_some, ↓wp_mbnd, ↓mlet_eq, ↓mbp_eq, ↓mbnd_eq, ↓mix_ite, ↓mdiv_ite, ↓mnz_ite, nI_add, nI_mul, nI_nat, nI_ltE, nI_leE, nI_eqE, nI_eqN, nI_Neq, nI_Nlt, nI_Nle, nI_ltN, nI_leN, ↓reduceIte, ↓Nat.reduceEqDiff, and_f, nt_e, nt_t, nl_t, nl_f, ne_t, ne_f, and_self, or_self, or_true, true_or, or_false, false_or, if_true, if_false, and_true, true_and, and_false, false_and, not_true, not_false_iff]
