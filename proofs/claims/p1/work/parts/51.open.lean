/-! THE DOOR -/
def door (j : Nat) : Prop := j = 6 ∨ j = 7 ∨ j = 8 ∨ j = 12
theorem logB_door {α β : Sp} (h : ∀ j, ¬ (j = 6 ∨ j = 7 ∨ j = 8 ∨ j = 12) → β j = α j) {j : Nat} (hj : ¬ (j = 6 ∨ j = 7 ∨ j = 8 ∨ j = 12)) : logB β j = logB α j := by
  unfold logB
  rw [h 14 (by decide)]
  split
  · rw [shiftSp_at, shiftSp_at, h j hj]
    by_cases q : 56 ≤ j ∧ j < 89
    · rw [if_pos q, if_pos q, h (j + 3) (by omega)]
    · rw [if_neg q, if_neg q]
  · exact h j hj
theorem sLog_door {α β : Sp} {k w : Nat} (h : ∀ j, ¬ (j = 6 ∨ j = 7 ∨ j = 8 ∨ j = 12) → β j = α j) (h14 : α 14 ≤ 12) (j : Nat) : sLog β k w j = if j = 6 ∨ j = 7 ∨ j = 8 ∨ j = 12 then β j else sLog α k w j := by
  have e14 := h 14 (by decide)
  by_cases q : j = 6 ∨ j = 7 ∨ j = 8 ∨ j = 12
  · rw [if_pos q, sLog_ne (by omega) (by omega) (by omega)]
  · rw [if_neg q]
    unfold sLog
    rw [putSp_at, putSp_at, logB_door h (by decide : ¬ (14 = 6 ∨ 14 = 7 ∨ 14 = 8 ∨ 14 = 12)), logB_door h (by decide : ¬ (11 = 6 ∨ 11 = 7 ∨ 11 = 8 ∨ 11 = 12)), logB_door h q]
def openSp (α : Sp) : Sp := fun j => if j = 6 then 1 else if j = 8 then 0 else if j = 12 then α 12 + 1 else α j
theorem openSp_at (α : Sp) (j : Nat) : openSp α j = if j = 6 then 1 else if j = 8 then 0 else if j = 12 then α 12 + 1 else α j := Eq.trans rfl rfl
def failSp (α : Sp) : Sp := fun j => if j = 8 then (if α 8 = 2 then 0 else α 8 + 1) else if j = 7 then (if α 8 = 2 then 6 else α 7) else α j
theorem failSp_at (α : Sp) (j : Nat) : failSp α j = if j = 8 then (if α 8 = 2 then 0 else α 8 + 1) else if j = 7 then (if α 8 = 2 then 6 else α 7) else α j := Eq.trans rfl rfl
theorem openSp_ne {α : Sp} {j : Nat} (h : ¬ (j = 6 ∨ j = 7 ∨ j = 8 ∨ j = 12)) : openSp α j = α j := by rw [openSp_at, if_neg (by omega), if_neg (by omega), if_neg (by omega)]
theorem failSp_ne {α : Sp} {j : Nat} (h : ¬ (j = 6 ∨ j = 7 ∨ j = 8 ∨ j = 12)) : failSp α j = α j := by rw [failSp_at, if_neg (by omega), if_neg (by omega)]
/-- the attempt succeeds -/
def okA (α : Sp) : Bool := one (α 5) (sh α) (ky α) (α 9) && decide (thr (α 5) (sh α) (ky α) 0 = α 2)
def sOpen (α : Sp) : Ex := if α 1 = 0 then .inl (3, 0) else if α 6 = 1 then .inl (6, α 9) else if 0 < α 7 then .inl (7, α 7) else if α 9 < α 5 then .inl (8, α 5 - α 9) else if inZ α 0 = false then .inl (9, α 10) else if okA α = true then .inr (1, sLog (openSp α) 111 (α 9)) else .inr (0, sLog (failSp α) 102 (α 9))
theorem inv_door {α β : Sp} {H : Nat} (hi : Inv H α) (h1 : α 1 = 1) (h : ∀ j, ¬ (j = 6 ∨ j = 7 ∨ j = 8 ∨ j = 12) → β j = α j) (h6 : β 6 ≤ 1) (h7 : β 7 ≤ 6) (h8 : β 8 ≤ 2) : Inv H β := by
  obtain ⟨⟨b0, b1, b2, b3, b4, b5, b6, b7, b8, b9, b10, b11, b14⟩, i1, i2, bs, bk, bn, bz, bt, bg, bl⟩ := hi
  have s := h
  refine ⟨⟨?_, ?_, ?_, ?_, ?_, ?_, h6, h7, h8, ?_, ?_, ?_, ?_⟩, ?_, ?_, fun k hk => ?_, fun k hk => ?_, fun i k h1 hk => ?_, fun k hk => ?_, ?_, fun k hk => ?_, fun k hk => ?_⟩
  · rw [s 0 (by decide)]; exact b0
  · rw [s 1 (by decide)]; exact b1
  · rw [s 2 (by decide)]; exact b2
  · rw [s 3 (by decide)]; exact b3
  · rw [s 4 (by decide)]; exact b4
  · rw [s 5 (by decide)]; exact b5
  · rw [s 9 (by decide), s 0 (by decide)]; exact b9
  · rw [s 10 (by decide)]; exact b10
  · rw [s 11 (by decide)]; exact b11
  · rw [s 14 (by decide)]; exact b14
  · rw [s 1 (by decide)]; omega
  · rw [s 1 (by decide), s 5 (by decide)]; exact i2
  · rw [s _ (by omega)]; exact bs k hk
  · rw [s 9 (by decide)] at hk
    rw [s _ (by omega), s 0 (by decide)]; exact bk k hk
  · rw [s 9 (by decide)] at hk
    rw [s (23 + i) (by omega), s (23 + k) (by omega)]; exact bn i k h1 hk
  · rw [s (31 + k) (by omega), s (39 + k) (by omega), s 11 (by decide)]; exact bz k hk
  · rw [s 13 (by decide), s 39 (by decide), s 40 (by decide), s 41 (by decide), s 42 (by decide), s 43 (by decide), s 44 (by decide), s 45 (by decide), s 46 (by decide)]; exact bt
  · rw [s 10 (by decide)] at hk
    rw [s (47 + 3 * k) (by omega), s (48 + 3 * k) (by omega), s (49 + 3 * k) (by omega)]; exact bg k hk
  · rw [s 14 (by decide)] at hk
    rw [s (56 + 3 * k) (by omega), s (57 + 3 * k) (by omega), s (58 + 3 * k) (by omega), s 11 (by decide)]; exact bl k hk
theorem inv_open {α : Sp} {H ans : Nat} {β : Sp} (hi : Inv H α) (he : sOpen α = .inr (ans, β)) : Inv H β := by
  have hi' := hi
  obtain ⟨⟨b0, b1, b2, b3, b4, b5, b6, b7, b8, b9, b10, b11, b14⟩, -⟩ := hi'
  unfold sOpen at he
  by_cases q1 : α 1 = 0
  · rw [if_pos q1] at he; cases he
  rw [if_neg q1] at he
  by_cases q2 : α 6 = 1
  · rw [if_pos q2] at he; cases he
  rw [if_neg q2] at he
  by_cases q3 : 0 < α 7
  · rw [if_pos q3] at he; cases he
  rw [if_neg q3] at he
  by_cases q4 : α 9 < α 5
  · rw [if_pos q4] at he; cases he
  rw [if_neg q4] at he
  by_cases q5 : inZ α 0 = false
  · rw [if_pos q5] at he; cases he
  rw [if_neg q5] at he
  by_cases q6 : okA α = true
  · rw [if_pos q6] at he
    cases he
    refine inv_log (inv_door hi (by omega) (fun j hj => openSp_ne hj) ?_ ?_ ?_) (by decide) (by omega)
    · rw [openSp_at, if_pos rfl]; decide
    · rw [openSp_at, if_neg (by decide), if_neg (by decide), if_neg (by decide)]; exact b7
    · rw [openSp_at, if_neg (by decide), if_pos rfl]; decide
  · rw [if_neg q6] at he
    cases he
    refine inv_log (inv_door hi (by omega) (fun j hj => failSp_ne hj) ?_ ?_ ?_) (by decide) (by omega)
    · rw [failSp_at, if_neg (by decide), if_neg (by decide)]; exact b6
    · rw [failSp_at, if_neg (by decide), if_pos rfl]; split <;> omega
    · rw [failSp_at, if_pos rfl]; split <;> omega
theorem en_of {α : Sp} (h1 : ¬ α 1 = 0) (b1 : α 1 ≤ 1) (h2 : ¬ α 9 < α 5) : en α := ⟨by omega, by omega⟩
theorem c_tell {M : Mem} {H : Nat} {α : Sp} (hk : Rk (M 0) α) (hi : Inv H α) (he : en α) : f_X6_tellTheSecret 0 M = some (nI (okA α).toNat) := by
  have hl := Lk0 hk hi he
  have e1 := c_agree hk hi he
  have e2 : f_X6_toldAt 0 (nI 0) M = some (nI (thr (α 5) (sh α) (ky α) 0)) := by
    unfold f_X6_toldAt
    rw [c_thr hl (by decide)]
    rfl
  have b2 := hi.1.2.2.1
  have lt := thr_lt (T := α 5) (s := sh α) (t := ky α) (x := 0)
  have e3 : M 0 3 0 = nI (α 2) := hk.2.2.2.2.2.1 0 (by decide)
  unfold f_X6_tellTheSecret okA
  rw [e1]
  cases one (α 5) (sh α) (ky α) (α 9) with
  | false => rfl
  | true =>
    by_cases q : thr (α 5) (sh α) (ky α) 0 = α 2
    · rw [decide_eq_true q]
      simp (disch := omega) only [lit_0, lit_1, lit_2, lit_3, lit_4, lit_5, lit_6, lit_7, lit_8, lit_9, lit_10, lit_11, lit_12, lit_13, lit_14, lit_15, lit_16, lit_20, lit_23, lit_24, lit_31, lit_32, lit_39, lit_43, lit_45, lit_47, lit_48, lit_56, lit_57, lit_59, lit_60, lit_62, lit_63, lit_89, lit_92, lit_96, lit_97, lit_99, lit_100, lit_102, lit_103, lit_104, lit_110, lit_111, lit_115, lit_117, lit_194, lit_200, lit_644, lit_736, lit_999, lit_1000, lit_9999, lit_10000, lit_1000000000, ↓wp_mlet, ↓wp_mbp, ↓wp_ite, ↓wp_mix, ↓wp_mdiv, ↓wp_mnz, ↓wp_some, ↓wp_mbnd, ↓mlet_eq, ↓mbp_eq, ↓mbnd_eq, ↓mix_ite, ↓mdiv_ite, ↓mnz_ite, nI_add, nI_mul, nI_nat, nI_ltE, nI_leE, nI_eqE, nI_eqN, nI_Neq, nI_Nlt, nI_Nle, nI_ltN, nI_leN, ↓reduceIte, ↓Nat.reduceEqDiff, and_f, nt_e, nt_t, nl_t, nl_f, ne_t, ne_f, and_self, or_self, or_true, true_or, or_false, false_or, if_true, if_false, and_true, true_and, and_false, false_and, not_true, not_false_iff, e2, e3, Bool.toNat_true, Bool.and_self]
    · rw [decide_eq_false q]
      simp (disch := omega) only [lit_0, lit_1, lit_2, lit_3, lit_4, lit_5, lit_6, lit_7, lit_8, lit_9, lit_10, lit_11, lit_12, lit_13, lit_14, lit_15, lit_16, lit_20, lit_23, lit_24, lit_31, lit_32, lit_39, lit_43, lit_45, lit_47, lit_48, lit_56, lit_57, lit_59, lit_60, lit_62, lit_63, lit_89, lit_92, lit_96, lit_97, lit_99, lit_100, lit_102, lit_103, lit_104, lit_110, lit_111, lit_115, lit_117, lit_194, lit_200, lit_644, lit_736, lit_999, lit_1000, lit_9999, lit_10000, lit_1000000000, ↓wp_mlet, ↓wp_mbp, ↓wp_ite, ↓wp_mix, ↓wp_mdiv, ↓wp_mnz, ↓wp_some, ↓wp_mbnd, ↓mlet_eq, ↓mbp_eq, ↓mbnd_eq, ↓mix_ite, ↓mdiv_ite, ↓mnz_ite, nI_add, nI_mul, nI_nat, nI_ltE, nI_leE, nI_eqE, nI_eqN, nI_Neq, nI_Nlt, nI_Nle, nI_ltN, nI_leN, ↓reduceIte, ↓Nat.reduceEqDiff, and_f, nt_e, nt_t, nl_t, nl_f, ne_t, ne_f, and_self, or_self, or_true, true_or, or_false, false_or, if_true, if_false, and_true, true_and, and_false, false_and, not_true, not_false_iff, e2, e3, Bool.toNat_true, Bool.toNat_false, Bool.and_false]
theorem RC_log1 {G G1 : Nat → Nat → Int32} {β : Sp} {k w : Nat} (h14 : β 14 ≤ 12) (hk : Rk G β) (hd : Rd G β) (hb : Rb G β) (hj : Rj G1 (sLog β k w)) (hi : ∀ i, 1 ≤ i → i ≤ 11 → G1 i = G i) : RC G1 (sLog β k w) :=
  ⟨Rk.of (fun i _ _ => hi i (by omega) (by omega)) (fun j q => sLog_ne h14 (by omega) (by omega)) hk, Rd.of (hi 5 (by decide) (by decide)) (fun j q => sLog_ne h14 (by omega) (by omega)) hd, Rb.of (fun i _ _ => hi i (by omega) (by omega)) (fun j q => sLog_ne h14 (by omega) (by omega)) hb, hj⟩
theorem c_openTail {M MD : Mem} {β : Sp} {k w v : Nat} (h14 : β 14 ≤ 12) (hw : k < 65536) (hk : Rk (MD 0) β) (hd : Rd (MD 0) β) (hb : Rb (MD 0) β) (hj : Rj (MD 0) β) (hM : ∀ a, a ≠ 0 → MD a = M a) : wp (f_X5_enter 0 (nI (β 11)) (nI k) (nI w) MD) fun _ M1 => RC (mup M1 0 0 4 (nI v) 0) (sLog β k w) ∧ ∀ a, a ≠ 0 → mup M1 0 0 4 (nI v) a = M a := by
  refine wp_mono (c_enter (k := k) (w := w) hj h14 hw) ?_
  rintro - M1 ⟨g1, g2, g3⟩
  have e : ∀ i, 1 ≤ i → mup M1 0 0 4 (nI v) 0 i = M1 0 i := fun i hi => pm_ne (by omega)
  refine ⟨RC_log1 h14 hk hd hb (Rj.of (fun i h1 h2 => e i (by omega)) (fun _ _ => rfl) g1) (fun i h1 h2 => ?_), fun a h => ?_⟩
  · rw [e i h1]
    exact g2 i (by omega)
  · rw [pm_g h, g3 a h, hM a h]
theorem c_open {M : Mem} {α : Sp} {H : Nat} (hR : RC (M 0) α) (hi : Inv H α) : CT M 0 (sOpen α) (f_X9_tryOpen 0 M) := by
  obtain ⟨hk, hd, hb, hj⟩ := hR
  obtain ⟨r0, r1, r3, r5, r2, rc, r4⟩ := id hk
  obtain ⟨d0, d1, d2, d3⟩ := id hd
  obtain ⟨n1, n2⟩ := c_enough hk hi
  have ht := c_tell hk hi
  have hi' := hi
  obtain ⟨⟨b0, b1, b2, b3, b4, b5, b6, b7, b8, b9, b10, b11, b14⟩, i1, i2, bs, bk, bn, bz, bt, bg, bl⟩ := hi'
  have hz := c_inZ (M := M) (z := 0) hb b10 (by decide) (fun k hk => by have := (bg k hk).1; omega)
  unfold sOpen f_X9_tryOpen f_X9_verdictOnAttempt
  by_cases q1 : α 1 = 0
  · simp (disch := omega) only [lit_0, lit_1, lit_2, lit_3, lit_4, lit_5, lit_6, lit_7, lit_8, lit_9, lit_10, lit_11, lit_12, lit_13, lit_14, lit_15, lit_16, lit_20, lit_23, lit_24, lit_31, lit_32, lit_39, lit_43, lit_45, lit_47, lit_48, lit_56, lit_57, lit_59, lit_60, lit_62, lit_63, lit_89, lit_92, lit_96, lit_97, lit_99, lit_100, lit_102, lit_103, lit_104, lit_110, lit_111, lit_115, lit_117, lit_194, lit_200, lit_644, lit_736, lit_999, lit_1000, lit_9999, lit_10000, lit_1000000000, ↓wp_mlet, ↓wp_mbp, ↓wp_ite, ↓wp_mix, ↓wp_mdiv, ↓wp_mnz, ↓wp_some, ↓wp_mbnd, ↓mlet_eq, ↓mbp_eq, ↓mbnd_eq, ↓mix_ite, ↓mdiv_ite, ↓mnz_ite, nI_add, nI_mul, nI_nat, nI_ltE, nI_leE, nI_eqE, nI_eqN, nI_Neq, nI_Nlt, nI_Nle, nI_ltN, nI_leN, ↓reduceIte, ↓Nat.reduceEqDiff, and_f, nt_e, nt_t, nl_t, nl_f, ne_t, ne_f, and_self, or_self, or_true, true_or, or_false, false_or, if_true, if_false, and_true, true_and, and_false, false_and, not_true, not_false_iff, r1, q1]
    refine CT_inl rfl fun _ => ?_
    unfold f_X9_detailOf
    simp (disch := omega) only [lit_0, lit_1, lit_2, lit_3, lit_4, lit_5, lit_6, lit_7, lit_8, lit_9, lit_10, lit_11, lit_12, lit_13, lit_14, lit_15, lit_16, lit_20, lit_23, lit_24, lit_31, lit_32, lit_39, lit_43, lit_45, lit_47, lit_48, lit_56, lit_57, lit_59, lit_60, lit_62, lit_63, lit_89, lit_92, lit_96, lit_97, lit_99, lit_100, lit_102, lit_103, lit_104, lit_110, lit_111, lit_115, lit_117, lit_194, lit_200, lit_644, lit_736, lit_999, lit_1000, lit_9999, lit_10000, lit_1000000000, ↓wp_mlet, ↓wp_mbp, ↓wp_ite, ↓wp_mix, ↓wp_mdiv, ↓wp_mnz, ↓wp_some, ↓wp_mbnd, ↓mlet_eq, ↓mbp_eq, ↓mbnd_eq, ↓mix_ite, ↓mdiv_ite, ↓mnz_ite, nI_add, nI_mul, nI_nat, nI_ltE, nI_leE, nI_eqE, nI_eqN, nI_Neq, nI_Nlt, nI_Nle, nI_ltN, nI_leN, ↓reduceIte, ↓Nat.reduceEqDiff, and_f, nt_e, nt_t, nl_t, nl_f, ne_t, ne_f, and_self, or_self, or_true, true_or, or_false, false_or, if_true, if_false, and_true, true_and, and_false, false_and, not_true, not_false_iff]
  by_cases q2 : α 6 = 1
  · simp (disch := omega) only [lit_0, lit_1, lit_2, lit_3, lit_4, lit_5, lit_6, lit_7, lit_8, lit_9, lit_10, lit_11, lit_12, lit_13, lit_14, lit_15, lit_16, lit_20, lit_23, lit_24, lit_31, lit_32, lit_39, lit_43, lit_45, lit_47, lit_48, lit_56, lit_57, lit_59, lit_60, lit_62, lit_63, lit_89, lit_92, lit_96, lit_97, lit_99, lit_100, lit_102, lit_103, lit_104, lit_110, lit_111, lit_115, lit_117, lit_194, lit_200, lit_644, lit_736, lit_999, lit_1000, lit_9999, lit_10000, lit_1000000000, ↓wp_mlet, ↓wp_mbp, ↓wp_ite, ↓wp_mix, ↓wp_mdiv, ↓wp_mnz, ↓wp_some, ↓wp_mbnd, ↓mlet_eq, ↓mbp_eq, ↓mbnd_eq, ↓mix_ite, ↓mdiv_ite, ↓mnz_ite, nI_add, nI_mul, nI_nat, nI_ltE, nI_leE, nI_eqE, nI_eqN, nI_Neq, nI_Nlt, nI_Nle, nI_ltN, nI_leN, ↓reduceIte, ↓Nat.reduceEqDiff, and_f, nt_e, nt_t, nl_t, nl_f, ne_t, ne_f, and_self, or_self, or_true, true_or, or_false, false_or, if_true, if_false, and_true, true_and, and_false, false_and, not_true, not_false_iff, r1, d0, q2]
    refine CT_inl rfl fun _ => ?_
    unfold f_X9_detailOf
    simp (disch := omega) only [lit_0, lit_1, lit_2, lit_3, lit_4, lit_5, lit_6, lit_7, lit_8, lit_9, lit_10, lit_11, lit_12, lit_13, lit_14, lit_15, lit_16, lit_20, lit_23, lit_24, lit_31, lit_32, lit_39, lit_43, lit_45, lit_47, lit_48, lit_56, lit_57, lit_59, lit_60, lit_62, lit_63, lit_89, lit_92, lit_96, lit_97, lit_99, lit_100, lit_102, lit_103, lit_104, lit_110, lit_111, lit_115, lit_117, lit_194, lit_200, lit_644, lit_736, lit_999, lit_1000, lit_9999, lit_10000, lit_1000000000, ↓wp_mlet, ↓wp_mbp, ↓wp_ite, ↓wp_mix, ↓wp_mdiv, ↓wp_mnz, ↓wp_some, ↓wp_mbnd, ↓mlet_eq, ↓mbp_eq, ↓mbnd_eq, ↓mix_ite, ↓mdiv_ite, ↓mnz_ite, nI_add, nI_mul, nI_nat, nI_ltE, nI_leE, nI_eqE, nI_eqN, nI_Neq, nI_Nlt, nI_Nle, nI_ltN, nI_leN, ↓reduceIte, ↓Nat.reduceEqDiff, and_f, nt_e, nt_t, nl_t, nl_f, ne_t, ne_f, and_self, or_self, or_true, true_or, or_false, false_or, if_true, if_false, and_true, true_and, and_false, false_and, not_true, not_false_iff, r5]
  by_cases q3 : 0 < α 7
  · simp (disch := omega) only [lit_0, lit_1, lit_2, lit_3, lit_4, lit_5, lit_6, lit_7, lit_8, lit_9, lit_10, lit_11, lit_12, lit_13, lit_14, lit_15, lit_16, lit_20, lit_23, lit_24, lit_31, lit_32, lit_39, lit_43, lit_45, lit_47, lit_48, lit_56, lit_57, lit_59, lit_60, lit_62, lit_63, lit_89, lit_92, lit_96, lit_97, lit_99, lit_100, lit_102, lit_103, lit_104, lit_110, lit_111, lit_115, lit_117, lit_194, lit_200, lit_644, lit_736, lit_999, lit_1000, lit_9999, lit_10000, lit_1000000000, ↓wp_mlet, ↓wp_mbp, ↓wp_ite, ↓wp_mix, ↓wp_mdiv, ↓wp_mnz, ↓wp_some, ↓wp_mbnd, ↓mlet_eq, ↓mbp_eq, ↓mbnd_eq, ↓mix_ite, ↓mdiv_ite, ↓mnz_ite, nI_add, nI_mul, nI_nat, nI_ltE, nI_leE, nI_eqE, nI_eqN, nI_Neq, nI_Nlt, nI_Nle, nI_ltN, nI_leN, ↓reduceIte, ↓Nat.reduceEqDiff, and_f, nt_e, nt_t, nl_t, nl_f, ne_t, ne_f, and_self, or_self, or_true, true_or, or_false, false_or, if_true, if_false, and_true, true_and, and_false, false_and, not_true, not_false_iff, r1, d0, d1]
    refine CT_inl rfl fun _ => ?_
    unfold f_X9_detailOf
    simp (disch := omega) only [lit_0, lit_1, lit_2, lit_3, lit_4, lit_5, lit_6, lit_7, lit_8, lit_9, lit_10, lit_11, lit_12, lit_13, lit_14, lit_15, lit_16, lit_20, lit_23, lit_24, lit_31, lit_32, lit_39, lit_43, lit_45, lit_47, lit_48, lit_56, lit_57, lit_59, lit_60, lit_62, lit_63, lit_89, lit_92, lit_96, lit_97, lit_99, lit_100, lit_102, lit_103, lit_104, lit_110, lit_111, lit_115, lit_117, lit_194, lit_200, lit_644, lit_736, lit_999, lit_1000, lit_9999, lit_10000, lit_1000000000, ↓wp_mlet, ↓wp_mbp, ↓wp_ite, ↓wp_mix, ↓wp_mdiv, ↓wp_mnz, ↓wp_some, ↓wp_mbnd, ↓mlet_eq, ↓mbp_eq, ↓mbnd_eq, ↓mix_ite, ↓mdiv_ite, ↓mnz_ite, nI_add, nI_mul, nI_nat, nI_ltE, nI_leE, nI_eqE, nI_eqN, nI_Neq, nI_Nlt, nI_Nle, nI_ltN, nI_leN, ↓reduceIte, ↓Nat.reduceEqDiff, and_f, nt_e, nt_t, nl_t, nl_f, ne_t, ne_f, and_self, or_self, or_true, true_or, or_false, false_or, if_true, if_false, and_true, true_and, and_false, false_and, not_true, not_false_iff, d1]
  by_cases q4 : α 9 < α 5
  · have e := n2 (fun h => by have := h.2; omega)
    simp (disch := omega) only [lit_0, lit_1, lit_2, lit_3, lit_4, lit_5, lit_6, lit_7, lit_8, lit_9, lit_10, lit_11, lit_12, lit_13, lit_14, lit_15, lit_16, lit_20, lit_23, lit_24, lit_31, lit_32, lit_39, lit_43, lit_45, lit_47, lit_48, lit_56, lit_57, lit_59, lit_60, lit_62, lit_63, lit_89, lit_92, lit_96, lit_97, lit_99, lit_100, lit_102, lit_103, lit_104, lit_110, lit_111, lit_115, lit_117, lit_194, lit_200, lit_644, lit_736, lit_999, lit_1000, lit_9999, lit_10000, lit_1000000000, ↓wp_mlet, ↓wp_mbp, ↓wp_ite, ↓wp_mix, ↓wp_mdiv, ↓wp_mnz, ↓wp_some, ↓wp_mbnd, ↓mlet_eq, ↓mbp_eq, ↓mbnd_eq, ↓mix_ite, ↓mdiv_ite, ↓mnz_ite, nI_add, nI_mul, nI_nat, nI_ltE, nI_leE, nI_eqE, nI_eqN, nI_Neq, nI_Nlt, nI_Nle, nI_ltN, nI_leN, ↓reduceIte, ↓Nat.reduceEqDiff, and_f, nt_e, nt_t, nl_t, nl_f, ne_t, ne_f, and_self, or_self, or_true, true_or, or_false, false_or, if_true, if_false, and_true, true_and, and_false, false_and, not_true, not_false_iff, r1, d0, d1, e]
    refine CT_inl rfl fun _ => ?_
    unfold f_X9_detailOf
    simp (disch := omega) only [lit_0, lit_1, lit_2, lit_3, lit_4, lit_5, lit_6, lit_7, lit_8, lit_9, lit_10, lit_11, lit_12, lit_13, lit_14, lit_15, lit_16, lit_20, lit_23, lit_24, lit_31, lit_32, lit_39, lit_43, lit_45, lit_47, lit_48, lit_56, lit_57, lit_59, lit_60, lit_62, lit_63, lit_89, lit_92, lit_96, lit_97, lit_99, lit_100, lit_102, lit_103, lit_104, lit_110, lit_111, lit_115, lit_117, lit_194, lit_200, lit_644, lit_736, lit_999, lit_1000, lit_9999, lit_10000, lit_1000000000, ↓wp_mlet, ↓wp_mbp, ↓wp_ite, ↓wp_mix, ↓wp_mdiv, ↓wp_mnz, ↓wp_some, ↓wp_mbnd, ↓mlet_eq, ↓mbp_eq, ↓mbnd_eq, ↓mix_ite, ↓mdiv_ite, ↓mnz_ite, nI_add, nI_mul, nI_nat, nI_ltE, nI_leE, nI_eqE, nI_eqN, nI_Neq, nI_Nlt, nI_Nle, nI_ltN, nI_leN, ↓reduceIte, ↓Nat.reduceEqDiff, and_f, nt_e, nt_t, nl_t, nl_f, ne_t, ne_f, and_self, or_self, or_true, true_or, or_false, false_or, if_true, if_false, and_true, true_and, and_false, false_and, not_true, not_false_iff, r3, r5, nI_subE]
  have he := en_of q1 b1 q4
  have e := n1 he
  have et := ht he
  by_cases q5 : inZ α 0 = false
  · rw [q5] at hz
    simp (disch := omega) only [lit_0, lit_1, lit_2, lit_3, lit_4, lit_5, lit_6, lit_7, lit_8, lit_9, lit_10, lit_11, lit_12, lit_13, lit_14, lit_15, lit_16, lit_20, lit_23, lit_24, lit_31, lit_32, lit_39, lit_43, lit_45, lit_47, lit_48, lit_56, lit_57, lit_59, lit_60, lit_62, lit_63, lit_89, lit_92, lit_96, lit_97, lit_99, lit_100, lit_102, lit_103, lit_104, lit_110, lit_111, lit_115, lit_117, lit_194, lit_200, lit_644, lit_736, lit_999, lit_1000, lit_9999, lit_10000, lit_1000000000, ↓wp_mlet, ↓wp_mbp, ↓wp_ite, ↓wp_mix, ↓wp_mdiv, ↓wp_mnz, ↓wp_some, ↓wp_mbnd, ↓mlet_eq, ↓mbp_eq, ↓mbnd_eq, ↓mix_ite, ↓mdiv_ite, ↓mnz_ite, nI_add, nI_mul, nI_nat, nI_ltE, nI_leE, nI_eqE, nI_eqN, nI_Neq, nI_Nlt, nI_Nle, nI_ltN, nI_leN, ↓reduceIte, ↓Nat.reduceEqDiff, and_f, nt_e, nt_t, nl_t, nl_f, ne_t, ne_f, and_self, or_self, or_true, true_or, or_false, false_or, if_true, if_false, and_true, true_and, and_false, false_and, not_true, not_false_iff, r1, d0, d1, e, hz, q5, Bool.toNat_false]
    refine CT_inl rfl fun _ => ?_
    unfold f_X9_detailOf
    simp (disch := omega) only [lit_0, lit_1, lit_2, lit_3, lit_4, lit_5, lit_6, lit_7, lit_8, lit_9, lit_10, lit_11, lit_12, lit_13, lit_14, lit_15, lit_16, lit_20, lit_23, lit_24, lit_31, lit_32, lit_39, lit_43, lit_45, lit_47, lit_48, lit_56, lit_57, lit_59, lit_60, lit_62, lit_63, lit_89, lit_92, lit_96, lit_97, lit_99, lit_100, lit_102, lit_103, lit_104, lit_110, lit_111, lit_115, lit_117, lit_194, lit_200, lit_644, lit_736, lit_999, lit_1000, lit_9999, lit_10000, lit_1000000000, ↓wp_mlet, ↓wp_mbp, ↓wp_ite, ↓wp_mix, ↓wp_mdiv, ↓wp_mnz, ↓wp_some, ↓wp_mbnd, ↓mlet_eq, ↓mbp_eq, ↓mbnd_eq, ↓mix_ite, ↓mdiv_ite, ↓mnz_ite, nI_add, nI_mul, nI_nat, nI_ltE, nI_leE, nI_eqE, nI_eqN, nI_Neq, nI_Nlt, nI_Nle, nI_ltN, nI_leN, ↓reduceIte, ↓Nat.reduceEqDiff, and_f, nt_e, nt_t, nl_t, nl_f, ne_t, ne_f, and_self, or_self, or_true, true_or, or_false, false_or, if_true, if_false, and_true, true_and, and_false, false_and, not_true, not_false_iff, hb.2.2.1]
  have q5' : inZ α 0 = true := by simpa using q5
  rw [q5'] at hz
  have e6 : M 0 6 0 = nI (α 11) := hb.1
  have door : ∀ (MD : Mem) (β : Sp), (∀ j, ¬ (j = 6 ∨ j = 7 ∨ j = 8 ∨ j = 12) → β j = α j) → (∀ i, i ≠ 5 → MD 0 i = M 0 i) → Rd (MD 0) β → Rk (MD 0) β ∧ Rb (MD 0) β ∧ Rj (MD 0) β := fun MD β h1 h2 _ =>
    ⟨Rk.of (fun i _ _ => h2 i (by omega)) (fun j hj => h1 j (by omega)) hk, Rb.of (fun i _ _ => h2 i (by omega)) (fun j hj => h1 j (by omega)) hb, Rj.of (fun i _ _ => h2 i (by omega)) (fun j hj => h1 j (by omega)) hj⟩
  cases q6 : okA α with
  | true =>
    rw [q6] at et
    simp (disch := omega) only [lit_0, lit_1, lit_2, lit_3, lit_4, lit_5, lit_6, lit_7, lit_8, lit_9, lit_10, lit_11, lit_12, lit_13, lit_14, lit_15, lit_16, lit_20, lit_23, lit_24, lit_31, lit_32, lit_39, lit_43, lit_45, lit_47, lit_48, lit_56, lit_57, lit_59, lit_60, lit_62, lit_63, lit_89, lit_92, lit_96, lit_97, lit_99, lit_100, lit_102, lit_103, lit_104, lit_110, lit_111, lit_115, lit_117, lit_194, lit_200, lit_644, lit_736, lit_999, lit_1000, lit_9999, lit_10000, lit_1000000000, ↓wp_mlet, ↓wp_mbp, ↓wp_ite, ↓wp_mix, ↓wp_mdiv, ↓wp_mnz, ↓wp_some, ↓wp_mbnd, ↓mlet_eq, ↓mbp_eq, ↓mbnd_eq, ↓mix_ite, ↓mdiv_ite, ↓mnz_ite, nI_add, nI_mul, nI_nat, nI_ltE, nI_leE, nI_eqE, nI_eqN, nI_Neq, nI_Nlt, nI_Nle, nI_ltN, nI_leN, ↓reduceIte, ↓Nat.reduceEqDiff, and_f, nt_e, nt_t, nl_t, nl_f, ne_t, ne_f, and_self, or_self, or_true, true_or, or_false, false_or, if_true, if_false, and_true, true_and, and_false, false_and, not_true, not_false_iff, r1, d0, d1, e, hz, et, q5', Bool.toNat_true, toNat_0, Bool.false_and, Bool.true_and, Bool.and_false, Bool.and_true, Bool.false_eq_true, reduceCtorEq, Bool.true_eq_false, Bool.not_true, Bool.not_false]
    unfold f_X3_swingOpen CT
    have hd' : Rd ((mup (mup (mup M 0 5 0 (nI 1)) 0 5 2 (nI 0)) 0 5 3 (nI (α 12 + 1))) 0) (openSp α) := by
      refine ⟨?_, ?_, ?_, ?_⟩
      · simp (disch := omega) only [mup_at, up_at, fil_at, ↓reduceIte, ↓Nat.reduceEqDiff, and_f, nt_e, nt_t, nl_t, nl_f, ne_t, ne_f, and_self, or_self, or_true, true_or, or_false, false_or, if_true, if_false, and_true, true_and, and_false, false_and, not_true, not_false_iff, openSp_at]
      · simp (disch := omega) only [mup_at, up_at, fil_at, ↓reduceIte, ↓Nat.reduceEqDiff, and_f, nt_e, nt_t, nl_t, nl_f, ne_t, ne_f, and_self, or_self, or_true, true_or, or_false, false_or, if_true, if_false, and_true, true_and, and_false, false_and, not_true, not_false_iff, openSp_at, d1]
      · simp (disch := omega) only [mup_at, up_at, fil_at, ↓reduceIte, ↓Nat.reduceEqDiff, and_f, nt_e, nt_t, nl_t, nl_f, ne_t, ne_f, and_self, or_self, or_true, true_or, or_false, false_or, if_true, if_false, and_true, true_and, and_false, false_and, not_true, not_false_iff, openSp_at]
      · simp (disch := omega) only [mup_at, up_at, fil_at, ↓reduceIte, ↓Nat.reduceEqDiff, and_f, nt_e, nt_t, nl_t, nl_f, ne_t, ne_f, and_self, or_self, or_true, true_or, or_false, false_or, if_true, if_false, and_true, true_and, and_false, false_and, not_true, not_false_iff, openSp_at]
    obtain ⟨hk', hb', hj'⟩ := door _ _ (fun j hj => openSp_ne hj) (fun i hi => by rw [pm_ne (by omega), pm_ne (by omega), pm_ne (by omega)]) hd'
    have c14 : openSp α 14 = α 14 := openSp_ne (by decide)
    have c11 : openSp α 11 = α 11 := openSp_ne (by decide)
    have hw := c_openTail (M := M) (k := 111) (w := α 9) (v := 1) (by rw [c14]; exact b14) (by decide) hk' hd' hb' hj' (fun a h => by rw [pm_g h, pm_g h, pm_g h])
    rw [c11] at hw
    simp (disch := omega) only [lit_0, lit_1, lit_2, lit_3, lit_4, lit_5, lit_6, lit_7, lit_8, lit_9, lit_10, lit_11, lit_12, lit_13, lit_14, lit_15, lit_16, lit_20, lit_23, lit_24, lit_31, lit_32, lit_39, lit_43, lit_45, lit_47, lit_48, lit_56, lit_57, lit_59, lit_60, lit_62, lit_63, lit_89, lit_92, lit_96, lit_97, lit_99, lit_100, lit_102, lit_103, lit_104, lit_110, lit_111, lit_115, lit_117, lit_194, lit_200, lit_644, lit_736, lit_999, lit_1000, lit_9999, lit_10000, lit_1000000000, ↓wp_mlet, ↓wp_mbp, ↓wp_ite, ↓wp_mix, ↓wp_mdiv, ↓wp_mnz, ↓wp_some, ↓wp_mbnd, ↓mlet_eq, ↓mbp_eq, ↓mbnd_eq, ↓mix_ite, ↓mdiv_ite, ↓mnz_ite, nI_add, nI_mul, nI_nat, nI_ltE, nI_leE, nI_eqE, nI_eqN, nI_Neq, nI_Nlt, nI_Nle, nI_ltN, nI_leN, ↓reduceIte, ↓Nat.reduceEqDiff, and_f, nt_e, nt_t, nl_t, nl_f, ne_t, ne_f, and_self, or_self, or_true, true_or, or_false, false_or, if_true, if_false, and_true, true_and, and_false, false_and, not_true, not_false_iff, mup_at, up_at, fil_at, ↓reduceIte, ↓Nat.reduceEqDiff, and_f, nt_e, nt_t, nl_t, nl_f, ne_t, ne_f, and_self, or_self, or_true, true_or, or_false, false_or, if_true, if_false, and_true, true_and, and_false, false_and, not_true, not_false_iff, d3, e6, r5]
    refine wp_mono hw ?_
    rintro - M1 ⟨g1, g2⟩
    exact ⟨g1, g2⟩
  | false =>
    rw [q6] at et
    simp (disch := omega) only [lit_0, lit_1, lit_2, lit_3, lit_4, lit_5, lit_6, lit_7, lit_8, lit_9, lit_10, lit_11, lit_12, lit_13, lit_14, lit_15, lit_16, lit_20, lit_23, lit_24, lit_31, lit_32, lit_39, lit_43, lit_45, lit_47, lit_48, lit_56, lit_57, lit_59, lit_60, lit_62, lit_63, lit_89, lit_92, lit_96, lit_97, lit_99, lit_100, lit_102, lit_103, lit_104, lit_110, lit_111, lit_115, lit_117, lit_194, lit_200, lit_644, lit_736, lit_999, lit_1000, lit_9999, lit_10000, lit_1000000000, ↓wp_mlet, ↓wp_mbp, ↓wp_ite, ↓wp_mix, ↓wp_mdiv, ↓wp_mnz, ↓wp_some, ↓wp_mbnd, ↓mlet_eq, ↓mbp_eq, ↓mbnd_eq, ↓mix_ite, ↓mdiv_ite, ↓mnz_ite, nI_add, nI_mul, nI_nat, nI_ltE, nI_leE, nI_eqE, nI_eqN, nI_Neq, nI_Nlt, nI_Nle, nI_ltN, nI_leN, ↓reduceIte, ↓Nat.reduceEqDiff, and_f, nt_e, nt_t, nl_t, nl_f, ne_t, ne_f, and_self, or_self, or_true, true_or, or_false, false_or, if_true, if_false, and_true, true_and, and_false, false_and, not_true, not_false_iff, r1, d0, d1, e, hz, et, q5', Bool.toNat_true, Bool.toNat_false, toNat_0, Bool.false_and, Bool.true_and, Bool.and_false, Bool.and_true, Bool.false_eq_true, reduceCtorEq, Bool.true_eq_false, Bool.not_true, Bool.not_false]
    unfold f_X3_countFailure CT
    have c14 : failSp α 14 = α 14 := failSp_ne (by decide)
    have c11 : failSp α 11 = α 11 := failSp_ne (by decide)
    by_cases q7 : α 8 = 2
    · have hd' : Rd ((mup (mup (mup M 0 5 2 (nI 3)) 0 5 2 (nI 0)) 0 5 1 (nI 6)) 0) (failSp α) := by
        refine ⟨?_, ?_, ?_, ?_⟩
        · simp (disch := omega) only [mup_at, up_at, fil_at, ↓reduceIte, ↓Nat.reduceEqDiff, and_f, nt_e, nt_t, nl_t, nl_f, ne_t, ne_f, and_self, or_self, or_true, true_or, or_false, false_or, if_true, if_false, and_true, true_and, and_false, false_and, not_true, not_false_iff, failSp_at, d0]
        · simp (disch := omega) only [mup_at, up_at, fil_at, ↓reduceIte, ↓Nat.reduceEqDiff, and_f, nt_e, nt_t, nl_t, nl_f, ne_t, ne_f, and_self, or_self, or_true, true_or, or_false, false_or, if_true, if_false, and_true, true_and, and_false, false_and, not_true, not_false_iff, failSp_at]
        · simp (disch := omega) only [mup_at, up_at, fil_at, ↓reduceIte, ↓Nat.reduceEqDiff, and_f, nt_e, nt_t, nl_t, nl_f, ne_t, ne_f, and_self, or_self, or_true, true_or, or_false, false_or, if_true, if_false, and_true, true_and, and_false, false_and, not_true, not_false_iff, failSp_at]
        · simp (disch := omega) only [mup_at, up_at, fil_at, ↓reduceIte, ↓Nat.reduceEqDiff, and_f, nt_e, nt_t, nl_t, nl_f, ne_t, ne_f, and_self, or_self, or_true, true_or, or_false, false_or, if_true, if_false, and_true, true_and, and_false, false_and, not_true, not_false_iff, failSp_at, d3]
      obtain ⟨hk', hb', hj'⟩ := door _ _ (fun j hj => failSp_ne hj) (fun i hi => by rw [pm_ne (by omega), pm_ne (by omega), pm_ne (by omega)]) hd'
      have hw := c_openTail (M := M) (k := 102) (w := α 9) (v := 0) (by rw [c14]; exact b14) (by decide) hk' hd' hb' hj' (fun a h => by rw [pm_g h, pm_g h, pm_g h])
      rw [c11] at hw
      simp (disch := omega) only [lit_0, lit_1, lit_2, lit_3, lit_4, lit_5, lit_6, lit_7, lit_8, lit_9, lit_10, lit_11, lit_12, lit_13, lit_14, lit_15, lit_16, lit_20, lit_23, lit_24, lit_31, lit_32, lit_39, lit_43, lit_45, lit_47, lit_48, lit_56, lit_57, lit_59, lit_60, lit_62, lit_63, lit_89, lit_92, lit_96, lit_97, lit_99, lit_100, lit_102, lit_103, lit_104, lit_110, lit_111, lit_115, lit_117, lit_194, lit_200, lit_644, lit_736, lit_999, lit_1000, lit_9999, lit_10000, lit_1000000000, ↓wp_mlet, ↓wp_mbp, ↓wp_ite, ↓wp_mix, ↓wp_mdiv, ↓wp_mnz, ↓wp_some, ↓wp_mbnd, ↓mlet_eq, ↓mbp_eq, ↓mbnd_eq, ↓mix_ite, ↓mdiv_ite, ↓mnz_ite, nI_add, nI_mul, nI_nat, nI_ltE, nI_leE, nI_eqE, nI_eqN, nI_Neq, nI_Nlt, nI_Nle, nI_ltN, nI_leN, ↓reduceIte, ↓Nat.reduceEqDiff, and_f, nt_e, nt_t, nl_t, nl_f, ne_t, ne_f, and_self, or_self, or_true, true_or, or_false, false_or, if_true, if_false, and_true, true_and, and_false, false_and, not_true, not_false_iff, mup_at, up_at, fil_at, ↓reduceIte, ↓Nat.reduceEqDiff, and_f, nt_e, nt_t, nl_t, nl_f, ne_t, ne_f, and_self, or_self, or_true, true_or, or_false, false_or, if_true, if_false, and_true, true_and, and_false, false_and, not_true, not_false_iff, d2, q7, e6, r5, Nat.reduceAdd]
      refine wp_mono hw ?_
      rintro - M1 ⟨g1, g2⟩
      exact ⟨g1, g2⟩
    · have hd' : Rd ((mup M 0 5 2 (nI (α 8 + 1))) 0) (failSp α) := by
        refine ⟨?_, ?_, ?_, ?_⟩
        · simp (disch := omega) only [mup_at, up_at, fil_at, ↓reduceIte, ↓Nat.reduceEqDiff, and_f, nt_e, nt_t, nl_t, nl_f, ne_t, ne_f, and_self, or_self, or_true, true_or, or_false, false_or, if_true, if_false, and_true, true_and, and_false, false_and, not_true, not_false_iff, failSp_at, d0]
        · simp (disch := omega) only [mup_at, up_at, fil_at, ↓reduceIte, ↓Nat.reduceEqDiff, and_f, nt_e, nt_t, nl_t, nl_f, ne_t, ne_f, and_self, or_self, or_true, true_or, or_false, false_or, if_true, if_false, and_true, true_and, and_false, false_and, not_true, not_false_iff, failSp_at, d1]
        · simp (disch := omega) only [mup_at, up_at, fil_at, ↓reduceIte, ↓Nat.reduceEqDiff, and_f, nt_e, nt_t, nl_t, nl_f, ne_t, ne_f, and_self, or_self, or_true, true_or, or_false, false_or, if_true, if_false, and_true, true_and, and_false, false_and, not_true, not_false_iff, failSp_at]
        · simp (disch := omega) only [mup_at, up_at, fil_at, ↓reduceIte, ↓Nat.reduceEqDiff, and_f, nt_e, nt_t, nl_t, nl_f, ne_t, ne_f, and_self, or_self, or_true, true_or, or_false, false_or, if_true, if_false, and_true, true_and, and_false, false_and, not_true, not_false_iff, failSp_at, d3]
      obtain ⟨hk', hb', hj'⟩ := door _ _ (fun j hj => failSp_ne hj) (fun i hi => by rw [pm_ne (by omega)]) hd'
      have hw := c_openTail (M := M) (k := 102) (w := α 9) (v := 0) (by rw [c14]; exact b14) (by decide) hk' hd' hb' hj' (fun a h => by rw [pm_g h])
      rw [c11] at hw
      simp (disch := omega) only [lit_0, lit_1, lit_2, lit_3, lit_4, lit_5, lit_6, lit_7, lit_8, lit_9, lit_10, lit_11, lit_12, lit_13, lit_14, lit_15, lit_16, lit_20, lit_23, lit_24, lit_31, lit_32, lit_39, lit_43, lit_45, lit_47, lit_48, lit_56, lit_57, lit_59, lit_60, lit_62, lit_63, lit_89, lit_92, lit_96, lit_97, lit_99, lit_100, lit_102, lit_103, lit_104, lit_110, lit_111, lit_115, lit_117, lit_194, lit_200, lit_644, lit_736, lit_999, lit_1000, lit_9999, lit_10000, lit_1000000000, ↓wp_mlet, ↓wp_mbp, ↓wp_ite, ↓wp_mix, ↓wp_mdiv, ↓wp_mnz, ↓wp_some, ↓wp_mbnd, ↓mlet_eq, ↓mbp_eq, ↓mbnd_eq, ↓mix_ite, ↓mdiv_ite, ↓mnz_ite, nI_add, nI_mul, nI_nat, nI_ltE, nI_leE, nI_eqE, nI_eqN, nI_Neq, nI_Nlt, nI_Nle, nI_ltN, nI_leN, ↓reduceIte, ↓Nat.reduceEqDiff, and_f, nt_e, nt_t, nl_t, nl_f, ne_t, ne_f, and_self, or_self, or_true, true_or, or_false, false_or, if_true, if_false, and_true, true_and, and_false, false_and, not_true, not_false_iff, mup_at, up_at, fil_at, ↓reduceIte, ↓Nat.reduceEqDiff, and_f, nt_e, nt_t, nl_t, nl_f, ne_t, ne_f, and_self, or_self, or_true, true_or, or_false, false_or, if_true, if_false, and_true, true_and, and_false, false_and, not_true, not_false_iff, d2, e6, r5]
      refine wp_mono hw ?_
      rintro - M1 ⟨g1, g2⟩
      exact ⟨g1, g2⟩
