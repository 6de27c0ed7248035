/-! THE DOOR -/
def door (j : Nat) : Prop := j = 6 ∨ j = 7 ∨ j = 8 ∨ j = 12
theorem logB_door {α β : Sp} (h : ∀ j, ¬ (j = 6 ∨ j = 7 ∨ j = 8 ∨ j = 12) → β j = α j) {j : Nat} (hj : ¬ (j = 6 ∨ j = 7 ∨ j = 8 ∨ j = 12)) : logB β j = logB α j := by
  unfold logB
  rw [h 14 (by decide)]
  split
  · rw [shiftSp_at, shiftSp_at, h j hj]
    by_cases q : 56 ≤ j ∧ j < 89
    · rw [if_pos q, if_pos q, h (j + 3) (by omega)]
    · rw [if_neg q, if_neg q]
  · exact h j hj
theorem sLog_door {α β : Sp} {k w : Nat} (h : ∀ j, ¬ (j = 6 ∨ j = 7 ∨ j = 8 ∨ j = 12) → β j = α j) (h14 : α 14 ≤ 12) (j : Nat) : sLog β k w j = if j = 6 ∨ j = 7 ∨ j = 8 ∨ j = 12 then β j else sLog α k w j := by
  have e14 := h 14 (by decide)
  by_cases q : j = 6 ∨ j = 7 ∨ j = 8 ∨ j = 12
  · rw [if_pos q, sLog_ne (by omega) (by omega) (by omega)]
  · rw [if_neg q]
    unfold sLog
    rw [putSp_at, putSp_at, logB_door h (by decide : ¬ (14 = 6 ∨ 14 = 7 ∨ 14 = 8 ∨ 14 = 12)), logB_door h (by decide : ¬ (11 = 6 ∨ 11 = 7 ∨ 11 = 8 ∨ 11 = 12)), logB_door h q]
def openSp (α : Sp) : Sp := fun j => if j = 6 then 1 else if j = 8 then 0 else if j = 12 then α 12 + 1 else α j
theorem openSp_at (α : Sp) (j : Nat) : openSp α j = if j = 6 then 1 else if j = 8 then 0 else if j = 12 then α 12 + 1 else α j := Eq.trans rfl rfl
def failSp (α : Sp) : Sp := fun j => if j = 8 then (if α 8 = 2 then 0 else α 8 + 1) else if j = 7 then (if α 8 = 2 then 6 else α 7) else α j
theorem failSp_at (α : Sp) (j : Nat) : failSp α j = if j = 8 then (if α 8 = 2 then 0 else α 8 + 1) else if j = 7 then (if α 8 = 2 then 6 else α 7) else α j := Eq.trans rfl rfl
theorem openSp_ne {α : Sp} {j : Nat} (h : ¬ (j = 6 ∨ j = 7 ∨ j = 8 ∨ j = 12)) : openSp α j = α j := by rw [openSp_at, if_neg (by omega), if_neg (by omega), if_neg (by omega)]
theorem failSp_ne {α : Sp} {j : Nat} (h : ¬ (j = 6 ∨ j = 7 ∨ j = 8 ∨ j = 12)) : failSp α j = α j := by rw [failSp_at, if_neg (by omega), if_neg (by omega)]
/-- the attempt succeeds -/
def okA (α : Sp) : Bool := one (α 5) (sh α) (ky α) (α 9) && decide (thr (α 5) (sh α) (ky α) 0 = α 2)
def sOpen (α : Sp) : Ex := if α 1 = 0 then .inl (3, 0) else if α 6 = 1 then .inl (6, α 9) else if 0 < α 7 then .inl (7, α 7) else if α 9 < α 5 then .inl (8, α 5 - α 9) else if inZ α 0 = false then .inl (9, α 10) else if okA α = true then .inr (1, sLog (openSp α) 111 (α 9)) else .inr (0, sLog (failSp α) 102 (α 9))
theorem inv_door {α β : Sp} {H : Nat} (hi : Inv H α) (h1 : α 1 = 1) (h : ∀ j, ¬ (j = 6 ∨ j = 7 ∨ j = 8 ∨ j = 12) → β j = α j) (h6 : β 6 ≤ 1) (h7 : β 7 ≤ 6) (h8 : β 8 ≤ 2) : Inv H β := by
  obtain ⟨⟨b0, b1, b2, b3, b4, b5, b6, b7, b8, b9, b10, b11, b14⟩, i1, i2, bs, bk, bn, bz, bt, bg, bl⟩ := hi
  have s := h
  refine ⟨⟨?_, ?_, ?_, ?_, ?_, ?_, h6, h7, h8, ?_, ?_, ?_, ?_⟩, ?_, ?_, fun k hk => ?_, fun k hk => ?_, fun i k h1 hk => ?_, fun k hk => ?_, ?_, fun k hk => ?_, fun k hk => ?_⟩
  · rw [s 0 (by decide)]; exact b0
  · rw [s 1 (by decide)]; exact b1
  · rw [s 2 (by decide)]; exact b2
  · rw [s 3 (by decide)]; exact b3
  · rw [s 4 (by decide)]; exact b4
  · rw [s 5 (by decide)]; exact b5
  · rw [s 9 (by decide), s 0 (by decide)]; exact b9
  · rw [s 10 (by decide)]; exact b10
  · rw [s 11 (by decide)]; exact b11
  · rw [s 14 (by decide)]; exact b14
  · rw [s 1 (by decide)]; omega
  · rw [s 1 (by decide), s 5 (by decide)]; exact i2
  · rw [s _ (by omega)]; exact bs k hk
  · rw [s 9 (by decide)] at hk
    rw [s _ (by omega), s 0 (by decide)]; exact bk k hk
  · rw [s 9 (by decide)] at hk
    rw [s (23 + i) (by omega), s (23 + k) (by omega)]; exact bn i k h1 hk
  · rw [s (31 + k) (by omega), s (39 + k) (by omega), s 11 (by decide)]; exact bz k hk
  · rw [s 13 (by decide), s 39 (by decide), s 40 (by decide), s 41 (by decide), s 42 (by decide), s 43 (by decide), s 44 (by decide), s 45 (by decide), s 46 (by decide)]; exact bt
  · rw [s 10 (by decide)] at hk
    rw [s (47 + 3 * k) (by omega), s (48 + 3 * k) (by omega), s (49 + 3 * k) (by omega)]; exact bg k hk
  · rw [s 14 (by decide)] at hk
    rw [s (56 + 3 * k) (by omega), s (57 + 3 * k) (by omega), s (58 + 3 * k) (by omega), s 11 (by decide)]; exact bl k hk
theorem inv_open {α : Sp} {H ans : Nat} {β : Sp} (hi : Inv H α) (he : sOpen α = .inr (ans, β)) : Inv H β := by
  have hi' := hi
  obtain ⟨⟨b0, b1, b2, b3, b4, b5, b6, b7, b8, b9, b10, b11, b14⟩, -⟩ := hi'
  unfold sOpen at he
  by_cases q1 : α 1 = 0
  · rw [if_pos q1] at he; cases he
  rw [if_neg q1] at he
  by_cases q2 : α 6 = 1
  · rw [if_pos q2] at he; cases he
  rw [if_neg q2] at he
  by_cases q3 : 0 < α 7
  · rw [if_pos q3] at he; cases he
  rw [if_neg q3] at he
  by_cases q4 : α 9 < α 5
  · rw [if_pos q4] at he; cases he
  rw [if_neg q4] at he
  by_cases q5 : inZ α 0 = false
  · rw [if_pos q5] at he; cases he
  rw [if_neg q5] at he
  by_cases q6 : okA α = true
  · rw [if_pos q6] at he
    cases he
    refine inv_log (inv_door hi (by omega) (fun j hj => openSp_ne hj) ?_ ?_ ?_) (by decide) (by omega)
    · rw [openSp_at, if_pos rfl]; decide
    · rw [openSp_at, if_neg (by decide), if_neg (by decide), if_neg (by decide)]; exact b7
    · rw [openSp_at, if_neg (by decide), if_pos rfl]; decide
  · rw [if_neg q6] at he
    cases he
    refine inv_log (inv_door hi (by omega) (fun j hj => failSp_ne hj) ?_ ?_ ?_) (by decide) (by omega)
    · rw [failSp_at, if_neg (by decide), if_neg (by decide)]; exact b6
    · rw [failSp_at, if_neg (by decide), if_pos rfl]; split <;> omega
    · rw [failSp_at, if_pos rfl]; split <;> omega
theorem en_of {α : Sp} (h1 : ¬ α 1 = 0) (b1 : α 1 ≤ 1) (h2 : ¬ α 9 < α 5) : en α := ⟨by omega, by omega⟩
theorem c_tell {M : Mem} {H : Nat} {α : Sp} (hk : Rk (M 0) α) (hi : Inv H α) (he : en α) : f_X6_tellTheSecret 0 M = some (nI (okA α).toNat) := by
  have hl := Lk0 hk hi he
  have e1 := c_agree hk hi he
  have e2 : f_X6_toldAt 0 (nI 0) M = some (nI (thr (α 5) (sh α) (ky α) 0)) := by
    unfold f_X6_toldAt
    rw [c_thr hl (by decide)]
    rfl
  have b2 := hi.1.2.2.1
  have lt := thr_lt (T := α 5) (s := sh α) (t := ky α) (x := 0)
  have e3 : M 0 3 0 = nI (α 2) := hk.2.2.2.2.2.1 0 (by decide)
  unfold f_X6_tellTheSecret okA
  rw [e1]
  cases one (α 5) (sh α) (ky α) (α 9) with
  | false => rfl
  | true =>
    by_cases q : thr (α 5) (sh α) (ky α) 0 = α 2
    · rw [decide_eq_true q]
      simp (disch := omega) only [lit_0, lit_1, lit_2, lit_3, lit_4, lit_5, lit_6, lit_7, lit_8, lit_9, lit_10, lit_11, lit_12, lit_13, lit_14, lit_15, lit_16, lit_20, lit_23, lit_24, lit_31, lit_32, lit_39, lit_43, lit_45, lit_47, lit_48, lit_56, lit_57, lit_59, lit_60, lit_62, lit_63, lit_89, lit_92, lit_96, lit_97, lit_99, lit_100, lit_102, lit_103, lit_104, lit_110, lit_111, lit_115, lit_117, lit_194, lit_200, lit_644, lit_736, lit_999, lit_1000, lit_9999, lit_10000, lit_1000000000, ↓wp_mlet, ↓wp_mbp, ↓wp_ite, ↓wp_mix, ↓wp_mdiv, ↓wp_mnz, ↓wp_some, ↓wp_mbnd, ↓mlet_eq, ↓mbp_eq, ↓mbnd_eq, ↓mix_ite, ↓mdiv_ite, ↓mnz_ite, nI_add, nI_mul, nI_nat, nI_ltE, nI_leE, nI_eqE, nI_eqN, nI_Neq, nI_Nlt, nI_Nle, nI_ltN, nI_leN, ↓reduceIte, ↓Nat.reduceEqDiff, and_f, nt_e, nt_t, nl_t, nl_f, ne_t, ne_f, and_self, or_self, or_true, true_or, or_false, false_or, if_true, if_false, and_true, true_and, and_false, false_and, not_true, not_false_iff, e2, e3, Bool.toNat_true, Bool.and_self]
    · rw [decide_eq_false q]
      simp (disch := omega) only [lit_0, lit_1, lit_2, lit_3, lit_4, lit_5, lit_6, lit_7, lit_8, lit_9, lit_10, lit_11, lit_12, lit_13, lit_14, lit_15, lit_16, lit_20, lit_23, lit_24, lit_31, lit_32, lit_39, lit_43, lit_45, lit_47, lit_48, lit_56, lit_57, lit_59, lit_60, lit_62, lit_63, lit_89, lit_92, lit_96, lit_97, lit_99, lit_100, lit_102, lit_103, lit_104, lit_110, lit_111, lit_115, lit_117, lit_194, lit_200, lit_644, lit_736, lit_999, lit_1000, lit_9999, lit_10000, lit_1000000000, ↓wp_mlet, ↓wp_mbp, ↓wp_ite, ↓wp_mix, ↓wp_mdiv, ↓wp_mnz, ↓wp_some, ↓wp_mbnd, ↓mlet_eq, ↓mbp_eq, ↓mbnd_eq, ↓mix_ite, ↓mdiv_ite, ↓mnz_ite, nI_add, nI_mul, nI_nat, nI_ltE, nI_leE, nI_eqE, nI_eqN, nI_Neq, nI_Nlt, nI_Nle, nI_ltN, nI_leN, ↓reduceIte, ↓Nat.reduceEqDiff, and_f, nt_e, nt_t, nl_t, nl_f, ne_t, ne_f, and_self, or_self, or_true, true_or, or_false, false_or, if_true, if_false, and_true, true_and, and_false, false_and, not_true, not_false_iff, e2, e3, Bool.toNat_true, Bool.toNat_false, Bool.and_false]
theorem RC_log1 {G G1 : Nat → Nat → Int32} {β : Sp} {k w : Nat} (h14 : β 14 ≤ 12) (hk : Rk G β) (hd : Rd G β) (hb : Rb G β) (hj : Rj G1 (sLog β k w)) (hi : ∀ i, 1 ≤ i → i ≤ 11 → G1 i = G i) : RC G1 (sLog β k w) :=
  ⟨Rk.of (fun i _ _ => hi i (by omega) (by omega)) (fun j q => sLog_ne h14 (by omega) (by omega)) hk, Rd.of (hi 5 (by decide) (by decide)) (fun j q => sLog_ne h14 (by omega) (by omega)) hd, Rb.of (fun i _ _ => hi i (by omega) (by omega)) (fun j q => sLog_ne h14 (by omega) (by omega)) hb, hj⟩
theorem c_openTail {M MD : Mem} {β : Sp} {k w v : Nat} (h14 : β 14 ≤ 12) (hw : k < 65536) (hk : Rk (MD 0) β) (hd : Rd (MD 0) β) (hb : Rb (MD 0) β) (hj : Rj (MD 0) β) (hM : ∀ a, a ≠ 0 → MD a = M a) : wp (f_X5_enter 0 (nI (β 11)) (nI k) (nI w) MD) fun _ M1 => RC (mup M1 0 0 4 (nI v) 0) (sLog β k w) ∧ ∀ a, a ≠ 0 → mup M1 0 0 4 (nI v) a = M a := by
  refine wp_mono (c_enter (k := k) (w := w) hj h14 hw) ?_
  rintro - M1 ⟨g1, g2, g3⟩
  have e : ∀ i, 1 ≤ i → mup M1 0 0 4 (nI v) 0 i = M1 0 i := fun i hi => pm_ne (by omega)
  refine ⟨RC_log1 h14 hk hd hb (Rj.of (fun i h1 h2 => e i (by omega)) (fun _ _ => rfl) g1) (fun i h1 h2 => ?_), fun a h => ?_⟩
  · rw [e i h1]
    exact g2 i (by omega)
  · rw [pm_g h, g3 a h, hM a h]
theorem c_open {M : Mem} {α : Sp} {H : Nat} (hR : RC (M 0) α) (hi : Inv H α) : CT M 0 (sOpen α) (f_X9_tryOpen 0 M) := by
  obtain ⟨hk, hd, hb, hj⟩ := hR
  obtain ⟨r0, r1, r3, r5, r2, rc, r4⟩ := id hk
  obtain ⟨d0, d1, d2, d3⟩ := id hd
  obtain ⟨n1, n2⟩ := c_enough hk hi
  have ht := c_tell hk hi
  have hi' := hi
  obtain ⟨⟨b0, b1, b2, b3, b4, b5, b6, b7, b8, b9, b10, b11, b14⟩, i1, i2, bs, bk, bn, bz, bt, bg, bl⟩ := hi'
  have hz := c_inZ (M := M) (z := 0) hb b10 (by decide) (fun k hk => by have := (bg k hk).1; omega)
  unfold sOpen f_X9_tryOpen f_X9_verdictOnAttempt
  by_cases q1 : α 1 = 0
  · simp (disch := omega) only [lit_0, lit_1, lit_2, lit_3, lit_4, lit_5, lit_6, lit_7, lit_8, lit_9, lit_10, lit_11, lit_12, lit_13, lit_14, lit_15, lit_16, lit_20, lit_23, lit_24, lit_31, lit_32, lit_39, lit_43, lit_45, lit_47, lit_48, lit_56, lit_57, lit_59, lit_60, lit_62, lit_63, lit_89, lit_92, lit_96, lit_97, lit_99, lit_100, lit_102, lit_103, lit_104, lit_110, lit_111, lit_115, lit_117, lit_194, lit_200, lit_644, lit_736, lit_999, lit_1000, lit_9999, lit_10000, lit_1000000000, ↓wp_mlet, ↓wp_mbp, ↓wp_ite, ↓wp_mix, ↓wp_mdiv, ↓wp_mnz, ↓wp_some, ↓wp_mbnd, ↓mlet_eq, ↓mbp_eq, ↓mbnd_eq, ↓mix_ite, ↓mdiv_ite, ↓mnz_ite, nI_add, nI_mul, nI_nat, nI_ltE, nI_leE, nI_eqE, nI_eqN, nI_Neq, nI_Nlt, nI_Nle, nI_ltN, nI_leN, ↓reduceIte, ↓Nat.reduceEqDiff, and_f, nt_e, nt_t, nl_t, nl_f, ne_t, ne_f, and_self, or_self, or_true, true_or, or_false, false_or, if_true, if_false, and_true, true_and, and_false, false_and, not_true, not_false_iff, r1, q1]
    refine CT_inl rfl fun _ => ?_
    unfold f_X9_detailOf
    simp (disch := omega) only [lit_0, lit_1, lit_2, lit_3, lit_4, lit_5, lit_6, lit_7, lit_8, lit_9, lit_10, lit_11, lit_12, lit_13, lit_14, lit_15, lit_16, lit_20, lit_23, lit_24, lit_31, lit_32, lit_39, lit_43, lit_45, lit_47, lit_48, lit_56, lit_57, lit_59, lit_60, lit_62, lit_63, lit_89, lit_92, lit_96, lit_97, lit_99, lit_100, lit_102, lit_103, lit_104, lit_110, lit_111, lit_115, lit_117, lit_194, lit_200, lit_644, lit_736, lit_999, lit_1000, lit_9999, lit_10000, lit_1000000000, ↓wp_mlet, ↓wp_mbp, ↓wp_ite, ↓wp_mix, ↓wp_mdiv, ↓wp_mnz, ↓wp_some, ↓wp_mbnd, ↓mlet_eq, ↓mbp_eq, ↓mbnd_eq, ↓mix_ite, ↓mdiv_ite, ↓mnz_ite, nI_add, nI_mul, nI_nat, nI_ltE, nI_leE, nI_eqE, nI_eqN, nI_Neq, nI_Nlt, nI_Nle, nI_ltN, nI_leN, ↓reduceIte, ↓Nat.reduceEqDiff, and_f, nt_e, nt_t, nl_t, nl_f, ne_t, ne_f, and_self, or_self, or_true, true_or, or_false, false_or, if_true, if_false, and_true, true_and, and_false, false_and, not_true, not_false_iff]
  by_cases q2 : α 6 = 1
  · simp (disch := omega) only [lit_0, lit_1, lit_2, lit_3, lit_4, lit_5, lit_6, lit_7, lit_8, lit_9, lit_10, lit_11, lit_12, lit_13, lit_14, lit_15, lit_16, lit_20, lit_23, lit_24, lit_31, lit_32, lit_39, lit_43, lit_45, lit_47, lit_48, lit_56, lit_57, lit_59, lit_60, lit_62, lit_63, lit_89, lit_92, lit_96, lit_97, lit_99, lit_100, lit_102, lit_103, lit_104, lit_110, lit_111, lit_115, lit_117, lit_194, lit_200, lit_644, lit_736, lit_999, lit_1000, lit_9999, lit_10000, lit_1000000000, ↓wp_mlet, ↓wp_mbp, ↓wp_ite, ↓wp_mix, ↓wp_mdiv, ↓wp_mnz, ↓wp_some, ↓wp_mbnd, ↓mlet_eq, ↓mbp_eq, ↓mbnd_eq, ↓mix_ite, ↓mdiv_ite, ↓mnz_ite, nI_add, nI_mul, nI_nat, nI_ltE, nI_leE, nI_eqE, nI_eqN, nI_Neq, nI_Nlt, nI_Nle, nI_ltN, nI_leN, ↓reduceIte, ↓Nat.reduceEqDiff, and_f, nt_e, nt_t, nl_t, nl_f, ne_t, ne_f, and_self, or_self, or_true, true_or, or_false, false_or, if_true, if_false, and_true, true_and, and_false, false_and, not_true, not_false_iff, r1, d0, q2]
    refine CT_inl rfl fun _ => ?_
    unfold f_X9_detailOf
    simp (disch := omega) only [lit_0, lit_1, lit_2, lit_3, lit_4, lit_5, lit_6, lit_7, lit_8, lit_9, lit_10, lit_11, lit_12, lit_13, lit_14, lit_15, lit_16, lit_20, lit_23, lit_24, lit_31, lit_32, lit_39, lit_43, lit_45, lit_47, lit_48, lit_56, lit_57, lit_59, lit_60, lit_62, lit_63, lit_89, lit_92, lit_96, lit_97, lit_99, lit_100, lit_102, lit_103, lit_104, lit_110, lit_111, lit_115, lit_117, lit_194, lit_200, lit_644, lit_736, lit_999, lit_1000, lit_9999, lit_10000, lit_1000000000, ↓wp_mlet, ↓wp_mbp, ↓wp_ite, ↓wp_mix, ↓wp_mdiv, ↓wp_mnz, ↓wp_some, ↓wp_mbnd, ↓mlet_eq, ↓mbp_eq, ↓mbnd_eq, ↓mix_ite, ↓mdiv_ite, ↓mnz_ite, nI_add, nI_mul, nI_nat, nI_ltE, nI_leE, nI_eqE, nI_eqN, nI_Neq, nI_Nlt, nI_Nle, nI_ltN, nI_leN, ↓reduceIte, ↓Nat.reduceEqDiff, and_f, nt_e, nt_t, nl_t, nl_f, ne_t, ne_f, and_self, or_self, or_true, true_or, or_false, false_or, if_true, if_false, and_true, true_and, and_false, false_and, not_true, not_false_iff, r5]
  by_cases q3 : 0 < α 7
  · simp (disch := omega) only [lit_0, lit_1, lit_2, lit_3, lit_4, lit_5, lit_6, lit_7, lit_8, lit_9, lit_10, lit_11, lit_12, lit_13, lit_14, lit_15, lit_16, lit_20, lit_23, lit_24, lit_31, lit_32, lit_39, lit_43, lit_45, lit_47, lit_48, lit_56, lit_57, lit_59, lit_60, lit_62, lit_63, lit_89, lit_92, lit_96, lit_97, lit_99, lit_100, lit_102, lit_103, lit_104, lit_110, lit_111, lit_115, lit_117, lit_194, lit_200, lit_644, lit_736, lit_999, lit_1000, lit_9999, lit_10000, lit_1000000000, ↓wp_mlet, ↓wp_mbp, ↓wp_ite, ↓wp_mix, ↓wp_mdiv, ↓wp_mnz, ↓wp_some, ↓wp_mbnd, ↓mlet_eq, ↓mbp_eq, ↓mbnd_eq, ↓mix_ite, ↓mdiv_ite, ↓mnz_ite, nI_add, nI_mul, nI_nat, nI_ltE, nI_leE, nI_eqE, nI_eqN, nI_Neq, nI_Nlt, nI_Nle, nI_ltN, nI_leN, ↓reduceIte, ↓Nat.reduceEqDiff, and_f, nt_e, nt_t, nl_t, nl_f, ne_t, ne_f, and_self, or_self, or_true, true_or, or_false, false_or, if_true, if_false, and_true, true_and, and_false, false_and, not_true, not_false_iff, r1, d0, d1]
    refine CT_inl rfl fun _ => ?_
    unfold f_X9_detailOf
    simp (disch := omega) only [lit_0, lit_1, lit_2, lit_3, lit_4, lit_5, lit_6, lit_7, lit_8, lit_9, lit_10, lit_11, lit_12, lit_13, lit_14, lit_15, lit_16, lit_20, lit_23, lit_24, lit_31, lit_32, lit_39, lit_43, lit_45, lit_47, lit_48, lit_56, lit_57, lit_59, lit_60, lit_62, lit_63, lit_89, lit_92, lit_96, lit_97, lit_99, lit_100, lit_102, lit_103, lit_104, lit_110, lit_111, lit_115, lit_117, lit_194, lit_200, lit_644, lit_736, lit_999, lit_1000, lit_9999, lit_10000, lit_1000000000, ↓wp_mlet, ↓wp_mbp, ↓wp_ite, ↓wp_mix, ↓wp_mdiv, ↓wp_mnz, ↓wp_some, ↓wp_mbnd, ↓mlet_eq, ↓mbp_eq, ↓mbnd_eq, ↓mix_ite, ↓mdiv_ite, ↓mnz_ite, nI_add, nI_mul, nI_nat, nI_ltE, nI_leE, nI_eqE, nI_eqN, nI_Neq, nI_Nlt, nI_Nle, nI_ltN, nI_leN, ↓reduceIte, ↓Nat.reduceEqDiff, and_f, nt_e, nt_t, nl_t, nl_f, ne_t, ne_f, and_self, or_self, or_true, true_or, or_false, false_or, if_true, if_false, and_true, true_and, and_false, false_and, not_true, not_false_iff, d1]
  by_cases q4 : α 9 < α 5
  · have e := n2 (fun h => by have := h.2; omega)
    simp (disch := omega) only [lit_0, lit_1, lit_2, lit_3, lit_4, lit_5, lit_6, lit_7, lit_8, lit_9, lit_10, lit_11, lit_12, lit_13, lit_14, lit_15, lit_16, lit_20, lit_23, lit_24, lit_31, lit_32, lit_39, lit_43, lit_45, lit_47, lit_48, lit_56, lit_57, lit_59, lit_60, lit_62, lit_63, lit_89, lit_92, lit_96, lit_97, lit_99, lit_100, lit_102, lit_103, lit_104, lit_110, lit_111, lit_115, lit_117, lit_194, lit_200, lit_644, lit_736, lit_999, lit_1000, lit_9999, lit_10000, lit_1000000000, ↓wp_mlet, ↓wp_mbp, ↓wp_ite, ↓wp_mix, ↓wp_mdiv, ↓wp_mnz, ↓wp_some, ↓wp_mbnd, ↓mlet_eq, ↓mbp_eq, ↓mbnd_eq, ↓mix_ite, ↓mdiv_ite, ↓mnz_ite, nI_add, nI_mul, nI_nat, nI_ltE, nI_leE, nI_eqE, nI_eqN, nI_Neq, nI_Nlt, nI_Nle, nI_ltN, nI_leN, ↓reduceIte, ↓Nat.reduceEqDiff, and_f, nt_e, nt_t, nl_t, nl_f, ne_t, ne_f, and_self, or_self, or_true, true_or, or_false, false_or, if_true, if_false, and_true, true_and, and_false, false_and, not_true, not_false_iff, r1, d0, d1, e]
    refine CT_inl rfl fun _ => ?_
    unfold f_X9_detailOf
    simp (disch := omega) only [lit_0, lit_1, lit_2, lit_3, lit_4, lit_5, lit_6, lit_7, lit_8, lit_9, lit_10, lit_11, lit_12, lit_13, lit_14, lit_15, lit_16, lit_20, lit_23, lit_24, lit_31, lit_32, lit_39, lit_43, lit_45, lit_47, lit_48, lit_56, lit_57, lit_59, lit_60, lit_62, lit_63, lit_89, lit_92, lit_96, lit_97, lit_99, lit_100, lit_102, lit_103, lit_104, lit_110, lit_111, lit_115, lit_117, lit_194, lit_200, lit_644, lit_736, lit_999, lit_1000, lit_9999, lit_10000, lit_1000000000, ↓wp_mlet, ↓wp_mbp, ↓wp_ite, ↓wp_mix, ↓wp_mdiv, ↓wp_mnz, ↓wp_some, ↓wp_mbnd, ↓mlet_eq, ↓mbp_eq, ↓mbnd_eq, ↓mix_ite, ↓mdiv_ite, ↓mnz_ite, nI_add, nI_mul, nI_nat, nI_ltE, nI_leE, nI_eqE, nI_eqN, nI_Neq, nI_Nlt, nI_Nle, nI_ltN, nI_leN, ↓reduceIte, ↓Nat.reduceEqDiff, and_f, nt_e, nt_t, nl_t, nl_f, ne_t, ne_f, and_self, or_self, or_true, true_or, or_false, false_or, if_true, if_false, and_true, true_and, and_false, false_and, not_true, not_false_iff, r3, r5, nI_subE]
  have he := en_of q1 b1 q4
  have e := n1 he
  have et := ht he
  by_cases q5 : inZ α 0 = false
  · rw [q5] at hz
    simp (disch := omega) only [lit_0, lit_1, lit_2, lit_3, lit_4, lit_5, lit_6, lit_7, lit_8, lit_9, lit_10, lit_11, lit_12, lit_13, lit_14, lit_15, lit_16, lit_20, lit_23, lit_24, lit_31, lit_32, lit_39, lit_43, lit_45, lit_47, lit_48, lit_56, lit_57, lit_59, lit_60, lit_62, lit_63, lit_89, lit_92, lit_96, lit_97, lit_99, lit_100, lit_102, lit_103, lit_104, lit_110, lit_111, lit_115, lit_117, lit_194, lit_200, lit_644, lit_736, lit_999, lit_1000, lit_9999, lit_10000, lit_1000000000, ↓wp_mlet, ↓wp_mbp, ↓wp_ite, ↓wp_mix, ↓wp_mdiv, ↓wp_mnz, ↓wp_some, ↓wp_mbnd, ↓mlet_eq, ↓mbp_eq, ↓mbnd_eq, ↓mix_ite, ↓mdiv_ite, ↓mnz_ite, nI_add, nI_mul, nI_nat, nI_ltE, nI_leE, nI_eqE, nI_eqN, nI_Neq, nI_Nlt, nI_Nle, nI_ltN, nI_leN, ↓reduceIte, ↓Nat.reduceEqDiff, and_f, nt_e, nt_t, nl_t, nl_f, ne_t, ne_f, and_self, or_self, or_true, true_or, or_false, false_or, if_true, if_false, and_true, true_and, and_false, false_and, not_true, not_false_iff, r1, d0, d1, e, hz, q5, Bool.toNat_false]
    refine CT_inl rfl fun _ => ?_
    unfold f_X9_detailOf
    simp (disch := omega) only [lit_0, lit_1, lit_2, lit_3, lit_4, lit_5, lit_6, lit_7, lit_8, lit_9, lit_10, lit_11, lit_12, lit_13, lit_14, lit_15, lit_16, lit_20, lit_23, lit_24, lit_31, lit_32, lit_39, lit_43, lit_45, lit_47, lit_48, lit_56, lit_57, lit_59, lit_60, lit_62, lit_63, lit_89, lit_92, lit_96, lit_97, lit_99, lit_100, lit_102, lit_103, lit_104, lit_110, lit_111, lit_115, lit_117, lit_194, lit_200, lit_644, lit_736, lit_999, lit_1000, lit_9999, lit_10000, lit_1000000000, ↓wp_mlet, ↓wp_mbp, ↓wp_ite, ↓wp_mix, ↓wp_mdiv, ↓wp_mnz, ↓wp_some, ↓wp_mbnd, ↓mlet_eq, ↓mbp_eq, ↓mbnd_eq, ↓mix_ite, ↓mdiv_ite, ↓mnz_ite, nI_add, nI_mul, nI_nat, nI_ltE, nI_leE, nI_eqE, nI_eqN, nI_Neq, nI_Nlt, nI_Nle, nI_ltN, nI_leN, ↓reduceIte, ↓Nat.reduceEqDiff, and_f, nt_e, nt_t, nl_t, nl_f, ne_t, ne_f, and_self, or_self, or_true, true_or, or_false, false_or, if_true, if_false, and_true, true_and, and_false, false_and, not_true, not_false_iff, hb.2.2.1]
  have q5' : inZ α 0 = true := by simpa using q5
  rw [q5'] at hz
  have e6 : M 0 6 0 = nI (α 11) := hb.1
  have door : ∀ (MD : Mem) (β : Sp), (∀ j, ¬ (j = 6 ∨ j = 7 ∨ j = 8 ∨ j = 12) → β j = α j) → (∀ i, i ≠ 5 → MD 0 i = M 0 i) → Rd (MD 0) β → Rk (MD 0) β ∧ Rb (MD 0) β ∧ Rj (MD 0) β := fun MD β h1 h2 _ =>
    ⟨Rk.of (fun i _ _ => h2 i (by omega)) (fun j hj => h1 j (by omega)) hk, Rb.of (fun i _ _ => h2 i (by omega)) (fun j hj => h1 j (by omega)) hb, Rj.of (fun i _ _ => h2 i (by omega)) (fun j hj => h1 j (by omega)) hj⟩
  cases q6 : okA α with
  | true =>
    rw [q6] at et
    simp (disch := omega) only [lit_0, lit_1, lit_2, lit_3, lit_4, lit_5, lit_6, lit_7, lit_8, lit_9, lit_10, lit_11, lit_12, lit_13, lit_14, lit_15, lit_16, lit_20, lit_23, lit_24, lit_31, lit_32, lit_39, lit_43, lit_45, lit_47, lit_48, lit_56, lit_57, lit_59, lit_60, lit_62, lit_63, lit_89, lit_92, lit_96, lit_97, lit_99, lit_100, lit_102, lit_103, lit_104, lit_110, lit_111, lit_115, lit_117, lit_194, lit_200, lit_644, lit_736, lit_999, lit_1000, lit_9999, lit_10000, lit_1000000000, ↓wp_mlet, ↓wp_mbp, ↓wp_ite, ↓wp_mix, ↓wp_mdiv, ↓wp_mnz, ↓wp_some, ↓wp_mbnd, ↓mlet_eq, ↓mbp_eq, ↓mbnd_eq, ↓mix_ite, ↓mdiv_ite, ↓mnz_ite, nI_add, nI_mul, nI_nat, nI_ltE, nI_leE, nI_eqE, nI_eqN, nI_Neq, nI_Nlt, nI_Nle, nI_ltN, nI_leN, ↓reduceIte, ↓Nat.reduceEqDiff, and_f, nt_e, nt_t, nl_t, nl_f, ne_t, ne_f, and_self, or_self, or_true, true_or, or_false, false_or, if_true, if_false, and_true, true_and, and_false, false_and, not_true, not_false_iff, r1, d0, d1, e, hz, et, q5', Bool.toNat_true, toNat_0, Bool.false_and, Bool.true_and, Bool.and_false, Bool.and_true, Bool.false_eq_true, reduceCtorEq, Bool.true_eq_false, Bool.not_true, Bool.not_false]
    unfold f_X3_swingOpen CT
    have hd' : Rd ((mup (mup (mup M 0 5 0 (nI 1)) 0 5 2 (nI 0)) 0 5 3 (nI (α 12 + 1))) 0) (openSp α) := by
      refine ⟨?_, ?_, ?_, ?_⟩
      · simp (disch := omega) only [mup_at, up_at, fil_at, ↓reduceIte, ↓Nat.reduceEqDiff, and_f, nt_e, nt_t, nl_t, nl_f, ne_t, ne_f, and_self, or_self, or_true, true_or, or_false, false_or, if_true, if_false, and_true, true_and, and_false, false_and, not_true, not_false_iff, openSp_at]
      · simp (disch := omega) only [mup_at, up_at, fil_at, ↓reduceIte, ↓Nat.reduceEqDiff, and_f, nt_e, nt_t, nl_t, nl_f, ne_t, ne_f, and_self, or_self, or_true, true_or, or_false, false_or, if_true, if_false, and_true, true_and, and_false, false_and, not_true, not_false_iff, openSp_at, d1]
      · simp (disch := omega) only [mup_at, up_at, fil_at, ↓reduceIte, ↓Nat.reduceEqDiff, and_f, nt_e, nt_t, nl_t, nl_f, ne_t, ne_f, and_self, or_self, or_true, true_or, or_false, false_or, if_true, if_false, and_true, true_and, and_false, false_and, not_true, not_false_iff, openSp_at]
      · simp (disch := omega) only [mup_at, up_at, fil_at, ↓reduceIte, ↓Nat.reduceEqDiff, and_f, nt_e, nt_t, nl_t, nl_f, ne_t, ne_f, and_self, or_self, or_true, true_or, or_false, false_or, if_true, if_false, and_true, true_and, and_false, false_and, not_true, not_false_iff, openSp_at]
    obtain ⟨hk', hb', hj'⟩ := door _ _ (fun j hj => openSp_ne hj) (fun i hi => by rw [pm_ne (by omega), pm_ne (by omega), pm_ne (by omega)]) hd'
    have c14 : openSp α 14 = α 14 := openSp_ne (by decide)
    have c11 : openSp α 11 = α 11 := openSp_ne (by decide)
    have hw := c_openTail (M := M) (k := 111) (w := α 9) (v := 1) (by rw [c14]; exact b14) (by decide) hk' hd' hb' hj' (fun a h => by rw [pm_g h, pm_g h, pm_g h])
    rw [c11] at hw
    simp (disch := omega) only [lit_0, lit_1, lit_2, lit_3, lit_4, lit_5, lit_6, lit_7, lit_8, lit_9, lit_10, lit_11, lit_12, lit_13, lit_14, lit_15, lit_16, lit_20, lit_23, lit_24, lit_31, lit_32, lit_39, lit_43, lit_45, lit_47, lit_48, lit_56, lit_57, lit_59, lit_60, lit_62, lit_63, lit_89, lit_92, lit_96, lit_97, lit_99, lit_100, lit_102, lit_103, lit_104, lit_110, lit_111, lit_115, lit_117, lit_194, lit_200, lit_644, lit_736, lit_999, lit_1000, lit_9999, lit_10000, lit_1000000000, ↓wp_mlet, ↓wp_mbp, ↓wp_ite, ↓wp_mix, ↓wp_mdiv, ↓wp_mnz, ↓wp_some, ↓wp_mbnd, ↓mlet_eq, ↓mbp_eq, ↓mbnd_eq, ↓mix_ite, ↓mdiv_ite, ↓mnz_ite, nI_add, nI_mul, nI_nat, nI_ltE, nI_leE, nI_eqE, nI_eqN, nI_Neq, nI_Nlt, nI_Nle, nI_ltN, nI_leN, ↓reduceIte, ↓Nat.reduceEqDiff, and_f, nt_e, nt_t, nl_t, nl_f, ne_t, ne_f, and_self, or_self, or_true, true_or, or_false, false_or, if_true, if_false, and_true, true_and, and_false, false_and, not_true, not_false_iff, mup_at, up_at, fil_at, ↓reduceIte, ↓Nat.reduceEqDiff, and_f, nt_e, nt_t, nl_t, nl_f, ne_t, ne_f, and_self, or_self, or_true, true_or, or_false, false_or, if_true, if_false, and_true, true_and, and_false, false_and, not_true, not_false_iff, d3, e6, r5]
    refine wp_mono hw ?_
    rintro - M1 ⟨g1, g2⟩
    exact ⟨g1, g2⟩
  | false =>
    rw [q6] at et
    simp (disch := omega) only [lit_0, lit_1, lit_2, lit_3, lit_4, lit_5, lit_6, lit_7, lit_8, lit_9, lit_10, lit_11, lit_12, lit_13, lit_14, lit_15, lit_16, lit_20, lit_23, lit_24, lit_31, lit_32, lit_39, lit_43, lit_45, lit_47, lit_48, lit_56, lit_57, lit_59, lit_60, lit_62, lit_63, lit_89, lit_92, lit_96, lit_97, lit_99, lit_100, lit_102, lit_103, lit_104, lit_110, lit_111, lit_115, lit_117, lit_194, lit_200, lit_644, lit_736, lit_999, lit_1000, lit_9999, lit_10000, lit_1000000000, ↓wp_mlet, ↓wp_mbp, ↓wp_ite, ↓wp_mix, ↓wp_mdiv, ↓wp_mnz, ↓wp_some, ↓wp_mbnd, ↓mlet_eq, ↓mbp_eq, ↓mbnd_eq, ↓mix_ite, ↓mdiv_ite, ↓mnz_ite, nI_add, nI_mul, nI_nat, nI_ltE, nI_leE, nI_eqE, nI_eqN, nI_Neq, nI_Nlt, nI_Nle, nI_ltN, nI_leN, ↓reduceIte, ↓Nat.reduceEqDiff, and_f, nt_e, nt_t, nl_t, nl_f, ne_t, ne_f, and_self, or_self, or_true, true_or, or_false, false_or, if_true, if_false, and_true, true_and, and_false, false_and, not_true, not_false_iff, r1, d0, d1, e, hz, et, q5', Bool.toNat_true, Bool.toNat_false, toNat_0, Bool.false_and, Bool.true_and, Bool.and_false, Bool.and_true, Bool.false_eq_true, reduceCtorEq, Bool.true_eq_false, Bool.not_true, Bool.not_false]
    unfold f_X3_countFailure CT
    have c14 : failSp α 14 = α 14 := failSp_ne (by decide)
    have c11 : failSp α 11 = α 11 := failSp_ne (by decide)
    by_cases q7 : α 8 = 2
    · have hd' : Rd ((mup (mup (mup M 0 5 2 (nI 3)) 0 5 2 (nI 0)) 0 5 1 (nI 6)) 0) (failSp α) := by
        refine ⟨?_, ?_, ?_, ?_⟩
        · simp (disch := omega) only [mup_at, up_at, fil_at, ↓reduceIte, ↓Nat.reduceEqDiff, and_f, nt_e, nt_t, nl_t, nl_f, ne_t, ne_f, and_self, or_self, or_true, true_or, or_false, false_or, if_true, if_false, and_true, true_and, and_false, false_and, not_true, not_false_iff, failSp_at, d0]
        · simp (disch := omega) only [mup_at, up_at, fil_at, ↓reduceIte, ↓Nat.reduceEqDiff, and_f, nt_e, nt_t, nl_t, nl_f, ne_t, ne_f, and_self, or_self, or_true, true_or, or_false, false_or, if_true, if_false, and_true, true_and, and_false, false_and, not_true, not_false_iff, failSp_at]
        · simp (disch := omega) only [mup_at, up_at, fil_at, ↓reduceIte, ↓Nat.reduceEqDiff, and_f, nt_e, nt_t, nl_t, nl_f, ne_t, ne_f, and_self, or_self, or_true, true_or, or_false, false_or, if_true, if_false, and_true, true_and, and_false, false_and, not_true, not_false_iff, failSp_at]
        · simp (disch := omega) only [mup_at, up_at, fil_at, ↓reduceIte, ↓Nat.reduceEqDiff, and_f, nt_e, nt_t, nl_t, nl_f, ne_t, ne_f, and_self, or_self, or_true, true_or, or_false, false_or, if_true, if_false, and_true, true_and, and_false, false_and, not_true, not_false_iff, failSp_at, d3]
      obtain ⟨hk', hb', hj'⟩ := door _ _ (fun j hj => failSp_ne hj) (fun i hi => by rw [pm_ne (by omega), pm_ne (by omega), pm_ne (by omega)]) hd'
      have hw := c_openTail (M := M) (k := 102) (w := α 9) (v := 0) (by rw [c14]; exact b14) (by decide) hk' hd' hb' hj' (fun a h => by rw [pm_g h, pm_g h, pm_g h])
      rw [c11] at hw
      simp (disch := omega) only [lit_0, lit_1, lit_2, lit_3, lit_4, lit_5, lit_6, lit_7, lit_8, lit_9, lit_10, lit_11, lit_12, lit_13, lit_14, lit_15, lit_16, lit_20, lit_23, lit_24, lit_31, lit_32, lit_39, lit_43, lit_45, lit_47, lit_48, lit_56, lit_57, lit_59, lit_60, lit_62, lit_63, lit_89, lit_92, lit_96, lit_97, lit_99, lit_100, lit_102, lit_103, lit_104, lit_110, lit_111, lit_115, lit_117, lit_194, lit_200, lit_644, lit_736, lit_999, lit_1000, lit_9999, lit_10000, lit_1000000000, ↓wp_mlet, ↓wp_mbp, ↓wp_ite, ↓wp_mix, ↓wp_mdiv, ↓wp_mnz, ↓wp_some, ↓wp_mbnd, ↓mlet_eq, ↓mbp_eq, ↓mbnd_eq, ↓mix_ite, ↓mdiv_ite, ↓mnz_ite, nI_add, nI_mul, nI_nat, nI_ltE, nI_leE, nI_eqE, nI_eqN, nI_Neq, nI_Nlt, nI_Nle, nI_ltN, nI_leN, ↓reduceIte, ↓Nat.reduceEqDiff, and_f, nt_e, nt_t, nl_t, nl_f, ne_t, ne_f, and_self, or_self, or_true, true_or, or_false, false_or, if_true, if_false, and_true, true_and, and_false, false_and, not_true, not_false_iff, mup_at, up_at, fil_at, ↓reduceIte, ↓Nat.reduceEqDiff, and_f, nt_e, nt_t, nl_t, nl_f, ne_t, ne_f, and_self, or_self, or_true, true_or, or_false, false_or, if_true, if_false, and_true, true_and, and_false, false_and, not_true, not_false_iff, d2, q7, e6, r5, Nat.reduceAdd]
      refine wp_mono hw ?_
      rintro - M1 ⟨g1, g2⟩
      exact ⟨g1, g2⟩
    · have hd' : Rd ((mup M 0 5 2 (nI (α 8 + 1))) 0) (failSp α) := by
        refine ⟨?_, ?_, ?_, ?_⟩
        · simp (disch := omega) only [mup_at, up_at, fil_at, ↓reduceIte, ↓Nat.reduceEqDiff, and_f, nt_e, nt_t, nl_t, nl_f, ne_t, ne_f, and_self, or_self, or_true, true_or, or_false, false_or, if_true, if_false, and_true, true_and, and_false, false_and, not_true, not_false_iff, failSp_at, d0]
        · simp (disch := omega) only [mup_at, up_at, fil_at, ↓reduceIte, ↓Nat.reduceEqDiff, and_f, nt_e, nt_t, nl_t, nl_f, ne_t, ne_f, and_self, or_self, or_true, true_or, or_false, false_or, if_true, if_false, and_true, true_and, and_false, false_and, not_true, not_false_iff, failSp_at, d1]
        · simp (disch := omega) only [mup_at, up_at, fil_at, ↓reduceIte, ↓Nat.reduceEqDiff, and_f, nt_e, nt_t, nl_t, nl_f, ne_t, ne_f, and_self, or_self, or_true, true_or, or_false, false_or, if_true, if_false, and_true, true_and, and_false, false_and, not_true, not_false_iff, failSp_at]
        · simp (disch := omega) only [mup_at, up_at, fil_at, ↓reduceIte, ↓Nat.reduceEqDiff, and_f, nt_e, nt_t, nl_t, nl_f, ne_t, ne_f, and_self, or_self, or_true, true_or, or_false, false_or, if_true, if_false, and_true, true_and, and_false, false_and, not_true, not_false_iff, failSp_at, d3]
      obtain ⟨hk', hb', hj'⟩ := door _ _ (fun j hj => failSp_ne hj) (fun i hi => by rw [pm_ne (by omega)]) hd'
      have hw := c_openTail (M := M) (k := 102) (w := α 9) (v := 0) (by rw [c14]; exact b14) (by decide) hk' hd' hb' hj' (fun a h => by rw [pm_g h])
      rw [c11] at hw
      simp (disch := omega) only [lit_0, lit_1, lit_2, lit_3, lit_4, lit_5, lit_6, lit_7, lit_8, lit_9, lit_10, lit_11, lit_12, lit_13, lit_14, lit_15, lit_16, lit_20, lit_23, lit_24, lit_31, lit_32, lit_39, lit_43, lit_45, lit_47, lit_48, lit_56, lit_57, lit_59, lit_60, lit_62, lit_63, lit_89, lit_92, lit_96, lit_97, lit_99, lit_100, lit_102, lit_103, lit_104, lit_110, lit_111, lit_115, lit_117, lit_194, lit_200, lit_644, lit_736, lit_999, lit_1000, lit_9999, lit_10000, lit_1000000000, ↓wp_mlet, ↓wp_mbp, ↓wp_ite, ↓wp_mix, ↓wp_mdiv, ↓wp_mnz, ↓wp_some, ↓wp_mbnd, ↓mlet_eq, ↓mbp_eq, ↓mbnd_eq, ↓mix_ite, ↓mdiv_ite, ↓mnz_ite, nI_add, nI_mul, nI_nat, nI_ltE, nI_leE, nI_eqE, nI_eqN, nI_Neq, nI_Nlt, nI_Nle, nI_ltN, nI_leN, ↓reduceIte, ↓Nat.reduceEqDiff, and_f, nt_e, nt_t, nl_t, nl_f, ne_t, ne_f, and_self, or_self, or_true, true_or, or_false, false_or, if_true, if_false, and_true, true_and, and_false, false_and, not_true, not_false_iff, mup_at, up_at, fil_at, ↓reduceIte, ↓Nat.reduceEqDiff, and_f, nt_e, nt_t, nl_t, nl_f, ne_t, ne_f, and_self, or_self, or_true, true_or, or_false, false_or, if_true, if_false, and_true, true_and, and_false, false_and, not_true, not_false_iff, d2, e6, r5]
      refine wp_mono hw ?_
      rintro - M1 ⟨g1, g2⟩
      exact ⟨g1, g2⟩
theorem m_tries {M : Mem} {α : Sp} {H : Nat} (hS : M 12 48 = enc α) (hi : Inv H α) : MT M 1 (sOpen α) (f_X12_tries M) := by
  have hi' := hi
  obtain ⟨⟨b0, b1, b2, b3, b4, b5, b6, b7, b8, b9, b10, b11, b14⟩, i1, i2, bs, bk, bn, bz, bt, bg, bl⟩ := hi'
  have hz := m_inZ0 (z := 0) hS b10 (by decide) (fun k hk => by have := (bg k hk).1; omega)
  unfold sOpen f_X12_tries
  by_cases q1 : α 1 = 0
  · simp (disch := omega) only [lit_0, lit_1, lit_2, lit_3, lit_4, lit_5, lit_6, lit_7, lit_8, lit_9, lit_10, lit_11, lit_12, lit_13, lit_14, lit_15, lit_16, lit_20, lit_23, lit_24, lit_31, lit_32, lit_39, lit_43, lit_45, lit_47, lit_48, lit_56, lit_57, lit_59, lit_60, lit_62, lit_63, lit_89, lit_92, lit_96, lit_97, lit_99, lit_100, lit_102, lit_103, lit_104, lit_110, lit_111, lit_115, lit_117, lit_194, lit_200, lit_644, lit_736, lit_999, lit_1000, lit_9999, lit_10000, lit_1000000000, ↓wp_mlet, ↓wp_mbp, ↓wp_ite, ↓wp_mix, ↓wp_mdiv, ↓wp_mnz, ↓wp_some, ↓wp_mbnd, ↓mlet_eq, ↓mbp_eq, ↓mbnd_eq, ↓mix_ite, ↓mdiv_ite, ↓mnz_ite, nI_add, nI_mul, nI_nat, nI_ltE, nI_leE, nI_eqE, nI_eqN, nI_Neq, nI_Nlt, nI_Nle, nI_ltN, nI_leN, ↓reduceIte, ↓Nat.reduceEqDiff, and_f, nt_e, nt_t, nl_t, nl_f, ne_t, ne_f, and_self, or_self, or_true, true_or, or_false, false_or, if_true, if_false, and_true, true_and, and_false, false_and, not_true, not_false_iff, ms_n hS, q1]
    exact MT_refused (by decide)
  by_cases q2 : α 6 = 1
  · simp (disch := omega) only [lit_0, lit_1, lit_2, lit_3, lit_4, lit_5, lit_6, lit_7, lit_8, lit_9, lit_10, lit_11, lit_12, lit_13, lit_14, lit_15, lit_16, lit_20, lit_23, lit_24, lit_31, lit_32, lit_39, lit_43, lit_45, lit_47, lit_48, lit_56, lit_57, lit_59, lit_60, lit_62, lit_63, lit_89, lit_92, lit_96, lit_97, lit_99, lit_100, lit_102, lit_103, lit_104, lit_110, lit_111, lit_115, lit_117, lit_194, lit_200, lit_644, lit_736, lit_999, lit_1000, lit_9999, lit_10000, lit_1000000000, ↓wp_mlet, ↓wp_mbp, ↓wp_ite, ↓wp_mix, ↓wp_mdiv, ↓wp_mnz, ↓wp_some, ↓wp_mbnd, ↓mlet_eq, ↓mbp_eq, ↓mbnd_eq, ↓mix_ite, ↓mdiv_ite, ↓mnz_ite, nI_add, nI_mul, nI_nat, nI_ltE, nI_leE, nI_eqE, nI_eqN, nI_Neq, nI_Nlt, nI_Nle, nI_ltN, nI_leN, ↓reduceIte, ↓Nat.reduceEqDiff, and_f, nt_e, nt_t, nl_t, nl_f, ne_t, ne_f, and_self, or_self, or_true, true_or, or_false, false_or, if_true, if_false, and_true, true_and, and_false, false_and, not_true, not_false_iff, ms_n hS, q2]
    exact MT_refused (by decide)
  by_cases q3 : 0 < α 7
  · simp (disch := omega) only [lit_0, lit_1, lit_2, lit_3, lit_4, lit_5, lit_6, lit_7, lit_8, lit_9, lit_10, lit_11, lit_12, lit_13, lit_14, lit_15, lit_16, lit_20, lit_23, lit_24, lit_31, lit_32, lit_39, lit_43, lit_45, lit_47, lit_48, lit_56, lit_57, lit_59, lit_60, lit_62, lit_63, lit_89, lit_92, lit_96, lit_97, lit_99, lit_100, lit_102, lit_103, lit_104, lit_110, lit_111, lit_115, lit_117, lit_194, lit_200, lit_644, lit_736, lit_999, lit_1000, lit_9999, lit_10000, lit_1000000000, ↓wp_mlet, ↓wp_mbp, ↓wp_ite, ↓wp_mix, ↓wp_mdiv, ↓wp_mnz, ↓wp_some, ↓wp_mbnd, ↓mlet_eq, ↓mbp_eq, ↓mbnd_eq, ↓mix_ite, ↓mdiv_ite, ↓mnz_ite, nI_add, nI_mul, nI_nat, nI_ltE, nI_leE, nI_eqE, nI_eqN, nI_Neq, nI_Nlt, nI_Nle, nI_ltN, nI_leN, ↓reduceIte, ↓Nat.reduceEqDiff, and_f, nt_e, nt_t, nl_t, nl_f, ne_t, ne_f, and_self, or_self, or_true, true_or, or_false, false_or, if_true, if_false, and_true, true_and, and_false, false_and, not_true, not_false_iff, ms_n hS]
    exact MT_refused (by decide)
  by_cases q4 : α 9 < α 5
  · simp (disch := omega) only [lit_0, lit_1, lit_2, lit_3, lit_4, lit_5, lit_6, lit_7, lit_8, lit_9, lit_10, lit_11, lit_12, lit_13, lit_14, lit_15, lit_16, lit_20, lit_23, lit_24, lit_31, lit_32, lit_39, lit_43, lit_45, lit_47, lit_48, lit_56, lit_57, lit_59, lit_60, lit_62, lit_63, lit_89, lit_92, lit_96, lit_97, lit_99, lit_100, lit_102, lit_103, lit_104, lit_110, lit_111, lit_115, lit_117, lit_194, lit_200, lit_644, lit_736, lit_999, lit_1000, lit_9999, lit_10000, lit_1000000000, ↓wp_mlet, ↓wp_mbp, ↓wp_ite, ↓wp_mix, ↓wp_mdiv, ↓wp_mnz, ↓wp_some, ↓wp_mbnd, ↓mlet_eq, ↓mbp_eq, ↓mbnd_eq, ↓mix_ite, ↓mdiv_ite, ↓mnz_ite, nI_add, nI_mul, nI_nat, nI_ltE, nI_leE, nI_eqE, nI_eqN, nI_Neq, nI_Nlt, nI_Nle, nI_ltN, nI_leN, ↓reduceIte, ↓Nat.reduceEqDiff, and_f, nt_e, nt_t, nl_t, nl_f, ne_t, ne_f, and_self, or_self, or_true, true_or, or_false, false_or, if_true, if_false, and_true, true_and, and_false, false_and, not_true, not_false_iff, ms_n hS, nI_subE]
    exact MT_refused (by decide)
  have he := en_of q1 b1 q4
  by_cases q5 : inZ α 0 = false
  · rw [q5] at hz
    simp (disch := omega) only [lit_0, lit_1, lit_2, lit_3, lit_4, lit_5, lit_6, lit_7, lit_8, lit_9, lit_10, lit_11, lit_12, lit_13, lit_14, lit_15, lit_16, lit_20, lit_23, lit_24, lit_31, lit_32, lit_39, lit_43, lit_45, lit_47, lit_48, lit_56, lit_57, lit_59, lit_60, lit_62, lit_63, lit_89, lit_92, lit_96, lit_97, lit_99, lit_100, lit_102, lit_103, lit_104, lit_110, lit_111, lit_115, lit_117, lit_194, lit_200, lit_644, lit_736, lit_999, lit_1000, lit_9999, lit_10000, lit_1000000000, ↓wp_mlet, ↓wp_mbp, ↓wp_ite, ↓wp_mix, ↓wp_mdiv, ↓wp_mnz, ↓wp_some, ↓wp_mbnd, ↓mlet_eq, ↓mbp_eq, ↓mbnd_eq, ↓mix_ite, ↓mdiv_ite, ↓mnz_ite, nI_add, nI_mul, nI_nat, nI_ltE, nI_leE, nI_eqE, nI_eqN, nI_Neq, nI_Nlt, nI_Nle, nI_ltN, nI_leN, ↓reduceIte, ↓Nat.reduceEqDiff, and_f, nt_e, nt_t, nl_t, nl_f, ne_t, ne_f, and_self, or_self, or_true, true_or, or_false, false_or, if_true, if_false, and_true, true_and, and_false, false_and, not_true, not_false_iff, ms_n hS, hz, q5, Bool.toNat_false]
    exact MT_refused (by decide)
  have q5' : inZ α 0 = true := by simpa using q5
  rw [q5'] at hz
  have hf := m_first hS hi he
  have hS8 : (fil M 12 56 0 (α 5) (fun k => nI (ky α k))) 12 48 = enc α := by rw [fil_ne (by decide)]; exact hS
  have hl := Lm0 (M := M) hS8 hi he rfl
  have fr8 : ∀ a b, ¬ (a = 12 ∧ b = 56) → (fil M 12 56 0 (α 5) (fun k => nI (ky α k))) a b = M a b := fun a b h => fil_ne h
  simp (disch := omega) only [lit_0, lit_1, lit_2, lit_3, lit_4, lit_5, lit_6, lit_7, lit_8, lit_9, lit_10, lit_11, lit_12, lit_13, lit_14, lit_15, lit_16, lit_20, lit_23, lit_24, lit_31, lit_32, lit_39, lit_43, lit_45, lit_47, lit_48, lit_56, lit_57, lit_59, lit_60, lit_62, lit_63, lit_89, lit_92, lit_96, lit_97, lit_99, lit_100, lit_102, lit_103, lit_104, lit_110, lit_111, lit_115, lit_117, lit_194, lit_200, lit_644, lit_736, lit_999, lit_1000, lit_9999, lit_10000, lit_1000000000, ↓wp_mlet, ↓wp_mbp, ↓wp_ite, ↓wp_mix, ↓wp_mdiv, ↓wp_mnz, ↓wp_some, ↓wp_mbnd, ↓mlet_eq, ↓mbp_eq, ↓mbnd_eq, ↓mix_ite, ↓mdiv_ite, ↓mnz_ite, nI_add, nI_mul, nI_nat, nI_ltE, nI_leE, nI_eqE, nI_eqN, nI_Neq, nI_Nlt, nI_Nle, nI_ltN, nI_leN, ↓reduceIte, ↓Nat.reduceEqDiff, and_f, nt_e, nt_t, nl_t, nl_f, ne_t, ne_f, and_self, or_self, or_true, true_or, or_false, false_or, if_true, if_false, and_true, true_and, and_false, false_and, not_true, not_false_iff, ms_n hS, hz, q5', hf, Bool.toNat_true, toNat_0, Bool.false_and, Bool.true_and, Bool.and_false, Bool.and_true, Bool.false_eq_true, reduceCtorEq, Bool.true_eq_false, Bool.not_true, Bool.not_false]
  generalize fil M 12 56 0 (α 5) (fun k => nI (ky α k)) = M8 at *
  have e1 := m_onIt hl (ky := ky α) (n := α 9) (ms_n hS8 (by decide)) (by omega) (fun k hk => ⟨ms_n hS8 (by omega), by have := bk k hk; show α (23 + k) < 8; omega⟩)
  have e2 := m_thr hl (x := 0) (by decide)
  have e3 := one_cnt (T := α 5) (s := sh α) (t := ky α) (n := α 9)
  have l := cnt_le (P := fun k => onC (α 5) (sh α) (ky α) (ky α k)) (α 9)
  have lt := thr_lt (T := α 5) (s := sh α) (t := ky α) (x := 0)
  have n8 := fun (j : Nat) (h : ¬ (j = 48 ∨ j = 51 ∨ j = 54)) => ms_n hS8 h
  have tail : ∀ {MF : Mem} {β : Sp} {v : Nat}, MF 12 48 = enc β → (∀ a b, ¬ (a = 12 ∧ b = 48) → MF a b = M8 a b) → MT M 1 (.inr (v, β)) (some (nI 0, mup MF 12 47 15 (nI v))) := fun {MF β v} h1 h2 => by
    unfold MT
    refine ⟨nI 0, _, rfl, rfl, ?_, fun k hk => ?_, ?_, fun a b hab => ?_⟩
    · rw [pm_ne (by decide)]; exact h1
    · rw [mup_at, if_neg (by omega), h2 12 47 (by decide), fr8 12 47 (by decide)]
    · rw [mup_at, if_pos (by decide)]
    · rw [pm_ne (by omega), h2 a b (by omega), fr8 a b (by omega)]
  unfold okA at *
  generalize cnt (fun k => onC (α 5) (sh α) (ky α) (ky α k)) (α 9) = c at *
  generalize hth : thr (α 5) (sh α) (ky α) 0 = th at *
  have n82 := n8 2 (by decide)
  have n89 := n8 9 (by decide)
  by_cases q6 : one (α 5) (sh α) (ky α) (α 9) = true ∧ th = α 2
  · obtain ⟨q6a, q6b⟩ := q6
    have e4 : c = α 9 := e3 ▸ q6a
    have hD : (one (α 5) (sh α) (ky α) (α 9) && decide (th = α 2)) = true := by rw [q6a, decide_eq_true q6b]; rfl
    obtain ⟨⟨⟩, M2, e, h2⟩ := m_logs (k := 111) (w := α 9) hS8 b14
    have g8 := h2.of_up (k := 8) (v := 0) (by decide)
    have g6 := g8.of_up (k := 6) (v := 1) (by decide)
    have g12 := g6.of_up (k := 12) (v := α 12 + 1) (by decide)
    have hfin : up (up (up (sLog α 111 (α 9)) 8 0) 6 1) 12 (α 12 + 1) = sLog (openSp α) 111 (α 9) := by
      funext j
      rw [sLog_door (fun j hj => openSp_ne hj) b14, up_at, up_at, up_at, openSp_at]
      by_cases r12 : j = 12
      · rw [if_pos r12, if_pos (by omega), if_neg (by omega), if_neg (by omega), if_pos r12]
      by_cases r6 : j = 6
      · rw [if_neg r12, if_pos r6, if_pos (by omega), if_pos r6]
      by_cases r8 : j = 8
      · rw [if_neg r12, if_neg r6, if_pos r8, if_pos (by omega), if_neg r6, if_pos r8]
      by_cases r7 : j = 7
      · rw [if_neg r12, if_neg r6, if_neg r8, if_pos (by omega), if_neg r6, if_neg r8, if_neg r12]
        exact sLog_ne b14 (by omega) (by omega)
      · rw [if_neg r12, if_neg r6, if_neg r8, if_neg (by omega)]
    rw [hfin] at g12
    have x8 : (mup M2 12 48 8 (nI 0)) 12 48 8 = nI 0 := by rw [mup_at, if_pos (by decide)]
    have x12 : (mup (mup M2 12 48 8 (nI 0)) 12 48 6 (nI 1)) 12 48 12 = nI (α 12) := by
      rw [ms_n g6.1 (by decide), up_at, if_neg (by decide), up_at, if_neg (by decide), sLog_ne b14 (by decide) (by decide)]
    have y8 : (mup (mup (mup M2 12 48 8 (nI 0)) 12 48 6 (nI 1)) 12 48 12 (nI (α 12 + 1))) 12 48 8 = nI 0 := by
      rw [mup_at, if_neg (by decide), mup_at, if_neg (by decide)]; exact x8
    unfold f_X12_done
    rw [if_pos hD]
    simp (disch := omega) only [lit_0, lit_1, lit_2, lit_3, lit_4, lit_5, lit_6, lit_7, lit_8, lit_9, lit_10, lit_11, lit_12, lit_13, lit_14, lit_15, lit_16, lit_20, lit_23, lit_24, lit_31, lit_32, lit_39, lit_43, lit_45, lit_47, lit_48, lit_56, lit_57, lit_59, lit_60, lit_62, lit_63, lit_89, lit_92, lit_96, lit_97, lit_99, lit_100, lit_102, lit_103, lit_104, lit_110, lit_111, lit_115, lit_117, lit_194, lit_200, lit_644, lit_736, lit_999, lit_1000, lit_9999, lit_10000, lit_1000000000, ↓wp_mlet, ↓wp_mbp, ↓wp_ite, ↓wp_mix, ↓wp_mdiv, ↓wp_mnz, ↓wp_some, ↓wp_mbnd, ↓mlet_eq, ↓mbp_eq, ↓mbnd_eq, ↓mix_ite, ↓mdiv_ite, ↓mnz_ite, nI_add, nI_mul, nI_nat, nI_ltE, nI_leE, nI_eqE, nI_eqN, nI_Neq, nI_Nlt, nI_Nle, nI_ltN, nI_leN, ↓reduceIte, ↓Nat.reduceEqDiff, and_f, nt_e, nt_t, nl_t, nl_f, ne_t, ne_f, and_self, or_self, or_true, true_or, or_false, false_or, if_true, if_false, and_true, true_and, and_false, false_and, not_true, not_false_iff, e1, e2, n89, n82, e4, e, x12, y8]
    exact tail g12.1 (fun a b h => g12.2 a b h)
  · have hD : ¬ (one (α 5) (sh α) (ky α) (α 9) && decide (th = α 2)) = true := by
      intro h
      rw [Bool.and_eq_true, decide_eq_true_iff] at h
      exact q6 h
    obtain ⟨⟨⟩, M2, e, h2⟩ := m_logs (k := 102) (w := α 9) hS8 b14
    have g8 := h2.of_up (k := 8) (v := α 8 + 1) (by decide)
    have x8 : M2 12 48 8 = nI (α 8) := by rw [ms_n h2.1 (by decide), sLog_ne b14 (by decide) (by decide)]
    have y8 : (mup M2 12 48 8 (nI (α 8 + 1))) 12 48 8 = nI (α 8 + 1) := by rw [mup_at, if_pos (by decide)]
    have main : ∀ (K : Option (Int32 × Mem)), K = (if nI (α 8 + 1) = nI 3 then some (nI 0, mup (mup (mup (mup M2 12 48 8 (nI (α 8 + 1))) 12 48 8 (nI 0)) 12 48 7 (nI 6)) 12 47 15 (nI 0)) else some (nI 0, mup (mup M2 12 48 8 (nI (α 8 + 1))) 12 47 15 (nI 0))) → MT M 1 (.inr (0, sLog (failSp α) 102 (α 9))) K := by
      intro K hK
      subst hK
      by_cases q7 : α 8 = 2
      · rw [if_pos (by rw [q7])]
        have g80 := g8.of_up (k := 8) (v := 0) (by decide)
        have g7 := g80.of_up (k := 7) (v := 6) (by decide)
        have hfin : up (up (up (sLog α 102 (α 9)) 8 (α 8 + 1)) 8 0) 7 6 = sLog (failSp α) 102 (α 9) := by
          funext j
          rw [sLog_door (fun j hj => failSp_ne hj) b14, up_at, up_at, up_at, failSp_at, if_pos q7, if_pos q7]
          by_cases r7 : j = 7
          · rw [if_pos r7, if_pos (by omega), if_neg (by omega), if_pos r7]
          by_cases r8 : j = 8
          · rw [if_neg r7, if_pos r8, if_pos (by omega), if_pos r8]
          by_cases r6 : j = 6 ∨ j = 12
          · rw [if_neg r7, if_neg r8, if_neg r8, if_pos (by omega), if_neg r8, if_neg r7]
            exact sLog_ne b14 (by omega) (by omega)
          · rw [if_neg r7, if_neg r8, if_neg r8, if_neg (by omega)]
        rw [hfin] at g7
        exact tail g7.1 (fun a b h => g7.2 a b h)
      · rw [if_neg (by rw [nI_eqE (by omega) (by decide)]; omega)]
        have hfin : up (sLog α 102 (α 9)) 8 (α 8 + 1) = sLog (failSp α) 102 (α 9) := by
          funext j
          rw [sLog_door (fun j hj => failSp_ne hj) b14, up_at, failSp_at, if_neg q7, if_neg q7]
          by_cases r8 : j = 8
          · rw [if_pos r8, if_pos (by omega), if_pos r8]
          by_cases r6 : j = 6 ∨ j = 7 ∨ j = 12
          · rw [if_neg r8, if_pos (by omega), if_neg r8]
            rw [sLog_ne b14 (by omega) (by omega)]
            by_cases r7 : j = 7
            · rw [if_pos r7, r7]
            · rw [if_neg r7]
          · rw [if_neg r8, if_neg (by omega)]
        rw [hfin] at g8
        exact tail g8.1 (fun a b h => g8.2 a b h)
    unfold f_X12_done
    rw [if_neg hD]
    refine main _ ?_
    have y3 : (mup M2 12 48 8 (nI 3)) 12 48 8 = nI 3 := by rw [mup_at, if_pos (by decide)]
    by_cases q8 : one (α 5) (sh α) (ky α) (α 9) = true
    · have e4 : c = α 9 := e3 ▸ q8
      have q9 : th ≠ α 2 := fun h => q6 ⟨q8, h⟩
      by_cases q7 : α 8 = 2
      · simp (disch := omega) only [lit_0, lit_1, lit_2, lit_3, lit_4, lit_5, lit_6, lit_7, lit_8, lit_9, lit_10, lit_11, lit_12, lit_13, lit_14, lit_15, lit_16, lit_20, lit_23, lit_24, lit_31, lit_32, lit_39, lit_43, lit_45, lit_47, lit_48, lit_56, lit_57, lit_59, lit_60, lit_62, lit_63, lit_89, lit_92, lit_96, lit_97, lit_99, lit_100, lit_102, lit_103, lit_104, lit_110, lit_111, lit_115, lit_117, lit_194, lit_200, lit_644, lit_736, lit_999, lit_1000, lit_9999, lit_10000, lit_1000000000, ↓wp_mlet, ↓wp_mbp, ↓wp_ite, ↓wp_mix, ↓wp_mdiv, ↓wp_mnz, ↓wp_some, ↓wp_mbnd, ↓mlet_eq, ↓mbp_eq, ↓mbnd_eq, ↓mix_ite, ↓mdiv_ite, ↓mnz_ite, nI_add, nI_mul, nI_nat, nI_ltE, nI_leE, nI_eqE, nI_eqN, nI_Neq, nI_Nlt, nI_Nle, nI_ltN, nI_leN, ↓reduceIte, ↓Nat.reduceEqDiff, and_f, nt_e, nt_t, nl_t, nl_f, ne_t, ne_f, and_self, or_self, or_true, true_or, or_false, false_or, if_true, if_false, and_true, true_and, and_false, false_and, not_true, not_false_iff, e1, e2, n89, n82, e4, e, x8, y3, q7, Nat.reduceAdd]
      · simp (disch := omega) only [lit_0, lit_1, lit_2, lit_3, lit_4, lit_5, lit_6, lit_7, lit_8, lit_9, lit_10, lit_11, lit_12, lit_13, lit_14, lit_15, lit_16, lit_20, lit_23, lit_24, lit_31, lit_32, lit_39, lit_43, lit_45, lit_47, lit_48, lit_56, lit_57, lit_59, lit_60, lit_62, lit_63, lit_89, lit_92, lit_96, lit_97, lit_99, lit_100, lit_102, lit_103, lit_104, lit_110, lit_111, lit_115, lit_117, lit_194, lit_200, lit_644, lit_736, lit_999, lit_1000, lit_9999, lit_10000, lit_1000000000, ↓wp_mlet, ↓wp_mbp, ↓wp_ite, ↓wp_mix, ↓wp_mdiv, ↓wp_mnz, ↓wp_some, ↓wp_mbnd, ↓mlet_eq, ↓mbp_eq, ↓mbnd_eq, ↓mix_ite, ↓mdiv_ite, ↓mnz_ite, nI_add, nI_mul, nI_nat, nI_ltE, nI_leE, nI_eqE, nI_eqN, nI_Neq, nI_Nlt, nI_Nle, nI_ltN, nI_leN, ↓reduceIte, ↓Nat.reduceEqDiff, and_f, nt_e, nt_t, nl_t, nl_f, ne_t, ne_f, and_self, or_self, or_true, true_or, or_false, false_or, if_true, if_false, and_true, true_and, and_false, false_and, not_true, not_false_iff, e1, e2, n89, n82, e4, e, x8, y8]
    · have e4 : c ≠ α 9 := fun h => q8 (e3 ▸ h)
      by_cases q7 : α 8 = 2
      · simp (disch := omega) only [lit_0, lit_1, lit_2, lit_3, lit_4, lit_5, lit_6, lit_7, lit_8, lit_9, lit_10, lit_11, lit_12, lit_13, lit_14, lit_15, lit_16, lit_20, lit_23, lit_24, lit_31, lit_32, lit_39, lit_43, lit_45, lit_47, lit_48, lit_56, lit_57, lit_59, lit_60, lit_62, lit_63, lit_89, lit_92, lit_96, lit_97, lit_99, lit_100, lit_102, lit_103, lit_104, lit_110, lit_111, lit_115, lit_117, lit_194, lit_200, lit_644, lit_736, lit_999, lit_1000, lit_9999, lit_10000, lit_1000000000, ↓wp_mlet, ↓wp_mbp, ↓wp_ite, ↓wp_mix, ↓wp_mdiv, ↓wp_mnz, ↓wp_some, ↓wp_mbnd, ↓mlet_eq, ↓mbp_eq, ↓mbnd_eq, ↓mix_ite, ↓mdiv_ite, ↓mnz_ite, nI_add, nI_mul, nI_nat, nI_ltE, nI_leE, nI_eqE, nI_eqN, nI_Neq, nI_Nlt, nI_Nle, nI_ltN, nI_leN, ↓reduceIte, ↓Nat.reduceEqDiff, and_f, nt_e, nt_t, nl_t, nl_f, ne_t, ne_f, and_self, or_self, or_true, true_or, or_false, false_or, if_true, if_false, and_true, true_and, and_false, false_and, not_true, not_false_iff, e1, e2, n89, n82, e, x8, y3, q7, Nat.reduceAdd]
      · simp (disch := omega) only [lit_0, lit_1, lit_2, lit_3, lit_4, lit_5, lit_6, lit_7, lit_8, lit_9, lit_10, lit_11, lit_12, lit_13, lit_14, lit_15, lit_16, lit_20, lit_23, lit_24, lit_31, lit_32, lit_39, lit_43, lit_45, lit_47, lit_48, lit_56, lit_57, lit_59, lit_60, lit_62, lit_63, lit_89, lit_92, lit_96, lit_97, lit_99, lit_100, lit_102, lit_103, lit_104, lit_110, lit_111, lit_115, lit_117, lit_194, lit_200, lit_644, lit_736, lit_999, lit_1000, lit_9999, lit_10000, lit_1000000000, ↓wp_mlet, ↓wp_mbp, ↓wp_ite, ↓wp_mix, ↓wp_mdiv, ↓wp_mnz, ↓wp_some, ↓wp_mbnd, ↓mlet_eq, ↓mbp_eq, ↓mbnd_eq, ↓mix_ite, ↓mdiv_ite, ↓mnz_ite, nI_add, nI_mul, nI_nat, nI_ltE, nI_leE, nI_eqE, nI_eqN, nI_Neq, nI_Nlt, nI_Nle, nI_ltN, nI_leN, ↓reduceIte, ↓Nat.reduceEqDiff, and_f, nt_e, nt_t, nl_t, nl_f, ne_t, ne_f, and_self, or_self, or_true, true_or, or_false, false_or, if_true, if_false, and_true, true_and, and_false, false_and, not_true, not_false_iff, e1, e2, n89, n82, e, x8, y8]
theorem pair_openVault {n : Nat} {M : Mem} (hr : Rel n M) (hn : n < 512) : Pair n (fun x => if x = 3 then 1 else 0) M f_X11_openVault f_X12_openVault := by
  have h := pair_op (e := sOpen) (subj := nI 0) (tr := f_X9_tryOpen 0) (op := f_X12_tries) (g := fun r => if r = 1 then 1 else 0) (kc := fun r M => if r = (1 : Int32) then some (.inr (1 : Int32), M) else some (.inr (0 : Int32), M)) (km := fun r M => if r = (1 : Int32) then some ((1 : Int32), M) else some ((0 : Int32), M)) (cat := fun x => if x = 3 then 1 else 0) (place := 1) (c21 := 1) hr hn (by decide) (by decide) (fun M2 α H a b _ => c_open a b) (fun M2 α H a b _ => m_tries a b) (fun α H ans β a _ b => (inv_open a b).mono (by omega)) (fun α k d he => by
    unfold sOpen at he
    split at he
    · cases he; exact ⟨by decide, rfl⟩
    split at he
    · cases he; exact ⟨by decide, rfl⟩
    split at he
    · cases he; exact ⟨by decide, rfl⟩
    split at he
    · cases he; exact ⟨by decide, rfl⟩
    split at he
    · cases he; exact ⟨by decide, rfl⟩
    split at he
    · cases he
    · cases he) (fun r M => by show (if r = 1 then _ else _) = _; split <;> rfl) (fun r M => by show (if r = 1 then _ else _) = _; split <;> rfl)
  exact h
/-! SUMS, AND CONSISTENCE -/
def sumN (f : Nat → Nat) : Nat → Nat
  | 0 => 0
  | k + 1 => sumN f k + f k
theorem sumN_s {f : Nat → Nat} {k : Nat} : sumN f (k + 1) = sumN f k + f k := Eq.trans rfl rfl
theorem c_sumOf {M : Mem} {ia : Nat} {f : Nat → Nat} (h : ∀ k, k < 8 → M 0 ia k = nI (f k)) : f_X1_sumOf 0 ia M = some (nI (sumN f 8)) := by
  unfold f_X1_sumOf
  generalize hN : (1000 : Nat) = N
  have key := mloop (F := fun n x s kk => f_X1_sumOf_L10 0 ia M n s x kk) (c := 8) (fun x => nI (sumN f x)) (fun m x kk hx => by
    show f_X1_sumOf_L10 0 ia M (m + 1) (nI (sumN f x)) (nI x) kk = f_X1_sumOf_L10 0 ia M m (nI (sumN f (x + 1))) (nI (x + 1)) kk
    rw [f_X1_sumOf_L10.eq_2, sumN_s]
    simp (disch := omega) only [lit_0, lit_1, lit_2, lit_3, lit_4, lit_5, lit_6, lit_7, lit_8, lit_9, lit_10, lit_11, lit_12, lit_13, lit_14, lit_15, lit_16, lit_20, lit_23, lit_24, lit_31, lit_32, lit_39, lit_43, lit_45, lit_47, lit_48, lit_56, lit_57, lit_59, lit_60, lit_62, lit_63, lit_89, lit_92, lit_96, lit_97, lit_99, lit_100, lit_102, lit_103, lit_104, lit_110, lit_111, lit_115, lit_117, lit_194, lit_200, lit_644, lit_736, lit_999, lit_1000, lit_9999, lit_10000, lit_1000000000, ↓wp_mlet, ↓wp_mbp, ↓wp_ite, ↓wp_mix, ↓wp_mdiv, ↓wp_mnz, ↓wp_some, ↓wp_mbnd, ↓mlet_eq, ↓mbp_eq, ↓mbnd_eq, ↓mix_ite, ↓mdiv_ite, ↓mnz_ite, nI_add, nI_mul, nI_nat, nI_ltE, nI_leE, nI_eqE, nI_eqN, nI_Neq, nI_Nlt, nI_Nle, nI_ltN, nI_leN, ↓reduceIte, ↓Nat.reduceEqDiff, and_f, nt_e, nt_t, nl_t, nl_f, ne_t, ne_f, and_self, or_self, or_true, true_or, or_false, false_or, if_true, if_false, and_true, true_and, and_false, false_and, not_true, not_false_iff, h x hx]) (fun m kk => by
    show f_X1_sumOf_L10 0 ia M (m + 1) (nI (sumN f 8)) (nI 8) kk = _
    rw [f_X1_sumOf_L10.eq_2]
    simp (disch := omega) only [lit_0, lit_1, lit_2, lit_3, lit_4, lit_5, lit_6, lit_7, lit_8, lit_9, lit_10, lit_11, lit_12, lit_13, lit_14, lit_15, lit_16, lit_20, lit_23, lit_24, lit_31, lit_32, lit_39, lit_43, lit_45, lit_47, lit_48, lit_56, lit_57, lit_59, lit_60, lit_62, lit_63, lit_89, lit_92, lit_96, lit_97, lit_99, lit_100, lit_102, lit_103, lit_104, lit_110, lit_111, lit_115, lit_117, lit_194, lit_200, lit_644, lit_736, lit_999, lit_1000, lit_9999, lit_10000, lit_1000000000, ↓wp_mlet, ↓wp_mbp, ↓wp_ite, ↓wp_mix, ↓wp_mdiv, ↓wp_mnz, ↓wp_some, ↓wp_mbnd, ↓mlet_eq, ↓mbp_eq, ↓mbnd_eq, ↓mix_ite, ↓mdiv_ite, ↓mnz_ite, nI_add, nI_mul, nI_nat, nI_ltE, nI_leE, nI_eqE, nI_eqN, nI_Neq, nI_Nlt, nI_Nle, nI_ltN, nI_leN, ↓reduceIte, ↓Nat.reduceEqDiff, and_f, nt_e, nt_t, nl_t, nl_f, ne_t, ne_f, and_self, or_self, or_true, true_or, or_false, false_or, if_true, if_false, and_true, true_and, and_false, false_and, not_true, not_false_iff]) 8 N 0 (fun x7 => some x7) (by omega) (by omega)
  exact key
theorem sum_13 {H : Nat} {α : Sp} (hi : Inv H α) : sumN (fun k => α (39 + k)) 8 = α 13 := by
  obtain ⟨⟨b0, b1, b2, b3, b4, b5, b6, b7, b8, b9, b10, b11, b14⟩, i1, i2, bs, bk, bn, bz, bt, bg, bl⟩ := hi
  rw [bt]
  simp only [sumN_s]
  show 0 + α 39 + α 40 + α 41 + α 42 + α 43 + α 44 + α 45 + α 46 = _
  omega
theorem c_visitsMatch {M : Mem} {α : Sp} {H : Nat} (hR : RC (M 0) α) (hi : Inv H α) (hH : H < 800000) : wp (f_X11_doVisitsMatch M) fun r M1 => r = nI 1 ∧ ∀ a, a ≠ 11 → M1 a = M a := by
  have b10 := hi.1.2.2.2.2.2.2.2.2.2.2.1
  have e := hR.2.2.1.2.2.1
  unfold f_X11_doVisitsMatch
  generalize hN : (1000 : Nat) = N
  by_cases q : α 10 = 0
  · simp (disch := omega) only [lit_0, lit_1, lit_2, lit_3, lit_4, lit_5, lit_6, lit_7, lit_8, lit_9, lit_10, lit_11, lit_12, lit_13, lit_14, lit_15, lit_16, lit_20, lit_23, lit_24, lit_31, lit_32, lit_39, lit_43, lit_45, lit_47, lit_48, lit_56, lit_57, lit_59, lit_60, lit_62, lit_63, lit_89, lit_92, lit_96, lit_97, lit_99, lit_100, lit_102, lit_103, lit_104, lit_110, lit_111, lit_115, lit_117, lit_194, lit_200, lit_644, lit_736, lit_999, lit_1000, lit_9999, lit_10000, lit_1000000000, ↓wp_mlet, ↓wp_mbp, ↓wp_ite, ↓wp_mix, ↓wp_mdiv, ↓wp_mnz, ↓wp_some, ↓wp_mbnd, ↓mlet_eq, ↓mbp_eq, ↓mbnd_eq, ↓mix_ite, ↓mdiv_ite, ↓mnz_ite, nI_add, nI_mul, nI_nat, nI_ltE, nI_leE, nI_eqE, nI_eqN, nI_Neq, nI_Nlt, nI_Nle, nI_ltN, nI_leN, ↓reduceIte, ↓Nat.reduceEqDiff, and_f, nt_e, nt_t, nl_t, nl_f, ne_t, ne_f, and_self, or_self, or_true, true_or, or_false, false_or, if_true, if_false, and_true, true_and, and_false, false_and, not_true, not_false_iff, e, q]
    exact fun _ _ => trivial
  · obtain ⟨M2, hf, key⟩ := mloopP (F := fun m x (M1 : Mem) kk => f_X11_doVisitsMatch_L17 m x M1 kk) (c := 8) (fun x M1 => ∀ a, a ≠ 11 → M1 a = M a) (fun m x M1 kk hx hf => by
      have hR1 : RC (M1 0) α := by rw [hf 0 (by decide)]; exact hR
      obtain ⟨r, M3, e1, rfl, f3⟩ := c_visitH hR1 hi hH hx (by omega)
      have hR3 : RC (M3 0) α := by rw [f3 0 (by decide)]; exact hR1
      have e2 := c_visitR hR3 hi hH hx
      refine ⟨M3, fun a h => by rw [f3 a h, hf a h], ?_⟩
      show f_X11_doVisitsMatch_L17 (m + 1) (nI x) M1 kk = _
      rw [f_X11_doVisitsMatch_L17.eq_2]
      simp (disch := omega) only [lit_0, lit_1, lit_2, lit_3, lit_4, lit_5, lit_6, lit_7, lit_8, lit_9, lit_10, lit_11, lit_12, lit_13, lit_14, lit_15, lit_16, lit_20, lit_23, lit_24, lit_31, lit_32, lit_39, lit_43, lit_45, lit_47, lit_48, lit_56, lit_57, lit_59, lit_60, lit_62, lit_63, lit_89, lit_92, lit_96, lit_97, lit_99, lit_100, lit_102, lit_103, lit_104, lit_110, lit_111, lit_115, lit_117, lit_194, lit_200, lit_644, lit_736, lit_999, lit_1000, lit_9999, lit_10000, lit_1000000000, ↓wp_mlet, ↓wp_mbp, ↓wp_ite, ↓wp_mix, ↓wp_mdiv, ↓wp_mnz, ↓wp_some, ↓wp_mbnd, ↓mlet_eq, ↓mbp_eq, ↓mbnd_eq, ↓mix_ite, ↓mdiv_ite, ↓mnz_ite, nI_add, nI_mul, nI_nat, nI_ltE, nI_leE, nI_eqE, nI_eqN, nI_Neq, nI_Nlt, nI_Nle, nI_ltN, nI_leN, ↓reduceIte, ↓Nat.reduceEqDiff, and_f, nt_e, nt_t, nl_t, nl_f, ne_t, ne_f, and_self, or_self, or_true, true_or, or_false, false_or, if_true, if_false, and_true, true_and, and_false, false_and, not_true, not_false_iff, e1, e2]) (fun m M1 kk _ => by
      show f_X11_doVisitsMatch_L17 (m + 1) (nI 8) M1 kk = _
      rw [f_X11_doVisitsMatch_L17.eq_2]
      simp (disch := omega) only [lit_0, lit_1, lit_2, lit_3, lit_4, lit_5, lit_6, lit_7, lit_8, lit_9, lit_10, lit_11, lit_12, lit_13, lit_14, lit_15, lit_16, lit_20, lit_23, lit_24, lit_31, lit_32, lit_39, lit_43, lit_45, lit_47, lit_48, lit_56, lit_57, lit_59, lit_60, lit_62, lit_63, lit_89, lit_92, lit_96, lit_97, lit_99, lit_100, lit_102, lit_103, lit_104, lit_110, lit_111, lit_115, lit_117, lit_194, lit_200, lit_644, lit_736, lit_999, lit_1000, lit_9999, lit_10000, lit_1000000000, ↓wp_mlet, ↓wp_mbp, ↓wp_ite, ↓wp_mix, ↓wp_mdiv, ↓wp_mnz, ↓wp_some, ↓wp_mbnd, ↓mlet_eq, ↓mbp_eq, ↓mbnd_eq, ↓mix_ite, ↓mdiv_ite, ↓mnz_ite, nI_add, nI_mul, nI_nat, nI_ltE, nI_leE, nI_eqE, nI_eqN, nI_Neq, nI_Nlt, nI_Nle, nI_ltN, nI_leN, ↓reduceIte, ↓Nat.reduceEqDiff, and_f, nt_e, nt_t, nl_t, nl_f, ne_t, ne_f, and_self, or_self, or_true, true_or, or_false, false_or, if_true, if_false, and_true, true_and, and_false, false_and, not_true, not_false_iff]) 8 N 0 M (fun M10 => some (nI 1, M10)) (by omega) (by omega) (fun _ _ => rfl)
    simp (disch := omega) only [lit_0, lit_1, lit_2, lit_3, lit_4, lit_5, lit_6, lit_7, lit_8, lit_9, lit_10, lit_11, lit_12, lit_13, lit_14, lit_15, lit_16, lit_20, lit_23, lit_24, lit_31, lit_32, lit_39, lit_43, lit_45, lit_47, lit_48, lit_56, lit_57, lit_59, lit_60, lit_62, lit_63, lit_89, lit_92, lit_96, lit_97, lit_99, lit_100, lit_102, lit_103, lit_104, lit_110, lit_111, lit_115, lit_117, lit_194, lit_200, lit_644, lit_736, lit_999, lit_1000, lit_9999, lit_10000, lit_1000000000, ↓wp_mlet, ↓wp_mbp, ↓wp_ite, ↓wp_mix, ↓wp_mdiv, ↓wp_mnz, ↓wp_some, ↓wp_mbnd, ↓mlet_eq, ↓mbp_eq, ↓mbnd_eq, ↓mix_ite, ↓mdiv_ite, ↓mnz_ite, nI_add, nI_mul, nI_nat, nI_ltE, nI_leE, nI_eqE, nI_eqN, nI_Neq, nI_Nlt, nI_Nle, nI_ltN, nI_leN, ↓reduceIte, ↓Nat.reduceEqDiff, and_f, nt_e, nt_t, nl_t, nl_f, ne_t, ne_f, and_self, or_self, or_true, true_or, or_false, false_or, if_true, if_false, and_true, true_and, and_false, false_and, not_true, not_false_iff, e]
    rw [key, wp_some]
    exact ⟨rfl, hf⟩
theorem c_tellings {M : Mem} {α : Sp} {H : Nat} (hk : Rk (M 0) α) (hi : Inv H α) : wp (f_X11_doTellingsMatch M) fun r M1 => r = nI 1 ∧ ∀ a b, ¬ (a = 12 ∧ 21 ≤ b ∧ b ≤ 25) → M1 a b = M a b := by
  obtain ⟨n1, n2⟩ := c_enough hk hi
  unfold f_X11_doTellingsMatch f_X8_secretOf
  by_cases he : en α
  · have hl := Lk0 hk hi he
    have hK := Kc0 hk hi he
    have e2 : f_X6_toldAt 0 (nI 0) M = some (nI (thr (α 5) (sh α) (ky α) 0)) := by
      unfold f_X6_toldAt
      rw [c_thr hl (by decide)]
      rfl
    obtain ⟨⟨⟩, M1, e1, f1, f2⟩ := c_fit hl (by decide) (by decide)
    have e3 : thr (α 5) (sh α) (ky α) 0 = (cf (α 5) (sh α) (ky α) 0).val := by
      unfold thr ev
      rw [zz_0, Fin.mul_zero, Fin.mul_zero, Fin.add_zero, Fin.add_zero]
    have hK1 : Kc M1 0 (α 5) (α 9) (sh α) (ky α) := hK.frame (fun b => f2 0 b (by omega))
    obtain ⟨r4, M4, e4, rfl, f4⟩ := c_mostC hK1 (by decide)
    have hK4 : Kc M4 0 (α 5) (α 9) (sh α) (ky α) := hK1.frame (fun b => f4 0 b (by omega))
    obtain ⟨r5, M5, e5, rfl, f5⟩ := c_mostS hK4 (by decide)
    rw [mostA_S hi he] at e5
    have e6 : nI (mx (fC (α 5) (α 9) (sh α) (ky α)) (2 ^ (α 9))) = nI (mostA α) := rfl
    rw [e6] at e4
    generalize mostA α = w at e4 e5
    rw [n1 he]
    simp (disch := omega) only [lit_0, lit_1, lit_2, lit_3, lit_4, lit_5, lit_6, lit_7, lit_8, lit_9, lit_10, lit_11, lit_12, lit_13, lit_14, lit_15, lit_16, lit_20, lit_23, lit_24, lit_31, lit_32, lit_39, lit_43, lit_45, lit_47, lit_48, lit_56, lit_57, lit_59, lit_60, lit_62, lit_63, lit_89, lit_92, lit_96, lit_97, lit_99, lit_100, lit_102, lit_103, lit_104, lit_110, lit_111, lit_115, lit_117, lit_194, lit_200, lit_644, lit_736, lit_999, lit_1000, lit_9999, lit_10000, lit_1000000000, ↓wp_mlet, ↓wp_mbp, ↓wp_ite, ↓wp_mix, ↓wp_mdiv, ↓wp_mnz, ↓wp_some, ↓wp_mbnd, ↓mlet_eq, ↓mbp_eq, ↓mbnd_eq, ↓mix_ite, ↓mdiv_ite, ↓mnz_ite, nI_add, nI_mul, nI_nat, nI_ltE, nI_leE, nI_eqE, nI_eqN, nI_Neq, nI_Nlt, nI_Nle, nI_ltN, nI_leN, ↓reduceIte, ↓Nat.reduceEqDiff, and_f, nt_e, nt_t, nl_t, nl_f, ne_t, ne_f, and_self, or_self, or_true, true_or, or_false, false_or, if_true, if_false, and_true, true_and, and_false, false_and, not_true, not_false_iff, e2, e1, f1 0 (by decide), e3, e4, e5]
    intro a b hab
    rw [f5 a b (by omega), f4 a b (by omega), f2 a b (by omega)]
  · rw [n2 he]
    simp (disch := omega) only [lit_0, lit_1, lit_2, lit_3, lit_4, lit_5, lit_6, lit_7, lit_8, lit_9, lit_10, lit_11, lit_12, lit_13, lit_14, lit_15, lit_16, lit_20, lit_23, lit_24, lit_31, lit_32, lit_39, lit_43, lit_45, lit_47, lit_48, lit_56, lit_57, lit_59, lit_60, lit_62, lit_63, lit_89, lit_92, lit_96, lit_97, lit_99, lit_100, lit_102, lit_103, lit_104, lit_110, lit_111, lit_115, lit_117, lit_194, lit_200, lit_644, lit_736, lit_999, lit_1000, lit_9999, lit_10000, lit_1000000000, ↓wp_mlet, ↓wp_mbp, ↓wp_ite, ↓wp_mix, ↓wp_mdiv, ↓wp_mnz, ↓wp_some, ↓wp_mbnd, ↓mlet_eq, ↓mbp_eq, ↓mbnd_eq, ↓mix_ite, ↓mdiv_ite, ↓mnz_ite, nI_add, nI_mul, nI_nat, nI_ltE, nI_leE, nI_eqE, nI_eqN, nI_Neq, nI_Nlt, nI_Nle, nI_ltN, nI_leN, ↓reduceIte, ↓Nat.reduceEqDiff, and_f, nt_e, nt_t, nl_t, nl_f, ne_t, ne_f, and_self, or_self, or_true, true_or, or_false, false_or, if_true, if_false, and_true, true_and, and_false, false_and, not_true, not_false_iff]
    exact fun _ _ _ => trivial
theorem pair_isConsistent {n : Nat} {M : Mem} (hr : Rel n M) (hn : n < 512) : PairS n M f_X11_isConsistent f_X12_isConsistent := by
  have hr0 := hr
  obtain ⟨α, αh, αs, K, nx, fed, b, H, hR, hS, hH, hs, hx, hi, hih, his, hbb⟩ := hr
  have e1 := c_sumOf (M := M) (ia := 8) (f := fun k => α (39 + k)) hR.2.2.1.2.2.2.2.1
  rw [sum_13 hi] at e1
  have e2 := hR.2.2.1.2.1
  obtain ⟨r3, M3, e3, rfl, f3⟩ := c_visitsMatch hR hi (by omega)
  have hR3 : RC (M3 0) α := by rw [f3 0 (by decide)]; exact hR
  obtain ⟨r4, M4, e4, rfl, f4⟩ := c_tellings hR3.1 hi
  unfold PairS f_X11_isConsistent f_X12_isConsistent
  simp (disch := omega) only [lit_0, lit_1, lit_2, lit_3, lit_4, lit_5, lit_6, lit_7, lit_8, lit_9, lit_10, lit_11, lit_12, lit_13, lit_14, lit_15, lit_16, lit_20, lit_23, lit_24, lit_31, lit_32, lit_39, lit_43, lit_45, lit_47, lit_48, lit_56, lit_57, lit_59, lit_60, lit_62, lit_63, lit_89, lit_92, lit_96, lit_97, lit_99, lit_100, lit_102, lit_103, lit_104, lit_110, lit_111, lit_115, lit_117, lit_194, lit_200, lit_644, lit_736, lit_999, lit_1000, lit_9999, lit_10000, lit_1000000000, ↓wp_mlet, ↓wp_mbp, ↓wp_ite, ↓wp_mix, ↓wp_mdiv, ↓wp_mnz, ↓wp_some, ↓wp_mbnd, ↓mlet_eq, ↓mbp_eq, ↓mbnd_eq, ↓mix_ite, ↓mdiv_ite, ↓mnz_ite, nI_add, nI_mul, nI_nat, nI_ltE, nI_leE, nI_eqE, nI_eqN, nI_Neq, nI_Nlt, nI_Nle, nI_ltN, nI_leN, ↓reduceIte, ↓Nat.reduceEqDiff, and_f, nt_e, nt_t, nl_t, nl_f, ne_t, ne_f, and_self, or_self, or_true, true_or, or_false, false_or, if_true, if_false, and_true, true_and, and_false, false_and, not_true, not_false_iff, e1, e2, e3, e4]
  refine Rel_w hr0 (fun i hi => ?_) (fun a b hab => ?_)
  · rw [mup_at, if_neg (by omega), f4 12 47 (by decide), f3 12 (by decide)]
  · rw [pm_ne (by omega), f4 a b (by omega), f3 a (by omega)]
/-! NUMBERS THAT AREN'T NaN -/
def okD (d : Jvm.FP.Core.Datum) : Prop := (∃ c q, d = .fin false c q ∧ c < 16777216 ∧ q ≤ 104) ∨ d = .inf false
theorem okD_enc {d : Jvm.FP.Core.Datum} (h : okD d) : Jvm.FP.Core.encode Jvm.FP.Core.b32 d ≤ 2139095040 := by
  rcases h with ⟨c, q, rfl, h1, h2⟩ | rfl
  · show (if c < 8388608 then (0 * 256 + 0) * 8388608 + c else (0 * 256 + ((q - (-149)).toNat + 1)) * 8388608 + (c - 8388608)) ≤ _
    split <;> omega
  · decide
theorem okD_settle {c : Nat} {q : Int} (h : c ≤ 16777216) : okD (Jvm.FP.Core.settle Jvm.FP.Core.b32 false c q) := by
  have hb : ∀ c q, c < 16777216 → okD (Jvm.FP.Core.bound Jvm.FP.Core.b32 false c q) := by
    intro c q h
    show okD (if q ≤ 104 then .fin false c q else .inf false)
    split
    · exact Or.inl ⟨c, q, rfl, h, by assumption⟩
    · exact Or.inr rfl
  show okD (if c < 16777216 then Jvm.FP.Core.bound Jvm.FP.Core.b32 false c q else Jvm.FP.Core.bound Jvm.FP.Core.b32 false 8388608 (q + 1))
  split
  · exact hb c q (by assumption)
  · exact hb _ _ (by decide)
theorem okD_round {c d : Nat} {e : Int} : okD (Jvm.FP.Core.roundRatio Jvm.FP.Core.b32 false c d e) := by
  have h0 : ∀ c q, okD (Jvm.FP.Core.settle Jvm.FP.Core.b32 false c q) := by
    intro c q
    show okD (if c < 16777216 then Jvm.FP.Core.bound Jvm.FP.Core.b32 false c q else Jvm.FP.Core.bound Jvm.FP.Core.b32 false 8388608 (q + 1))
    split
    · have := okD_settle (c := c) (q := q) (by omega)
      show okD (Jvm.FP.Core.bound Jvm.FP.Core.b32 false c q)
      show okD (if q ≤ 104 then .fin false c q else .inf false)
      split
      · exact Or.inl ⟨c, q, rfl, by assumption, by assumption⟩
      · exact Or.inr rfl
    · show okD (if q + 1 ≤ 104 then .fin false 8388608 (q + 1) else .inf false)
      split
      · exact Or.inl ⟨8388608, q + 1, rfl, by decide, by assumption⟩
      · exact Or.inr rfl
  unfold Jvm.FP.Core.roundRatio
  split
  · exact Or.inl ⟨0, _, rfl, by decide, by decide⟩
  · exact h0 _ _
theorem nn32 {n : Nat} (h : n ≤ 2139095040) : UInt32.ofNat n &&& 2147483647 ≤ 2139095040 := by
  rw [UInt32.le_iff_toNat_le, UInt32.toNat_and]
  refine Nat.le_trans Nat.and_le_left ?_
  show n % 4294967296 ≤ 2139095040
  omega
theorem i2f_fin {b : Nat} (hb : b < 16777216) : ∃ c q, Jvm.FP.Core.decode Jvm.FP.Core.b32 (Jvm.FP.Core.i2f (nI b)).toNat = .fin false c q ∧ (0 < b → c ≠ 0) := by
  have e0 : (Jvm.FP.Core.i2f (nI b)).toNat = Jvm.FP.Core.encode Jvm.FP.Core.b32 (Jvm.FP.Core.roundRatio Jvm.FP.Core.b32 false b 1 0) % 4294967296 := by
    show (UInt32.ofNat (Jvm.FP.Core.fromInt Jvm.FP.Core.b32 (nI b).toInt)).toNat = _
    rw [nI_toInt (by omega)]
    show Jvm.FP.Core.encode Jvm.FP.Core.b32 (Jvm.FP.Core.roundRatio Jvm.FP.Core.b32 (decide ((b : Int) < 0)) (b : Int).natAbs 1 0) % 4294967296 = _
    rw [decide_eq_false (by omega), Int.natAbs_natCast]
  rw [e0, Nat.mod_eq_of_lt (by have := okD_enc (okD_round (c := b) (d := 1) (e := 0)); omega)]
  by_cases h0 : b = 0
  · subst h0
    exact ⟨0, -149, by decide, fun h => by omega⟩
  obtain ⟨L, hL⟩ : ∃ L, b.log2 = L := ⟨_, rfl⟩
  have l1 : 2 ^ L ≤ b := by rw [← hL]; exact Nat.log2_self_le h0
  have l2 : b < 2 ^ (L + 1) := by rw [← hL]; exact Nat.lt_log2_self
  have l3 : L ≤ 23 := by
    by_cases q : L ≤ 23
    · exact q
    · have := Nat.pow_le_pow_right (show 0 < 2 by decide) (show 24 ≤ L by omega)
      omega
  have e1 : Jvm.FP.Core.leading b 1 = (L : Int) := by
    unfold Jvm.FP.Core.leading
    rw [hL]
    simp only [show Nat.log2 1 = 0 from by decide]
    rw [show ((L : Int) - ((0 : Nat) : Int)) = (L : Int) by omega, Int.toNat_natCast, show (-(L : Int)).toNat = 0 by omega]
    rw [if_pos (by omega)]
  have e2 : Jvm.FP.Core.quantum Jvm.FP.Core.b32 b 1 0 = (L : Int) - 23 := by
    show max (-149 : Int) (Jvm.FP.Core.leading b 1 + 0 - 23) = _
    rw [e1]
    omega
  obtain ⟨n, hn⟩ : ∃ n, b * 2 ^ (23 - L) = n := ⟨_, rfl⟩
  have n1 : 8388608 ≤ n := by
    have h := Nat.mul_le_mul_right (2 ^ (23 - L)) l1
    rw [← Nat.pow_add, show L + (23 - L) = 23 by omega] at h
    omega
  have n2 : n < 16777216 := by
    have h := Nat.mul_lt_mul_of_pos_right l2 (Nat.pow_pos (n := 23 - L) (show 0 < 2 by decide))
    rw [← Nat.pow_add, show L + 1 + (23 - L) = 24 by omega] at h
    omega
  have e3 : Jvm.FP.Core.roundRatio Jvm.FP.Core.b32 false b 1 0 = .fin false n ((L : Int) - 23) := by
    unfold Jvm.FP.Core.roundRatio
    rw [if_neg h0, e2]
    unfold Jvm.FP.Core.roundAt Jvm.FP.Core.unitsNum Jvm.FP.Core.unitsDen
    rw [show ((0 : Int) - ((L : Int) - 23)).toNat = 23 - L by omega, show ((L : Int) - 23 - 0).toNat = 0 by omega, hn]
    have e4 : Jvm.FP.Core.nearest n (1 * 2 ^ 0) = n := by
      unfold Jvm.FP.Core.nearest
      rw [show 1 * 2 ^ 0 = 1 from rfl, Nat.mod_one, if_pos (by decide), Nat.div_one]
    rw [e4]
    show (if n < 16777216 then (if (L : Int) - 23 ≤ 104 then Jvm.FP.Core.Datum.fin false n ((L : Int) - 23) else .inf false) else _) = _
    rw [if_pos n2, if_pos (by omega)]
  rw [e3]
  have e5 : Jvm.FP.Core.encode Jvm.FP.Core.b32 (.fin false n ((L : Int) - 23)) = (L + 127) * 8388608 + (n - 8388608) := by
    show (if n < 8388608 then _ else (0 * 256 + (((L : Int) - 23 - (-149)).toNat + 1)) * 8388608 + (n - 8388608)) = _
    rw [if_neg (by omega)]
    omega
  rw [e5]
  have f1 : Jvm.FP.Core.fieldE Jvm.FP.Core.b32 ((L + 127) * 8388608 + (n - 8388608)) = L + 127 := by
    show ((L + 127) * 8388608 + (n - 8388608)) / 8388608 % 256 = _
    omega
  have f2 : Jvm.FP.Core.fieldS Jvm.FP.Core.b32 ((L + 127) * 8388608 + (n - 8388608)) = false := by
    show (((L + 127) * 8388608 + (n - 8388608)) / 8388608 / 256 % 2 == 1) = false
    have : ((L + 127) * 8388608 + (n - 8388608)) / 8388608 / 256 % 2 = 0 := by omega
    rw [this]
    rfl
  unfold Jvm.FP.Core.decode
  rw [f1, f2]
  rw [if_neg (show ¬ L + 127 = Jvm.FP.Core.b32.exps - 1 by show ¬ L + 127 = 255; omega), if_neg (show ¬ L + 127 = 0 by omega)]
  exact ⟨_, _, rfl, fun _ => by show 8388608 + _ ≠ 0; omega⟩
theorem nn_fdiv {a b : Nat} (ha : a < 16777216) (hb : b < 16777216) (h0 : 0 < b) : Jvm.FP.fdiv (Jvm.FP.i2f (nI a)) (Jvm.FP.i2f (nI b)) &&& 2147483647 ≤ 2139095040 := by
  obtain ⟨c, q, e1, -⟩ := i2f_fin ha
  obtain ⟨d, r, e2, h2⟩ := i2f_fin hb
  show UInt32.ofNat (Jvm.FP.Core.encode Jvm.FP.Core.b32 (Jvm.FP.Core.quotient Jvm.FP.Core.b32 (Jvm.FP.Core.decode Jvm.FP.Core.b32 (Jvm.FP.Core.i2f (nI a)).toNat) (Jvm.FP.Core.decode Jvm.FP.Core.b32 (Jvm.FP.Core.i2f (nI b)).toNat))) &&& 2147483647 ≤ 2139095040
  rw [e1, e2]
  refine nn32 (okD_enc ?_)
  show okD (if d = 0 then _ else Jvm.FP.Core.roundRatio Jvm.FP.Core.b32 (false != false) c d (q - r))
  rw [if_neg (h2 h0)]
  exact okD_round
theorem nn_mean : ∀ s : Fin 161, Jvm.FP.ddiv (Jvm.FP.i2d (nI s.val)) (4620693217682128896 : UInt64) &&& 9223372036854775807 ≤ 9218868437227405312 := by decide +kernel
/-! the mean noise -/
theorem sumN_le {f : Nat → Nat} {B : Nat} : ∀ n, (∀ k, k < n → f k ≤ B) → sumN f n ≤ B * n
  | 0, _ => Nat.le_refl _
  | n + 1, h => by
    have h1 := sumN_le n (fun k hk => h k (by omega))
    have h2 := h n (by omega)
    rw [sumN_s, Nat.mul_succ]
    omega
def PairU (n : Nat) (M : Mem) (fc : Mem → Option UInt64) (fm : Mem → Option (UInt64 × Mem)) : Prop := ∃ v, fc M = some v ∧ wp (fm M) (fun r M2 => Rel (n + 1) M2 ∧ v = r)
def AgF (cat : Nat → Nat) (o : Nat ⊕ UInt32) (r : UInt32) (th : Int32) : Prop := match o with
  | .inl x => th = nI (cat x) ∧ 1 ≤ cat x ∧ cat x ≤ 3
  | .inr v => th = nI 0 ∧ v = r
def PairF (n : Nat) (cat : Nat → Nat) (M : Mem) (fc : Mem → Option (Nat ⊕ UInt32)) (fm : Mem → Option (UInt32 × Mem)) : Prop := ∃ v, fc M = some v ∧ wp (fm M) (fun r M2 => Rel (n + 1) M2 ∧ AgF cat v r (M2 12 47 0))
theorem pair_meanNoise {n : Nat} {M : Mem} (hr : Rel n M) : PairU n M f_X11_meanNoise f_X12_meanNoise := by
  have hr' := Rel_thr hr
  obtain ⟨α, αh, αs, K, nx, fed, b, H, hR, hS, hH, hs, hx, hi, hih, his, hbb⟩ := hr
  have e1 := c_sumOf (M := M) (ia := 7) (f := fun k => α (31 + k)) hR.2.2.1.2.2.2.1
  have hz := hi.2.2.2.2.2.2.1
  have l := sumN_le (f := fun k => α (31 + k)) (B := 20) 8 (fun k hk => (hz k hk).1)
  have hS' := ms_t (x := nI 0) hS
  have nn : Jvm.FP.ddiv (Jvm.FP.i2d (nI (sumN (fun k => α (31 + k)) 8))) (4620693217682128896 : UInt64) &&& 9223372036854775807 ≤ 9218868437227405312 := nn_mean ⟨sumN (fun k => α (31 + k)) 8, by omega⟩
  have key : ∀ kk, f_X12_meanNoise_L9 (mup M 12 47 0 (nI 0)) 1000 (nI 0) (nI 0) kk = kk (nI (sumN (fun k => α (31 + k)) 8)) := by
    generalize hN : (1000 : Nat) = N
    intro kk
    exact mloop (F := fun n x s kk => f_X12_meanNoise_L9 (mup M 12 47 0 (nI 0)) n s x kk) (c := 8) (fun x => nI (sumN (fun k => α (31 + k)) x)) (fun m x kk hx => by
      show f_X12_meanNoise_L9 (mup M 12 47 0 (nI 0)) (m + 1) (nI (sumN (fun k => α (31 + k)) x)) (nI x) kk = f_X12_meanNoise_L9 (mup M 12 47 0 (nI 0)) m (nI (sumN (fun k => α (31 + k)) (x + 1))) (nI (x + 1)) kk
      have e2 : (mup M 12 47 0 (nI 0)) 12 48 (31 + x) = nI (α (31 + x)) := ms_n hS' (by omega)
      rw [f_X12_meanNoise_L9.eq_2, sumN_s]
      simp (disch := omega) only [lit_0, lit_1, lit_2, lit_3, lit_4, lit_5, lit_6, lit_7, lit_8, lit_9, lit_10, lit_11, lit_12, lit_13, lit_14, lit_15, lit_16, lit_20, lit_23, lit_24, lit_31, lit_32, lit_39, lit_43, lit_45, lit_47, lit_48, lit_56, lit_57, lit_59, lit_60, lit_62, lit_63, lit_89, lit_92, lit_96, lit_97, lit_99, lit_100, lit_102, lit_103, lit_104, lit_110, lit_111, lit_115, lit_117, lit_194, lit_200, lit_644, lit_736, lit_999, lit_1000, lit_9999, lit_10000, lit_1000000000, ↓wp_mlet, ↓wp_mbp, ↓wp_ite, ↓wp_mix, ↓wp_mdiv, ↓wp_mnz, ↓wp_some, ↓wp_mbnd, ↓mlet_eq, ↓mbp_eq, ↓mbnd_eq, ↓mix_ite, ↓mdiv_ite, ↓mnz_ite, nI_add, nI_mul, nI_nat, nI_ltE, nI_leE, nI_eqE, nI_eqN, nI_Neq, nI_Nlt, nI_Nle, nI_ltN, nI_leN, ↓reduceIte, ↓Nat.reduceEqDiff, and_f, nt_e, nt_t, nl_t, nl_f, ne_t, ne_f, and_self, or_self, or_true, true_or, or_false, false_or, if_true, if_false, and_true, true_and, and_false, false_and, not_true, not_false_iff, e2]) (fun m kk => by
      show f_X12_meanNoise_L9 (mup M 12 47 0 (nI 0)) (m + 1) (nI (sumN (fun k => α (31 + k)) 8)) (nI 8) kk = _
      rw [f_X12_meanNoise_L9.eq_2]
      simp (disch := omega) only [lit_0, lit_1, lit_2, lit_3, lit_4, lit_5, lit_6, lit_7, lit_8, lit_9, lit_10, lit_11, lit_12, lit_13, lit_14, lit_15, lit_16, lit_20, lit_23, lit_24, lit_31, lit_32, lit_39, lit_43, lit_45, lit_47, lit_48, lit_56, lit_57, lit_59, lit_60, lit_62, lit_63, lit_89, lit_92, lit_96, lit_97, lit_99, lit_100, lit_102, lit_103, lit_104, lit_110, lit_111, lit_115, lit_117, lit_194, lit_200, lit_644, lit_736, lit_999, lit_1000, lit_9999, lit_10000, lit_1000000000, ↓wp_mlet, ↓wp_mbp, ↓wp_ite, ↓wp_mix, ↓wp_mdiv, ↓wp_mnz, ↓wp_some, ↓wp_mbnd, ↓mlet_eq, ↓mbp_eq, ↓mbnd_eq, ↓mix_ite, ↓mdiv_ite, ↓mnz_ite, nI_add, nI_mul, nI_nat, nI_ltE, nI_leE, nI_eqE, nI_eqN, nI_Neq, nI_Nlt, nI_Nle, nI_ltN, nI_leN, ↓reduceIte, ↓Nat.reduceEqDiff, and_f, nt_e, nt_t, nl_t, nl_f, ne_t, ne_f, and_self, or_self, or_true, true_or, or_false, false_or, if_true, if_false, and_true, true_and, and_false, false_and, not_true, not_false_iff]) 8 N 0 kk (by omega) (by omega)
  unfold PairU f_X11_meanNoise f_X12_meanNoise
  simp only [lit_0, lit_1, lit_2, lit_3, lit_4, lit_5, lit_6, lit_7, lit_8, lit_9, lit_10, lit_11, lit_12, lit_13, lit_14, lit_15, lit_16, lit_20, lit_23, lit_24, lit_31, lit_32, lit_39, lit_43, lit_45, lit_47, lit_48, lit_56, lit_57, lit_59, lit_60, lit_62, lit_63, lit_89, lit_92, lit_96, lit_97, lit_99, lit_100, lit_102, lit_103, lit_104, lit_110, lit_111, lit_115, lit_117, lit_194, lit_200, lit_644, lit_736, lit_999, lit_1000, lit_9999, lit_10000, lit_1000000000, mlet_eq]
  rw [e1, key, mbp_eq]
  generalize sumN (fun k => α (31 + k)) 8 = s at nn
  unfold mn64
  refine ⟨_, if_pos nn, ?_⟩
  rw [if_pos nn, wp_some]
  exact ⟨hr' _, rfl⟩
theorem pair_alarmShare {n : Nat} {M : Mem} (hr : Rel n M) (hn : n < 512) (a1 : Int32) : PairF n (fun x => if x = 2 then 1 else if x = 6 then 2 else 0) M (f_X11_alarmShare a1) (f_X12_alarmShare a1) := by
  have hr' := Rel_thr hr
  obtain ⟨α, αh, αs, K, nx, fed, b, H, hR, hS, hH, hs, hx, hi, hih, his, hbb⟩ := hr
  obtain ⟨⟨b0, b1, b2, b3, b4, b5, b6, b7, b8, b9, b10, b11, b14⟩, i1, i2, bs, bk, bn, bz, bt, bg, bl⟩ := hi
  have hS' := fun x => ms_t (x := x) hS
  have e13 := hR.2.2.1.2.1
  have bz' := fun k hk => (bz k hk).2
  have bz0 := bz' 0 (by decide)
  have bz1 := bz' 1 (by decide)
  have bz2 := bz' 2 (by decide)
  have bz3 := bz' 3 (by decide)
  have bz4 := bz' 4 (by decide)
  have bz5 := bz' 5 (by decide)
  have bz6 := bz' 6 (by decide)
  have bz7 := bz' 7 (by decide)
  simp only [Nat.add_zero, Nat.reduceAdd] at bz0 bz1 bz2 bz3 bz4 bz5 bz6 bz7
  unfold PairF f_X11_alarmShare f_X12_alarmShare f_X11_requireZone
  have t0 : ∀ (M : Mem) x, (mup M 12 47 0 x) 12 47 0 = x := fun M x => thr0
  have m13 := fun x => ms_n (hS' x) (show ¬ (13 = 48 ∨ 13 = 51 ∨ 13 = 54) by decide)
  rcases idx_c a1 8 (by decide) with ⟨z, hz, rfl, e1⟩ | ⟨e1, h⟩
  · have ez := hR.2.2.1.2.2.2.2.1 z hz
    have mz := fun x => ms_n (hS' x) (show ¬ (39 + z = 48 ∨ 39 + z = 51 ∨ 39 + z = 54) by omega)
    have lz := bz' z hz
    by_cases q : α 13 = 0
    · refine ⟨.inl 6, ?_, ?_⟩
      · simp (disch := omega) only [lit_0, lit_1, lit_2, lit_3, lit_4, lit_5, lit_6, lit_7, lit_8, lit_9, lit_10, lit_11, lit_12, lit_13, lit_14, lit_15, lit_16, lit_20, lit_23, lit_24, lit_31, lit_32, lit_39, lit_43, lit_45, lit_47, lit_48, lit_56, lit_57, lit_59, lit_60, lit_62, lit_63, lit_89, lit_92, lit_96, lit_97, lit_99, lit_100, lit_102, lit_103, lit_104, lit_110, lit_111, lit_115, lit_117, lit_194, lit_200, lit_644, lit_736, lit_999, lit_1000, lit_9999, lit_10000, lit_1000000000, ↓wp_mlet, ↓wp_mbp, ↓wp_ite, ↓wp_mix, ↓wp_mdiv, ↓wp_mnz, ↓wp_some, ↓wp_mbnd, ↓mlet_eq, ↓mbp_eq, ↓mbnd_eq, ↓mix_ite, ↓mdiv_ite, ↓mnz_ite, nI_add, nI_mul, nI_nat, nI_ltE, nI_leE, nI_eqE, nI_eqN, nI_Neq, nI_Nlt, nI_Nle, nI_ltN, nI_leN, ↓reduceIte, ↓Nat.reduceEqDiff, and_f, nt_e, nt_t, nl_t, nl_f, ne_t, ne_f, and_self, or_self, or_true, true_or, or_false, false_or, if_true, if_false, and_true, true_and, and_false, false_and, not_true, not_false_iff, toNat_0, Bool.false_and, Bool.true_and, Bool.and_false, Bool.and_true, Bool.false_eq_true, reduceCtorEq, Bool.true_eq_false, Bool.not_true, Bool.not_false, c_hasZone, e1, mbpx_r, e13, q]
      · simp (disch := omega) only [lit_0, lit_1, lit_2, lit_3, lit_4, lit_5, lit_6, lit_7, lit_8, lit_9, lit_10, lit_11, lit_12, lit_13, lit_14, lit_15, lit_16, lit_20, lit_23, lit_24, lit_31, lit_32, lit_39, lit_43, lit_45, lit_47, lit_48, lit_56, lit_57, lit_59, lit_60, lit_62, lit_63, lit_89, lit_92, lit_96, lit_97, lit_99, lit_100, lit_102, lit_103, lit_104, lit_110, lit_111, lit_115, lit_117, lit_194, lit_200, lit_644, lit_736, lit_999, lit_1000, lit_9999, lit_10000, lit_1000000000, ↓wp_mlet, ↓wp_mbp, ↓wp_ite, ↓wp_mix, ↓wp_mdiv, ↓wp_mnz, ↓wp_some, ↓wp_mbnd, ↓mlet_eq, ↓mbp_eq, ↓mbnd_eq, ↓mix_ite, ↓mdiv_ite, ↓mnz_ite, nI_add, nI_mul, nI_nat, nI_ltE, nI_leE, nI_eqE, nI_eqN, nI_Neq, nI_Nlt, nI_Nle, nI_ltN, nI_leN, ↓reduceIte, ↓Nat.reduceEqDiff, and_f, nt_e, nt_t, nl_t, nl_f, ne_t, ne_f, and_self, or_self, or_true, true_or, or_false, false_or, if_true, if_false, and_true, true_and, and_false, false_and, not_true, not_false_iff, toNat_0, Bool.false_and, Bool.true_and, Bool.and_false, Bool.and_true, Bool.false_eq_true, reduceCtorEq, Bool.true_eq_false, Bool.not_true, Bool.not_false, m_isZone, e1, ms_n hS, q, t0]
        exact ⟨hr' _, rfl, by decide, by decide⟩
    · have nn := nn_fdiv (a := α (39 + z)) (b := α 13) (by omega) (by omega) (by omega)
      refine ⟨.inr (Jvm.FP.fdiv (Jvm.FP.i2f (nI (α (39 + z)))) (Jvm.FP.i2f (nI (α 13)))), ?_, ?_⟩
      · simp (disch := omega) only [lit_0, lit_1, lit_2, lit_3, lit_4, lit_5, lit_6, lit_7, lit_8, lit_9, lit_10, lit_11, lit_12, lit_13, lit_14, lit_15, lit_16, lit_20, lit_23, lit_24, lit_31, lit_32, lit_39, lit_43, lit_45, lit_47, lit_48, lit_56, lit_57, lit_59, lit_60, lit_62, lit_63, lit_89, lit_92, lit_96, lit_97, lit_99, lit_100, lit_102, lit_103, lit_104, lit_110, lit_111, lit_115, lit_117, lit_194, lit_200, lit_644, lit_736, lit_999, lit_1000, lit_9999, lit_10000, lit_1000000000, ↓wp_mlet, ↓wp_mbp, ↓wp_ite, ↓wp_mix, ↓wp_mdiv, ↓wp_mnz, ↓wp_some, ↓wp_mbnd, ↓mlet_eq, ↓mbp_eq, ↓mbnd_eq, ↓mix_ite, ↓mdiv_ite, ↓mnz_ite, nI_add, nI_mul, nI_nat, nI_ltE, nI_leE, nI_eqE, nI_eqN, nI_Neq, nI_Nlt, nI_Nle, nI_ltN, nI_leN, ↓reduceIte, ↓Nat.reduceEqDiff, and_f, nt_e, nt_t, nl_t, nl_f, ne_t, ne_f, and_self, or_self, or_true, true_or, or_false, false_or, if_true, if_false, and_true, true_and, and_false, false_and, not_true, not_false_iff, toNat_0, Bool.false_and, Bool.true_and, Bool.and_false, Bool.and_true, Bool.false_eq_true, reduceCtorEq, Bool.true_eq_false, Bool.not_true, Bool.not_false, c_hasZone, e1, mbpx_r, e13, ez]
        unfold mn32
        rw [if_pos nn]
      · simp (disch := omega) only [lit_0, lit_1, lit_2, lit_3, lit_4, lit_5, lit_6, lit_7, lit_8, lit_9, lit_10, lit_11, lit_12, lit_13, lit_14, lit_15, lit_16, lit_20, lit_23, lit_24, lit_31, lit_32, lit_39, lit_43, lit_45, lit_47, lit_48, lit_56, lit_57, lit_59, lit_60, lit_62, lit_63, lit_89, lit_92, lit_96, lit_97, lit_99, lit_100, lit_102, lit_103, lit_104, lit_110, lit_111, lit_115, lit_117, lit_194, lit_200, lit_644, lit_736, lit_999, lit_1000, lit_9999, lit_10000, lit_1000000000, ↓wp_mlet, ↓wp_mbp, ↓wp_ite, ↓wp_mix, ↓wp_mdiv, ↓wp_mnz, ↓wp_some, ↓wp_mbnd, ↓mlet_eq, ↓mbp_eq, ↓mbnd_eq, ↓mix_ite, ↓mdiv_ite, ↓mnz_ite, nI_add, nI_mul, nI_nat, nI_ltE, nI_leE, nI_eqE, nI_eqN, nI_Neq, nI_Nlt, nI_Nle, nI_ltN, nI_leN, ↓reduceIte, ↓Nat.reduceEqDiff, and_f, nt_e, nt_t, nl_t, nl_f, ne_t, ne_f, and_self, or_self, or_true, true_or, or_false, false_or, if_true, if_false, and_true, true_and, and_false, false_and, not_true, not_false_iff, toNat_0, Bool.false_and, Bool.true_and, Bool.and_false, Bool.and_true, Bool.false_eq_true, reduceCtorEq, Bool.true_eq_false, Bool.not_true, Bool.not_false, m_isZone, e1, ms_n hS, t0, mz, m13]
        unfold mn32
        rw [if_pos nn, wp_some]
        exact ⟨hr' _, thr0, rfl⟩
  · refine ⟨.inl 2, ?_, ?_⟩
    · simp (disch := omega) only [lit_0, lit_1, lit_2, lit_3, lit_4, lit_5, lit_6, lit_7, lit_8, lit_9, lit_10, lit_11, lit_12, lit_13, lit_14, lit_15, lit_16, lit_20, lit_23, lit_24, lit_31, lit_32, lit_39, lit_43, lit_45, lit_47, lit_48, lit_56, lit_57, lit_59, lit_60, lit_62, lit_63, lit_89, lit_92, lit_96, lit_97, lit_99, lit_100, lit_102, lit_103, lit_104, lit_110, lit_111, lit_115, lit_117, lit_194, lit_200, lit_644, lit_736, lit_999, lit_1000, lit_9999, lit_10000, lit_1000000000, ↓wp_mlet, ↓wp_mbp, ↓wp_ite, ↓wp_mix, ↓wp_mdiv, ↓wp_mnz, ↓wp_some, ↓wp_mbnd, ↓mlet_eq, ↓mbp_eq, ↓mbnd_eq, ↓mix_ite, ↓mdiv_ite, ↓mnz_ite, nI_add, nI_mul, nI_nat, nI_ltE, nI_leE, nI_eqE, nI_eqN, nI_Neq, nI_Nlt, nI_Nle, nI_ltN, nI_leN, ↓reduceIte, ↓Nat.reduceEqDiff, and_f, nt_e, nt_t, nl_t, nl_f, ne_t, ne_f, and_self, or_self, or_true, true_or, or_false, false_or, if_true, if_false, and_true, true_and, and_false, false_and, not_true, not_false_iff, toNat_0, Bool.false_and, Bool.true_and, Bool.and_false, Bool.and_true, Bool.false_eq_true, reduceCtorEq, Bool.true_eq_false, Bool.not_true, Bool.not_false, c_hasZone, e1, mbpx_l]
    · simp (disch := omega) only [lit_0, lit_1, lit_2, lit_3, lit_4, lit_5, lit_6, lit_7, lit_8, lit_9, lit_10, lit_11, lit_12, lit_13, lit_14, lit_15, lit_16, lit_20, lit_23, lit_24, lit_31, lit_32, lit_39, lit_43, lit_45, lit_47, lit_48, lit_56, lit_57, lit_59, lit_60, lit_62, lit_63, lit_89, lit_92, lit_96, lit_97, lit_99, lit_100, lit_102, lit_103, lit_104, lit_110, lit_111, lit_115, lit_117, lit_194, lit_200, lit_644, lit_736, lit_999, lit_1000, lit_9999, lit_10000, lit_1000000000, ↓wp_mlet, ↓wp_mbp, ↓wp_ite, ↓wp_mix, ↓wp_mdiv, ↓wp_mnz, ↓wp_some, ↓wp_mbnd, ↓mlet_eq, ↓mbp_eq, ↓mbnd_eq, ↓mix_ite, ↓mdiv_ite, ↓mnz_ite, nI_add, nI_mul, nI_nat, nI_ltE, nI_leE, nI_eqE, nI_eqN, nI_Neq, nI_Nlt, nI_Nle, nI_ltN, nI_leN, ↓reduceIte, ↓Nat.reduceEqDiff, and_f, nt_e, nt_t, nl_t, nl_f, ne_t, ne_f, and_self, or_self, or_true, true_or, or_false, false_or, if_true, if_false, and_true, true_and, and_false, false_and, not_true, not_false_iff, toNat_0, Bool.false_and, Bool.true_and, Bool.and_false, Bool.and_true, Bool.false_eq_true, reduceCtorEq, Bool.true_eq_false, Bool.not_true, Bool.not_false, m_isZone, e1, t0]
      exact ⟨hr' _, rfl, by decide, by decide⟩
/-! THE OUTPUT. p: how many signs, and which -/
abbrev Out : Type := Nat × (Nat → Nat)
def pt (c : Nat) (p : Out) : Out := (p.1 + 1, fun i => if i = p.1 then c else p.2 i)
theorem pt_1 {c : Nat} {p : Out} : (pt c p).1 = p.1 + 1 := rfl
theorem pt_2 {c i : Nat} {p : Out} : (pt c p).2 i = if i = p.1 then c else p.2 i := Eq.trans rfl rfl
def Oc (M0 M : Mem) (p : Out) : Prop := (M 12 45 1 = nI p.1 ∧ ∀ i, i < p.1 → M 12 46 i = nI (p.2 i) ∧ p.2 i < 65536) ∧ ∀ a b, ¬ (a = 12 ∧ (b = 45 ∨ b = 46)) → M a b = M0 a b
def Om (M0 M : Mem) (p : Out) : Prop := (M 12 47 13 = nI p.1 ∧ ∀ i, i < p.1 → M 12 55 i = nI (p.2 i) ∧ p.2 i < 65536) ∧ (∀ k, k ≠ 13 → M 12 47 k = M0 12 47 k) ∧ ∀ a b, ¬ (a = 12 ∧ (b = 47 ∨ b = 55)) → M a b = M0 a b
theorem c_put {M0 M : Mem} {p : Out} {c : Nat} (h : Oc M0 M p) (hp : p.1 < 200) (hc : c < 65536) : wp (f_X7_put (nI c) M) fun _ M1 => Oc M0 M1 (pt c p) := by
  obtain ⟨⟨h1, h2⟩, h3⟩ := h
  have e1 := vnar_char hc
  unfold f_X7_put
  simp (disch := omega) only [lit_0, lit_1, lit_2, lit_3, lit_4, lit_5, lit_6, lit_7, lit_8, lit_9, lit_10, lit_11, lit_12, lit_13, lit_14, lit_15, lit_16, lit_20, lit_23, lit_24, lit_31, lit_32, lit_39, lit_43, lit_45, lit_47, lit_48, lit_56, lit_57, lit_59, lit_60, lit_62, lit_63, lit_89, lit_92, lit_96, lit_97, lit_99, lit_100, lit_102, lit_103, lit_104, lit_110, lit_111, lit_115, lit_117, lit_194, lit_200, lit_644, lit_736, lit_999, lit_1000, lit_9999, lit_10000, lit_1000000000, ↓wp_mlet, ↓wp_mbp, ↓wp_ite, ↓wp_mix, ↓wp_mdiv, ↓wp_mnz, ↓wp_some, ↓wp_mbnd, ↓mlet_eq, ↓mbp_eq, ↓mbnd_eq, ↓mix_ite, ↓mdiv_ite, ↓mnz_ite, nI_add, nI_mul, nI_nat, nI_ltE, nI_leE, nI_eqE, nI_eqN, nI_Neq, nI_Nlt, nI_Nle, nI_ltN, nI_leN, ↓reduceIte, ↓Nat.reduceEqDiff, and_f, nt_e, nt_t, nl_t, nl_f, ne_t, ne_f, and_self, or_self, or_true, true_or, or_false, false_or, if_true, if_false, and_true, true_and, and_false, false_and, not_true, not_false_iff, mup_at, up_at, fil_at, ↓reduceIte, ↓Nat.reduceEqDiff, and_f, nt_e, nt_t, nl_t, nl_f, ne_t, ne_f, and_self, or_self, or_true, true_or, or_false, false_or, if_true, if_false, and_true, true_and, and_false, false_and, not_true, not_false_iff, h1, e1]
  refine ⟨⟨?_, fun i hi => ?_⟩, fun a b hab => ?_⟩
  · rw [mup_at, if_pos (by decide), pt_1]
  · rw [pt_1] at hi
    rw [pm_ne (by decide), mup_at, pt_2]
    by_cases q : i = p.1
    · rw [if_pos (by omega), if_pos q]
      exact ⟨rfl, hc⟩
    · rw [if_neg (by omega), if_neg q]
      exact h2 i (by omega)
  · rw [pm_ne (by omega), pm_ne (by omega)]
    exact h3 a b hab
theorem pz_m_put {M0 M : Mem} {p : Out} {c : Nat} (h : Om M0 M p) (hp : p.1 < 140) (hc : c < 65536) : wp (f_X12_writes (nI c) M) fun _ M1 => Om M0 M1 (pt c p) := by
  obtain ⟨⟨h1, h2⟩, h3, h4⟩ := h
  unfold f_X12_writes
  simp (disch := omega) only [lit_0, lit_1, lit_2, lit_3, lit_4, lit_5, lit_6, lit_7, lit_8, lit_9, lit_10, lit_11, lit_12, lit_13, lit_14, lit_15, lit_16, lit_20, lit_23, lit_24, lit_31, lit_32, lit_39, lit_43, lit_45, lit_47, lit_48, lit_56, lit_57, lit_59, lit_60, lit_62, lit_63, lit_89, lit_92, lit_96, lit_97, lit_99, lit_100, lit_102, lit_103, lit_104, lit_110, lit_111, lit_115, lit_117, lit_194, lit_200, lit_644, lit_736, lit_999, lit_1000, lit_9999, lit_10000, lit_1000000000, ↓wp_mlet, ↓wp_mbp, ↓wp_ite, ↓wp_mix, ↓wp_mdiv, ↓wp_mnz, ↓wp_some, ↓wp_mbnd, ↓mlet_eq, ↓mbp_eq, ↓mbnd_eq, ↓mix_ite, ↓mdiv_ite, ↓mnz_ite, nI_add, nI_mul, nI_nat, nI_ltE, nI_leE, nI_eqE, nI_eqN, nI_Neq, nI_Nlt, nI_Nle, nI_ltN, nI_leN, ↓reduceIte, ↓Nat.reduceEqDiff, and_f, nt_e, nt_t, nl_t, nl_f, ne_t, ne_f, and_self, or_self, or_true, true_or, or_false, false_or, if_true, if_false, and_true, true_and, and_false, false_and, not_true, not_false_iff, mup_at, up_at, fil_at, ↓reduceIte, ↓Nat.reduceEqDiff, and_f, nt_e, nt_t, nl_t, nl_f, ne_t, ne_f, and_self, or_self, or_true, true_or, or_false, false_or, if_true, if_false, and_true, true_and, and_false, false_and, not_true, not_false_iff, h1]
  refine ⟨⟨?_, fun i hi => ?_⟩, fun k hk => ?_, fun a b hab => ?_⟩
  · rw [mup_at, if_pos (by decide), pt_1]
  · rw [pt_1] at hi
    rw [pm_ne (by decide), mup_at, pt_2]
    by_cases q : i = p.1
    · rw [if_pos (by omega), if_pos q]
      exact ⟨rfl, hc⟩
    · rw [if_neg (by omega), if_neg q]
      exact h2 i (by omega)
  · rw [mup_at, if_neg (by omega), pm_ne (by decide)]
    exact h3 k hk
  · rw [pm_ne (by omega), pm_ne (by omega)]
    exact h4 a b hab
def pd4 (n : Nat) (p : Out) : Out := if 9999 < n then pt (48 + n / 10000 % 10) p else p
def pd3 (n : Nat) (p : Out) : Out := if 999 < n then pt (48 + n / 1000 % 10) (pd4 n p) else pd4 n p
def pd2 (n : Nat) (p : Out) : Out := if 99 < n then pt (48 + n / 100 % 10) (pd3 n p) else pd3 n p
def pd1 (n : Nat) (p : Out) : Out := if 9 < n then pt (48 + n / 10 % 10) (pd2 n p) else pd2 n p
def pnum (n : Nat) (p : Out) : Out := pt (48 + n % 10) (pd1 n p)
theorem pt_le {a b c : Nat} {q : Out} : (if a < b then pt c q else q).1 ≤ q.1 + 1 := by
  split
  · exact Nat.le_refl _
  · exact Nat.le_succ _
theorem pd4_1 {n : Nat} {p : Out} : (pd4 n p).1 ≤ p.1 + 1 := pt_le
theorem pd3_1 {n : Nat} {p : Out} : (pd3 n p).1 ≤ p.1 + 2 := Nat.le_trans pt_le (Nat.succ_le_succ pd4_1)
theorem pd2_1 {n : Nat} {p : Out} : (pd2 n p).1 ≤ p.1 + 3 := Nat.le_trans pt_le (Nat.succ_le_succ pd3_1)
theorem pd1_1 {n : Nat} {p : Out} : (pd1 n p).1 ≤ p.1 + 4 := Nat.le_trans pt_le (Nat.succ_le_succ pd2_1)
theorem pnum_1 {n : Nat} {p : Out} : (pnum n p).1 ≤ p.1 + 5 := by
  have := pd1_1 (n := n) (p := p)
  show (pd1 n p).1 + 1 ≤ _
  omega
theorem pnum_9 {n : Nat} {p : Out} (h : n ≤ 9) : (pnum n p).1 = p.1 + 1 := by
  unfold pnum pd1 pd2 pd3 pd4
  rw [if_neg (by omega), if_neg (by omega), if_neg (by omega), if_neg (by omega), pt_1]
theorem dig_char : ∀ d : Fin 10, ((nI 48 + nI d.val).toUInt32 % 65536).toInt32 = nI (48 + d.val) := by decide +kernel
/-- the class's loop, one unit -/
theorem c_unit {M0 M : Mem} {p : Out} {n u m : Nat} (h : Oc M0 M p) (hp : p.1 < 200) (hn : n < 100000) (hu : 0 < u) (hu2 : u ≤ 1000000000) (kk : Mem → Option (Unit × Mem)) : ∃ M1, Oc M0 M1 (if u ≤ n ∨ u = 1 then pt (48 + n / u % 10) p else p) ∧ f_X7_putNumber_L5 (nI n) (m + 1) (nI (decide (10 * u ≤ n)).toNat) (nI u) M kk = f_X7_putNumber_L5 (nI n) m (nI (decide (u ≤ n ∨ u = 1)).toNat) (nI (u / 10)) M1 kk := by
  have e1 := nI_div (a := n) (b := u) (by omega) (by omega)
  have l1 : n / u ≤ n := Nat.div_le_self n u
  have e2 := nI_rem (a := n / u) (b := 10) (by omega) (by decide)
  have e3 := nI_div (a := u) (b := 10) (by omega) (by decide)
  have l2 := Nat.mod_lt (n / u) (show 0 < 10 by decide)
  have e4 := dig_char ⟨n / u % 10, l2⟩
  simp only [] at e4
  rw [f_X7_putNumber_L5.eq_2]
  by_cases q : u ≤ n ∨ u = 1
  · obtain ⟨⟨⟩, M1, e5, h5⟩ := c_put (c := 48 + n / u % 10) h hp (by omega)
    refine ⟨M1, by rw [if_pos q]; exact h5, ?_⟩
    rw [decide_eq_true q, Bool.toNat_true]
    by_cases r : 10 * u ≤ n
    · rw [decide_eq_true r, Bool.toNat_true]
      simp (disch := omega) only [lit_0, lit_1, lit_2, lit_3, lit_4, lit_5, lit_6, lit_7, lit_8, lit_9, lit_10, lit_11, lit_12, lit_13, lit_14, lit_15, lit_16, lit_20, lit_23, lit_24, lit_31, lit_32, lit_39, lit_43, lit_45, lit_47, lit_48, lit_56, lit_57, lit_59, lit_60, lit_62, lit_63, lit_89, lit_92, lit_96, lit_97, lit_99, lit_100, lit_102, lit_103, lit_104, lit_110, lit_111, lit_115, lit_117, lit_194, lit_200, lit_644, lit_736, lit_999, lit_1000, lit_9999, lit_10000, lit_1000000000, ↓wp_mlet, ↓wp_mbp, ↓wp_ite, ↓wp_mix, ↓wp_mdiv, ↓wp_mnz, ↓wp_some, ↓wp_mbnd, ↓mlet_eq, ↓mbp_eq, ↓mbnd_eq, ↓mix_ite, ↓mdiv_ite, ↓mnz_ite, nI_add, nI_mul, nI_nat, nI_ltE, nI_leE, nI_eqE, nI_eqN, nI_Neq, nI_Nlt, nI_Nle, nI_ltN, nI_leN, ↓reduceIte, ↓Nat.reduceEqDiff, and_f, nt_e, nt_t, nl_t, nl_f, ne_t, ne_f, and_self, or_self, or_true, true_or, or_false, false_or, if_true, if_false, and_true, true_and, and_false, false_and, not_true, not_false_iff, e1, e2, e3]
      rw [← nI_add, e4]
      simp (disch := omega) only [lit_0, lit_1, lit_2, lit_3, lit_4, lit_5, lit_6, lit_7, lit_8, lit_9, lit_10, lit_11, lit_12, lit_13, lit_14, lit_15, lit_16, lit_20, lit_23, lit_24, lit_31, lit_32, lit_39, lit_43, lit_45, lit_47, lit_48, lit_56, lit_57, lit_59, lit_60, lit_62, lit_63, lit_89, lit_92, lit_96, lit_97, lit_99, lit_100, lit_102, lit_103, lit_104, lit_110, lit_111, lit_115, lit_117, lit_194, lit_200, lit_644, lit_736, lit_999, lit_1000, lit_9999, lit_10000, lit_1000000000, ↓wp_mlet, ↓wp_mbp, ↓wp_ite, ↓wp_mix, ↓wp_mdiv, ↓wp_mnz, ↓wp_some, ↓wp_mbnd, ↓mlet_eq, ↓mbp_eq, ↓mbnd_eq, ↓mix_ite, ↓mdiv_ite, ↓mnz_ite, nI_add, nI_mul, nI_nat, nI_ltE, nI_leE, nI_eqE, nI_eqN, nI_Neq, nI_Nlt, nI_Nle, nI_ltN, nI_leN, ↓reduceIte, ↓Nat.reduceEqDiff, and_f, nt_e, nt_t, nl_t, nl_f, ne_t, ne_f, and_self, or_self, or_true, true_or, or_false, false_or, if_true, if_false, and_true, true_and, and_false, false_and, not_true, not_false_iff, e5]
    · rw [decide_eq_false r, Bool.toNat_false]
      have l3 : n / u < 10 := by
        rw [Nat.div_lt_iff_lt_mul hu]; omega
      by_cases r2 : u ≤ n
      · have l4 : 0 < n / u := Nat.div_pos r2 hu
        simp (disch := omega) only [lit_0, lit_1, lit_2, lit_3, lit_4, lit_5, lit_6, lit_7, lit_8, lit_9, lit_10, lit_11, lit_12, lit_13, lit_14, lit_15, lit_16, lit_20, lit_23, lit_24, lit_31, lit_32, lit_39, lit_43, lit_45, lit_47, lit_48, lit_56, lit_57, lit_59, lit_60, lit_62, lit_63, lit_89, lit_92, lit_96, lit_97, lit_99, lit_100, lit_102, lit_103, lit_104, lit_110, lit_111, lit_115, lit_117, lit_194, lit_200, lit_644, lit_736, lit_999, lit_1000, lit_9999, lit_10000, lit_1000000000, ↓wp_mlet, ↓wp_mbp, ↓wp_ite, ↓wp_mix, ↓wp_mdiv, ↓wp_mnz, ↓wp_some, ↓wp_mbnd, ↓mlet_eq, ↓mbp_eq, ↓mbnd_eq, ↓mix_ite, ↓mdiv_ite, ↓mnz_ite, nI_add, nI_mul, nI_nat, nI_ltE, nI_leE, nI_eqE, nI_eqN, nI_Neq, nI_Nlt, nI_Nle, nI_ltN, nI_leN, ↓reduceIte, ↓Nat.reduceEqDiff, and_f, nt_e, nt_t, nl_t, nl_f, ne_t, ne_f, and_self, or_self, or_true, true_or, or_false, false_or, if_true, if_false, and_true, true_and, and_false, false_and, not_true, not_false_iff, e1, e2, e3]
        rw [← nI_add, e4]
        simp (disch := omega) only [lit_0, lit_1, lit_2, lit_3, lit_4, lit_5, lit_6, lit_7, lit_8, lit_9, lit_10, lit_11, lit_12, lit_13, lit_14, lit_15, lit_16, lit_20, lit_23, lit_24, lit_31, lit_32, lit_39, lit_43, lit_45, lit_47, lit_48, lit_56, lit_57, lit_59, lit_60, lit_62, lit_63, lit_89, lit_92, lit_96, lit_97, lit_99, lit_100, lit_102, lit_103, lit_104, lit_110, lit_111, lit_115, lit_117, lit_194, lit_200, lit_644, lit_736, lit_999, lit_1000, lit_9999, lit_10000, lit_1000000000, ↓wp_mlet, ↓wp_mbp, ↓wp_ite, ↓wp_mix, ↓wp_mdiv, ↓wp_mnz, ↓wp_some, ↓wp_mbnd, ↓mlet_eq, ↓mbp_eq, ↓mbnd_eq, ↓mix_ite, ↓mdiv_ite, ↓mnz_ite, nI_add, nI_mul, nI_nat, nI_ltE, nI_leE, nI_eqE, nI_eqN, nI_Neq, nI_Nlt, nI_Nle, nI_ltN, nI_leN, ↓reduceIte, ↓Nat.reduceEqDiff, and_f, nt_e, nt_t, nl_t, nl_f, ne_t, ne_f, and_self, or_self, or_true, true_or, or_false, false_or, if_true, if_false, and_true, true_and, and_false, false_and, not_true, not_false_iff, e5]
      · have r3 : u = 1 := by omega
        have l4 : n / u = 0 := Nat.div_eq_of_lt (by omega)
        simp (disch := omega) only [lit_0, lit_1, lit_2, lit_3, lit_4, lit_5, lit_6, lit_7, lit_8, lit_9, lit_10, lit_11, lit_12, lit_13, lit_14, lit_15, lit_16, lit_20, lit_23, lit_24, lit_31, lit_32, lit_39, lit_43, lit_45, lit_47, lit_48, lit_56, lit_57, lit_59, lit_60, lit_62, lit_63, lit_89, lit_92, lit_96, lit_97, lit_99, lit_100, lit_102, lit_103, lit_104, lit_110, lit_111, lit_115, lit_117, lit_194, lit_200, lit_644, lit_736, lit_999, lit_1000, lit_9999, lit_10000, lit_1000000000, ↓wp_mlet, ↓wp_mbp, ↓wp_ite, ↓wp_mix, ↓wp_mdiv, ↓wp_mnz, ↓wp_some, ↓wp_mbnd, ↓mlet_eq, ↓mbp_eq, ↓mbnd_eq, ↓mix_ite, ↓mdiv_ite, ↓mnz_ite, nI_add, nI_mul, nI_nat, nI_ltE, nI_leE, nI_eqE, nI_eqN, nI_Neq, nI_Nlt, nI_Nle, nI_ltN, nI_leN, ↓reduceIte, ↓Nat.reduceEqDiff, and_f, nt_e, nt_t, nl_t, nl_f, ne_t, ne_f, and_self, or_self, or_true, true_or, or_false, false_or, if_true, if_false, and_true, true_and, and_false, false_and, not_true, not_false_iff, e1, e2, e3]
        rw [← nI_add, e4]
        simp (disch := omega) only [lit_0, lit_1, lit_2, lit_3, lit_4, lit_5, lit_6, lit_7, lit_8, lit_9, lit_10, lit_11, lit_12, lit_13, lit_14, lit_15, lit_16, lit_20, lit_23, lit_24, lit_31, lit_32, lit_39, lit_43, lit_45, lit_47, lit_48, lit_56, lit_57, lit_59, lit_60, lit_62, lit_63, lit_89, lit_92, lit_96, lit_97, lit_99, lit_100, lit_102, lit_103, lit_104, lit_110, lit_111, lit_115, lit_117, lit_194, lit_200, lit_644, lit_736, lit_999, lit_1000, lit_9999, lit_10000, lit_1000000000, ↓wp_mlet, ↓wp_mbp, ↓wp_ite, ↓wp_mix, ↓wp_mdiv, ↓wp_mnz, ↓wp_some, ↓wp_mbnd, ↓mlet_eq, ↓mbp_eq, ↓mbnd_eq, ↓mix_ite, ↓mdiv_ite, ↓mnz_ite, nI_add, nI_mul, nI_nat, nI_ltE, nI_leE, nI_eqE, nI_eqN, nI_Neq, nI_Nlt, nI_Nle, nI_ltN, nI_leN, ↓reduceIte, ↓Nat.reduceEqDiff, and_f, nt_e, nt_t, nl_t, nl_f, ne_t, ne_f, and_self, or_self, or_true, true_or, or_false, false_or, if_true, if_false, and_true, true_and, and_false, false_and, not_true, not_false_iff, e5]
  · refine ⟨M, by rw [if_neg q]; exact h, ?_⟩
    have l4 : n / u = 0 := Nat.div_eq_of_lt (by omega)
    rw [decide_eq_false q, Bool.toNat_false, decide_eq_false (by omega), Bool.toNat_false]
    simp (disch := omega) only [lit_0, lit_1, lit_2, lit_3, lit_4, lit_5, lit_6, lit_7, lit_8, lit_9, lit_10, lit_11, lit_12, lit_13, lit_14, lit_15, lit_16, lit_20, lit_23, lit_24, lit_31, lit_32, lit_39, lit_43, lit_45, lit_47, lit_48, lit_56, lit_57, lit_59, lit_60, lit_62, lit_63, lit_89, lit_92, lit_96, lit_97, lit_99, lit_100, lit_102, lit_103, lit_104, lit_110, lit_111, lit_115, lit_117, lit_194, lit_200, lit_644, lit_736, lit_999, lit_1000, lit_9999, lit_10000, lit_1000000000, ↓wp_mlet, ↓wp_mbp, ↓wp_ite, ↓wp_mix, ↓wp_mdiv, ↓wp_mnz, ↓wp_some, ↓wp_mbnd, ↓mlet_eq, ↓mbp_eq, ↓mbnd_eq, ↓mix_ite, ↓mdiv_ite, ↓mnz_ite, nI_add, nI_mul, nI_nat, nI_ltE, nI_leE, nI_eqE, nI_eqN, nI_Neq, nI_Nlt, nI_Nle, nI_ltN, nI_leN, ↓reduceIte, ↓Nat.reduceEqDiff, and_f, nt_e, nt_t, nl_t, nl_f, ne_t, ne_f, and_self, or_self, or_true, true_or, or_false, false_or, if_true, if_false, and_true, true_and, and_false, false_and, not_true, not_false_iff, e1, e2, e3]
theorem pt_ite {a b : Prop} [Decidable a] [Decidable b] (h : a ↔ b) {x y : Out} : (if a then x else y) = if b then x else y := by
  by_cases q : a
  · rw [if_pos q, if_pos (h.mp q)]
  · rw [if_neg q, if_neg (fun r => q (h.mpr r))]
theorem dec_cg {a b : Prop} [Decidable a] [Decidable b] (h : a ↔ b) : decide a = decide b := by
  by_cases q : a
  · rw [decide_eq_true q, decide_eq_true (h.mp q)]
  · rw [decide_eq_false q, decide_eq_false (fun r => q (h.mpr r))]
/-- a unit above the number -/
theorem c_unit0 {M0 M : Mem} {p : Out} {n u v m : Nat} (h : Oc M0 M p) (hp : p.1 < 200) (hn : n < 100000) (hu : 100000 ≤ u) (hu2 : u ≤ 1000000000) (hv : u / 10 = v) (kk : Mem → Option (Unit × Mem)) : f_X7_putNumber_L5 (nI n) (m + 1) (nI 0) (nI u) M kk = f_X7_putNumber_L5 (nI n) m (nI 0) (nI v) M kk := by
  have e1 := nI_div (a := n) (b := u) (by omega) (by omega)
  have l4 : n / u = 0 := Nat.div_eq_of_lt (by omega)
  have e2 := nI_rem (a := n / u) (b := 10) (by omega) (by decide)
  have e3 := nI_div (a := u) (b := 10) (by omega) (by decide)
  rw [f_X7_putNumber_L5.eq_2, ← hv]
  simp (disch := omega) only [lit_0, lit_1, lit_2, lit_3, lit_4, lit_5, lit_6, lit_7, lit_8, lit_9, lit_10, lit_11, lit_12, lit_13, lit_14, lit_15, lit_16, lit_20, lit_23, lit_24, lit_31, lit_32, lit_39, lit_43, lit_45, lit_47, lit_48, lit_56, lit_57, lit_59, lit_60, lit_62, lit_63, lit_89, lit_92, lit_96, lit_97, lit_99, lit_100, lit_102, lit_103, lit_104, lit_110, lit_111, lit_115, lit_117, lit_194, lit_200, lit_644, lit_736, lit_999, lit_1000, lit_9999, lit_10000, lit_1000000000, ↓wp_mlet, ↓wp_mbp, ↓wp_ite, ↓wp_mix, ↓wp_mdiv, ↓wp_mnz, ↓wp_some, ↓wp_mbnd, ↓mlet_eq, ↓mbp_eq, ↓mbnd_eq, ↓mix_ite, ↓mdiv_ite, ↓mnz_ite, nI_add, nI_mul, nI_nat, nI_ltE, nI_leE, nI_eqE, nI_eqN, nI_Neq, nI_Nlt, nI_Nle, nI_ltN, nI_leN, ↓reduceIte, ↓Nat.reduceEqDiff, and_f, nt_e, nt_t, nl_t, nl_f, ne_t, ne_f, and_self, or_self, or_true, true_or, or_false, false_or, if_true, if_false, and_true, true_and, and_false, false_and, not_true, not_false_iff, e1, e2, e3]
theorem c_num {M0 M : Mem} {p : Out} {n : Nat} (h : Oc M0 M p) (hp : p.1 < 190) (hn : n < 100000) : wp (f_X7_putNumber (nI n) M) fun _ M1 => Oc M0 M1 (pnum n p) := by
  unfold f_X7_putNumber
  have e0 : ∀ m kk, f_X7_putNumber_L5 (nI n) (m + 5) (nI 0) (nI 1000000000) M kk = f_X7_putNumber_L5 (nI n) m (nI 0) (nI 10000) M kk := by
    intro m kk
    rw [c_unit0 (m := m + 4) h (by omega) hn (by decide) (by decide) (show 1000000000 / 10 = 100000000 from rfl), c_unit0 (m := m + 3) h (by omega) hn (by decide) (by decide) (show 100000000 / 10 = 10000000 from rfl), c_unit0 (m := m + 2) h (by omega) hn (by decide) (by decide) (show 10000000 / 10 = 1000000 from rfl), c_unit0 (m := m + 1) h (by omega) hn (by decide) (by decide) (show 1000000 / 10 = 100000 from rfl), c_unit0 (m := m) h (by omega) hn (by decide) (by decide) (show 100000 / 10 = 10000 from rfl)]
  generalize hN : (1000 : Nat) = N
  obtain ⟨m, hm⟩ : ∃ m, N = m + 1 + 1 + 1 + 1 + 1 + 1 + 5 := ⟨N - 11, by omega⟩
  have q4 : decide (10 * 10000 ≤ n) = false := decide_eq_false (by omega)
  obtain ⟨M4, h4, k4⟩ := c_unit (m := m + 1 + 1 + 1 + 1 + 1) h (by omega) hn (show 0 < 10000 by decide) (by decide) (fun M18 => some ((), M18))
  rw [pt_ite (show 10000 ≤ n ∨ 10000 = 1 ↔ 9999 < n by omega)] at h4
  have h4' : Oc M0 M4 (pd4 n p) := h4
  rw [q4, Bool.toNat_false, dec_cg (show 10000 ≤ n ∨ 10000 = 1 ↔ 10 * 1000 ≤ n by omega), show 10000 / 10 = 1000 from rfl] at k4
  obtain ⟨M3, h3, k3⟩ := c_unit (m := m + 1 + 1 + 1 + 1) h4' (by have := pd4_1 (n := n) (p := p); omega) hn (show 0 < 1000 by decide) (by decide) (fun M18 => some ((), M18))
  rw [pt_ite (show 1000 ≤ n ∨ 1000 = 1 ↔ 999 < n by omega)] at h3
  have h3' : Oc M0 M3 (pd3 n p) := h3
  rw [dec_cg (show 1000 ≤ n ∨ 1000 = 1 ↔ 10 * 100 ≤ n by omega), show 1000 / 10 = 100 from rfl] at k3
  obtain ⟨M2, h2, k2⟩ := c_unit (m := m + 1 + 1 + 1) h3' (by have := pd3_1 (n := n) (p := p); omega) hn (show 0 < 100 by decide) (by decide) (fun M18 => some ((), M18))
  rw [pt_ite (show 100 ≤ n ∨ 100 = 1 ↔ 99 < n by omega)] at h2
  have h2' : Oc M0 M2 (pd2 n p) := h2
  rw [dec_cg (show 100 ≤ n ∨ 100 = 1 ↔ 10 * 10 ≤ n by omega), show 100 / 10 = 10 from rfl] at k2
  obtain ⟨M1, h1, k1⟩ := c_unit (m := m + 1 + 1) h2' (by have := pd2_1 (n := n) (p := p); omega) hn (show 0 < 10 by decide) (by decide) (fun M18 => some ((), M18))
  rw [pt_ite (show 10 ≤ n ∨ 10 = 1 ↔ 9 < n by omega)] at h1
  have h1' : Oc M0 M1 (pd1 n p) := h1
  rw [dec_cg (show 10 ≤ n ∨ 10 = 1 ↔ 10 * 1 ≤ n by omega), show 10 / 10 = 1 from rfl] at k1
  obtain ⟨M0', h0, k0⟩ := c_unit (m := m + 1) h1' (by have := pd1_1 (n := n) (p := p); omega) hn (show 0 < 1 by decide) (by decide) (fun M18 => some ((), M18))
  rw [pt_ite (show 1 ≤ n ∨ 1 = 1 ↔ True by simp), if_pos trivial, Nat.div_one] at h0
  rw [show 1 / 10 = 0 from rfl] at k0
  have e1 : f_X7_putNumber_L5 (nI n) N 0 1000000000 M (fun M18 => some ((), M18)) = f_X7_putNumber_L5 (nI n) N (nI 0) (nI 1000000000) M (fun M18 => some ((), M18)) := rfl
  rw [e1, hm, e0, k4, k3, k2, k1, k0, f_X7_putNumber_L5.eq_2]
  simp (disch := omega) only [lit_0, lit_1, lit_2, lit_3, lit_4, lit_5, lit_6, lit_7, lit_8, lit_9, lit_10, lit_11, lit_12, lit_13, lit_14, lit_15, lit_16, lit_20, lit_23, lit_24, lit_31, lit_32, lit_39, lit_43, lit_45, lit_47, lit_48, lit_56, lit_57, lit_59, lit_60, lit_62, lit_63, lit_89, lit_92, lit_96, lit_97, lit_99, lit_100, lit_102, lit_103, lit_104, lit_110, lit_111, lit_115, lit_117, lit_194, lit_200, lit_644, lit_736, lit_999, lit_1000, lit_9999, lit_10000, lit_1000000000, ↓wp_mlet, ↓wp_mbp, ↓wp_ite, ↓wp_mix, ↓wp_mdiv, ↓wp_mnz, ↓wp_some, ↓wp_mbnd, ↓mlet_eq, ↓mbp_eq, ↓mbnd_eq, ↓mix_ite, ↓mdiv_ite, ↓mnz_ite, nI_add, nI_mul, nI_nat, nI_ltE, nI_leE, nI_eqE, nI_eqN, nI_Neq, nI_Nlt, nI_Nle, nI_ltN, nI_leN, ↓reduceIte, ↓Nat.reduceEqDiff, and_f, nt_e, nt_t, nl_t, nl_f, ne_t, ne_f, and_self, or_self, or_true, true_or, or_false, false_or, if_true, if_false, and_true, true_and, and_false, false_and, not_true, not_false_iff]
  exact h0
/-- the model's digits -/
theorem m_dig {M0 M : Mem} {p : Out} {n B D : Nat} (h : Om M0 M p) (hp : p.1 < 140) (hn : n < 100000) (hD : 0 < D ∧ D < 100000) (hB : B < 100000) : ∃ M1, Om M0 M1 (if B < n then pt (48 + n / D % 10) p else p) ∧ ∀ k : Mem → Option (Unit × Mem), (mlet k fun k => if nI n ≤ nI B then k M else mbnd (f_X12_writes (nI 48 + mrem (nI n / nI D) (nI 10)) M) fun _ M3 => k M3) = k M1 := by
  have e1 := nI_div (a := n) (b := D) (by omega) (by omega)
  have l1 : n / D ≤ n := Nat.div_le_self n D
  have e2 := nI_rem (a := n / D) (b := 10) (by omega) (by decide)
  have l2 := Nat.mod_lt (n / D) (show 0 < 10 by decide)
  by_cases q : B < n
  · obtain ⟨⟨⟩, M1, e5, h5⟩ := pz_m_put (c := 48 + n / D % 10) h hp (by omega)
    refine ⟨M1, by rw [if_pos q]; exact h5, fun k => ?_⟩
    rw [mlet_eq, if_neg (by rw [nI_leE (by omega) (by omega)]; omega), e1, e2, nI_add, e5, mbnd_eq]
  · refine ⟨M, by rw [if_neg q]; exact h, fun k => ?_⟩
    rw [mlet_eq, if_pos (by rw [nI_leE (by omega) (by omega)]; omega)]
theorem m_num {M0 M : Mem} {p : Out} {n : Nat} (h : Om M0 M p) (hp : p.1 < 135) (hn : n < 100000) : wp (f_X12_writesNumber (nI n) M) fun _ M1 => Om M0 M1 (pnum n p) := by
  have l4 := pd4_1 (n := n) (p := p)
  have l3 := pd3_1 (n := n) (p := p)
  have l2 := pd2_1 (n := n) (p := p)
  have l1 := pd1_1 (n := n) (p := p)
  unfold f_X12_writesNumber
  simp only [lit_0, lit_1, lit_2, lit_3, lit_4, lit_5, lit_6, lit_7, lit_8, lit_9, lit_10, lit_11, lit_12, lit_13, lit_14, lit_15, lit_16, lit_20, lit_23, lit_24, lit_31, lit_32, lit_39, lit_43, lit_45, lit_47, lit_48, lit_56, lit_57, lit_59, lit_60, lit_62, lit_63, lit_89, lit_92, lit_96, lit_97, lit_99, lit_100, lit_102, lit_103, lit_104, lit_110, lit_111, lit_115, lit_117, lit_194, lit_200, lit_644, lit_736, lit_999, lit_1000, lit_9999, lit_10000, lit_1000000000]
  obtain ⟨M4, h4, k4⟩ := m_dig (B := 9999) (D := 10000) h (by omega) hn (by decide) (by decide)
  have h4' : Om M0 M4 (pd4 n p) := h4
  obtain ⟨M3, h3, k3⟩ := m_dig (B := 999) (D := 1000) h4' (by omega) hn (by decide) (by decide)
  have h3' : Om M0 M3 (pd3 n p) := h3
  obtain ⟨M2, h2, k2⟩ := m_dig (B := 99) (D := 100) h3' (by omega) hn (by decide) (by decide)
  have h2' : Om M0 M2 (pd2 n p) := h2
  obtain ⟨M1, h1, k1⟩ := m_dig (B := 9) (D := 10) h2' (by omega) hn (by decide) (by decide)
  have h1' : Om M0 M1 (pd1 n p) := h1
  obtain ⟨⟨⟩, M5, e5, h5⟩ := pz_m_put (c := 48 + n % 10) h1' (by omega) (by omega)
  rw [k4, k3, k2, k1, nI_rem (by omega) (by decide), nI_add, e5, mbnd_eq, wp_some]
  exact h5
def gp (α : Sp) (z : Nat) (p : Out) : Nat → Out
  | 0 => p
  | k + 1 => if α (47 + 3 * k) = z then pt (if α (48 + 3 * k) = 1 then 62 else 60) (gp α z p k) else gp α z p k
theorem gp_s {α : Sp} {z k : Nat} {p : Out} : gp α z p (k + 1) = if α (47 + 3 * k) = z then pt (if α (48 + 3 * k) = 1 then 62 else 60) (gp α z p k) else gp α z p k := Eq.trans rfl rfl
theorem gp_1 {α : Sp} {z : Nat} {p : Out} : ∀ k, (gp α z p k).1 ≤ p.1 + k
  | 0 => Nat.le_refl _
  | k + 1 => by
    have := gp_1 (α := α) (z := z) (p := p) k
    rw [gp_s]
    split
    · rw [pt_1]; omega
    · omega
def itm (z : Nat) (p : Out) : Out := if 0 < z then pt 32 p else p
theorem itm_1 {z : Nat} {p : Out} : (itm z p).1 ≤ p.1 + 1 := pt_le
def zp (α : Sp) : Nat → Out
  | 0 => (0, fun _ => 0)
  | z + 1 => gp α z (pnum (α (31 + z)) (itm z (zp α z))) (α 10)
theorem zp_s {α : Sp} {z : Nat} : zp α (z + 1) = gp α z (pnum (α (31 + z)) (itm z (zp α z))) (α 10) := Eq.trans rfl rfl
theorem zp_1 {α : Sp} (h : α 10 ≤ 3) : ∀ z, (zp α z).1 ≤ 9 * z
  | 0 => Nat.le_refl _
  | z + 1 => by
    have h1 := zp_1 h z
    have h2 := gp_1 (α := α) (z := z) (p := pnum (α (31 + z)) (itm z (zp α z))) (α 10)
    have h3 := pnum_1 (n := α (31 + z)) (p := itm z (zp α z))
    have h4 := itm_1 (z := z) (p := zp α z)
    rw [zp_s]
    omega
def lp (α : Sp) : Nat → Out
  | 0 => (0, fun _ => 0)
  | k + 1 => pnum (α (58 + 3 * k)) (pt (α (57 + 3 * k)) (pnum (α (56 + 3 * k)) (itm k (lp α k))))
theorem lp_s {α : Sp} {k : Nat} : lp α (k + 1) = pnum (α (58 + 3 * k)) (pt (α (57 + 3 * k)) (pnum (α (56 + 3 * k)) (itm k (lp α k)))) := Eq.trans rfl rfl
theorem lp_1 {α : Sp} : ∀ n, (∀ k, k < n → α (58 + 3 * k) ≤ 9) → (lp α n).1 ≤ 8 * n
  | 0, _ => Nat.le_refl _
  | k + 1, h => by
    have h1 := lp_1 k (fun i hi => h i (by omega))
    have h3 := pnum_1 (n := α (56 + 3 * k)) (p := itm k (lp α k))
    have h4 := itm_1 (z := k) (p := lp α k)
    rw [lp_s, pnum_9 (h k (by omega)), pt_1]
    omega
theorem c_item {M0 M : Mem} {p : Out} {z : Nat} (h : Oc M0 M p) (hp : p.1 < 200) (hz : z < 100) : wp (f_X7_startItem (nI z) M) fun _ M1 => Oc M0 M1 (itm z p) := by
  unfold f_X7_startItem itm
  by_cases q : 0 < z
  · obtain ⟨⟨⟩, M1, e, h1⟩ := c_put (c := 32) h hp (by decide)
    rw [if_pos q]
    simp (disch := omega) only [lit_0, lit_1, lit_2, lit_3, lit_4, lit_5, lit_6, lit_7, lit_8, lit_9, lit_10, lit_11, lit_12, lit_13, lit_14, lit_15, lit_16, lit_20, lit_23, lit_24, lit_31, lit_32, lit_39, lit_43, lit_45, lit_47, lit_48, lit_56, lit_57, lit_59, lit_60, lit_62, lit_63, lit_89, lit_92, lit_96, lit_97, lit_99, lit_100, lit_102, lit_103, lit_104, lit_110, lit_111, lit_115, lit_117, lit_194, lit_200, lit_644, lit_736, lit_999, lit_1000, lit_9999, lit_10000, lit_1000000000, ↓wp_mlet, ↓wp_mbp, ↓wp_ite, ↓wp_mix, ↓wp_mdiv, ↓wp_mnz, ↓wp_some, ↓wp_mbnd, ↓mlet_eq, ↓mbp_eq, ↓mbnd_eq, ↓mix_ite, ↓mdiv_ite, ↓mnz_ite, nI_add, nI_mul, nI_nat, nI_ltE, nI_leE, nI_eqE, nI_eqN, nI_Neq, nI_Nlt, nI_Nle, nI_ltN, nI_leN, ↓reduceIte, ↓Nat.reduceEqDiff, and_f, nt_e, nt_t, nl_t, nl_f, ne_t, ne_f, and_self, or_self, or_true, true_or, or_false, false_or, if_true, if_false, and_true, true_and, and_false, false_and, not_true, not_false_iff, e]
    exact h1
  · rw [if_neg q]
    simp (disch := omega) only [lit_0, lit_1, lit_2, lit_3, lit_4, lit_5, lit_6, lit_7, lit_8, lit_9, lit_10, lit_11, lit_12, lit_13, lit_14, lit_15, lit_16, lit_20, lit_23, lit_24, lit_31, lit_32, lit_39, lit_43, lit_45, lit_47, lit_48, lit_56, lit_57, lit_59, lit_60, lit_62, lit_63, lit_89, lit_92, lit_96, lit_97, lit_99, lit_100, lit_102, lit_103, lit_104, lit_110, lit_111, lit_115, lit_117, lit_194, lit_200, lit_644, lit_736, lit_999, lit_1000, lit_9999, lit_10000, lit_1000000000, ↓wp_mlet, ↓wp_mbp, ↓wp_ite, ↓wp_mix, ↓wp_mdiv, ↓wp_mnz, ↓wp_some, ↓wp_mbnd, ↓mlet_eq, ↓mbp_eq, ↓mbnd_eq, ↓mix_ite, ↓mdiv_ite, ↓mnz_ite, nI_add, nI_mul, nI_nat, nI_ltE, nI_leE, nI_eqE, nI_eqN, nI_Neq, nI_Nlt, nI_Nle, nI_ltN, nI_leN, ↓reduceIte, ↓Nat.reduceEqDiff, and_f, nt_e, nt_t, nl_t, nl_f, ne_t, ne_f, and_self, or_self, or_true, true_or, or_false, false_or, if_true, if_false, and_true, true_and, and_false, false_and, not_true, not_false_iff]
    exact h
theorem m_item {M0 M : Mem} {p : Out} {z : Nat} {β : Type} (h : Om M0 M p) (hp : p.1 < 140) (hz : z < 100) : ∃ M1, Om M0 M1 (itm z p) ∧ ∀ k : Mem → Option (β × Mem), (mlet k fun k => if nI z ≤ nI 0 then k M else mbnd (f_X12_writes (nI 32) M) fun _ M8 => k M8) = k M1 := by
  unfold itm
  by_cases q : 0 < z
  · obtain ⟨⟨⟩, M1, e, h1⟩ := pz_m_put (c := 32) h hp (by decide)
    refine ⟨M1, by rw [if_pos q]; exact h1, fun k => ?_⟩
    rw [mlet_eq, if_neg (by rw [nI_leE (by omega) (by omega)]; omega), e, mbnd_eq]
  · refine ⟨M, by rw [if_neg q]; exact h, fun k => ?_⟩
    rw [mlet_eq, if_pos (by rw [nI_leE (by omega) (by omega)]; omega)]
theorem c_guardsIn {M0 M : Mem} {α : Sp} {H z : Nat} {p : Out} (hb : Rb (M0 0) α) (hi : Inv H α) (h : Oc M0 M p) (hp : p.1 < 190) (hz : z < 8) : wp (f_X11_putGuardsIn (nI z) M) fun _ M1 => Oc M0 M1 (gp α z p (α 10)) := by
  have b10 := hi.1.2.2.2.2.2.2.2.2.2.2.1
  have bg := hi.2.2.2.2.2.2.2.2.1
  unfold f_X11_putGuardsIn
  generalize hN : (1000 : Nat) = N
  obtain ⟨M2, h2, key⟩ := mloopP (F := fun m x M1 kk => f_X11_putGuardsIn_L10 (nI z) m x M1 kk) (c := α 10) (fun x M1 => Oc M0 M1 (gp α z p x)) (fun m x M1 kk hx h1 => by
    have e0 : M1 0 = M0 0 := funext fun b => h1.2 0 b (by omega)
    have e4 : M1 0 6 4 = nI (α 10) := by rw [e0]; exact hb.2.2.1
    obtain ⟨g1, g2, -⟩ := hb.2.2.2.2.2.1 x (by omega) hx
    obtain ⟨w1, w2, w3, w4, w5⟩ := bg x hx
    rw [← e0] at g1 g2
    have l := gp_1 (α := α) (z := z) (p := p) x
    rw [gp_s]
    by_cases q : α (47 + 3 * x) = z
    · rw [if_pos q]
      by_cases r : α (48 + 3 * x) = 1
      · obtain ⟨⟨⟩, M3, e, h3⟩ := c_put (c := 62) h1 (by omega) (by decide)
        refine ⟨M3, by rw [if_pos r]; exact h3, ?_⟩
        show f_X11_putGuardsIn_L10 (nI z) (m + 1) (nI x) M1 kk = _
        rw [f_X11_putGuardsIn_L10.eq_2]
        rw [r] at g2
        simp (disch := omega) only [lit_0, lit_1, lit_2, lit_3, lit_4, lit_5, lit_6, lit_7, lit_8, lit_9, lit_10, lit_11, lit_12, lit_13, lit_14, lit_15, lit_16, lit_20, lit_23, lit_24, lit_31, lit_32, lit_39, lit_43, lit_45, lit_47, lit_48, lit_56, lit_57, lit_59, lit_60, lit_62, lit_63, lit_89, lit_92, lit_96, lit_97, lit_99, lit_100, lit_102, lit_103, lit_104, lit_110, lit_111, lit_115, lit_117, lit_194, lit_200, lit_644, lit_736, lit_999, lit_1000, lit_9999, lit_10000, lit_1000000000, ↓wp_mlet, ↓wp_mbp, ↓wp_ite, ↓wp_mix, ↓wp_mdiv, ↓wp_mnz, ↓wp_some, ↓wp_mbnd, ↓mlet_eq, ↓mbp_eq, ↓mbnd_eq, ↓mix_ite, ↓mdiv_ite, ↓mnz_ite, nI_add, nI_mul, nI_nat, nI_ltE, nI_leE, nI_eqE, nI_eqN, nI_Neq, nI_Nlt, nI_Nle, nI_ltN, nI_leN, ↓reduceIte, ↓Nat.reduceEqDiff, and_f, nt_e, nt_t, nl_t, nl_f, ne_t, ne_f, and_self, or_self, or_true, true_or, or_false, false_or, if_true, if_false, and_true, true_and, and_false, false_and, not_true, not_false_iff, e4, g1, g2, e, Nat.reduceSub]
      · obtain ⟨⟨⟩, M3, e, h3⟩ := c_put (c := 60) h1 (by omega) (by decide)
        refine ⟨M3, by rw [if_neg r]; exact h3, ?_⟩
        have r2 : α (48 + 3 * x) = 2 := by omega
        show f_X11_putGuardsIn_L10 (nI z) (m + 1) (nI x) M1 kk = _
        rw [f_X11_putGuardsIn_L10.eq_2]
        rw [r2] at g2
        simp (disch := omega) only [lit_0, lit_1, lit_2, lit_3, lit_4, lit_5, lit_6, lit_7, lit_8, lit_9, lit_10, lit_11, lit_12, lit_13, lit_14, lit_15, lit_16, lit_20, lit_23, lit_24, lit_31, lit_32, lit_39, lit_43, lit_45, lit_47, lit_48, lit_56, lit_57, lit_59, lit_60, lit_62, lit_63, lit_89, lit_92, lit_96, lit_97, lit_99, lit_100, lit_102, lit_103, lit_104, lit_110, lit_111, lit_115, lit_117, lit_194, lit_200, lit_644, lit_736, lit_999, lit_1000, lit_9999, lit_10000, lit_1000000000, ↓wp_mlet, ↓wp_mbp, ↓wp_ite, ↓wp_mix, ↓wp_mdiv, ↓wp_mnz, ↓wp_some, ↓wp_mbnd, ↓mlet_eq, ↓mbp_eq, ↓mbnd_eq, ↓mix_ite, ↓mdiv_ite, ↓mnz_ite, nI_add, nI_mul, nI_nat, nI_ltE, nI_leE, nI_eqE, nI_eqN, nI_Neq, nI_Nlt, nI_Nle, nI_ltN, nI_leN, ↓reduceIte, ↓Nat.reduceEqDiff, and_f, nt_e, nt_t, nl_t, nl_f, ne_t, ne_f, and_self, or_self, or_true, true_or, or_false, false_or, if_true, if_false, and_true, true_and, and_false, false_and, not_true, not_false_iff, e4, g1, g2, e, Nat.reduceSub]
    · rw [if_neg q]
      refine ⟨M1, h1, ?_⟩
      show f_X11_putGuardsIn_L10 (nI z) (m + 1) (nI x) M1 kk = _
      rw [f_X11_putGuardsIn_L10.eq_2]
      simp (disch := omega) only [lit_0, lit_1, lit_2, lit_3, lit_4, lit_5, lit_6, lit_7, lit_8, lit_9, lit_10, lit_11, lit_12, lit_13, lit_14, lit_15, lit_16, lit_20, lit_23, lit_24, lit_31, lit_32, lit_39, lit_43, lit_45, lit_47, lit_48, lit_56, lit_57, lit_59, lit_60, lit_62, lit_63, lit_89, lit_92, lit_96, lit_97, lit_99, lit_100, lit_102, lit_103, lit_104, lit_110, lit_111, lit_115, lit_117, lit_194, lit_200, lit_644, lit_736, lit_999, lit_1000, lit_9999, lit_10000, lit_1000000000, ↓wp_mlet, ↓wp_mbp, ↓wp_ite, ↓wp_mix, ↓wp_mdiv, ↓wp_mnz, ↓wp_some, ↓wp_mbnd, ↓mlet_eq, ↓mbp_eq, ↓mbnd_eq, ↓mix_ite, ↓mdiv_ite, ↓mnz_ite, nI_add, nI_mul, nI_nat, nI_ltE, nI_leE, nI_eqE, nI_eqN, nI_Neq, nI_Nlt, nI_Nle, nI_ltN, nI_leN, ↓reduceIte, ↓Nat.reduceEqDiff, and_f, nt_e, nt_t, nl_t, nl_f, ne_t, ne_f, and_self, or_self, or_true, true_or, or_false, false_or, if_true, if_false, and_true, true_and, and_false, false_and, not_true, not_false_iff, e4, g1]) (fun m M1 kk h1 => by
    have e0 : M1 0 = M0 0 := funext fun b => h1.2 0 b (by omega)
    have e4 : M1 0 6 4 = nI (α 10) := by rw [e0]; exact hb.2.2.1
    show f_X11_putGuardsIn_L10 (nI z) (m + 1) (nI (α 10)) M1 kk = _
    rw [f_X11_putGuardsIn_L10.eq_2]
    simp (disch := omega) only [lit_0, lit_1, lit_2, lit_3, lit_4, lit_5, lit_6, lit_7, lit_8, lit_9, lit_10, lit_11, lit_12, lit_13, lit_14, lit_15, lit_16, lit_20, lit_23, lit_24, lit_31, lit_32, lit_39, lit_43, lit_45, lit_47, lit_48, lit_56, lit_57, lit_59, lit_60, lit_62, lit_63, lit_89, lit_92, lit_96, lit_97, lit_99, lit_100, lit_102, lit_103, lit_104, lit_110, lit_111, lit_115, lit_117, lit_194, lit_200, lit_644, lit_736, lit_999, lit_1000, lit_9999, lit_10000, lit_1000000000, ↓wp_mlet, ↓wp_mbp, ↓wp_ite, ↓wp_mix, ↓wp_mdiv, ↓wp_mnz, ↓wp_some, ↓wp_mbnd, ↓mlet_eq, ↓mbp_eq, ↓mbnd_eq, ↓mix_ite, ↓mdiv_ite, ↓mnz_ite, nI_add, nI_mul, nI_nat, nI_ltE, nI_leE, nI_eqE, nI_eqN, nI_Neq, nI_Nlt, nI_Nle, nI_ltN, nI_leN, ↓reduceIte, ↓Nat.reduceEqDiff, and_f, nt_e, nt_t, nl_t, nl_f, ne_t, ne_f, and_self, or_self, or_true, true_or, or_false, false_or, if_true, if_false, and_true, true_and, and_false, false_and, not_true, not_false_iff, e4]) (α 10) N 0 M (fun M13 => some ((), M13)) (by omega) (by omega) h
  simp only [lit_0, lit_1, lit_2, lit_3, lit_4, lit_5, lit_6, lit_7, lit_8, lit_9, lit_10, lit_11, lit_12, lit_13, lit_14, lit_15, lit_16, lit_20, lit_23, lit_24, lit_31, lit_32, lit_39, lit_43, lit_45, lit_47, lit_48, lit_56, lit_57, lit_59, lit_60, lit_62, lit_63, lit_89, lit_92, lit_96, lit_97, lit_99, lit_100, lit_102, lit_103, lit_104, lit_110, lit_111, lit_115, lit_117, lit_194, lit_200, lit_644, lit_736, lit_999, lit_1000, lit_9999, lit_10000, lit_1000000000]
  rw [key, wp_some]
  exact h2
theorem c_writeZones {M : Mem} {α : Sp} {H : Nat} (hR : RC (M 0) α) (hi : Inv H α) : wp (f_X11_writeZones M) fun r M1 => r = nI (zp α 8).1 ∧ Oc M M1 (zp α 8) := by
  have b10 := hi.1.2.2.2.2.2.2.2.2.2.2.1
  have bz := hi.2.2.2.2.2.2.1
  have hb := hR.2.2.1
  unfold f_X11_writeZones f_X7_clear
  generalize hN : (1000 : Nat) = N
  have h0 : Oc M (mup M 12 45 1 (nI 0)) (zp α 0) := ⟨⟨by rw [mup_at, if_pos (by decide)]; rfl, fun i hi => by exact absurd hi (Nat.not_lt_zero _)⟩, fun a b hab => pm_ne (by omega)⟩
  obtain ⟨M2, h2, key⟩ := mloopP (F := fun m x M1 kk => f_X11_writeZones_L9 m x M1 kk) (c := 8) (fun x M1 => Oc M M1 (zp α x)) (fun m x M1 kk hx h1 => by
    have l1 := zp_1 b10 x
    have l2 := itm_1 (z := x) (p := zp α x)
    have l3 := pnum_1 (n := α (31 + x)) (p := itm x (zp α x))
    have lz := (bz x hx).1
    obtain ⟨⟨⟩, M3, e3, h3⟩ := c_item h1 (by omega) (show x < 100 by omega)
    have ez : M3 0 7 x = nI (α (31 + x)) := by
      rw [h3.2 0 7 (by omega)]
      exact hb.2.2.2.1 x hx
    obtain ⟨⟨⟩, M4, e4, h4⟩ := c_num (n := α (31 + x)) h3 (by omega) (by omega)
    obtain ⟨⟨⟩, M5, e5, h5⟩ := c_guardsIn hb hi h4 (by omega) hx
    refine ⟨M5, by rw [zp_s]; exact h5, ?_⟩
    show f_X11_writeZones_L9 (m + 1) (nI x) M1 kk = _
    rw [f_X11_writeZones_L9.eq_2]
    simp (disch := omega) only [lit_0, lit_1, lit_2, lit_3, lit_4, lit_5, lit_6, lit_7, lit_8, lit_9, lit_10, lit_11, lit_12, lit_13, lit_14, lit_15, lit_16, lit_20, lit_23, lit_24, lit_31, lit_32, lit_39, lit_43, lit_45, lit_47, lit_48, lit_56, lit_57, lit_59, lit_60, lit_62, lit_63, lit_89, lit_92, lit_96, lit_97, lit_99, lit_100, lit_102, lit_103, lit_104, lit_110, lit_111, lit_115, lit_117, lit_194, lit_200, lit_644, lit_736, lit_999, lit_1000, lit_9999, lit_10000, lit_1000000000, ↓wp_mlet, ↓wp_mbp, ↓wp_ite, ↓wp_mix, ↓wp_mdiv, ↓wp_mnz, ↓wp_some, ↓wp_mbnd, ↓mlet_eq, ↓mbp_eq, ↓mbnd_eq, ↓mix_ite, ↓mdiv_ite, ↓mnz_ite, nI_add, nI_mul, nI_nat, nI_ltE, nI_leE, nI_eqE, nI_eqN, nI_Neq, nI_Nlt, nI_Nle, nI_ltN, nI_leN, ↓reduceIte, ↓Nat.reduceEqDiff, and_f, nt_e, nt_t, nl_t, nl_f, ne_t, ne_f, and_self, or_self, or_true, true_or, or_false, false_or, if_true, if_false, and_true, true_and, and_false, false_and, not_true, not_false_iff, e3, ez, e4, e5]) (fun m M1 kk h1 => by
    show f_X11_writeZones_L9 (m + 1) (nI 8) M1 kk = _
    rw [f_X11_writeZones_L9.eq_2]
    simp (disch := omega) only [lit_0, lit_1, lit_2, lit_3, lit_4, lit_5, lit_6, lit_7, lit_8, lit_9, lit_10, lit_11, lit_12, lit_13, lit_14, lit_15, lit_16, lit_20, lit_23, lit_24, lit_31, lit_32, lit_39, lit_43, lit_45, lit_47, lit_48, lit_56, lit_57, lit_59, lit_60, lit_62, lit_63, lit_89, lit_92, lit_96, lit_97, lit_99, lit_100, lit_102, lit_103, lit_104, lit_110, lit_111, lit_115, lit_117, lit_194, lit_200, lit_644, lit_736, lit_999, lit_1000, lit_9999, lit_10000, lit_1000000000, ↓wp_mlet, ↓wp_mbp, ↓wp_ite, ↓wp_mix, ↓wp_mdiv, ↓wp_mnz, ↓wp_some, ↓wp_mbnd, ↓mlet_eq, ↓mbp_eq, ↓mbnd_eq, ↓mix_ite, ↓mdiv_ite, ↓mnz_ite, nI_add, nI_mul, nI_nat, nI_ltE, nI_leE, nI_eqE, nI_eqN, nI_Neq, nI_Nlt, nI_Nle, nI_ltN, nI_leN, ↓reduceIte, ↓Nat.reduceEqDiff, and_f, nt_e, nt_t, nl_t, nl_f, ne_t, ne_f, and_self, or_self, or_true, true_or, or_false, false_or, if_true, if_false, and_true, true_and, and_false, false_and, not_true, not_false_iff]) 8 N 0 (mup M 12 45 1 (nI 0)) (fun M13 => some (M13 12 45 1, M13)) (by omega) (by omega) h0
  simp (disch := omega) only [lit_0, lit_1, lit_2, lit_3, lit_4, lit_5, lit_6, lit_7, lit_8, lit_9, lit_10, lit_11, lit_12, lit_13, lit_14, lit_15, lit_16, lit_20, lit_23, lit_24, lit_31, lit_32, lit_39, lit_43, lit_45, lit_47, lit_48, lit_56, lit_57, lit_59, lit_60, lit_62, lit_63, lit_89, lit_92, lit_96, lit_97, lit_99, lit_100, lit_102, lit_103, lit_104, lit_110, lit_111, lit_115, lit_117, lit_194, lit_200, lit_644, lit_736, lit_999, lit_1000, lit_9999, lit_10000, lit_1000000000, ↓wp_mlet, ↓wp_mbp, ↓wp_ite, ↓wp_mix, ↓wp_mdiv, ↓wp_mnz, ↓wp_some, ↓wp_mbnd, ↓mlet_eq, ↓mbp_eq, ↓mbnd_eq, ↓mix_ite, ↓mdiv_ite, ↓mnz_ite, nI_add, nI_mul, nI_nat, nI_ltE, nI_leE, nI_eqE, nI_eqN, nI_Neq, nI_Nlt, nI_Nle, nI_ltN, nI_leN, ↓reduceIte, ↓Nat.reduceEqDiff, and_f, nt_e, nt_t, nl_t, nl_f, ne_t, ne_f, and_self, or_self, or_true, true_or, or_false, false_or, if_true, if_false, and_true, true_and, and_false, false_and, not_true, not_false_iff]
  rw [key, wp_some]
  exact ⟨h2.1.1, h2⟩
theorem c_writeLog {M : Mem} {α : Sp} {H : Nat} (hR : RC (M 0) α) (hi : Inv H α) (hH : H < 90000) : wp (f_X11_writeLog M) fun r M1 => r = nI (lp α (α 14)).1 ∧ Oc M M1 (lp α (α 14)) := by
  have b11 := hi.1.2.2.2.2.2.2.2.2.2.2.2.1
  have b14 := hi.1.2.2.2.2.2.2.2.2.2.2.2.2
  have bl := hi.2.2.2.2.2.2.2.2.2
  have hj := hR.2.2.2
  unfold f_X11_writeLog f_X7_clear
  generalize hN : (1000 : Nat) = N
  have h0 : Oc M (mup M 12 45 1 (nI 0)) (lp α 0) := ⟨⟨by rw [mup_at, if_pos (by decide)]; rfl, fun i hi => by exact absurd hi (Nat.not_lt_zero _)⟩, fun a b hab => pm_ne (by omega)⟩
  obtain ⟨M2, h2, key⟩ := mloopP (F := fun m x M1 kk => f_X11_writeLog_L17 m x M1 kk) (c := α 14) (fun x M1 => Oc M M1 (lp α x)) (fun m x M1 kk hx h1 => by
    have l1 := lp_1 (α := α) x (fun k hk => by have := (bl k (by omega)).2.2; omega)
    have l2 := itm_1 (z := x) (p := lp α x)
    have l3 := pnum_1 (n := α (56 + 3 * x)) (p := itm x (lp α x))
    obtain ⟨w1, w2, w3⟩ := bl x hx
    obtain ⟨g1, g2, g3⟩ := hj.2.1 x (by omega) hx
    obtain ⟨⟨⟩, M3, e3, h3⟩ := c_item h1 (by omega) (show x < 100 by omega)
    have i1 : M1 0 12 0 = nI (α 14) := by rw [h1.2 0 12 (by omega)]; exact hj.1
    have i3 : M3 0 13 x = nI (α (56 + 3 * x)) := by rw [h3.2 0 13 (by omega)]; exact g1
    obtain ⟨⟨⟩, M4, e4, h4⟩ := c_num (n := α (56 + 3 * x)) h3 (by omega) (by omega)
    have i4 : M4 0 14 x = nI (α (57 + 3 * x)) := by rw [h4.2 0 14 (by omega)]; exact g2
    obtain ⟨⟨⟩, M5, e5, h5⟩ := c_put (c := α (57 + 3 * x)) h4 (by omega) (by omega)
    have i5 : M5 0 15 x = nI (α (58 + 3 * x)) := by rw [h5.2 0 15 (by omega)]; exact g3
    obtain ⟨⟨⟩, M6, e6, h6⟩ := c_num (n := α (58 + 3 * x)) h5 (by rw [pt_1]; omega) (by omega)
    refine ⟨M6, by rw [lp_s]; exact h6, ?_⟩
    show f_X11_writeLog_L17 (m + 1) (nI x) M1 kk = _
    rw [f_X11_writeLog_L17.eq_2]
    simp (disch := omega) only [lit_0, lit_1, lit_2, lit_3, lit_4, lit_5, lit_6, lit_7, lit_8, lit_9, lit_10, lit_11, lit_12, lit_13, lit_14, lit_15, lit_16, lit_20, lit_23, lit_24, lit_31, lit_32, lit_39, lit_43, lit_45, lit_47, lit_48, lit_56, lit_57, lit_59, lit_60, lit_62, lit_63, lit_89, lit_92, lit_96, lit_97, lit_99, lit_100, lit_102, lit_103, lit_104, lit_110, lit_111, lit_115, lit_117, lit_194, lit_200, lit_644, lit_736, lit_999, lit_1000, lit_9999, lit_10000, lit_1000000000, ↓wp_mlet, ↓wp_mbp, ↓wp_ite, ↓wp_mix, ↓wp_mdiv, ↓wp_mnz, ↓wp_some, ↓wp_mbnd, ↓mlet_eq, ↓mbp_eq, ↓mbnd_eq, ↓mix_ite, ↓mdiv_ite, ↓mnz_ite, nI_add, nI_mul, nI_nat, nI_ltE, nI_leE, nI_eqE, nI_eqN, nI_Neq, nI_Nlt, nI_Nle, nI_ltN, nI_leN, ↓reduceIte, ↓Nat.reduceEqDiff, and_f, nt_e, nt_t, nl_t, nl_f, ne_t, ne_f, and_self, or_self, or_true, true_or, or_false, false_or, if_true, if_false, and_true, true_and, and_false, false_and, not_true, not_false_iff, i1, e3, i3, e4, i4, e5, i5, e6]) (fun m M1 kk h1 => by
    have i1 : M1 0 12 0 = nI (α 14) := by rw [h1.2 0 12 (by omega)]; exact hj.1
    show f_X11_writeLog_L17 (m + 1) (nI (α 14)) M1 kk = _
    rw [f_X11_writeLog_L17.eq_2]
    simp (disch := omega) only [lit_0, lit_1, lit_2, lit_3, lit_4, lit_5, lit_6, lit_7, lit_8, lit_9, lit_10, lit_11, lit_12, lit_13, lit_14, lit_15, lit_16, lit_20, lit_23, lit_24, lit_31, lit_32, lit_39, lit_43, lit_45, lit_47, lit_48, lit_56, lit_57, lit_59, lit_60, lit_62, lit_63, lit_89, lit_92, lit_96, lit_97, lit_99, lit_100, lit_102, lit_103, lit_104, lit_110, lit_111, lit_115, lit_117, lit_194, lit_200, lit_644, lit_736, lit_999, lit_1000, lit_9999, lit_10000, lit_1000000000, ↓wp_mlet, ↓wp_mbp, ↓wp_ite, ↓wp_mix, ↓wp_mdiv, ↓wp_mnz, ↓wp_some, ↓wp_mbnd, ↓mlet_eq, ↓mbp_eq, ↓mbnd_eq, ↓mix_ite, ↓mdiv_ite, ↓mnz_ite, nI_add, nI_mul, nI_nat, nI_ltE, nI_leE, nI_eqE, nI_eqN, nI_Neq, nI_Nlt, nI_Nle, nI_ltN, nI_leN, ↓reduceIte, ↓Nat.reduceEqDiff, and_f, nt_e, nt_t, nl_t, nl_f, ne_t, ne_f, and_self, or_self, or_true, true_or, or_false, false_or, if_true, if_false, and_true, true_and, and_false, false_and, not_true, not_false_iff, i1]) (α 14) N 0 (mup M 12 45 1 (nI 0)) (fun M15 => some (M15 12 45 1, M15)) (by omega) (by omega) h0
  simp (disch := omega) only [lit_0, lit_1, lit_2, lit_3, lit_4, lit_5, lit_6, lit_7, lit_8, lit_9, lit_10, lit_11, lit_12, lit_13, lit_14, lit_15, lit_16, lit_20, lit_23, lit_24, lit_31, lit_32, lit_39, lit_43, lit_45, lit_47, lit_48, lit_56, lit_57, lit_59, lit_60, lit_62, lit_63, lit_89, lit_92, lit_96, lit_97, lit_99, lit_100, lit_102, lit_103, lit_104, lit_110, lit_111, lit_115, lit_117, lit_194, lit_200, lit_644, lit_736, lit_999, lit_1000, lit_9999, lit_10000, lit_1000000000, ↓wp_mlet, ↓wp_mbp, ↓wp_ite, ↓wp_mix, ↓wp_mdiv, ↓wp_mnz, ↓wp_some, ↓wp_mbnd, ↓mlet_eq, ↓mbp_eq, ↓mbnd_eq, ↓mix_ite, ↓mdiv_ite, ↓mnz_ite, nI_add, nI_mul, nI_nat, nI_ltE, nI_leE, nI_eqE, nI_eqN, nI_Neq, nI_Nlt, nI_Nle, nI_ltN, nI_leN, ↓reduceIte, ↓Nat.reduceEqDiff, and_f, nt_e, nt_t, nl_t, nl_f, ne_t, ne_f, and_self, or_self, or_true, true_or, or_false, false_or, if_true, if_false, and_true, true_and, and_false, false_and, not_true, not_false_iff]
  rw [key, wp_some]
  exact ⟨h2.1.1, h2⟩
theorem m_guardsIn {M0 M : Mem} {α : Sp} {H z N : Nat} {p : Out} (hN : 1000 = N) (hS : M0 12 48 = enc α) (hi : Inv H α) (h : Om M0 M p) (hp : p.1 < 130) (hz : z < 8) : ∃ M1, Om M0 M1 (gp α z p (α 10)) ∧ ∀ kk, f_X12_writeZones_L43 (nI z) N (nI 0) M kk = kk M1 := by
  have b10 := hi.1.2.2.2.2.2.2.2.2.2.2.1
  have bg := hi.2.2.2.2.2.2.2.2.1
  have st : ∀ m x M1, x < α 10 → Om M0 M1 (gp α z p x) → ∃ M3, Om M0 M3 (gp α z p (x + 1)) ∧ ∀ kk, f_X12_writeZones_L43 (nI z) (m + 1) (nI x) M1 kk = f_X12_writeZones_L43 (nI z) m (nI (x + 1)) M3 kk := by
    intro m x M1 hx h1
    have eS : M1 12 48 = enc α := by rw [h1.2.2 12 48 (by decide)]; exact hS
    have g1 := m_guard0 (k := x) eS (by omega)
    have g2 := m_guard (k := x) (what := 1) eS (by omega) (by decide)
    rw [show 47 + 3 * x + 1 = 48 + 3 * x by omega] at g2
    obtain ⟨w1, w2, w3, w4, w5⟩ := bg x hx
    have l := gp_1 (α := α) (z := z) (p := p) x
    rw [gp_s]
    by_cases q : α (47 + 3 * x) = z
    · rw [if_pos q]
      by_cases r : α (48 + 3 * x) = 1
      · obtain ⟨⟨⟩, M3, e, h3⟩ := pz_m_put (c := 62) h1 (by omega) (by decide)
        refine ⟨M3, by rw [if_pos r]; exact h3, fun kk => ?_⟩
        rw [f_X12_writeZones_L43.eq_2]
        rw [enc_n2 (by omega), r] at g2
        simp (disch := omega) only [lit_0, lit_1, lit_2, lit_3, lit_4, lit_5, lit_6, lit_7, lit_8, lit_9, lit_10, lit_11, lit_12, lit_13, lit_14, lit_15, lit_16, lit_20, lit_23, lit_24, lit_31, lit_32, lit_39, lit_43, lit_45, lit_47, lit_48, lit_56, lit_57, lit_59, lit_60, lit_62, lit_63, lit_89, lit_92, lit_96, lit_97, lit_99, lit_100, lit_102, lit_103, lit_104, lit_110, lit_111, lit_115, lit_117, lit_194, lit_200, lit_644, lit_736, lit_999, lit_1000, lit_9999, lit_10000, lit_1000000000, ↓wp_mlet, ↓wp_mbp, ↓wp_ite, ↓wp_mix, ↓wp_mdiv, ↓wp_mnz, ↓wp_some, ↓wp_mbnd, ↓mlet_eq, ↓mbp_eq, ↓mbnd_eq, ↓mix_ite, ↓mdiv_ite, ↓mnz_ite, nI_add, nI_mul, nI_nat, nI_ltE, nI_leE, nI_eqE, nI_eqN, nI_Neq, nI_Nlt, nI_Nle, nI_ltN, nI_leN, ↓reduceIte, ↓Nat.reduceEqDiff, and_f, nt_e, nt_t, nl_t, nl_f, ne_t, ne_f, and_self, or_self, or_true, true_or, or_false, false_or, if_true, if_false, and_true, true_and, and_false, false_and, not_true, not_false_iff, ms_n eS, g1, g2, e]
      · obtain ⟨⟨⟩, M3, e, h3⟩ := pz_m_put (c := 60) h1 (by omega) (by decide)
        refine ⟨M3, by rw [if_neg r]; exact h3, fun kk => ?_⟩
        have r2 : α (48 + 3 * x) = 2 := by omega
        rw [f_X12_writeZones_L43.eq_2]
        rw [enc_2 (by omega) r2] at g2
        simp (disch := omega) only [lit_0, lit_1, lit_2, lit_3, lit_4, lit_5, lit_6, lit_7, lit_8, lit_9, lit_10, lit_11, lit_12, lit_13, lit_14, lit_15, lit_16, lit_20, lit_23, lit_24, lit_31, lit_32, lit_39, lit_43, lit_45, lit_47, lit_48, lit_56, lit_57, lit_59, lit_60, lit_62, lit_63, lit_89, lit_92, lit_96, lit_97, lit_99, lit_100, lit_102, lit_103, lit_104, lit_110, lit_111, lit_115, lit_117, lit_194, lit_200, lit_644, lit_736, lit_999, lit_1000, lit_9999, lit_10000, lit_1000000000, ↓wp_mlet, ↓wp_mbp, ↓wp_ite, ↓wp_mix, ↓wp_mdiv, ↓wp_mnz, ↓wp_some, ↓wp_mbnd, ↓mlet_eq, ↓mbp_eq, ↓mbnd_eq, ↓mix_ite, ↓mdiv_ite, ↓mnz_ite, nI_add, nI_mul, nI_nat, nI_ltE, nI_leE, nI_eqE, nI_eqN, nI_Neq, nI_Nlt, nI_Nle, nI_ltN, nI_leN, ↓reduceIte, ↓Nat.reduceEqDiff, and_f, nt_e, nt_t, nl_t, nl_f, ne_t, ne_f, and_self, or_self, or_true, true_or, or_false, false_or, if_true, if_false, and_true, true_and, and_false, false_and, not_true, not_false_iff, ms_n eS, g1, g2, e]
    · rw [if_neg q]
      refine ⟨M1, h1, fun kk => ?_⟩
      rw [f_X12_writeZones_L43.eq_2]
      simp (disch := omega) only [lit_0, lit_1, lit_2, lit_3, lit_4, lit_5, lit_6, lit_7, lit_8, lit_9, lit_10, lit_11, lit_12, lit_13, lit_14, lit_15, lit_16, lit_20, lit_23, lit_24, lit_31, lit_32, lit_39, lit_43, lit_45, lit_47, lit_48, lit_56, lit_57, lit_59, lit_60, lit_62, lit_63, lit_89, lit_92, lit_96, lit_97, lit_99, lit_100, lit_102, lit_103, lit_104, lit_110, lit_111, lit_115, lit_117, lit_194, lit_200, lit_644, lit_736, lit_999, lit_1000, lit_9999, lit_10000, lit_1000000000, ↓wp_mlet, ↓wp_mbp, ↓wp_ite, ↓wp_mix, ↓wp_mdiv, ↓wp_mnz, ↓wp_some, ↓wp_mbnd, ↓mlet_eq, ↓mbp_eq, ↓mbnd_eq, ↓mix_ite, ↓mdiv_ite, ↓mnz_ite, nI_add, nI_mul, nI_nat, nI_ltE, nI_leE, nI_eqE, nI_eqN, nI_Neq, nI_Nlt, nI_Nle, nI_ltN, nI_leN, ↓reduceIte, ↓Nat.reduceEqDiff, and_f, nt_e, nt_t, nl_t, nl_f, ne_t, ne_f, and_self, or_self, or_true, true_or, or_false, false_or, if_true, if_false, and_true, true_and, and_false, false_and, not_true, not_false_iff, ms_n eS, g1]
  have en' : ∀ m M1 kk, Om M0 M1 (gp α z p (α 10)) → f_X12_writeZones_L43 (nI z) (m + 1) (nI (α 10)) M1 kk = kk M1 := by
    intro m M1 kk h1
    have eS : M1 12 48 = enc α := by rw [h1.2.2 12 48 (by decide)]; exact hS
    rw [f_X12_writeZones_L43.eq_2]
    simp (disch := omega) only [lit_0, lit_1, lit_2, lit_3, lit_4, lit_5, lit_6, lit_7, lit_8, lit_9, lit_10, lit_11, lit_12, lit_13, lit_14, lit_15, lit_16, lit_20, lit_23, lit_24, lit_31, lit_32, lit_39, lit_43, lit_45, lit_47, lit_48, lit_56, lit_57, lit_59, lit_60, lit_62, lit_63, lit_89, lit_92, lit_96, lit_97, lit_99, lit_100, lit_102, lit_103, lit_104, lit_110, lit_111, lit_115, lit_117, lit_194, lit_200, lit_644, lit_736, lit_999, lit_1000, lit_9999, lit_10000, lit_1000000000, ↓wp_mlet, ↓wp_mbp, ↓wp_ite, ↓wp_mix, ↓wp_mdiv, ↓wp_mnz, ↓wp_some, ↓wp_mbnd, ↓mlet_eq, ↓mbp_eq, ↓mbnd_eq, ↓mix_ite, ↓mdiv_ite, ↓mnz_ite, nI_add, nI_mul, nI_nat, nI_ltE, nI_leE, nI_eqE, nI_eqN, nI_Neq, nI_Nlt, nI_Nle, nI_ltN, nI_leN, ↓reduceIte, ↓Nat.reduceEqDiff, and_f, nt_e, nt_t, nl_t, nl_f, ne_t, ne_f, and_self, or_self, or_true, true_or, or_false, false_or, if_true, if_false, and_true, true_and, and_false, false_and, not_true, not_false_iff, ms_n eS]
  have go : ∀ d m x M1, x + d = α 10 → d < m → Om M0 M1 (gp α z p x) → ∃ M3, Om M0 M3 (gp α z p (α 10)) ∧ ∀ kk, f_X12_writeZones_L43 (nI z) m (nI x) M1 kk = kk M3 := by
    intro d
    induction d with
    | zero =>
      intro m x M1 h1 h2 h3
      obtain rfl : x = α 10 := by omega
      obtain ⟨m', rfl⟩ : ∃ m', m = m' + 1 := ⟨m - 1, by omega⟩
      exact ⟨M1, h3, fun kk => en' m' M1 kk h3⟩
    | succ d ih =>
      intro m x M1 h1 h2 h3
      obtain ⟨m', rfl⟩ : ∃ m', m = m' + 1 := ⟨m - 1, by omega⟩
      obtain ⟨M2, h4, k4⟩ := st m' x M1 (by omega) h3
      obtain ⟨M3, h5, k5⟩ := ih m' (x + 1) M2 (by omega) (by omega) h4
      exact ⟨M3, h5, fun kk => (k4 kk).trans (k5 kk)⟩
  exact go (α 10) N 0 M (by omega) (by omega) h
theorem m_writeZones {M : Mem} {α : Sp} {H : Nat} (hS : M 12 48 = enc α) (hi : Inv H α) : wp (f_X12_writeZones M) fun r M1 => r = nI (zp α 8).1 ∧ Om (mup M 12 47 0 (nI 0)) M1 (zp α 8) := by
  have b10 := hi.1.2.2.2.2.2.2.2.2.2.2.1
  have bz := hi.2.2.2.2.2.2.1
  unfold f_X12_writeZones
  generalize hN : (1000 : Nat) = N
  have hS' := ms_t (x := nI 0) hS
  have h0 : Om (mup M 12 47 0 (nI 0)) (mup (mup M 12 47 0 (nI 0)) 12 47 13 (nI 0)) (zp α 0) := ⟨⟨by rw [mup_at, if_pos (by decide)]; rfl, fun i hi => by exact absurd hi (Nat.not_lt_zero _)⟩, fun k hk => by rw [mup_at, if_neg (by omega)], fun a b hab => pm_ne (by omega)⟩
  obtain ⟨M2, h2, key⟩ := mloopP (F := fun m x M1 kk => f_X12_writeZones_L12 m x M1 kk) (c := 8) (fun x M1 => Om (mup M 12 47 0 (nI 0)) M1 (zp α x)) (fun m x M1 kk hx h1 => by
    have l1 := zp_1 b10 x
    have l2 := itm_1 (z := x) (p := zp α x)
    have l3 := pnum_1 (n := α (31 + x)) (p := itm x (zp α x))
    have lz := (bz x hx).1
    obtain ⟨M3, h3, k3⟩ := m_item (β := Int32) h1 (by omega) (show x < 100 by omega)
    have ez : M3 12 48 (31 + x) = nI (α (31 + x)) := ms_n (α := α) (by rw [h3.2.2 12 48 (by decide)]; exact hS') (by omega)
    obtain ⟨⟨⟩, M4, e4, h4⟩ := m_num (n := α (31 + x)) h3 (by omega) (by omega)
    obtain ⟨M5, h5, k5⟩ := m_guardsIn rfl hS' hi h4 (by omega) hx
    refine ⟨M5, by rw [zp_s]; exact h5, ?_⟩
    show f_X12_writeZones_L12 (m + 1) (nI x) M1 kk = _
    rw [f_X12_writeZones_L12.eq_2]
    simp only [lit_0, lit_1, lit_2, lit_3, lit_4, lit_5, lit_6, lit_7, lit_8, lit_9, lit_10, lit_11, lit_12, lit_13, lit_14, lit_15, lit_16, lit_20, lit_23, lit_24, lit_31, lit_32, lit_39, lit_43, lit_45, lit_47, lit_48, lit_56, lit_57, lit_59, lit_60, lit_62, lit_63, lit_89, lit_92, lit_96, lit_97, lit_99, lit_100, lit_102, lit_103, lit_104, lit_110, lit_111, lit_115, lit_117, lit_194, lit_200, lit_644, lit_736, lit_999, lit_1000, lit_9999, lit_10000, lit_1000000000]
    rw [if_neg (by rw [nI_leE (by decide) (by omega)]; omega), k3]
    simp (disch := omega) only [lit_0, lit_1, lit_2, lit_3, lit_4, lit_5, lit_6, lit_7, lit_8, lit_9, lit_10, lit_11, lit_12, lit_13, lit_14, lit_15, lit_16, lit_20, lit_23, lit_24, lit_31, lit_32, lit_39, lit_43, lit_45, lit_47, lit_48, lit_56, lit_57, lit_59, lit_60, lit_62, lit_63, lit_89, lit_92, lit_96, lit_97, lit_99, lit_100, lit_102, lit_103, lit_104, lit_110, lit_111, lit_115, lit_117, lit_194, lit_200, lit_644, lit_736, lit_999, lit_1000, lit_9999, lit_10000, lit_1000000000, ↓wp_mlet, ↓wp_mbp, ↓wp_ite, ↓wp_mix, ↓wp_mdiv, ↓wp_mnz, ↓wp_some, ↓wp_mbnd, ↓mlet_eq, ↓mbp_eq, ↓mbnd_eq, ↓mix_ite, ↓mdiv_ite, ↓mnz_ite, nI_add, nI_mul, nI_nat, nI_ltE, nI_leE, nI_eqE, nI_eqN, nI_Neq, nI_Nlt, nI_Nle, nI_ltN, nI_leN, ↓reduceIte, ↓Nat.reduceEqDiff, and_f, nt_e, nt_t, nl_t, nl_f, ne_t, ne_f, and_self, or_self, or_true, true_or, or_false, false_or, if_true, if_false, and_true, true_and, and_false, false_and, not_true, not_false_iff, ez, e4, k5]) (fun m M1 kk h1 => by
    show f_X12_writeZones_L12 (m + 1) (nI 8) M1 kk = _
    rw [f_X12_writeZones_L12.eq_2]
    rw [if_pos (show (8 : Int32) ≤ nI 8 by decide)]) 8 N 0 (mup (mup M 12 47 0 (nI 0)) 12 47 13 (nI 0)) (fun M29 => some (M29 12 47 13, M29)) (by omega) (by omega) h0
  simp (disch := omega) only [lit_0, lit_1, lit_2, lit_3, lit_4, lit_5, lit_6, lit_7, lit_8, lit_9, lit_10, lit_11, lit_12, lit_13, lit_14, lit_15, lit_16, lit_20, lit_23, lit_24, lit_31, lit_32, lit_39, lit_43, lit_45, lit_47, lit_48, lit_56, lit_57, lit_59, lit_60, lit_62, lit_63, lit_89, lit_92, lit_96, lit_97, lit_99, lit_100, lit_102, lit_103, lit_104, lit_110, lit_111, lit_115, lit_117, lit_194, lit_200, lit_644, lit_736, lit_999, lit_1000, lit_9999, lit_10000, lit_1000000000, ↓wp_mlet, ↓wp_mbp, ↓wp_ite, ↓wp_mix, ↓wp_mdiv, ↓wp_mnz, ↓wp_some, ↓wp_mbnd, ↓mlet_eq, ↓mbp_eq, ↓mbnd_eq, ↓mix_ite, ↓mdiv_ite, ↓mnz_ite, nI_add, nI_mul, nI_nat, nI_ltE, nI_leE, nI_eqE, nI_eqN, nI_Neq, nI_Nlt, nI_Nle, nI_ltN, nI_leN, ↓reduceIte, ↓Nat.reduceEqDiff, and_f, nt_e, nt_t, nl_t, nl_f, ne_t, ne_f, and_self, or_self, or_true, true_or, or_false, false_or, if_true, if_false, and_true, true_and, and_false, false_and, not_true, not_false_iff]
  rw [key, wp_some]
  exact ⟨h2.1.1, h2⟩
theorem m_writeLog {M : Mem} {α : Sp} {H : Nat} (hS : M 12 48 = enc α) (hi : Inv H α) (hH : H < 90000) : wp (f_X12_writeLog M) fun r M1 => r = nI (lp α (α 14)).1 ∧ Om (mup M 12 47 0 (nI 0)) M1 (lp α (α 14)) := by
  have b11 := hi.1.2.2.2.2.2.2.2.2.2.2.2.1
  have b14 := hi.1.2.2.2.2.2.2.2.2.2.2.2.2
  have bl := hi.2.2.2.2.2.2.2.2.2
  unfold f_X12_writeLog
  generalize hN : (1000 : Nat) = N
  have hS' := ms_t (x := nI 0) hS
  have h0 : Om (mup M 12 47 0 (nI 0)) (mup (mup M 12 47 0 (nI 0)) 12 47 13 (nI 0)) (lp α 0) := ⟨⟨by rw [mup_at, if_pos (by decide)]; rfl, fun i hi => by exact absurd hi (Nat.not_lt_zero _)⟩, fun k hk => by rw [mup_at, if_neg (by omega)], fun a b hab => pm_ne (by omega)⟩
  obtain ⟨M2, h2, key⟩ := mloopP (F := fun m x M1 kk => f_X12_writeLog_L12 m x M1 kk) (c := α 14) (fun x M1 => Om (mup M 12 47 0 (nI 0)) M1 (lp α x)) (fun m x M1 kk hx h1 => by
    have l1 := lp_1 (α := α) x (fun k hk => by have := (bl k (by omega)).2.2; omega)
    have l2 := itm_1 (z := x) (p := lp α x)
    have l3 := pnum_1 (n := α (56 + 3 * x)) (p := itm x (lp α x))
    obtain ⟨w1, w2, w3⟩ := bl x hx
    obtain ⟨M3, h3, k3⟩ := m_item (β := Int32) h1 (by omega) (show x < 100 by omega)
    have S1 : M1 12 48 = enc α := by rw [h1.2.2 12 48 (by decide)]; exact hS'
    have S3 : M3 12 48 = enc α := by rw [h3.2.2 12 48 (by decide)]; exact hS'
    have i3 : M3 12 48 (56 + 3 * x) = nI (α (56 + 3 * x)) := ms_n S3 (by omega)
    obtain ⟨⟨⟩, M4, e4, h4⟩ := m_num (n := α (56 + 3 * x)) h3 (by omega) (by omega)
    have S4 : M4 12 48 = enc α := by rw [h4.2.2 12 48 (by decide)]; exact hS'
    have i4 : M4 12 48 (56 + 3 * x + 1) = nI (α (57 + 3 * x)) := by rw [show 56 + 3 * x + 1 = 57 + 3 * x by omega]; exact ms_n S4 (by omega)
    obtain ⟨⟨⟩, M5, e5, h5⟩ := pz_m_put (c := α (57 + 3 * x)) h4 (by omega) (by omega)
    have S5 : M5 12 48 = enc α := by rw [h5.2.2 12 48 (by decide)]; exact hS'
    have i5 : M5 12 48 (56 + 3 * x + 2) = nI (α (58 + 3 * x)) := by rw [show 56 + 3 * x + 2 = 58 + 3 * x by omega]; exact ms_n S5 (by omega)
    obtain ⟨⟨⟩, M6, e6, h6⟩ := m_num (n := α (58 + 3 * x)) h5 (by rw [pt_1]; omega) (by omega)
    refine ⟨M6, by rw [lp_s]; exact h6, ?_⟩
    show f_X12_writeLog_L12 (m + 1) (nI x) M1 kk = _
    have i1 : M1 12 48 14 = nI (α 14) := ms_n S1 (by decide)
    rw [f_X12_writeLog_L12.eq_2]
    simp only [lit_0, lit_1, lit_2, lit_3, lit_4, lit_5, lit_6, lit_7, lit_8, lit_9, lit_10, lit_11, lit_12, lit_13, lit_14, lit_15, lit_16, lit_20, lit_23, lit_24, lit_31, lit_32, lit_39, lit_43, lit_45, lit_47, lit_48, lit_56, lit_57, lit_59, lit_60, lit_62, lit_63, lit_89, lit_92, lit_96, lit_97, lit_99, lit_100, lit_102, lit_103, lit_104, lit_110, lit_111, lit_115, lit_117, lit_194, lit_200, lit_644, lit_736, lit_999, lit_1000, lit_9999, lit_10000, lit_1000000000]
    rw [nI_nat (show 14 < 2147483648 by decide), i1, nI_mix (by decide) (by decide), if_neg (by rw [nI_leE (by omega) (by omega)]; omega), k3]
    simp (disch := omega) only [lit_0, lit_1, lit_2, lit_3, lit_4, lit_5, lit_6, lit_7, lit_8, lit_9, lit_10, lit_11, lit_12, lit_13, lit_14, lit_15, lit_16, lit_20, lit_23, lit_24, lit_31, lit_32, lit_39, lit_43, lit_45, lit_47, lit_48, lit_56, lit_57, lit_59, lit_60, lit_62, lit_63, lit_89, lit_92, lit_96, lit_97, lit_99, lit_100, lit_102, lit_103, lit_104, lit_110, lit_111, lit_115, lit_117, lit_194, lit_200, lit_644, lit_736, lit_999, lit_1000, lit_9999, lit_10000, lit_1000000000, ↓wp_mlet, ↓wp_mbp, ↓wp_ite, ↓wp_mix, ↓wp_mdiv, ↓wp_mnz, ↓wp_some, ↓wp_mbnd, ↓mlet_eq, ↓mbp_eq, ↓mbnd_eq, ↓mix_ite, ↓mdiv_ite, ↓mnz_ite, nI_add, nI_mul, nI_nat, nI_ltE, nI_leE, nI_eqE, nI_eqN, nI_Neq, nI_Nlt, nI_Nle, nI_ltN, nI_leN, ↓reduceIte, ↓Nat.reduceEqDiff, and_f, nt_e, nt_t, nl_t, nl_f, ne_t, ne_f, and_self, or_self, or_true, true_or, or_false, false_or, if_true, if_false, and_true, true_and, and_false, false_and, not_true, not_false_iff, i3, e4, i4, e5, i5, e6]) (fun m M1 kk h1 => by
    have S1 : M1 12 48 = enc α := by rw [h1.2.2 12 48 (by decide)]; exact hS'
    have i1 : M1 12 48 14 = nI (α 14) := ms_n S1 (by decide)
    show f_X12_writeLog_L12 (m + 1) (nI (α 14)) M1 kk = _
    rw [f_X12_writeLog_L12.eq_2]
    simp only [lit_0, lit_1, lit_2, lit_3, lit_4, lit_5, lit_6, lit_7, lit_8, lit_9, lit_10, lit_11, lit_12, lit_13, lit_14, lit_15, lit_16, lit_20, lit_23, lit_24, lit_31, lit_32, lit_39, lit_43, lit_45, lit_47, lit_48, lit_56, lit_57, lit_59, lit_60, lit_62, lit_63, lit_89, lit_92, lit_96, lit_97, lit_99, lit_100, lit_102, lit_103, lit_104, lit_110, lit_111, lit_115, lit_117, lit_194, lit_200, lit_644, lit_736, lit_999, lit_1000, lit_9999, lit_10000, lit_1000000000]
    rw [nI_nat (show 14 < 2147483648 by decide), i1, nI_mix (by decide) (by decide), if_pos (by rw [nI_leE (by omega) (by omega)]; omega)]) (α 14) N 0 (mup (mup M 12 47 0 (nI 0)) 12 47 13 (nI 0)) (fun M18 => some (M18 12 47 13, M18)) (by omega) (by omega) h0
  simp (disch := omega) only [lit_0, lit_1, lit_2, lit_3, lit_4, lit_5, lit_6, lit_7, lit_8, lit_9, lit_10, lit_11, lit_12, lit_13, lit_14, lit_15, lit_16, lit_20, lit_23, lit_24, lit_31, lit_32, lit_39, lit_43, lit_45, lit_47, lit_48, lit_56, lit_57, lit_59, lit_60, lit_62, lit_63, lit_89, lit_92, lit_96, lit_97, lit_99, lit_100, lit_102, lit_103, lit_104, lit_110, lit_111, lit_115, lit_117, lit_194, lit_200, lit_644, lit_736, lit_999, lit_1000, lit_9999, lit_10000, lit_1000000000, ↓wp_mlet, ↓wp_mbp, ↓wp_ite, ↓wp_mix, ↓wp_mdiv, ↓wp_mnz, ↓wp_some, ↓wp_mbnd, ↓mlet_eq, ↓mbp_eq, ↓mbnd_eq, ↓mix_ite, ↓mdiv_ite, ↓mnz_ite, nI_add, nI_mul, nI_nat, nI_ltE, nI_leE, nI_eqE, nI_eqN, nI_Neq, nI_Nlt, nI_Nle, nI_ltN, nI_leN, ↓reduceIte, ↓Nat.reduceEqDiff, and_f, nt_e, nt_t, nl_t, nl_f, ne_t, ne_f, and_self, or_self, or_true, true_or, or_false, false_or, if_true, if_false, and_true, true_and, and_false, false_and, not_true, not_false_iff]
  rw [key, wp_some]
  exact ⟨h2.1.1, h2⟩
/-- what a writing call leaves -/
theorem Rel_out {n : Nat} {M M1 M2 : Mem} {p : Out} (h : Rel n M) (hp : p.1 ≤ 140) (hc : Oc M M1 p) (hm : Om (mup M1 12 47 0 (nI 0)) M2 p) : Rel (n + 1) M2 := by
  have h1 : ∀ i, i ≠ 0 → i ≠ 13 → M2 12 47 i = M 12 47 i := fun i h0 h13 => by rw [hm.2.1 i h13, mup_at, if_neg (by omega), hc.2 12 47 (by decide)]
  have h2 : ∀ a b, ¬ (a = 12 ∧ (b = 47 ∨ b = 55 ∨ b = 45 ∨ b = 46)) → M2 a b = M a b := fun a b hab => by rw [hm.2.2 a b (by omega), pm_ne (by omega), hc.2 a b (by omega)]
  have h45 : M2 12 45 = M1 12 45 := by rw [hm.2.2 12 45 (by decide), pm_ne (by decide)]
  have h46 : M2 12 46 = M1 12 46 := by rw [hm.2.2 12 46 (by decide), pm_ne (by decide)]
  obtain ⟨α, αh, αs, K, nx, fed, b, H, hR, hS, hH, hs, ⟨hr1, hr2, hr3, hr4⟩, hi, hih, his, hb⟩ := h
  refine ⟨α, αh, αs, K, nx, fed, b, H, ?_, ?_, ?_, ?_, ⟨?_, ?_, ?_, ?_⟩, hi, hih, his, by omega⟩
  · rw [show M2 0 = M 0 from funext fun b => h2 0 b (by omega)]; exact hR
  · rw [h2 12 48 (by decide)]; exact hS
  · exact Hs_same hH (h2 12 17 (by decide)) (h1 6 (by decide) (by decide)) (h2 12 51 (by decide)) (fun a _ _ _ => funext fun b => h2 a b (by omega))
  · exact Rs_same hs (by rw [h2 12 16 (by decide)]) (h1 7 (by decide) (by decide)) (funext fun b => h2 10 b (by omega)) (h2 12 50 (by decide))
  · exact Rr_same hr1 (fun i _ _ => by rw [h2 12 16 (by decide)]) (fun i _ _ => h1 i (by omega) (by omega))
  · exact Re_same hr2 (by rw [h2 12 16 (by decide)]) (h1 14 (by decide) (by decide))
  · exact Ri_same hr3 (by rw [h2 12 26 (by decide)]) (h1 12 (by decide) (by decide)) (h2 12 27 (by decide)) (h2 12 53 (by decide))
  · refine ⟨p.1, hp, by rw [h45]; exact hc.1.1, hm.1.1, fun i hi => ⟨p.2 i, (hc.1.2 i hi).2, by rw [h46]; exact (hc.1.2 i hi).1, (hm.1.2 i hi).1⟩⟩
theorem pair_writeZones {n : Nat} {M : Mem} (hr : Rel n M) : PairS n M f_X11_writeZones f_X12_writeZones := by
  have hr0 := hr
  obtain ⟨α, αh, αs, K, nx, fed, b, H, hR, hS, hH, hs, hx, hi, hih, his, hbb⟩ := hr
  obtain ⟨r1, M1, e1, rfl, h1⟩ := c_writeZones hR hi
  obtain ⟨r2, M2, e2, rfl, h2⟩ := m_writeZones (M := M1) (by rw [h1.2 12 48 (by decide)]; exact hS) hi
  have l := zp_1 hi.1.2.2.2.2.2.2.2.2.2.2.1 8
  exact ⟨_, M1, e1, _, M2, e2, Rel_out hr0 (by omega) h1 h2, rfl⟩
theorem pair_writeLog {n : Nat} {M : Mem} (hr : Rel n M) (hn : n < 512) : PairS n M f_X11_writeLog f_X12_writeLog := by
  have hr0 := hr
  obtain ⟨α, αh, αs, K, nx, fed, b, H, hR, hS, hH, hs, hx, hi, hih, his, hbb⟩ := hr
  obtain ⟨r1, M1, e1, rfl, h1⟩ := c_writeLog hR hi (by omega)
  obtain ⟨r2, M2, e2, rfl, h2⟩ := m_writeLog (M := M1) (by rw [h1.2 12 48 (by decide)]; exact hS) hi (by omega)
  have b14 := hi.1.2.2.2.2.2.2.2.2.2.2.2.2
  have bl := hi.2.2.2.2.2.2.2.2.2
  have l := lp_1 (α := α) (α 14) (fun k hk => by have := (bl k hk).2.2; omega)
  exact ⟨_, M1, e1, _, M2, e2, Rel_out hr0 (by omega) h1 h2, rfl⟩
