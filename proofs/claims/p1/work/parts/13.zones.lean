/-! zones -/
def inZ (α : Sp) (z : Nat) : Bool := (fnd (fun g => decide (α (47 + 3 * g) = z)) 0 (α 10)).isSome
def nearZ (α : Sp) (z : Nat) : Bool := inZ α ((z + 1) % 8) || inZ α ((z + 7) % 8)
theorem inZ_cg {α β : Sp} {z : Nat} (h0 : α 10 = β 10) (h1 : ∀ g, g < β 10 → α (47 + 3 * g) = β (47 + 3 * g)) : inZ α z = inZ β z := by
  unfold inZ
  rw [h0, fnd_cg (P := fun g => decide (α (47 + 3 * g) = z)) (P' := fun g => decide (β (47 + 3 * g) = z)) (fun k _ hk => by
    show decide _ = decide _
    rw [h1 k (by omega)])]
theorem nearZ_cg {α β : Sp} {z : Nat} (h0 : α 10 = β 10) (h1 : ∀ g, g < β 10 → α (47 + 3 * g) = β (47 + 3 * g)) : nearZ α z = nearZ β z := by
  unfold nearZ
  rw [inZ_cg h0 h1, inZ_cg h0 h1]
theorem c_inZ {M : Mem} {α : Sp} {g z : Nat} (hR : Rb (M g) α) (h10 : α 10 ≤ 3) (hz : z < 2147483648) (hb : ∀ k, k < α 10 → α (47 + 3 * k) < 2147483648) : f_X1_hasGuardIn g (nI z) M = some (nI (inZ α z).toNat) := by
  obtain ⟨r0, r3, r4, r5, r6, r7, r8⟩ := hR
  unfold f_X1_hasGuardIn
  generalize hN : (1000 : Nat) = N
  have key := floop (F := fun n x kk => f_X1_hasGuardIn_L2 g (nI z) M n x kk) (c := α 10) (fun g => decide (α (47 + 3 * g) = z)) (fun _ => nI 1) (fun n x kk hx => by
    have e1 := (r7 x (by omega) hx).1
    have b1 := hb x hx
    rw [f_X1_hasGuardIn_L2.eq_2]
    simp (disch := omega) only [lit_0, lit_1, lit_2, lit_3, lit_4, lit_5, lit_6, lit_7, lit_8, lit_9, lit_10, lit_11, lit_12, lit_13, lit_14, lit_15, lit_16, lit_20, lit_23, lit_24, lit_31, lit_32, lit_39, lit_43, lit_45, lit_47, lit_48, lit_56, lit_57, lit_59, lit_60, lit_62, lit_63, lit_89, lit_92, lit_96, lit_97, lit_99, lit_100, lit_102, lit_103, lit_104, lit_110, lit_111, lit_115, lit_117, lit_194, lit_200, lit_644, lit_736, lit_999, lit_1000, lit_9999, lit_10000, lit_1000000000, ↓wp_mlet, ↓wp_mbp, ↓wp_ite, ↓wp_mix, ↓wp_mdiv, ↓wp_mnz, ↓wp_some, ↓wp_mbnd, ↓mlet_eq, ↓mbp_eq, ↓mbnd_eq, ↓mix_ite, ↓mdiv_ite, ↓mnz_ite, nI_add, nI_mul, nI_nat, nI_ltE, nI_leE, nI_eqE, nI_eqN, nI_Neq, nI_Nlt, nI_Nle, nI_ltN, nI_leN, ↓reduceIte, ↓Nat.reduceEqDiff, and_f, nt_e, nt_t, nl_t, nl_f, ne_t, ne_f, and_self, or_self, or_true, true_or, or_false, false_or, if_true, if_false, and_true, true_and, and_false, false_and, not_true, not_false_iff, r4, e1, decide_eq_true_eq]) (fun n kk => by
    rw [f_X1_hasGuardIn_L2.eq_2]
    simp (disch := omega) only [lit_0, lit_1, lit_2, lit_3, lit_4, lit_5, lit_6, lit_7, lit_8, lit_9, lit_10, lit_11, lit_12, lit_13, lit_14, lit_15, lit_16, lit_20, lit_23, lit_24, lit_31, lit_32, lit_39, lit_43, lit_45, lit_47, lit_48, lit_56, lit_57, lit_59, lit_60, lit_62, lit_63, lit_89, lit_92, lit_96, lit_97, lit_99, lit_100, lit_102, lit_103, lit_104, lit_110, lit_111, lit_115, lit_117, lit_194, lit_200, lit_644, lit_736, lit_999, lit_1000, lit_9999, lit_10000, lit_1000000000, ↓wp_mlet, ↓wp_mbp, ↓wp_ite, ↓wp_mix, ↓wp_mdiv, ↓wp_mnz, ↓wp_some, ↓wp_mbnd, ↓mlet_eq, ↓mbp_eq, ↓mbnd_eq, ↓mix_ite, ↓mdiv_ite, ↓mnz_ite, nI_add, nI_mul, nI_nat, nI_ltE, nI_leE, nI_eqE, nI_eqN, nI_Neq, nI_Nlt, nI_Nle, nI_ltN, nI_leN, ↓reduceIte, ↓Nat.reduceEqDiff, and_f, nt_e, nt_t, nl_t, nl_f, ne_t, ne_f, and_self, or_self, or_true, true_or, or_false, false_or, if_true, if_false, and_true, true_and, and_false, false_and, not_true, not_false_iff, r4])
  have := key (α 10) N 0 (fun _ => some (nI 0)) (by omega) (by omega)
  rw [lit_0, this]
  unfold inZ
  cases fnd (fun g => decide (α (47 + 3 * g) = z)) 0 (α 10) <;> rfl
theorem m_inZ {M : Mem} {α : Sp} {z : Nat} {x0 : Int32} (hS : M 12 48 = enc α) (h10 : α 10 ≤ 3) (hx0 : mrem (x0 + nI 8) (nI 8) = nI z) (hz : z < 2147483648) (hb : ∀ k, k < α 10 → α (47 + 3 * k) < 2147483648) : f_X12_isIn x0 M = some (nI (inZ α z).toNat) := by
  unfold f_X12_isIn
  generalize hN : (1000 : Nat) = N
  have key := floop (F := fun n x kk => f_X12_isIn_L2 x0 M n x kk) (c := α 10) (fun g => decide (α (47 + 3 * g) = z)) (fun _ => nI 1) (fun n x kk hx => by
    have b1 := hb x hx
    have e1 := m_guard0 hS (show x < 3 by omega)
    rw [f_X12_isIn_L2.eq_2]
    simp (disch := omega) only [lit_0, lit_1, lit_2, lit_3, lit_4, lit_5, lit_6, lit_7, lit_8, lit_9, lit_10, lit_11, lit_12, lit_13, lit_14, lit_15, lit_16, lit_20, lit_23, lit_24, lit_31, lit_32, lit_39, lit_43, lit_45, lit_47, lit_48, lit_56, lit_57, lit_59, lit_60, lit_62, lit_63, lit_89, lit_92, lit_96, lit_97, lit_99, lit_100, lit_102, lit_103, lit_104, lit_110, lit_111, lit_115, lit_117, lit_194, lit_200, lit_644, lit_736, lit_999, lit_1000, lit_9999, lit_10000, lit_1000000000, ↓wp_mlet, ↓wp_mbp, ↓wp_ite, ↓wp_mix, ↓wp_mdiv, ↓wp_mnz, ↓wp_some, ↓wp_mbnd, ↓mlet_eq, ↓mbp_eq, ↓mbnd_eq, ↓mix_ite, ↓mdiv_ite, ↓mnz_ite, nI_add, nI_mul, nI_nat, nI_ltE, nI_leE, nI_eqE, nI_eqN, nI_Neq, nI_Nlt, nI_Nle, nI_ltN, nI_leN, ↓reduceIte, ↓Nat.reduceEqDiff, and_f, nt_e, nt_t, nl_t, nl_f, ne_t, ne_f, and_self, or_self, or_true, true_or, or_false, false_or, if_true, if_false, and_true, true_and, and_false, false_and, not_true, not_false_iff, ms_n hS, e1, hx0, decide_eq_true_eq]) (fun n kk => by
    rw [f_X12_isIn_L2.eq_2]
    simp (disch := omega) only [lit_0, lit_1, lit_2, lit_3, lit_4, lit_5, lit_6, lit_7, lit_8, lit_9, lit_10, lit_11, lit_12, lit_13, lit_14, lit_15, lit_16, lit_20, lit_23, lit_24, lit_31, lit_32, lit_39, lit_43, lit_45, lit_47, lit_48, lit_56, lit_57, lit_59, lit_60, lit_62, lit_63, lit_89, lit_92, lit_96, lit_97, lit_99, lit_100, lit_102, lit_103, lit_104, lit_110, lit_111, lit_115, lit_117, lit_194, lit_200, lit_644, lit_736, lit_999, lit_1000, lit_9999, lit_10000, lit_1000000000, ↓wp_mlet, ↓wp_mbp, ↓wp_ite, ↓wp_mix, ↓wp_mdiv, ↓wp_mnz, ↓wp_some, ↓wp_mbnd, ↓mlet_eq, ↓mbp_eq, ↓mbnd_eq, ↓mix_ite, ↓mdiv_ite, ↓mnz_ite, nI_add, nI_mul, nI_nat, nI_ltE, nI_leE, nI_eqE, nI_eqN, nI_Neq, nI_Nlt, nI_Nle, nI_ltN, nI_leN, ↓reduceIte, ↓Nat.reduceEqDiff, and_f, nt_e, nt_t, nl_t, nl_f, ne_t, ne_f, and_self, or_self, or_true, true_or, or_false, false_or, if_true, if_false, and_true, true_and, and_false, false_and, not_true, not_false_iff, ms_n hS])
  have := key (α 10) N 0 (fun _ => some (nI 0)) (by omega) (by omega)
  rw [lit_0, this]
  unfold inZ
  cases fnd (fun g => decide (α (47 + 3 * g) = z)) 0 (α 10) <;> rfl
theorem m_inZ0 {M : Mem} {α : Sp} {z : Nat} (hS : M 12 48 = enc α) (h10 : α 10 ≤ 3) (hz : z < 8) (hb : ∀ k, k < α 10 → α (47 + 3 * k) < 2147483648) : f_X12_isIn (nI z) M = some (nI (inZ α z).toNat) :=
  m_inZ hS h10 (by rw [nI_add, nI_rem (by omega) (by decide), show (z + 8) % 8 = z by omega]) (by omega) hb
theorem m_near {M : Mem} {α : Sp} {z : Nat} (hS : M 12 48 = enc α) (h10 : α 10 ≤ 3) (hz : z < 8) (hb : ∀ k, k < α 10 → α (47 + 3 * k) < 2147483648) : f_X12_isNear (nI z) M = some (nI (nearZ α z).toNat) := by
  have e1 : f_X12_isIn (nI z - nI 1) M = some (nI (inZ α ((z + 7) % 8)).toNat) := m_inZ hS h10 (by
    rw [nI_sub_add (by omega), nI_rem (by omega) (by decide)]
    congr 1) (by omega) hb
  have e2 : f_X12_isIn (nI (z + 1)) M = some (nI (inZ α ((z + 1) % 8)).toNat) := m_inZ hS h10 (by
    rw [nI_add, nI_rem (by omega) (by decide)]
    congr 1
    omega) (by omega) hb
  unfold f_X12_isNear nearZ
  simp only [lit_0, lit_1, nI_add, e1, e2, mbp_eq, mlet_eq]
  cases inZ α ((z + 7) % 8) <;> cases inZ α ((z + 1) % 8) <;> rfl
theorem c_near {M : Mem} {α : Sp} {g z : Nat} (hR : Rb (M g) α) (h10 : α 10 ≤ 3) (hz : z < 8) (hb : ∀ k, k < α 10 → α (47 + 3 * k) < 2147483648) : f_X1_hasGuardBeside g (nI z) M = some (nI (nearZ α z).toNat) := by
  have e1 : mrem (nI z + nI 1) (nI 8) = nI ((z + 1) % 8) := by rw [nI_add, nI_rem (by omega) (by decide)]
  have e2 : mrem (nI z + nI 8 - nI 1) (nI 8) = nI ((z + 7) % 8) := by rw [nI_add, nI_subE (by omega), nI_rem (by omega) (by decide)]; congr 1
  unfold f_X1_hasGuardBeside nearZ
  simp only [lit_0, lit_1, lit_8, e1, e2, c_inZ hR h10 (show (z + 1) % 8 < 2147483648 by omega) hb, c_inZ hR h10 (show (z + 7) % 8 < 2147483648 by omega) hb, mbp_eq, mlet_eq]
  cases inZ α ((z + 7) % 8) <;> cases inZ α ((z + 1) % 8) <;> rfl
def isAl (γ : Sp) (z : Nat) : Bool := !inZ γ z && (decide (5 ≤ γ (31 + z)) && !nearZ γ z)
def nzV (γ : Sp) (z : Nat) : Nat := if inZ γ z || (isAl γ z || decide (γ (31 + z) = 0)) then 0 else γ (31 + z) - 1
def cntA (γ : Sp) : Nat → Nat
  | 0 => 0
  | x + 1 => cntA γ x + (isAl γ x).toNat
def hz (γ : Sp) (x : Nat) : Sp := fun j => if j = 13 then γ 13 + cntA γ x else if 31 ≤ j ∧ j < 31 + x then nzV γ (j - 31) else if 39 ≤ j ∧ j < 39 + x then γ j + (isAl γ (j - 39)).toNat else γ j
theorem hz_at (γ : Sp) (x j : Nat) : hz γ x j = if j = 13 then γ 13 + cntA γ x else if 31 ≤ j ∧ j < 31 + x then nzV γ (j - 31) else if 39 ≤ j ∧ j < 39 + x then γ j + (isAl γ (j - 39)).toNat else γ j := Eq.trans rfl rfl
def lgs (γ : Sp) : Nat → Sp
  | 0 => γ
  | x + 1 => if isAl γ x then sLog (lgs γ x) 97 x else lgs γ x
def hT (γ : Sp) (x : Nat) : Sp := fun j => if j = 14 ∨ 56 ≤ j ∧ j < 92 then lgs γ x j else hz γ x j
theorem hT_at (γ : Sp) (x j : Nat) : hT γ x j = if j = 14 ∨ 56 ≤ j ∧ j < 92 then lgs γ x j else hz γ x j := Eq.trans rfl rfl
theorem sLog_14 {α : Sp} {k w : Nat} (h : α 14 ≤ 12) : sLog α k w 14 ≤ 12 := by
  have := logB_14 h
  unfold sLog
  rw [putSp_at, if_pos rfl]
  omega
theorem lgs_14 {γ : Sp} (h : γ 14 ≤ 12) : ∀ x, lgs γ x 14 ≤ 12 := by
  intro x
  induction x with
  | zero => exact h
  | succ x ih =>
    show (if isAl γ x then sLog (lgs γ x) 97 x else lgs γ x) 14 ≤ 12
    split
    · exact sLog_14 ih
    · exact ih
theorem lgs_ne {γ : Sp} (h : γ 14 ≤ 12) {j : Nat} (h1 : j ≠ 14) (h2 : ¬ (56 ≤ j ∧ j < 92)) : ∀ x, lgs γ x j = γ j := by
  intro x
  induction x with
  | zero => rfl
  | succ x ih =>
    show (if isAl γ x then sLog (lgs γ x) 97 x else lgs γ x) j = γ j
    split
    · rw [sLog_ne (lgs_14 h x) h1 h2, ih]
    · exact ih
theorem logB_cg {α β : Sp} (h : ∀ j, j = 11 ∨ j = 14 ∨ 56 ≤ j ∧ j < 92 → α j = β j) {j : Nat} (hj : j = 11 ∨ j = 14 ∨ 56 ≤ j ∧ j < 92) : logB α j = logB β j := by
  unfold logB
  rw [h 14 (by omega)]
  split
  · rw [shiftSp_at, shiftSp_at]
    split
    · rfl
    · split
      · exact h _ (by omega)
      · exact h j hj
  · exact h j hj
theorem sLog_cg {α β : Sp} {k w : Nat} (h : ∀ j, j = 11 ∨ j = 14 ∨ 56 ≤ j ∧ j < 92 → α j = β j) {j : Nat} (hj : j = 14 ∨ 56 ≤ j ∧ j < 92) : sLog α k w j = sLog β k w j := by
  unfold sLog
  rw [putSp_at, putSp_at, logB_cg h (j := 14) (by omega), logB_cg h (j := 11) (by omega), logB_cg h (j := j) (by omega)]
