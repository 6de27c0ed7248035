/-! CLASS AND MODEL, SIDE BY SIDE -/
theorem Inv.mono {H H' : Nat} {α : Sp} (h : Inv H α) (hH : H ≤ H') : Inv H' α := by
  obtain ⟨⟨b0, b1, b2, b3, b4, b5, b6, b7, b8, b9, b10, b11, b14⟩, h2⟩ := h
  exact ⟨⟨b0, b1, b2, b3, b4, b5, b6, b7, b8, b9, b10, Nat.le_trans b11 hH, b14⟩, h2⟩
/-- refusals -/
def Rr (M : Mem) : Prop := ∃ w c, w ≤ 11 ∧ c ≤ 12 ∧ M 12 47 16 = nI w ∧ M 12 16 8 = (if w = 0 then -nI 1 else nI w) ∧ (w ≠ 0 → M 12 16 9 = M 12 47 17) ∧ M 12 47 18 = nI c ∧ M 12 16 10 = (if c = 0 then -nI 1 else nI c)
/-- the error position -/
def Re (M : Mem) : Prop := M 12 16 11 = M 12 47 14 ∧ (M 12 47 14 = -nI 1 ∨ ∃ e, e ≤ 60 ∧ M 12 47 14 = nI e)
/-- the input -/
def Ri (M : Mem) (fed : Nat) : Prop := fed ≤ 60 ∧ M 12 26 1 = nI fed ∧ M 12 47 12 = nI fed ∧ ∀ i, i < fed → ∃ c, c < 65536 ∧ M 12 27 i = nI c ∧ M 12 53 i = nI c
/-- the output -/
def Ro (M : Mem) : Prop := ∃ ol, ol ≤ 140 ∧ M 12 45 1 = nI ol ∧ M 12 47 13 = nI ol ∧ ∀ i, i < ol → ∃ c, c < 65536 ∧ M 12 46 i = nI c ∧ M 12 55 i = nI c
/-- the saved state -/
def Rs (M : Mem) (αs : Sp) (b : Nat) : Prop := b ≤ 1 ∧ M 12 16 3 = nI b ∧ M 12 47 7 = nI b ∧ (b = 1 → RC (M 10) αs ∧ ∀ j, j < 92 → M 12 50 j = enc αs j)
/-- all of it, behind n calls -/
def RelW (n : Nat) (M : Mem) (α : Sp) (αh : Nat → Sp) (αs : Sp) (K nx fed b H : Nat) : Prop := RC (M 0) α ∧ M 12 48 = enc α ∧ Hs M αh K nx ∧ Rs M αs b ∧ (Rr M ∧ Re M ∧ Ri M fed ∧ Ro M) ∧ Inv H α ∧ (∀ k, k < K → Inv H (αh k)) ∧ (b = 1 → Inv H αs) ∧ H + 6 * fed ≤ 24 * n
def Rel (n : Nat) (M : Mem) : Prop := ∃ α αh αs K nx fed b H, RelW n M α αh αs K nx fed b H
def exn (k : Nat) : Nat := if k = 20 then 1 else if k = 21 then 2 else 3
/-- the class's call is done -/
def clsA (M M1 : Mem) (α β : Sp) (nx K : Nat) : Prop := RC (M1 0) β ∧ RC (M1 (1 + nx)) α ∧ M1 12 17 1 = nI ((nx + 1) % 9) ∧ M1 12 17 2 = nI (minK K) ∧ ∀ a b, a ≠ 0 → a ≠ 1 + nx → ¬ (a = 12 ∧ b = 17) → M1 a b = M a b
/-- .. or not -/
def clsB (M M1 : Mem) (nx k d : Nat) : Prop := M1 0 = M 0 ∧ (if k < 20 then M1 12 16 8 = nI k ∧ M1 12 16 9 = nI d ∧ M1 12 16 10 = -nI 1 ∧ ∀ i, i ≠ 8 → i ≠ 9 → i ≠ 10 → M1 12 16 i = M 12 16 i else M1 12 16 = M 12 16) ∧ ∀ a b, a ≠ 0 → a ≠ 1 + nx → ¬ (a = 12 ∧ b = 16) → M1 a b = M a b
theorem cls_call {M : Mem} {α : Sp} {nx K : Nat} {e : Ex} {subj : Int32} {tr : Mem → Option (Int32 × Mem)} {kc : Int32 → Mem → Option ((Nat ⊕ Int32) × Mem)} {Q : (Nat ⊕ Int32) → Mem → Prop}
    (hx : nx < 9) (hK : K ≤ 8) (h1 : M 12 17 1 = nI nx) (h2 : M 12 17 2 = nI K) (hR : RC (M 0) α) (b1 : α 1 ≤ 1) (b6 : α 6 ≤ 1) (hct : ∀ M2, RC (M2 0) α → CT M2 subj e (tr M2))
    (hQA : ∀ ans β, e = .inr (ans, β) → ∀ M1, clsA M M1 α β nx K → wp (kc (nI ans) M1) Q) (hQB : ∀ k d, e = .inl (k, d) → (1 ≤ k ∧ k ≤ 10 ∨ k = 20 ∨ k = 21) ∧ ∀ M1, clsB M M1 nx k d → Q (.inl (exn k)) M1) :
    wp (mbnd (f_X4_prepare 0 M) fun r1 M2 => (mbnd (tr M2) fun r3 M4 => (mbndx (f_X11_settle r3 subj M4) kc))) Q := by
  rw [wp_mbnd]
  refine wp_mono (c_prepare hx h1 hR b1 b6) ?_
  rintro - M2 ⟨p1, p2⟩
  have hR2 : RC (M2 0) α := by rw [p2 0 (by omega)]; exact hR
  have hc := hct M2 hR2
  have e1 : M2 12 17 1 = nI nx := by rw [p2 12 (by omega), h1]
  have e2 : M2 12 17 2 = nI K := by rw [p2 12 (by omega), h2]
  rw [wp_mbnd]
  rcases e with ⟨k, d⟩ | ⟨ans, β⟩
  case inr =>
    have hQ := hQA ans β rfl
    obtain ⟨r, M3, q0, rfl, q1, q2, q3⟩ := hc
    rw [q0, wp_some, wp_inr]
    unfold f_X11_settle
    simp only [lit_0, lit_1, lit_2, lit_3, lit_4, lit_5, lit_6, lit_7, lit_8, lit_9, lit_10, lit_11, lit_12, lit_13, lit_14, lit_15, lit_16, lit_20, lit_23, lit_24, lit_31, lit_32, lit_39, lit_43, lit_45, lit_47, lit_48, lit_56, lit_57, lit_59, lit_60, lit_62, lit_63, lit_89, lit_92, lit_96, lit_97, lit_99, lit_100, lit_102, lit_103, lit_104, lit_110, lit_111, lit_115, lit_117, lit_194, lit_200, lit_644, lit_736, lit_999, lit_1000, lit_9999, lit_10000, lit_1000000000]
    rw [if_neg (by rw [nI_eqN (by decide) (by decide) (by decide)]; exact id), if_neg (by rw [nI_eqN (by decide) (by decide) (by decide)]; exact id), if_pos trivial, wp_mbnd]
    refine wp_mono (c_keep hx hK (by rw [q3 12 (by decide), e1]) (by rw [q3 12 (by decide), e2])) ?_
    rintro - M4 ⟨s1, s2, s3⟩
    have a0 : ∀ b, M4 0 b = M3 0 b := fun b => s3 0 b (by omega)
    rw [wp_some, a0, q2]
    refine hQ M4 ⟨?_, ?_, s1, s2, fun a b x1 x2 x3 => ?_⟩
    · rw [show M4 0 = M3 0 from funext a0]; exact q1
    · rw [show M4 (1 + nx) = M3 (1 + nx) from funext fun b => s3 (1 + nx) b (by omega), q3 (1 + nx) (by omega)]; exact p1
    · rw [s3 a b x3, q3 a x1, p2 a x2]
  case inl =>
    obtain ⟨q0, q1⟩ := hc
    obtain ⟨hk, hQ⟩ := hQB k d rfl
    rw [q0, wp_some, wp_inr]
    unfold f_X11_settle
    simp only [lit_0, lit_1, lit_2, lit_3, lit_4, lit_5, lit_6, lit_7, lit_8, lit_9, lit_10, lit_11, lit_12, lit_13, lit_14, lit_15, lit_16, lit_20, lit_23, lit_24, lit_31, lit_32, lit_39, lit_43, lit_45, lit_47, lit_48, lit_56, lit_57, lit_59, lit_60, lit_62, lit_63, lit_89, lit_92, lit_96, lit_97, lit_99, lit_100, lit_102, lit_103, lit_104, lit_110, lit_111, lit_115, lit_117, lit_194, lit_200, lit_644, lit_736, lit_999, lit_1000, lit_9999, lit_10000, lit_1000000000]
    rcases hk with ⟨k1, k2⟩ | rfl | rfl
    · have ev : vc k = nI k := by unfold vc; rw [if_neg (by omega), if_neg (by omega)]
      rw [ev, if_neg (by rw [nI_eqN (by omega) (by decide) (by decide)]; exact id), if_neg (by rw [nI_eqN (by omega) (by decide) (by decide)]; exact id), if_neg (by rw [nI_eqE (by omega) (by decide)]; omega), q1 (by omega), mbp_eq, wp_mbnd]
      unfold f_X11_keepRefusal
      simp only [mlet_eq, wp_some]
      have ex : exn k = 3 := by unfold exn; rw [if_neg (by omega), if_neg (by omega)]
      rw [ex] at hQ
      refine hQ _ ⟨?_, ?_, fun a b x1 x2 x3 => ?_⟩
      · rw [pm_g (by decide), pm_g (by decide), pm_g (by decide), p2 0 (by omega)]
      · rw [if_pos (by omega)]
        refine ⟨?_, ?_, ?_, fun i i1 i2 i3 => ?_⟩
        · simp (disch := omega) only [mup_at, up_at, fil_at, ↓reduceIte, ↓Nat.reduceEqDiff, and_f, nt_e, nt_t, nl_t, nl_f, ne_t, ne_f, and_self, or_self, or_true, true_or, or_false, false_or, if_true, if_false, and_true, true_and, and_false, false_and, not_true, not_false_iff]
        · simp (disch := omega) only [mup_at, up_at, fil_at, ↓reduceIte, ↓Nat.reduceEqDiff, and_f, nt_e, nt_t, nl_t, nl_f, ne_t, ne_f, and_self, or_self, or_true, true_or, or_false, false_or, if_true, if_false, and_true, true_and, and_false, false_and, not_true, not_false_iff]
        · simp (disch := omega) only [mup_at, up_at, fil_at, ↓reduceIte, ↓Nat.reduceEqDiff, and_f, nt_e, nt_t, nl_t, nl_f, ne_t, ne_f, and_self, or_self, or_true, true_or, or_false, false_or, if_true, if_false, and_true, true_and, and_false, false_and, not_true, not_false_iff]
        · simp (disch := omega) only [mup_at, up_at, fil_at, ↓reduceIte, ↓Nat.reduceEqDiff, and_f, nt_e, nt_t, nl_t, nl_f, ne_t, ne_f, and_self, or_self, or_true, true_or, or_false, false_or, if_true, if_false, and_true, true_and, and_false, false_and, not_true, not_false_iff]
          rw [p2 12 (by omega)]
      · rw [pm_ne x3, pm_ne x3, pm_ne x3, p2 a x2]
    · rw [if_pos (show vc 20 = -nI 1 from rfl), wp_some]
      exact hQ M2 ⟨p2 0 (by omega), by rw [if_neg (by decide), p2 12 (by omega)], fun a b x1 x2 x3 => by rw [p2 a x2]⟩
    · rw [if_neg (show ¬ vc 21 = -nI 1 by rw [show vc 21 = -nI 2 from rfl, nI_NeqN (by decide) (by decide) (by decide) (by decide)]; decide), if_pos (show vc 21 = -nI 2 from rfl), wp_some]
      exact hQ M2 ⟨p2 0 (by omega), by rw [if_neg (by decide), p2 12 (by omega)], fun a b x1 x2 x3 => by rw [p2 a x2]⟩
/-- the model's call is done -/
def modA (M M1 : Mem) (α β : Sp) (αh : Nat → Sp) (K : Nat) : Prop := M1 12 48 = enc β ∧ M1 12 47 0 = nI 0 ∧ M1 12 47 6 = nI (minK K) ∧ (∀ k, k < minK K → ∀ j, j < 92 → M1 12 51 (92 * k + j) = enc (pushH αh K α k) j) ∧ (∀ i, i ≠ 0 → i ≠ 6 → i ≠ 15 → M1 12 47 i = M 12 47 i) ∧ ∀ a b, ¬ (a = 12 ∧ (b = 47 ∨ b = 48 ∨ b = 49 ∨ b = 51 ∨ b = 56)) → M1 a b = M a b
def modB (M M1 : Mem) (k d code : Nat) : Prop := M1 12 48 = M 12 48 ∧ M1 12 47 0 = nI code ∧ (if k < 20 then M1 12 47 16 = nI k ∧ M1 12 47 17 = nI d ∧ M1 12 47 18 = nI 0 ∧ ∀ i, i ≠ 0 → i ≠ 16 → i ≠ 17 → i ≠ 18 → M1 12 47 i = M 12 47 i else ∀ i, i ≠ 0 → M1 12 47 i = M 12 47 i) ∧ ∀ a b, ¬ (a = 12 ∧ (b = 47 ∨ b = 49)) → M1 a b = M a b
theorem mod_call {M : Mem} {α : Sp} {αh : Nat → Sp} {K place c21 : Nat} {e : Ex} {op : Mem → Option (Int32 × Mem)} {km : Int32 → Mem → Option (Int32 × Mem)} {Q : Int32 → Mem → Prop} (hK : K ≤ 8) (hp : 1 ≤ place ∧ place ≤ 9) (hc21 : 1 ≤ c21 ∧ c21 ≤ 9) (hS : M 12 48 = enc α) (h6 : M 12 47 6 = nI K) (hh : ∀ k, k < K → ∀ j, j < 92 → M 12 51 (92 * k + j) = enc (αh k) j) (hmt : ∀ M2, M2 12 48 = enc α → MT M2 c21 e (op M2))
    (hQA : ∀ ans β, e = .inr (ans, β) → ∀ M1, modA M M1 α β αh K → wp (km (nI ans) M1) Q) (hQB : ∀ k d, e = .inl (k, d) → (1 ≤ k ∧ k ≤ 10 ∨ k = 20 ∨ k = 21) ∧ ∀ M1, modB M M1 k d (if k = 20 then 1 else if k = 21 then c21 else place) → wp (km (nI 0) M1) Q) :
    wp (mbnd (f_X12_remembers M) fun r1 M2 => (mbnd (op M2) fun r3 M4 => (mbnd (f_X12_ends r3 (nI place) M4) km))) Q := by
  rw [wp_mbnd, m_remembers, wp_some]
  have hM2 : ∃ M2, M2 = fil (mup M 12 47 0 (nI 0)) 12 49 0 92 (M 12 48) := ⟨_, rfl⟩
  obtain ⟨M2, hM2⟩ := hM2
  rw [← hM2]
  have f48 : M2 12 48 = M 12 48 := by rw [hM2, fil_ne (by decide), pm_ne (by decide)]
  have f51 : M2 12 51 = M 12 51 := by rw [hM2, fil_ne (by decide), pm_ne (by decide)]
  have f49 : ∀ j, j < 92 → M2 12 49 j = enc α j := fun j hj => by rw [hM2, fil_at, if_pos (by omega), hS]
  have f0 : M2 12 47 0 = nI 0 := by rw [hM2, fil_ne (by decide), mup_at, if_pos (by decide)]
  have f47 : ∀ i, i ≠ 0 → M2 12 47 i = M 12 47 i := fun i hi => by rw [hM2, fil_ne (by decide), mup_at, if_neg (by omega)]
  have fo : ∀ a b, ¬ (a = 12 ∧ (b = 47 ∨ b = 49)) → M2 a b = M a b := fun a b hab => by rw [hM2, fil_ne (by omega), pm_ne (by omega)]
  have hc := hmt M2 (by rw [f48, hS])
  rw [wp_mbnd]
  rcases e with ⟨k, d⟩ | ⟨ans, β⟩
  case inr =>
    have hQ := hQA ans β rfl
    obtain ⟨r, M3, q0, rfl, q1, q2, q3, q4⟩ := hc
    rw [q0, wp_some, wp_mbnd]
    unfold f_X12_ends
    simp only [lit_0, lit_1, lit_2, lit_3, lit_4, lit_5, lit_6, lit_7, lit_8, lit_9, lit_10, lit_11, lit_12, lit_13, lit_14, lit_15, lit_16, lit_20, lit_23, lit_24, lit_31, lit_32, lit_39, lit_43, lit_45, lit_47, lit_48, lit_56, lit_57, lit_59, lit_60, lit_62, lit_63, lit_89, lit_92, lit_96, lit_97, lit_99, lit_100, lit_102, lit_103, lit_104, lit_110, lit_111, lit_115, lit_117, lit_194, lit_200, lit_644, lit_736, lit_999, lit_1000, lit_9999, lit_10000, lit_1000000000]
    rw [if_pos trivial, wp_mbnd, q3]
    refine wp_mono (m_changed (nx := 0) (αh := αh) (α := α) (K := K) hK (by rw [q2 6 (by decide), f47 6 (by decide), h6]) (fun k hk j hj => by rw [q4 12 51 (by decide), f51]; exact hh k hk j hj) (fun j hj => by rw [q4 12 49 (by decide)]; exact f49 j hj)) ?_
    rintro r M4 ⟨rfl, s1, s2, s3, s4⟩
    rw [wp_some]
    refine hQ M4 ⟨?_, ?_, s1, s2, fun i i1 i2 i3 => ?_, fun a b hab => ?_⟩
    · rw [s4 12 48 (by decide)]; exact q1
    · rw [s3 0 (by decide), q2 0 (by decide), f0]
    · rw [s3 i i2, q2 i i3, f47 i i1]
    · rw [s4 a b (by omega), q4 a b (by omega), fo a b (by omega)]
  case inl =>
    obtain ⟨hk, hQ⟩ := hQB k d rfl
    by_cases k20 : k < 20
    · have hc' : wp (op M2) fun r M1 => r = -nI k ∧ M1 12 48 = M2 12 48 ∧ (∀ j, j ≠ 16 → j ≠ 17 → j ≠ 18 → M1 12 47 j = M2 12 47 j) ∧ M1 12 47 16 = nI k ∧ M1 12 47 17 = nI d ∧ M1 12 47 18 = nI 0 ∧ ∀ a b, ¬ (a = 12 ∧ b = 47) → M1 a b = M2 a b := by
        unfold MT at hc
        simp only [k20, if_true] at hc
        exact hc
      obtain ⟨r, M3, q0, rfl, q1, q2, q3, q4, q5, q6⟩ := hc'
      rw [q0, wp_some, wp_mbnd]
      unfold f_X12_ends f_X12_fails
      simp only [lit_0, lit_1, lit_2, lit_3, lit_4, lit_5, lit_6, lit_7, lit_8, lit_9, lit_10, lit_11, lit_12, lit_13, lit_14, lit_15, lit_16, lit_20, lit_23, lit_24, lit_31, lit_32, lit_39, lit_43, lit_45, lit_47, lit_48, lit_56, lit_57, lit_59, lit_60, lit_62, lit_63, lit_89, lit_92, lit_96, lit_97, lit_99, lit_100, lit_102, lit_103, lit_104, lit_110, lit_111, lit_115, lit_117, lit_194, lit_200, lit_644, lit_736, lit_999, lit_1000, lit_9999, lit_10000, lit_1000000000]
      rw [if_neg (by rw [nI_Neq (by decide) (by omega) (by omega)]; exact id)]
      simp only [mlet_eq]
      rw [if_neg (by rw [nI_leN (by decide) (by omega) (by omega)]; exact id), wp_mbnd, wp_some, wp_some]
      rw [if_neg (by omega), if_neg (by omega)] at hQ
      refine hQ _ ⟨?_, ?_, ?_, fun a b hab => ?_⟩
      · rw [pm_ne (by decide), q1, f48]
      · rw [mup_at, if_pos (by decide)]
      · rw [if_pos k20]
        refine ⟨?_, ?_, ?_, fun i i0 i1 i2 i3 => ?_⟩
        · rw [mup_at, if_neg (by decide), q3]
        · rw [mup_at, if_neg (by decide), q4]
        · rw [mup_at, if_neg (by decide), q5]
        · rw [mup_at, if_neg (by omega), q2 i i1 i2 i3, f47 i i0]
      · rw [pm_ne (by omega), q6 a b (by omega), fo a b (by omega)]
    · have hc' : op M2 = some (nI (if k = 20 then 1 else c21), M2) := by
        unfold MT at hc
        simp only [k20, if_false] at hc
        exact hc
      rw [hc', wp_some, wp_mbnd]
      have hcd : (if k = 20 then 1 else if k = 21 then c21 else place) = (if k = 20 then 1 else c21) := by
        rcases (show k = 20 ∨ k = 21 by omega) with rfl | rfl <;> rfl
      rw [hcd] at hQ
      have hcp : 1 ≤ (if k = 20 then 1 else c21) ∧ (if k = 20 then 1 else c21) ≤ 9 := by split <;> omega
      revert hQ hcp
      generalize (if k = 20 then 1 else c21) = cd
      intro hQ hcp
      unfold f_X12_ends f_X12_fails
      simp only [lit_0, lit_1, lit_2, lit_3, lit_4, lit_5, lit_6, lit_7, lit_8, lit_9, lit_10, lit_11, lit_12, lit_13, lit_14, lit_15, lit_16, lit_20, lit_23, lit_24, lit_31, lit_32, lit_39, lit_43, lit_45, lit_47, lit_48, lit_56, lit_57, lit_59, lit_60, lit_62, lit_63, lit_89, lit_92, lit_96, lit_97, lit_99, lit_100, lit_102, lit_103, lit_104, lit_110, lit_111, lit_115, lit_117, lit_194, lit_200, lit_644, lit_736, lit_999, lit_1000, lit_9999, lit_10000, lit_1000000000]
      rw [if_neg (by rw [nI_eqE (by omega) (by decide)]; omega)]
      simp only [mlet_eq]
      rw [if_pos (by rw [nI_leE (by decide) (by omega)]; omega), wp_mbnd, wp_some, wp_some]
      refine hQ _ ⟨?_, ?_, ?_, fun a b hab => ?_⟩
      · rw [pm_ne (by decide), f48]
      · rw [mup_at, if_pos (by decide)]
      · rw [if_neg k20]
        intro i hi
        rw [mup_at, if_neg (by omega), f47 i hi]
      · rw [pm_ne (by omega), fo a b (by omega)]
