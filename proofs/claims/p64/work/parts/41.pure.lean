/-! the bounds hold behind each operation -/
theorem inv_add {α : Sp} {H ans : Nat} {β : Sp} (hi : Inv H α) (he : sAdd α = .inr (ans, β)) : Inv H β := by
  unfold sAdd at he
  split at he
  · cases he
  · cases he
    obtain ⟨⟨b0, b1, b2, b3, b4, b5, b6, b7, b8, b9, b10, b11, b14⟩, i1, i2, bs, bk, bn, bz, bt, bg, bl⟩ := hi
    have hc := crv_lt α (α 0)
    refine ⟨⟨?_, ?_, ?_, ?_, ?_, ?_, ?_, ?_, ?_, ?_, ?_, ?_, ?_⟩, fun h => ?_, fun h => ?_, fun k hk => ?_, fun k hk => ?_, fun i k h1 hk => ?_, fun k hk => ?_, ?_, fun k hk => ?_, fun k hk => ?_⟩
    · simp (disch := omega) only [mup_at, up_at, fil_at, ↓reduceIte, ↓Nat.reduceEqDiff, and_f, nt_e, nt_t, nl_t, nl_f, ne_t, ne_f, and_self, or_self, or_true, true_or, or_false, false_or, if_true, if_false, and_true, true_and, and_false, false_and, not_true, not_false_iff]
    · simp (disch := omega) only [mup_at, up_at, fil_at, ↓reduceIte, ↓Nat.reduceEqDiff, and_f, nt_e, nt_t, nl_t, nl_f, ne_t, ne_f, and_self, or_self, or_true, true_or, or_false, false_or, if_true, if_false, and_true, true_and, and_false, false_and, not_true, not_false_iff]
    · simp (disch := omega) only [mup_at, up_at, fil_at, ↓reduceIte, ↓Nat.reduceEqDiff, and_f, nt_e, nt_t, nl_t, nl_f, ne_t, ne_f, and_self, or_self, or_true, true_or, or_false, false_or, if_true, if_false, and_true, true_and, and_false, false_and, not_true, not_false_iff]
    · simp (disch := omega) only [mup_at, up_at, fil_at, ↓reduceIte, ↓Nat.reduceEqDiff, and_f, nt_e, nt_t, nl_t, nl_f, ne_t, ne_f, and_self, or_self, or_true, true_or, or_false, false_or, if_true, if_false, and_true, true_and, and_false, false_and, not_true, not_false_iff]
    · simp (disch := omega) only [mup_at, up_at, fil_at, ↓reduceIte, ↓Nat.reduceEqDiff, and_f, nt_e, nt_t, nl_t, nl_f, ne_t, ne_f, and_self, or_self, or_true, true_or, or_false, false_or, if_true, if_false, and_true, true_and, and_false, false_and, not_true, not_false_iff]
    · simp (disch := omega) only [mup_at, up_at, fil_at, ↓reduceIte, ↓Nat.reduceEqDiff, and_f, nt_e, nt_t, nl_t, nl_f, ne_t, ne_f, and_self, or_self, or_true, true_or, or_false, false_or, if_true, if_false, and_true, true_and, and_false, false_and, not_true, not_false_iff]
    · simp (disch := omega) only [mup_at, up_at, fil_at, ↓reduceIte, ↓Nat.reduceEqDiff, and_f, nt_e, nt_t, nl_t, nl_f, ne_t, ne_f, and_self, or_self, or_true, true_or, or_false, false_or, if_true, if_false, and_true, true_and, and_false, false_and, not_true, not_false_iff]
    · simp (disch := omega) only [mup_at, up_at, fil_at, ↓reduceIte, ↓Nat.reduceEqDiff, and_f, nt_e, nt_t, nl_t, nl_f, ne_t, ne_f, and_self, or_self, or_true, true_or, or_false, false_or, if_true, if_false, and_true, true_and, and_false, false_and, not_true, not_false_iff]
    · simp (disch := omega) only [mup_at, up_at, fil_at, ↓reduceIte, ↓Nat.reduceEqDiff, and_f, nt_e, nt_t, nl_t, nl_f, ne_t, ne_f, and_self, or_self, or_true, true_or, or_false, false_or, if_true, if_false, and_true, true_and, and_false, false_and, not_true, not_false_iff]
    · simp (disch := omega) only [mup_at, up_at, fil_at, ↓reduceIte, ↓Nat.reduceEqDiff, and_f, nt_e, nt_t, nl_t, nl_f, ne_t, ne_f, and_self, or_self, or_true, true_or, or_false, false_or, if_true, if_false, and_true, true_and, and_false, false_and, not_true, not_false_iff]
    · simp (disch := omega) only [mup_at, up_at, fil_at, ↓reduceIte, ↓Nat.reduceEqDiff, and_f, nt_e, nt_t, nl_t, nl_f, ne_t, ne_f, and_self, or_self, or_true, true_or, or_false, false_or, if_true, if_false, and_true, true_and, and_false, false_and, not_true, not_false_iff]
    · simp (disch := omega) only [mup_at, up_at, fil_at, ↓reduceIte, ↓Nat.reduceEqDiff, and_f, nt_e, nt_t, nl_t, nl_f, ne_t, ne_f, and_self, or_self, or_true, true_or, or_false, false_or, if_true, if_false, and_true, true_and, and_false, false_and, not_true, not_false_iff]
    · simp (disch := omega) only [mup_at, up_at, fil_at, ↓reduceIte, ↓Nat.reduceEqDiff, and_f, nt_e, nt_t, nl_t, nl_f, ne_t, ne_f, and_self, or_self, or_true, true_or, or_false, false_or, if_true, if_false, and_true, true_and, and_false, false_and, not_true, not_false_iff]
    · simp (disch := omega) only [mup_at, up_at, fil_at, ↓reduceIte, ↓Nat.reduceEqDiff, and_f, nt_e, nt_t, nl_t, nl_f, ne_t, ne_f, and_self, or_self, or_true, true_or, or_false, false_or, if_true, if_false, and_true, true_and, and_false, false_and, not_true, not_false_iff] at h
      try simp (disch := omega) only [mup_at, up_at, fil_at, ↓reduceIte, ↓Nat.reduceEqDiff, and_f, nt_e, nt_t, nl_t, nl_f, ne_t, ne_f, and_self, or_self, or_true, true_or, or_false, false_or, if_true, if_false, and_true, true_and, and_false, false_and, not_true, not_false_iff]; try exact i1 h
    · simp (disch := omega) only [mup_at, up_at, fil_at, ↓reduceIte, ↓Nat.reduceEqDiff, and_f, nt_e, nt_t, nl_t, nl_f, ne_t, ne_f, and_self, or_self, or_true, true_or, or_false, false_or, if_true, if_false, and_true, true_and, and_false, false_and, not_true, not_false_iff] at h
      try simp (disch := omega) only [mup_at, up_at, fil_at, ↓reduceIte, ↓Nat.reduceEqDiff, and_f, nt_e, nt_t, nl_t, nl_f, ne_t, ne_f, and_self, or_self, or_true, true_or, or_false, false_or, if_true, if_false, and_true, true_and, and_false, false_and, not_true, not_false_iff]; try exact i2 h
    · by_cases q : k = α 0
      · subst q
        simp (disch := omega) only [mup_at, up_at, fil_at, ↓reduceIte, ↓Nat.reduceEqDiff, and_f, nt_e, nt_t, nl_t, nl_f, ne_t, ne_f, and_self, or_self, or_true, true_or, or_false, false_or, if_true, if_false, and_true, true_and, and_false, false_and, not_true, not_false_iff]
        try exact hc
      · simp (disch := omega) only [mup_at, up_at, fil_at, ↓reduceIte, ↓Nat.reduceEqDiff, and_f, nt_e, nt_t, nl_t, nl_f, ne_t, ne_f, and_self, or_self, or_true, true_or, or_false, false_or, if_true, if_false, and_true, true_and, and_false, false_and, not_true, not_false_iff]
        try exact bs k hk
    · simp (disch := omega) only [mup_at, up_at, fil_at, ↓reduceIte, ↓Nat.reduceEqDiff, and_f, nt_e, nt_t, nl_t, nl_f, ne_t, ne_f, and_self, or_self, or_true, true_or, or_false, false_or, if_true, if_false, and_true, true_and, and_false, false_and, not_true, not_false_iff] at hk
      try simp (disch := omega) only [mup_at, up_at, fil_at, ↓reduceIte, ↓Nat.reduceEqDiff, and_f, nt_e, nt_t, nl_t, nl_f, ne_t, ne_f, and_self, or_self, or_true, true_or, or_false, false_or, if_true, if_false, and_true, true_and, and_false, false_and, not_true, not_false_iff]
      have := bk k hk
      omega
    · simp (disch := omega) only [mup_at, up_at, fil_at, ↓reduceIte, ↓Nat.reduceEqDiff, and_f, nt_e, nt_t, nl_t, nl_f, ne_t, ne_f, and_self, or_self, or_true, true_or, or_false, false_or, if_true, if_false, and_true, true_and, and_false, false_and, not_true, not_false_iff] at hk
      try simp (disch := omega) only [mup_at, up_at, fil_at, ↓reduceIte, ↓Nat.reduceEqDiff, and_f, nt_e, nt_t, nl_t, nl_f, ne_t, ne_f, and_self, or_self, or_true, true_or, or_false, false_or, if_true, if_false, and_true, true_and, and_false, false_and, not_true, not_false_iff]
      try exact bn i k h1 hk
    · simp (disch := omega) only [mup_at, up_at, fil_at, ↓reduceIte, ↓Nat.reduceEqDiff, and_f, nt_e, nt_t, nl_t, nl_f, ne_t, ne_f, and_self, or_self, or_true, true_or, or_false, false_or, if_true, if_false, and_true, true_and, and_false, false_and, not_true, not_false_iff]
      try exact bz k hk
    · simp (disch := omega) only [mup_at, up_at, fil_at, ↓reduceIte, ↓Nat.reduceEqDiff, and_f, nt_e, nt_t, nl_t, nl_f, ne_t, ne_f, and_self, or_self, or_true, true_or, or_false, false_or, if_true, if_false, and_true, true_and, and_false, false_and, not_true, not_false_iff]
      try exact bt
    · simp (disch := omega) only [mup_at, up_at, fil_at, ↓reduceIte, ↓Nat.reduceEqDiff, and_f, nt_e, nt_t, nl_t, nl_f, ne_t, ne_f, and_self, or_self, or_true, true_or, or_false, false_or, if_true, if_false, and_true, true_and, and_false, false_and, not_true, not_false_iff] at hk
      try simp (disch := omega) only [mup_at, up_at, fil_at, ↓reduceIte, ↓Nat.reduceEqDiff, and_f, nt_e, nt_t, nl_t, nl_f, ne_t, ne_f, and_self, or_self, or_true, true_or, or_false, false_or, if_true, if_false, and_true, true_and, and_false, false_and, not_true, not_false_iff]
      try exact bg k hk
    · simp (disch := omega) only [mup_at, up_at, fil_at, ↓reduceIte, ↓Nat.reduceEqDiff, and_f, nt_e, nt_t, nl_t, nl_f, ne_t, ne_f, and_self, or_self, or_true, true_or, or_false, false_or, if_true, if_false, and_true, true_and, and_false, false_and, not_true, not_false_iff] at hk
      try simp (disch := omega) only [mup_at, up_at, fil_at, ↓reduceIte, ↓Nat.reduceEqDiff, and_f, nt_e, nt_t, nl_t, nl_f, ne_t, ne_f, and_self, or_self, or_true, true_or, or_false, false_or, if_true, if_false, and_true, true_and, and_false, false_and, not_true, not_false_iff]
      try exact bl k hk
theorem inv_seal {α : Sp} {H ans : Nat} {β : Sp} {a1 a2 a3 a4 : Int32} (hi : Inv H α) (he : sSeal α a1 a2 a3 a4 = .inr (ans, β)) : Inv H β := by
  unfold sSeal at he
  rcases idx_c a1 97 (by decide) with ⟨n1, h1, rfl, e1⟩ | ⟨e1, -⟩
  case inr => rw [e1] at he; cases he
  rcases idx_c a2 97 (by decide) with ⟨n2, h2, rfl, e2⟩ | ⟨e2, -⟩
  case inr => rw [e1, e2] at he; cases he
  rcases idx_c a3 97 (by decide) with ⟨n3, h3, rfl, e3⟩ | ⟨e3, -⟩
  case inr => rw [e1, e2, e3] at he; cases he
  rcases rng1_c a4 3 with ⟨n4, h4, h4', rfl, e4⟩ | ⟨e4, h4⟩
  case inr => rw [e1, e2, e3, e4] at he; cases he
  rw [e1, e2, e3, e4, if_pos (show (true && (true && (true && true))) = true from rfl), nI_nat (show n1 < 2147483648 by omega), nI_nat (show n2 < 2147483648 by omega), nI_nat (show n3 < 2147483648 by omega), nI_nat (show n4 < 2147483648 by omega)] at he
  split at he
  · cases he
  · cases he
    obtain ⟨⟨b0, b1, b2, b3, b4, b5, b6, b7, b8, b9, b10, b11, b14⟩, i1, i2, bs, bk, bn, bz, bt, bg, bl⟩ := hi
    have c1 : (if 1 < n4 then n2 else 0) ≤ 96 := by split <;> omega
    have c2 : (if 2 < n4 then n3 else 0) ≤ 96 := by split <;> omega
    revert c1 c2
    generalize (if 1 < n4 then n2 else 0) = d1
    generalize (if 2 < n4 then n3 else 0) = d2
    intro c1 c2
    refine ⟨⟨?_, ?_, ?_, ?_, ?_, ?_, ?_, ?_, ?_, ?_, ?_, ?_, ?_⟩, fun h => ?_, fun h => ?_, fun k hk => ?_, fun k hk => ?_, fun i k h1 hk => ?_, fun k hk => ?_, ?_, fun k hk => ?_, fun k hk => ?_⟩
    · simp (disch := omega) only [sealSp_at, ↓reduceIte, ↓Nat.reduceEqDiff, and_f, nt_e, nt_t, nl_t, nl_f, ne_t, ne_f, and_self, or_self, or_true, true_or, or_false, false_or, if_true, if_false, and_true, true_and, and_false, false_and, not_true, not_false_iff]
    · simp (disch := omega) only [sealSp_at, ↓reduceIte, ↓Nat.reduceEqDiff, and_f, nt_e, nt_t, nl_t, nl_f, ne_t, ne_f, and_self, or_self, or_true, true_or, or_false, false_or, if_true, if_false, and_true, true_and, and_false, false_and, not_true, not_false_iff]
    · simp (disch := omega) only [sealSp_at, ↓reduceIte, ↓Nat.reduceEqDiff, and_f, nt_e, nt_t, nl_t, nl_f, ne_t, ne_f, and_self, or_self, or_true, true_or, or_false, false_or, if_true, if_false, and_true, true_and, and_false, false_and, not_true, not_false_iff]
    · simp (disch := omega) only [sealSp_at, ↓reduceIte, ↓Nat.reduceEqDiff, and_f, nt_e, nt_t, nl_t, nl_f, ne_t, ne_f, and_self, or_self, or_true, true_or, or_false, false_or, if_true, if_false, and_true, true_and, and_false, false_and, not_true, not_false_iff]
    · simp (disch := omega) only [sealSp_at, ↓reduceIte, ↓Nat.reduceEqDiff, and_f, nt_e, nt_t, nl_t, nl_f, ne_t, ne_f, and_self, or_self, or_true, true_or, or_false, false_or, if_true, if_false, and_true, true_and, and_false, false_and, not_true, not_false_iff]
    · simp (disch := omega) only [sealSp_at, ↓reduceIte, ↓Nat.reduceEqDiff, and_f, nt_e, nt_t, nl_t, nl_f, ne_t, ne_f, and_self, or_self, or_true, true_or, or_false, false_or, if_true, if_false, and_true, true_and, and_false, false_and, not_true, not_false_iff]
    · simp (disch := omega) only [sealSp_at, ↓reduceIte, ↓Nat.reduceEqDiff, and_f, nt_e, nt_t, nl_t, nl_f, ne_t, ne_f, and_self, or_self, or_true, true_or, or_false, false_or, if_true, if_false, and_true, true_and, and_false, false_and, not_true, not_false_iff]
    · simp (disch := omega) only [sealSp_at, ↓reduceIte, ↓Nat.reduceEqDiff, and_f, nt_e, nt_t, nl_t, nl_f, ne_t, ne_f, and_self, or_self, or_true, true_or, or_false, false_or, if_true, if_false, and_true, true_and, and_false, false_and, not_true, not_false_iff]
    · simp (disch := omega) only [sealSp_at, ↓reduceIte, ↓Nat.reduceEqDiff, and_f, nt_e, nt_t, nl_t, nl_f, ne_t, ne_f, and_self, or_self, or_true, true_or, or_false, false_or, if_true, if_false, and_true, true_and, and_false, false_and, not_true, not_false_iff]
    · simp (disch := omega) only [sealSp_at, ↓reduceIte, ↓Nat.reduceEqDiff, and_f, nt_e, nt_t, nl_t, nl_f, ne_t, ne_f, and_self, or_self, or_true, true_or, or_false, false_or, if_true, if_false, and_true, true_and, and_false, false_and, not_true, not_false_iff]
    · simp (disch := omega) only [sealSp_at, ↓reduceIte, ↓Nat.reduceEqDiff, and_f, nt_e, nt_t, nl_t, nl_f, ne_t, ne_f, and_self, or_self, or_true, true_or, or_false, false_or, if_true, if_false, and_true, true_and, and_false, false_and, not_true, not_false_iff]
    · simp (disch := omega) only [sealSp_at, ↓reduceIte, ↓Nat.reduceEqDiff, and_f, nt_e, nt_t, nl_t, nl_f, ne_t, ne_f, and_self, or_self, or_true, true_or, or_false, false_or, if_true, if_false, and_true, true_and, and_false, false_and, not_true, not_false_iff]
    · simp (disch := omega) only [sealSp_at, ↓reduceIte, ↓Nat.reduceEqDiff, and_f, nt_e, nt_t, nl_t, nl_f, ne_t, ne_f, and_self, or_self, or_true, true_or, or_false, false_or, if_true, if_false, and_true, true_and, and_false, false_and, not_true, not_false_iff]
    · simp (disch := omega) only [sealSp_at, ↓reduceIte, ↓Nat.reduceEqDiff, and_f, nt_e, nt_t, nl_t, nl_f, ne_t, ne_f, and_self, or_self, or_true, true_or, or_false, false_or, if_true, if_false, and_true, true_and, and_false, false_and, not_true, not_false_iff] at h
    · simp (disch := omega) only [sealSp_at, ↓reduceIte, ↓Nat.reduceEqDiff, and_f, nt_e, nt_t, nl_t, nl_f, ne_t, ne_f, and_self, or_self, or_true, true_or, or_false, false_or, if_true, if_false, and_true, true_and, and_false, false_and, not_true, not_false_iff]
    · by_cases q : k < α 0
      · simp (disch := omega) only [sealSp_at, ↓reduceIte, ↓Nat.reduceEqDiff, and_f, nt_e, nt_t, nl_t, nl_f, ne_t, ne_f, and_self, or_self, or_true, true_or, or_false, false_or, if_true, if_false, and_true, true_and, and_false, false_and, not_true, not_false_iff]
        try omega
      · simp (disch := omega) only [sealSp_at, ↓reduceIte, ↓Nat.reduceEqDiff, and_f, nt_e, nt_t, nl_t, nl_f, ne_t, ne_f, and_self, or_self, or_true, true_or, or_false, false_or, if_true, if_false, and_true, true_and, and_false, false_and, not_true, not_false_iff]
        try exact bs k hk
    · simp (disch := omega) only [sealSp_at, ↓reduceIte, ↓Nat.reduceEqDiff, and_f, nt_e, nt_t, nl_t, nl_f, ne_t, ne_f, and_self, or_self, or_true, true_or, or_false, false_or, if_true, if_false, and_true, true_and, and_false, false_and, not_true, not_false_iff] at hk
    · simp (disch := omega) only [sealSp_at, ↓reduceIte, ↓Nat.reduceEqDiff, and_f, nt_e, nt_t, nl_t, nl_f, ne_t, ne_f, and_self, or_self, or_true, true_or, or_false, false_or, if_true, if_false, and_true, true_and, and_false, false_and, not_true, not_false_iff] at hk
    · simp (disch := omega) only [sealSp_at, ↓reduceIte, ↓Nat.reduceEqDiff, and_f, nt_e, nt_t, nl_t, nl_f, ne_t, ne_f, and_self, or_self, or_true, true_or, or_false, false_or, if_true, if_false, and_true, true_and, and_false, false_and, not_true, not_false_iff]
      try exact bz k hk
    · simp (disch := omega) only [sealSp_at, ↓reduceIte, ↓Nat.reduceEqDiff, and_f, nt_e, nt_t, nl_t, nl_f, ne_t, ne_f, and_self, or_self, or_true, true_or, or_false, false_or, if_true, if_false, and_true, true_and, and_false, false_and, not_true, not_false_iff]
      try exact bt
    · simp (disch := omega) only [sealSp_at, ↓reduceIte, ↓Nat.reduceEqDiff, and_f, nt_e, nt_t, nl_t, nl_f, ne_t, ne_f, and_self, or_self, or_true, true_or, or_false, false_or, if_true, if_false, and_true, true_and, and_false, false_and, not_true, not_false_iff] at hk
      try simp (disch := omega) only [sealSp_at, ↓reduceIte, ↓Nat.reduceEqDiff, and_f, nt_e, nt_t, nl_t, nl_f, ne_t, ne_f, and_self, or_self, or_true, true_or, or_false, false_or, if_true, if_false, and_true, true_and, and_false, false_and, not_true, not_false_iff]
      try exact bg k hk
    · simp (disch := omega) only [sealSp_at, ↓reduceIte, ↓Nat.reduceEqDiff, and_f, nt_e, nt_t, nl_t, nl_f, ne_t, ne_f, and_self, or_self, or_true, true_or, or_false, false_or, if_true, if_false, and_true, true_and, and_false, false_and, not_true, not_false_iff] at hk
      try simp (disch := omega) only [sealSp_at, ↓reduceIte, ↓Nat.reduceEqDiff, and_f, nt_e, nt_t, nl_t, nl_f, ne_t, ne_f, and_self, or_self, or_true, true_or, or_false, false_or, if_true, if_false, and_true, true_and, and_false, false_and, not_true, not_false_iff]
      try exact bl k hk
theorem inv_share {α : Sp} {H ans : Nat} {β : Sp} {a1 a2 : Int32} (hi : Inv H α) (he : sShare α a1 a2 = .inr (ans, β)) : Inv H β := by
  unfold sShare at he
  obtain ⟨⟨b0, b1, b2, b3, b4, b5, b6, b7, b8, b9, b10, b11, b14⟩, i1, i2, bs, bk, bn, bz, bt, bg, bl⟩ := hi
  rcases idx_c a1 (α 0) (by omega) with ⟨n1, h1, rfl, e1⟩ | ⟨e1, -⟩
  case inr => rw [e1] at he; cases he
  rcases idx_c a2 97 (by decide) with ⟨n2, h2, rfl, e2⟩ | ⟨e2, -⟩
  case inr => rw [e1, e2] at he; cases he
  rw [e1, e2, if_pos rfl, if_pos rfl, nI_nat (show n1 < 2147483648 by omega), nI_nat (show n2 < 2147483648 by omega)] at he
  split at he
  · cases he
  · cases he
    refine ⟨⟨?_, ?_, ?_, ?_, ?_, ?_, ?_, ?_, ?_, ?_, ?_, ?_, ?_⟩, fun h => ?_, fun h => ?_, fun k hk => ?_, fun k hk => ?_, fun i k h1 hk => ?_, fun k hk => ?_, ?_, fun k hk => ?_, fun k hk => ?_⟩
    · simp (disch := omega) only [mup_at, up_at, fil_at, ↓reduceIte, ↓Nat.reduceEqDiff, and_f, nt_e, nt_t, nl_t, nl_f, ne_t, ne_f, and_self, or_self, or_true, true_or, or_false, false_or, if_true, if_false, and_true, true_and, and_false, false_and, not_true, not_false_iff]
    · simp (disch := omega) only [mup_at, up_at, fil_at, ↓reduceIte, ↓Nat.reduceEqDiff, and_f, nt_e, nt_t, nl_t, nl_f, ne_t, ne_f, and_self, or_self, or_true, true_or, or_false, false_or, if_true, if_false, and_true, true_and, and_false, false_and, not_true, not_false_iff]
    · simp (disch := omega) only [mup_at, up_at, fil_at, ↓reduceIte, ↓Nat.reduceEqDiff, and_f, nt_e, nt_t, nl_t, nl_f, ne_t, ne_f, and_self, or_self, or_true, true_or, or_false, false_or, if_true, if_false, and_true, true_and, and_false, false_and, not_true, not_false_iff]
    · simp (disch := omega) only [mup_at, up_at, fil_at, ↓reduceIte, ↓Nat.reduceEqDiff, and_f, nt_e, nt_t, nl_t, nl_f, ne_t, ne_f, and_self, or_self, or_true, true_or, or_false, false_or, if_true, if_false, and_true, true_and, and_false, false_and, not_true, not_false_iff]
    · simp (disch := omega) only [mup_at, up_at, fil_at, ↓reduceIte, ↓Nat.reduceEqDiff, and_f, nt_e, nt_t, nl_t, nl_f, ne_t, ne_f, and_self, or_self, or_true, true_or, or_false, false_or, if_true, if_false, and_true, true_and, and_false, false_and, not_true, not_false_iff]
    · simp (disch := omega) only [mup_at, up_at, fil_at, ↓reduceIte, ↓Nat.reduceEqDiff, and_f, nt_e, nt_t, nl_t, nl_f, ne_t, ne_f, and_self, or_self, or_true, true_or, or_false, false_or, if_true, if_false, and_true, true_and, and_false, false_and, not_true, not_false_iff]
    · simp (disch := omega) only [mup_at, up_at, fil_at, ↓reduceIte, ↓Nat.reduceEqDiff, and_f, nt_e, nt_t, nl_t, nl_f, ne_t, ne_f, and_self, or_self, or_true, true_or, or_false, false_or, if_true, if_false, and_true, true_and, and_false, false_and, not_true, not_false_iff]
    · simp (disch := omega) only [mup_at, up_at, fil_at, ↓reduceIte, ↓Nat.reduceEqDiff, and_f, nt_e, nt_t, nl_t, nl_f, ne_t, ne_f, and_self, or_self, or_true, true_or, or_false, false_or, if_true, if_false, and_true, true_and, and_false, false_and, not_true, not_false_iff]
    · simp (disch := omega) only [mup_at, up_at, fil_at, ↓reduceIte, ↓Nat.reduceEqDiff, and_f, nt_e, nt_t, nl_t, nl_f, ne_t, ne_f, and_self, or_self, or_true, true_or, or_false, false_or, if_true, if_false, and_true, true_and, and_false, false_and, not_true, not_false_iff]
    · simp (disch := omega) only [mup_at, up_at, fil_at, ↓reduceIte, ↓Nat.reduceEqDiff, and_f, nt_e, nt_t, nl_t, nl_f, ne_t, ne_f, and_self, or_self, or_true, true_or, or_false, false_or, if_true, if_false, and_true, true_and, and_false, false_and, not_true, not_false_iff]
    · simp (disch := omega) only [mup_at, up_at, fil_at, ↓reduceIte, ↓Nat.reduceEqDiff, and_f, nt_e, nt_t, nl_t, nl_f, ne_t, ne_f, and_self, or_self, or_true, true_or, or_false, false_or, if_true, if_false, and_true, true_and, and_false, false_and, not_true, not_false_iff]
    · simp (disch := omega) only [mup_at, up_at, fil_at, ↓reduceIte, ↓Nat.reduceEqDiff, and_f, nt_e, nt_t, nl_t, nl_f, ne_t, ne_f, and_self, or_self, or_true, true_or, or_false, false_or, if_true, if_false, and_true, true_and, and_false, false_and, not_true, not_false_iff]
    · simp (disch := omega) only [mup_at, up_at, fil_at, ↓reduceIte, ↓Nat.reduceEqDiff, and_f, nt_e, nt_t, nl_t, nl_f, ne_t, ne_f, and_self, or_self, or_true, true_or, or_false, false_or, if_true, if_false, and_true, true_and, and_false, false_and, not_true, not_false_iff]
    · simp (disch := omega) only [mup_at, up_at, fil_at, ↓reduceIte, ↓Nat.reduceEqDiff, and_f, nt_e, nt_t, nl_t, nl_f, ne_t, ne_f, and_self, or_self, or_true, true_or, or_false, false_or, if_true, if_false, and_true, true_and, and_false, false_and, not_true, not_false_iff] at h
      try simp (disch := omega) only [mup_at, up_at, fil_at, ↓reduceIte, ↓Nat.reduceEqDiff, and_f, nt_e, nt_t, nl_t, nl_f, ne_t, ne_f, and_self, or_self, or_true, true_or, or_false, false_or, if_true, if_false, and_true, true_and, and_false, false_and, not_true, not_false_iff]; try exact i1 h
    · simp (disch := omega) only [mup_at, up_at, fil_at, ↓reduceIte, ↓Nat.reduceEqDiff, and_f, nt_e, nt_t, nl_t, nl_f, ne_t, ne_f, and_self, or_self, or_true, true_or, or_false, false_or, if_true, if_false, and_true, true_and, and_false, false_and, not_true, not_false_iff] at h
      try simp (disch := omega) only [mup_at, up_at, fil_at, ↓reduceIte, ↓Nat.reduceEqDiff, and_f, nt_e, nt_t, nl_t, nl_f, ne_t, ne_f, and_self, or_self, or_true, true_or, or_false, false_or, if_true, if_false, and_true, true_and, and_false, false_and, not_true, not_false_iff]; try exact i2 h
    · by_cases q : k = n1
      · subst q
        simp (disch := omega) only [mup_at, up_at, fil_at, ↓reduceIte, ↓Nat.reduceEqDiff, and_f, nt_e, nt_t, nl_t, nl_f, ne_t, ne_f, and_self, or_self, or_true, true_or, or_false, false_or, if_true, if_false, and_true, true_and, and_false, false_and, not_true, not_false_iff]
      · simp (disch := omega) only [mup_at, up_at, fil_at, ↓reduceIte, ↓Nat.reduceEqDiff, and_f, nt_e, nt_t, nl_t, nl_f, ne_t, ne_f, and_self, or_self, or_true, true_or, or_false, false_or, if_true, if_false, and_true, true_and, and_false, false_and, not_true, not_false_iff]
        try exact bs k hk
    · simp (disch := omega) only [mup_at, up_at, fil_at, ↓reduceIte, ↓Nat.reduceEqDiff, and_f, nt_e, nt_t, nl_t, nl_f, ne_t, ne_f, and_self, or_self, or_true, true_or, or_false, false_or, if_true, if_false, and_true, true_and, and_false, false_and, not_true, not_false_iff] at hk
      try simp (disch := omega) only [mup_at, up_at, fil_at, ↓reduceIte, ↓Nat.reduceEqDiff, and_f, nt_e, nt_t, nl_t, nl_f, ne_t, ne_f, and_self, or_self, or_true, true_or, or_false, false_or, if_true, if_false, and_true, true_and, and_false, false_and, not_true, not_false_iff]
      try exact bk k hk
    · simp (disch := omega) only [mup_at, up_at, fil_at, ↓reduceIte, ↓Nat.reduceEqDiff, and_f, nt_e, nt_t, nl_t, nl_f, ne_t, ne_f, and_self, or_self, or_true, true_or, or_false, false_or, if_true, if_false, and_true, true_and, and_false, false_and, not_true, not_false_iff] at hk
      try simp (disch := omega) only [mup_at, up_at, fil_at, ↓reduceIte, ↓Nat.reduceEqDiff, and_f, nt_e, nt_t, nl_t, nl_f, ne_t, ne_f, and_self, or_self, or_true, true_or, or_false, false_or, if_true, if_false, and_true, true_and, and_false, false_and, not_true, not_false_iff]
      try exact bn i k h1 hk
    · simp (disch := omega) only [mup_at, up_at, fil_at, ↓reduceIte, ↓Nat.reduceEqDiff, and_f, nt_e, nt_t, nl_t, nl_f, ne_t, ne_f, and_self, or_self, or_true, true_or, or_false, false_or, if_true, if_false, and_true, true_and, and_false, false_and, not_true, not_false_iff]
      try exact bz k hk
    · simp (disch := omega) only [mup_at, up_at, fil_at, ↓reduceIte, ↓Nat.reduceEqDiff, and_f, nt_e, nt_t, nl_t, nl_f, ne_t, ne_f, and_self, or_self, or_true, true_or, or_false, false_or, if_true, if_false, and_true, true_and, and_false, false_and, not_true, not_false_iff]
      try exact bt
    · simp (disch := omega) only [mup_at, up_at, fil_at, ↓reduceIte, ↓Nat.reduceEqDiff, and_f, nt_e, nt_t, nl_t, nl_f, ne_t, ne_f, and_self, or_self, or_true, true_or, or_false, false_or, if_true, if_false, and_true, true_and, and_false, false_and, not_true, not_false_iff] at hk
      try simp (disch := omega) only [mup_at, up_at, fil_at, ↓reduceIte, ↓Nat.reduceEqDiff, and_f, nt_e, nt_t, nl_t, nl_f, ne_t, ne_f, and_self, or_self, or_true, true_or, or_false, false_or, if_true, if_false, and_true, true_and, and_false, false_and, not_true, not_false_iff]
      try exact bg k hk
    · simp (disch := omega) only [mup_at, up_at, fil_at, ↓reduceIte, ↓Nat.reduceEqDiff, and_f, nt_e, nt_t, nl_t, nl_f, ne_t, ne_f, and_self, or_self, or_true, true_or, or_false, false_or, if_true, if_false, and_true, true_and, and_false, false_and, not_true, not_false_iff] at hk
      try simp (disch := omega) only [mup_at, up_at, fil_at, ↓reduceIte, ↓Nat.reduceEqDiff, and_f, nt_e, nt_t, nl_t, nl_f, ne_t, ne_f, and_self, or_self, or_true, true_or, or_false, false_or, if_true, if_false, and_true, true_and, and_false, false_and, not_true, not_false_iff]
      try exact bl k hk
theorem inv_give {α : Sp} {H ans : Nat} {β : Sp} {a1 : Int32} (hi : Inv H α) (he : sGive α a1 = .inr (ans, β)) : Inv H β := by
  have hlt := fun h => shown_lt (h := h) hi
  unfold sGive at he
  obtain ⟨⟨b0, b1, b2, b3, b4, b5, b6, b7, b8, b9, b10, b11, b14⟩, i1, i2, bs, bk, bn, bz, bt, bg, bl⟩ := hi
  rcases idx_c a1 (α 0) (by omega) with ⟨n1, h1, rfl, e1⟩ | ⟨e1, -⟩
  case inr => rw [e1] at he; cases he
  rw [e1, if_pos rfl, nI_nat (show n1 < 2147483648 by omega)] at he
  split at he
  · cases he
  · split at he
    · cases he
    · rename_i q1 q2 q3
      cases he
      have hn := pl_no q3
      have h9 := hlt n1 h1 hn
      refine ⟨⟨?_, ?_, ?_, ?_, ?_, ?_, ?_, ?_, ?_, ?_, ?_, ?_, ?_⟩, fun h => ?_, fun h => ?_, fun k hk => ?_, fun k hk => ?_, fun i k h1 hk => ?_, fun k hk => ?_, ?_, fun k hk => ?_, fun k hk => ?_⟩
      · simp (disch := omega) only [mup_at, up_at, fil_at, ↓reduceIte, ↓Nat.reduceEqDiff, and_f, nt_e, nt_t, nl_t, nl_f, ne_t, ne_f, and_self, or_self, or_true, true_or, or_false, false_or, if_true, if_false, and_true, true_and, and_false, false_and, not_true, not_false_iff]
      · simp (disch := omega) only [mup_at, up_at, fil_at, ↓reduceIte, ↓Nat.reduceEqDiff, and_f, nt_e, nt_t, nl_t, nl_f, ne_t, ne_f, and_self, or_self, or_true, true_or, or_false, false_or, if_true, if_false, and_true, true_and, and_false, false_and, not_true, not_false_iff]
      · simp (disch := omega) only [mup_at, up_at, fil_at, ↓reduceIte, ↓Nat.reduceEqDiff, and_f, nt_e, nt_t, nl_t, nl_f, ne_t, ne_f, and_self, or_self, or_true, true_or, or_false, false_or, if_true, if_false, and_true, true_and, and_false, false_and, not_true, not_false_iff]
      · simp (disch := omega) only [mup_at, up_at, fil_at, ↓reduceIte, ↓Nat.reduceEqDiff, and_f, nt_e, nt_t, nl_t, nl_f, ne_t, ne_f, and_self, or_self, or_true, true_or, or_false, false_or, if_true, if_false, and_true, true_and, and_false, false_and, not_true, not_false_iff]
      · simp (disch := omega) only [mup_at, up_at, fil_at, ↓reduceIte, ↓Nat.reduceEqDiff, and_f, nt_e, nt_t, nl_t, nl_f, ne_t, ne_f, and_self, or_self, or_true, true_or, or_false, false_or, if_true, if_false, and_true, true_and, and_false, false_and, not_true, not_false_iff]
      · simp (disch := omega) only [mup_at, up_at, fil_at, ↓reduceIte, ↓Nat.reduceEqDiff, and_f, nt_e, nt_t, nl_t, nl_f, ne_t, ne_f, and_self, or_self, or_true, true_or, or_false, false_or, if_true, if_false, and_true, true_and, and_false, false_and, not_true, not_false_iff]
      · simp (disch := omega) only [mup_at, up_at, fil_at, ↓reduceIte, ↓Nat.reduceEqDiff, and_f, nt_e, nt_t, nl_t, nl_f, ne_t, ne_f, and_self, or_self, or_true, true_or, or_false, false_or, if_true, if_false, and_true, true_and, and_false, false_and, not_true, not_false_iff]
      · simp (disch := omega) only [mup_at, up_at, fil_at, ↓reduceIte, ↓Nat.reduceEqDiff, and_f, nt_e, nt_t, nl_t, nl_f, ne_t, ne_f, and_self, or_self, or_true, true_or, or_false, false_or, if_true, if_false, and_true, true_and, and_false, false_and, not_true, not_false_iff]
      · simp (disch := omega) only [mup_at, up_at, fil_at, ↓reduceIte, ↓Nat.reduceEqDiff, and_f, nt_e, nt_t, nl_t, nl_f, ne_t, ne_f, and_self, or_self, or_true, true_or, or_false, false_or, if_true, if_false, and_true, true_and, and_false, false_and, not_true, not_false_iff]
      · simp (disch := omega) only [mup_at, up_at, fil_at, ↓reduceIte, ↓Nat.reduceEqDiff, and_f, nt_e, nt_t, nl_t, nl_f, ne_t, ne_f, and_self, or_self, or_true, true_or, or_false, false_or, if_true, if_false, and_true, true_and, and_false, false_and, not_true, not_false_iff]
      · simp (disch := omega) only [mup_at, up_at, fil_at, ↓reduceIte, ↓Nat.reduceEqDiff, and_f, nt_e, nt_t, nl_t, nl_f, ne_t, ne_f, and_self, or_self, or_true, true_or, or_false, false_or, if_true, if_false, and_true, true_and, and_false, false_and, not_true, not_false_iff]
      · simp (disch := omega) only [mup_at, up_at, fil_at, ↓reduceIte, ↓Nat.reduceEqDiff, and_f, nt_e, nt_t, nl_t, nl_f, ne_t, ne_f, and_self, or_self, or_true, true_or, or_false, false_or, if_true, if_false, and_true, true_and, and_false, false_and, not_true, not_false_iff]
      · simp (disch := omega) only [mup_at, up_at, fil_at, ↓reduceIte, ↓Nat.reduceEqDiff, and_f, nt_e, nt_t, nl_t, nl_f, ne_t, ne_f, and_self, or_self, or_true, true_or, or_false, false_or, if_true, if_false, and_true, true_and, and_false, false_and, not_true, not_false_iff]
      · simp (disch := omega) only [mup_at, up_at, fil_at, ↓reduceIte, ↓Nat.reduceEqDiff, and_f, nt_e, nt_t, nl_t, nl_f, ne_t, ne_f, and_self, or_self, or_true, true_or, or_false, false_or, if_true, if_false, and_true, true_and, and_false, false_and, not_true, not_false_iff] at h
        try simp (disch := omega) only [mup_at, up_at, fil_at, ↓reduceIte, ↓Nat.reduceEqDiff, and_f, nt_e, nt_t, nl_t, nl_f, ne_t, ne_f, and_self, or_self, or_true, true_or, or_false, false_or, if_true, if_false, and_true, true_and, and_false, false_and, not_true, not_false_iff]
      · simp (disch := omega) only [mup_at, up_at, fil_at, ↓reduceIte, ↓Nat.reduceEqDiff, and_f, nt_e, nt_t, nl_t, nl_f, ne_t, ne_f, and_self, or_self, or_true, true_or, or_false, false_or, if_true, if_false, and_true, true_and, and_false, false_and, not_true, not_false_iff] at h
        try simp (disch := omega) only [mup_at, up_at, fil_at, ↓reduceIte, ↓Nat.reduceEqDiff, and_f, nt_e, nt_t, nl_t, nl_f, ne_t, ne_f, and_self, or_self, or_true, true_or, or_false, false_or, if_true, if_false, and_true, true_and, and_false, false_and, not_true, not_false_iff]; try exact i2 h
      · simp (disch := omega) only [mup_at, up_at, fil_at, ↓reduceIte, ↓Nat.reduceEqDiff, and_f, nt_e, nt_t, nl_t, nl_f, ne_t, ne_f, and_self, or_self, or_true, true_or, or_false, false_or, if_true, if_false, and_true, true_and, and_false, false_and, not_true, not_false_iff]
        try exact bs k hk
      · simp (disch := omega) only [mup_at, up_at, fil_at, ↓reduceIte, ↓Nat.reduceEqDiff, and_f, nt_e, nt_t, nl_t, nl_f, ne_t, ne_f, and_self, or_self, or_true, true_or, or_false, false_or, if_true, if_false, and_true, true_and, and_false, false_and, not_true, not_false_iff] at hk
        try simp (disch := omega) only [mup_at, up_at, fil_at, ↓reduceIte, ↓Nat.reduceEqDiff, and_f, nt_e, nt_t, nl_t, nl_f, ne_t, ne_f, and_self, or_self, or_true, true_or, or_false, false_or, if_true, if_false, and_true, true_and, and_false, false_and, not_true, not_false_iff]
        by_cases q : k = α 9
        · subst q
          simp (disch := omega) only [mup_at, up_at, fil_at, ↓reduceIte, ↓Nat.reduceEqDiff, and_f, nt_e, nt_t, nl_t, nl_f, ne_t, ne_f, and_self, or_self, or_true, true_or, or_false, false_or, if_true, if_false, and_true, true_and, and_false, false_and, not_true, not_false_iff]
        · simp (disch := omega) only [mup_at, up_at, fil_at, ↓reduceIte, ↓Nat.reduceEqDiff, and_f, nt_e, nt_t, nl_t, nl_f, ne_t, ne_f, and_self, or_self, or_true, true_or, or_false, false_or, if_true, if_false, and_true, true_and, and_false, false_and, not_true, not_false_iff]
          try exact bk k (by omega)
      · simp (disch := omega) only [mup_at, up_at, fil_at, ↓reduceIte, ↓Nat.reduceEqDiff, and_f, nt_e, nt_t, nl_t, nl_f, ne_t, ne_f, and_self, or_self, or_true, true_or, or_false, false_or, if_true, if_false, and_true, true_and, and_false, false_and, not_true, not_false_iff] at hk
        try simp (disch := omega) only [mup_at, up_at, fil_at, ↓reduceIte, ↓Nat.reduceEqDiff, and_f, nt_e, nt_t, nl_t, nl_f, ne_t, ne_f, and_self, or_self, or_true, true_or, or_false, false_or, if_true, if_false, and_true, true_and, and_false, false_and, not_true, not_false_iff]
        by_cases q : k = α 9
        · subst q
          simp (disch := omega) only [mup_at, up_at, fil_at, ↓reduceIte, ↓Nat.reduceEqDiff, and_f, nt_e, nt_t, nl_t, nl_f, ne_t, ne_f, and_self, or_self, or_true, true_or, or_false, false_or, if_true, if_false, and_true, true_and, and_false, false_and, not_true, not_false_iff]
          try exact hn i (by omega)
        · simp (disch := omega) only [mup_at, up_at, fil_at, ↓reduceIte, ↓Nat.reduceEqDiff, and_f, nt_e, nt_t, nl_t, nl_f, ne_t, ne_f, and_self, or_self, or_true, true_or, or_false, false_or, if_true, if_false, and_true, true_and, and_false, false_and, not_true, not_false_iff]
          try exact bn i k h1 (by omega)
      · simp (disch := omega) only [mup_at, up_at, fil_at, ↓reduceIte, ↓Nat.reduceEqDiff, and_f, nt_e, nt_t, nl_t, nl_f, ne_t, ne_f, and_self, or_self, or_true, true_or, or_false, false_or, if_true, if_false, and_true, true_and, and_false, false_and, not_true, not_false_iff]
        try exact bz k hk
      · simp (disch := omega) only [mup_at, up_at, fil_at, ↓reduceIte, ↓Nat.reduceEqDiff, and_f, nt_e, nt_t, nl_t, nl_f, ne_t, ne_f, and_self, or_self, or_true, true_or, or_false, false_or, if_true, if_false, and_true, true_and, and_false, false_and, not_true, not_false_iff]
        try exact bt
      · simp (disch := omega) only [mup_at, up_at, fil_at, ↓reduceIte, ↓Nat.reduceEqDiff, and_f, nt_e, nt_t, nl_t, nl_f, ne_t, ne_f, and_self, or_self, or_true, true_or, or_false, false_or, if_true, if_false, and_true, true_and, and_false, false_and, not_true, not_false_iff] at hk
        try simp (disch := omega) only [mup_at, up_at, fil_at, ↓reduceIte, ↓Nat.reduceEqDiff, and_f, nt_e, nt_t, nl_t, nl_f, ne_t, ne_f, and_self, or_self, or_true, true_or, or_false, false_or, if_true, if_false, and_true, true_and, and_false, false_and, not_true, not_false_iff]
        try exact bg k hk
      · simp (disch := omega) only [mup_at, up_at, fil_at, ↓reduceIte, ↓Nat.reduceEqDiff, and_f, nt_e, nt_t, nl_t, nl_f, ne_t, ne_f, and_self, or_self, or_true, true_or, or_false, false_or, if_true, if_false, and_true, true_and, and_false, false_and, not_true, not_false_iff] at hk
        try simp (disch := omega) only [mup_at, up_at, fil_at, ↓reduceIte, ↓Nat.reduceEqDiff, and_f, nt_e, nt_t, nl_t, nl_f, ne_t, ne_f, and_self, or_self, or_true, true_or, or_false, false_or, if_true, if_false, and_true, true_and, and_false, false_and, not_true, not_false_iff]
        try exact bl k hk
theorem inv_back {α : Sp} {H ans : Nat} {β : Sp} {a1 : Int32} (hi : Inv H α) (he : sBack α a1 = .inr (ans, β)) : Inv H β := by
  unfold sBack at he
  obtain ⟨⟨b0, b1, b2, b3, b4, b5, b6, b7, b8, b9, b10, b11, b14⟩, i1, i2, bs, bk, bn, bz, bt, bg, bl⟩ := hi
  rcases idx_c a1 (α 0) (by omega) with ⟨n1, h1, rfl, e1⟩ | ⟨e1, -⟩
  case inr => rw [e1] at he; cases he
  rw [e1, if_pos rfl, nI_nat (show n1 < 2147483648 by omega)] at he
  split at he
  · cases he
  · split at he
    · cases he
    · rename_i q1 q2 p q3
      cases he
      have hp := (pl_lt q3).1
      refine ⟨⟨?_, ?_, ?_, ?_, ?_, ?_, ?_, ?_, ?_, ?_, ?_, ?_, ?_⟩, fun h => ?_, fun h => ?_, fun k hk => ?_, fun k hk => ?_, fun i k h1 hk => ?_, fun k hk => ?_, ?_, fun k hk => ?_, fun k hk => ?_⟩
      · simp (disch := omega) only [backSp_at, ↓reduceIte, ↓Nat.reduceEqDiff, and_f, nt_e, nt_t, nl_t, nl_f, ne_t, ne_f, and_self, or_self, or_true, true_or, or_false, false_or, if_true, if_false, and_true, true_and, and_false, false_and, not_true, not_false_iff]
      · simp (disch := omega) only [backSp_at, ↓reduceIte, ↓Nat.reduceEqDiff, and_f, nt_e, nt_t, nl_t, nl_f, ne_t, ne_f, and_self, or_self, or_true, true_or, or_false, false_or, if_true, if_false, and_true, true_and, and_false, false_and, not_true, not_false_iff]
      · simp (disch := omega) only [backSp_at, ↓reduceIte, ↓Nat.reduceEqDiff, and_f, nt_e, nt_t, nl_t, nl_f, ne_t, ne_f, and_self, or_self, or_true, true_or, or_false, false_or, if_true, if_false, and_true, true_and, and_false, false_and, not_true, not_false_iff]
      · simp (disch := omega) only [backSp_at, ↓reduceIte, ↓Nat.reduceEqDiff, and_f, nt_e, nt_t, nl_t, nl_f, ne_t, ne_f, and_self, or_self, or_true, true_or, or_false, false_or, if_true, if_false, and_true, true_and, and_false, false_and, not_true, not_false_iff]
      · simp (disch := omega) only [backSp_at, ↓reduceIte, ↓Nat.reduceEqDiff, and_f, nt_e, nt_t, nl_t, nl_f, ne_t, ne_f, and_self, or_self, or_true, true_or, or_false, false_or, if_true, if_false, and_true, true_and, and_false, false_and, not_true, not_false_iff]
      · simp (disch := omega) only [backSp_at, ↓reduceIte, ↓Nat.reduceEqDiff, and_f, nt_e, nt_t, nl_t, nl_f, ne_t, ne_f, and_self, or_self, or_true, true_or, or_false, false_or, if_true, if_false, and_true, true_and, and_false, false_and, not_true, not_false_iff]
      · simp (disch := omega) only [backSp_at, ↓reduceIte, ↓Nat.reduceEqDiff, and_f, nt_e, nt_t, nl_t, nl_f, ne_t, ne_f, and_self, or_self, or_true, true_or, or_false, false_or, if_true, if_false, and_true, true_and, and_false, false_and, not_true, not_false_iff]
      · simp (disch := omega) only [backSp_at, ↓reduceIte, ↓Nat.reduceEqDiff, and_f, nt_e, nt_t, nl_t, nl_f, ne_t, ne_f, and_self, or_self, or_true, true_or, or_false, false_or, if_true, if_false, and_true, true_and, and_false, false_and, not_true, not_false_iff]
      · simp (disch := omega) only [backSp_at, ↓reduceIte, ↓Nat.reduceEqDiff, and_f, nt_e, nt_t, nl_t, nl_f, ne_t, ne_f, and_self, or_self, or_true, true_or, or_false, false_or, if_true, if_false, and_true, true_and, and_false, false_and, not_true, not_false_iff]
      · simp (disch := omega) only [backSp_at, ↓reduceIte, ↓Nat.reduceEqDiff, and_f, nt_e, nt_t, nl_t, nl_f, ne_t, ne_f, and_self, or_self, or_true, true_or, or_false, false_or, if_true, if_false, and_true, true_and, and_false, false_and, not_true, not_false_iff]
      · simp (disch := omega) only [backSp_at, ↓reduceIte, ↓Nat.reduceEqDiff, and_f, nt_e, nt_t, nl_t, nl_f, ne_t, ne_f, and_self, or_self, or_true, true_or, or_false, false_or, if_true, if_false, and_true, true_and, and_false, false_and, not_true, not_false_iff]
      · simp (disch := omega) only [backSp_at, ↓reduceIte, ↓Nat.reduceEqDiff, and_f, nt_e, nt_t, nl_t, nl_f, ne_t, ne_f, and_self, or_self, or_true, true_or, or_false, false_or, if_true, if_false, and_true, true_and, and_false, false_and, not_true, not_false_iff]
      · simp (disch := omega) only [backSp_at, ↓reduceIte, ↓Nat.reduceEqDiff, and_f, nt_e, nt_t, nl_t, nl_f, ne_t, ne_f, and_self, or_self, or_true, true_or, or_false, false_or, if_true, if_false, and_true, true_and, and_false, false_and, not_true, not_false_iff]
      · simp (disch := omega) only [backSp_at, ↓reduceIte, ↓Nat.reduceEqDiff, and_f, nt_e, nt_t, nl_t, nl_f, ne_t, ne_f, and_self, or_self, or_true, true_or, or_false, false_or, if_true, if_false, and_true, true_and, and_false, false_and, not_true, not_false_iff] at h
        try simp (disch := omega) only [backSp_at, ↓reduceIte, ↓Nat.reduceEqDiff, and_f, nt_e, nt_t, nl_t, nl_f, ne_t, ne_f, and_self, or_self, or_true, true_or, or_false, false_or, if_true, if_false, and_true, true_and, and_false, false_and, not_true, not_false_iff]
      · simp (disch := omega) only [backSp_at, ↓reduceIte, ↓Nat.reduceEqDiff, and_f, nt_e, nt_t, nl_t, nl_f, ne_t, ne_f, and_self, or_self, or_true, true_or, or_false, false_or, if_true, if_false, and_true, true_and, and_false, false_and, not_true, not_false_iff] at h
        try simp (disch := omega) only [backSp_at, ↓reduceIte, ↓Nat.reduceEqDiff, and_f, nt_e, nt_t, nl_t, nl_f, ne_t, ne_f, and_self, or_self, or_true, true_or, or_false, false_or, if_true, if_false, and_true, true_and, and_false, false_and, not_true, not_false_iff]; try exact i2 h
      · simp (disch := omega) only [backSp_at, ↓reduceIte, ↓Nat.reduceEqDiff, and_f, nt_e, nt_t, nl_t, nl_f, ne_t, ne_f, and_self, or_self, or_true, true_or, or_false, false_or, if_true, if_false, and_true, true_and, and_false, false_and, not_true, not_false_iff]
        try exact bs k hk
      · simp (disch := omega) only [backSp_at, ↓reduceIte, ↓Nat.reduceEqDiff, and_f, nt_e, nt_t, nl_t, nl_f, ne_t, ne_f, and_self, or_self, or_true, true_or, or_false, false_or, if_true, if_false, and_true, true_and, and_false, false_and, not_true, not_false_iff] at hk
        try simp (disch := omega) only [backSp_at, ↓reduceIte, ↓Nat.reduceEqDiff, and_f, nt_e, nt_t, nl_t, nl_f, ne_t, ne_f, and_self, or_self, or_true, true_or, or_false, false_or, if_true, if_false, and_true, true_and, and_false, false_and, not_true, not_false_iff]
        by_cases q : p ≤ k
        · simp (disch := omega) only [backSp_at, ↓reduceIte, ↓Nat.reduceEqDiff, and_f, nt_e, nt_t, nl_t, nl_f, ne_t, ne_f, and_self, or_self, or_true, true_or, or_false, false_or, if_true, if_false, and_true, true_and, and_false, false_and, not_true, not_false_iff]
          try exact bk (k + 1) (by omega)
        · simp (disch := omega) only [backSp_at, ↓reduceIte, ↓Nat.reduceEqDiff, and_f, nt_e, nt_t, nl_t, nl_f, ne_t, ne_f, and_self, or_self, or_true, true_or, or_false, false_or, if_true, if_false, and_true, true_and, and_false, false_and, not_true, not_false_iff]
          try exact bk k (by omega)
      · simp (disch := omega) only [backSp_at, ↓reduceIte, ↓Nat.reduceEqDiff, and_f, nt_e, nt_t, nl_t, nl_f, ne_t, ne_f, and_self, or_self, or_true, true_or, or_false, false_or, if_true, if_false, and_true, true_and, and_false, false_and, not_true, not_false_iff] at hk
        try simp (disch := omega) only [backSp_at, ↓reduceIte, ↓Nat.reduceEqDiff, and_f, nt_e, nt_t, nl_t, nl_f, ne_t, ne_f, and_self, or_self, or_true, true_or, or_false, false_or, if_true, if_false, and_true, true_and, and_false, false_and, not_true, not_false_iff]
        by_cases q : p ≤ k
        · by_cases q2 : p ≤ i
          · simp (disch := omega) only [backSp_at, ↓reduceIte, ↓Nat.reduceEqDiff, and_f, nt_e, nt_t, nl_t, nl_f, ne_t, ne_f, and_self, or_self, or_true, true_or, or_false, false_or, if_true, if_false, and_true, true_and, and_false, false_and, not_true, not_false_iff]
            try exact bn (i + 1) (k + 1) (by omega) (by omega)
          · simp (disch := omega) only [backSp_at, ↓reduceIte, ↓Nat.reduceEqDiff, and_f, nt_e, nt_t, nl_t, nl_f, ne_t, ne_f, and_self, or_self, or_true, true_or, or_false, false_or, if_true, if_false, and_true, true_and, and_false, false_and, not_true, not_false_iff]
            try exact bn i (k + 1) (by omega) (by omega)
        · simp (disch := omega) only [backSp_at, ↓reduceIte, ↓Nat.reduceEqDiff, and_f, nt_e, nt_t, nl_t, nl_f, ne_t, ne_f, and_self, or_self, or_true, true_or, or_false, false_or, if_true, if_false, and_true, true_and, and_false, false_and, not_true, not_false_iff]
          try exact bn i k h1 (by omega)
      · simp (disch := omega) only [backSp_at, ↓reduceIte, ↓Nat.reduceEqDiff, and_f, nt_e, nt_t, nl_t, nl_f, ne_t, ne_f, and_self, or_self, or_true, true_or, or_false, false_or, if_true, if_false, and_true, true_and, and_false, false_and, not_true, not_false_iff]
        try exact bz k hk
      · simp (disch := omega) only [backSp_at, ↓reduceIte, ↓Nat.reduceEqDiff, and_f, nt_e, nt_t, nl_t, nl_f, ne_t, ne_f, and_self, or_self, or_true, true_or, or_false, false_or, if_true, if_false, and_true, true_and, and_false, false_and, not_true, not_false_iff]
        try exact bt
      · simp (disch := omega) only [backSp_at, ↓reduceIte, ↓Nat.reduceEqDiff, and_f, nt_e, nt_t, nl_t, nl_f, ne_t, ne_f, and_self, or_self, or_true, true_or, or_false, false_or, if_true, if_false, and_true, true_and, and_false, false_and, not_true, not_false_iff] at hk
        try simp (disch := omega) only [backSp_at, ↓reduceIte, ↓Nat.reduceEqDiff, and_f, nt_e, nt_t, nl_t, nl_f, ne_t, ne_f, and_self, or_self, or_true, true_or, or_false, false_or, if_true, if_false, and_true, true_and, and_false, false_and, not_true, not_false_iff]
        try exact bg k hk
      · simp (disch := omega) only [backSp_at, ↓reduceIte, ↓Nat.reduceEqDiff, and_f, nt_e, nt_t, nl_t, nl_f, ne_t, ne_f, and_self, or_self, or_true, true_or, or_false, false_or, if_true, if_false, and_true, true_and, and_false, false_and, not_true, not_false_iff] at hk
        try simp (disch := omega) only [backSp_at, ↓reduceIte, ↓Nat.reduceEqDiff, and_f, nt_e, nt_t, nl_t, nl_f, ne_t, ne_f, and_self, or_self, or_true, true_or, or_false, false_or, if_true, if_false, and_true, true_and, and_false, false_and, not_true, not_false_iff]
        try exact bl k hk
theorem inv_guard {α : Sp} {H ans b : Nat} {β : Sp} {a1 a3 : Int32} (hb2 : b < 2) (hi : Inv H α) (he : sGuard α a1 (nI b) a3 = .inr (ans, β)) : Inv H β := by
  unfold sGuard at he
  obtain ⟨⟨b0, b1, b2, b3, b4, b5, b6, b7, b8, b9, b10, b11, b14⟩, i1, i2, bs, bk, bn, bz, bt, bg, bl⟩ := hi
  rcases idx_c a1 8 (by omega) with ⟨n1, h1, rfl, e1⟩ | ⟨e1, -⟩
  case inr => rw [e1] at he; cases he
  rcases rng1_c a3 4 with ⟨n4, h4, h4', rfl, e4⟩ | ⟨e4, h4⟩
  case inr => rw [e1, e4] at he; cases he
  rw [e1, e4, if_pos (show (true && true) = true from rfl), nI_nat (show n1 < 2147483648 by omega), nI_nat (show n4 < 2147483648 by omega), nI_nat (show b < 2147483648 by omega)] at he
  split at he
  · cases he
  · cases he
    unfold guardSp
    refine ⟨⟨?_, ?_, ?_, ?_, ?_, ?_, ?_, ?_, ?_, ?_, ?_, ?_, ?_⟩, fun h => ?_, fun h => ?_, fun k hk => ?_, fun k hk => ?_, fun i k h1 hk => ?_, fun k hk => ?_, ?_, fun k hk => ?_, fun k hk => ?_⟩
    · simp (disch := omega) only [mup_at, up_at, fil_at, ↓reduceIte, ↓Nat.reduceEqDiff, and_f, nt_e, nt_t, nl_t, nl_f, ne_t, ne_f, and_self, or_self, or_true, true_or, or_false, false_or, if_true, if_false, and_true, true_and, and_false, false_and, not_true, not_false_iff]
    · simp (disch := omega) only [mup_at, up_at, fil_at, ↓reduceIte, ↓Nat.reduceEqDiff, and_f, nt_e, nt_t, nl_t, nl_f, ne_t, ne_f, and_self, or_self, or_true, true_or, or_false, false_or, if_true, if_false, and_true, true_and, and_false, false_and, not_true, not_false_iff]
    · simp (disch := omega) only [mup_at, up_at, fil_at, ↓reduceIte, ↓Nat.reduceEqDiff, and_f, nt_e, nt_t, nl_t, nl_f, ne_t, ne_f, and_self, or_self, or_true, true_or, or_false, false_or, if_true, if_false, and_true, true_and, and_false, false_and, not_true, not_false_iff]
    · simp (disch := omega) only [mup_at, up_at, fil_at, ↓reduceIte, ↓Nat.reduceEqDiff, and_f, nt_e, nt_t, nl_t, nl_f, ne_t, ne_f, and_self, or_self, or_true, true_or, or_false, false_or, if_true, if_false, and_true, true_and, and_false, false_and, not_true, not_false_iff]
    · simp (disch := omega) only [mup_at, up_at, fil_at, ↓reduceIte, ↓Nat.reduceEqDiff, and_f, nt_e, nt_t, nl_t, nl_f, ne_t, ne_f, and_self, or_self, or_true, true_or, or_false, false_or, if_true, if_false, and_true, true_and, and_false, false_and, not_true, not_false_iff]
    · simp (disch := omega) only [mup_at, up_at, fil_at, ↓reduceIte, ↓Nat.reduceEqDiff, and_f, nt_e, nt_t, nl_t, nl_f, ne_t, ne_f, and_self, or_self, or_true, true_or, or_false, false_or, if_true, if_false, and_true, true_and, and_false, false_and, not_true, not_false_iff]
    · simp (disch := omega) only [mup_at, up_at, fil_at, ↓reduceIte, ↓Nat.reduceEqDiff, and_f, nt_e, nt_t, nl_t, nl_f, ne_t, ne_f, and_self, or_self, or_true, true_or, or_false, false_or, if_true, if_false, and_true, true_and, and_false, false_and, not_true, not_false_iff]
    · simp (disch := omega) only [mup_at, up_at, fil_at, ↓reduceIte, ↓Nat.reduceEqDiff, and_f, nt_e, nt_t, nl_t, nl_f, ne_t, ne_f, and_self, or_self, or_true, true_or, or_false, false_or, if_true, if_false, and_true, true_and, and_false, false_and, not_true, not_false_iff]
    · simp (disch := omega) only [mup_at, up_at, fil_at, ↓reduceIte, ↓Nat.reduceEqDiff, and_f, nt_e, nt_t, nl_t, nl_f, ne_t, ne_f, and_self, or_self, or_true, true_or, or_false, false_or, if_true, if_false, and_true, true_and, and_false, false_and, not_true, not_false_iff]
    · simp (disch := omega) only [mup_at, up_at, fil_at, ↓reduceIte, ↓Nat.reduceEqDiff, and_f, nt_e, nt_t, nl_t, nl_f, ne_t, ne_f, and_self, or_self, or_true, true_or, or_false, false_or, if_true, if_false, and_true, true_and, and_false, false_and, not_true, not_false_iff]
    · simp (disch := omega) only [mup_at, up_at, fil_at, ↓reduceIte, ↓Nat.reduceEqDiff, and_f, nt_e, nt_t, nl_t, nl_f, ne_t, ne_f, and_self, or_self, or_true, true_or, or_false, false_or, if_true, if_false, and_true, true_and, and_false, false_and, not_true, not_false_iff]
    · simp (disch := omega) only [mup_at, up_at, fil_at, ↓reduceIte, ↓Nat.reduceEqDiff, and_f, nt_e, nt_t, nl_t, nl_f, ne_t, ne_f, and_self, or_self, or_true, true_or, or_false, false_or, if_true, if_false, and_true, true_and, and_false, false_and, not_true, not_false_iff]
    · simp (disch := omega) only [mup_at, up_at, fil_at, ↓reduceIte, ↓Nat.reduceEqDiff, and_f, nt_e, nt_t, nl_t, nl_f, ne_t, ne_f, and_self, or_self, or_true, true_or, or_false, false_or, if_true, if_false, and_true, true_and, and_false, false_and, not_true, not_false_iff]
    · simp (disch := omega) only [mup_at, up_at, fil_at, ↓reduceIte, ↓Nat.reduceEqDiff, and_f, nt_e, nt_t, nl_t, nl_f, ne_t, ne_f, and_self, or_self, or_true, true_or, or_false, false_or, if_true, if_false, and_true, true_and, and_false, false_and, not_true, not_false_iff] at h
      try simp (disch := omega) only [mup_at, up_at, fil_at, ↓reduceIte, ↓Nat.reduceEqDiff, and_f, nt_e, nt_t, nl_t, nl_f, ne_t, ne_f, and_self, or_self, or_true, true_or, or_false, false_or, if_true, if_false, and_true, true_and, and_false, false_and, not_true, not_false_iff]; try exact i1 h
    · simp (disch := omega) only [mup_at, up_at, fil_at, ↓reduceIte, ↓Nat.reduceEqDiff, and_f, nt_e, nt_t, nl_t, nl_f, ne_t, ne_f, and_self, or_self, or_true, true_or, or_false, false_or, if_true, if_false, and_true, true_and, and_false, false_and, not_true, not_false_iff] at h
      try simp (disch := omega) only [mup_at, up_at, fil_at, ↓reduceIte, ↓Nat.reduceEqDiff, and_f, nt_e, nt_t, nl_t, nl_f, ne_t, ne_f, and_self, or_self, or_true, true_or, or_false, false_or, if_true, if_false, and_true, true_and, and_false, false_and, not_true, not_false_iff]; try exact i2 h
    · simp (disch := omega) only [mup_at, up_at, fil_at, ↓reduceIte, ↓Nat.reduceEqDiff, and_f, nt_e, nt_t, nl_t, nl_f, ne_t, ne_f, and_self, or_self, or_true, true_or, or_false, false_or, if_true, if_false, and_true, true_and, and_false, false_and, not_true, not_false_iff]
      try exact bs k hk
    · simp (disch := omega) only [mup_at, up_at, fil_at, ↓reduceIte, ↓Nat.reduceEqDiff, and_f, nt_e, nt_t, nl_t, nl_f, ne_t, ne_f, and_self, or_self, or_true, true_or, or_false, false_or, if_true, if_false, and_true, true_and, and_false, false_and, not_true, not_false_iff] at hk
      try simp (disch := omega) only [mup_at, up_at, fil_at, ↓reduceIte, ↓Nat.reduceEqDiff, and_f, nt_e, nt_t, nl_t, nl_f, ne_t, ne_f, and_self, or_self, or_true, true_or, or_false, false_or, if_true, if_false, and_true, true_and, and_false, false_and, not_true, not_false_iff]
      try exact bk k hk
    · simp (disch := omega) only [mup_at, up_at, fil_at, ↓reduceIte, ↓Nat.reduceEqDiff, and_f, nt_e, nt_t, nl_t, nl_f, ne_t, ne_f, and_self, or_self, or_true, true_or, or_false, false_or, if_true, if_false, and_true, true_and, and_false, false_and, not_true, not_false_iff] at hk
      try simp (disch := omega) only [mup_at, up_at, fil_at, ↓reduceIte, ↓Nat.reduceEqDiff, and_f, nt_e, nt_t, nl_t, nl_f, ne_t, ne_f, and_self, or_self, or_true, true_or, or_false, false_or, if_true, if_false, and_true, true_and, and_false, false_and, not_true, not_false_iff]
      try exact bn i k h1 hk
    · simp (disch := omega) only [mup_at, up_at, fil_at, ↓reduceIte, ↓Nat.reduceEqDiff, and_f, nt_e, nt_t, nl_t, nl_f, ne_t, ne_f, and_self, or_self, or_true, true_or, or_false, false_or, if_true, if_false, and_true, true_and, and_false, false_and, not_true, not_false_iff]
      try exact bz k hk
    · simp (disch := omega) only [mup_at, up_at, fil_at, ↓reduceIte, ↓Nat.reduceEqDiff, and_f, nt_e, nt_t, nl_t, nl_f, ne_t, ne_f, and_self, or_self, or_true, true_or, or_false, false_or, if_true, if_false, and_true, true_and, and_false, false_and, not_true, not_false_iff]
      try exact bt
    · simp (disch := omega) only [mup_at, up_at, fil_at, ↓reduceIte, ↓Nat.reduceEqDiff, and_f, nt_e, nt_t, nl_t, nl_f, ne_t, ne_f, and_self, or_self, or_true, true_or, or_false, false_or, if_true, if_false, and_true, true_and, and_false, false_and, not_true, not_false_iff] at hk
      by_cases q : k = α 10
      · subst q
        simp (disch := omega) only [mup_at, up_at, fil_at, ↓reduceIte, ↓Nat.reduceEqDiff, and_f, nt_e, nt_t, nl_t, nl_f, ne_t, ne_f, and_self, or_self, or_true, true_or, or_false, false_or, if_true, if_false, and_true, true_and, and_false, false_and, not_true, not_false_iff]
      · simp (disch := omega) only [mup_at, up_at, fil_at, ↓reduceIte, ↓Nat.reduceEqDiff, and_f, nt_e, nt_t, nl_t, nl_f, ne_t, ne_f, and_self, or_self, or_true, true_or, or_false, false_or, if_true, if_false, and_true, true_and, and_false, false_and, not_true, not_false_iff]
        try exact bg k (by omega)
    · simp (disch := omega) only [mup_at, up_at, fil_at, ↓reduceIte, ↓Nat.reduceEqDiff, and_f, nt_e, nt_t, nl_t, nl_f, ne_t, ne_f, and_self, or_self, or_true, true_or, or_false, false_or, if_true, if_false, and_true, true_and, and_false, false_and, not_true, not_false_iff] at hk
      try simp (disch := omega) only [mup_at, up_at, fil_at, ↓reduceIte, ↓Nat.reduceEqDiff, and_f, nt_e, nt_t, nl_t, nl_f, ne_t, ne_f, and_self, or_self, or_true, true_or, or_false, false_or, if_true, if_false, and_true, true_and, and_false, false_and, not_true, not_false_iff]
      try exact bl k hk
theorem inv_turn {α : Sp} {H ans : Nat} {β : Sp} {a1 : Int32} (hi : Inv H α) (he : sTurn α a1 = .inr (ans, β)) : Inv H β := by
  unfold sTurn at he
  obtain ⟨⟨b0, b1, b2, b3, b4, b5, b6, b7, b8, b9, b10, b11, b14⟩, i1, i2, bs, bk, bn, bz, bt, bg, bl⟩ := hi
  rcases idx_c a1 (α 10) (by omega) with ⟨n1, h1, rfl, e1⟩ | ⟨e1, -⟩
  case inr => rw [e1] at he; cases he
  rw [e1, if_pos rfl, nI_nat (show n1 < 2147483648 by omega)] at he
  cases he
  obtain ⟨g1, g2, g3, g4, g5⟩ := bg n1 h1
  refine ⟨⟨?_, ?_, ?_, ?_, ?_, ?_, ?_, ?_, ?_, ?_, ?_, ?_, ?_⟩, fun h => ?_, fun h => ?_, fun k hk => ?_, fun k hk => ?_, fun i k h1 hk => ?_, fun k hk => ?_, ?_, fun k hk => ?_, fun k hk => ?_⟩
  · simp (disch := omega) only [mup_at, up_at, fil_at, ↓reduceIte, ↓Nat.reduceEqDiff, and_f, nt_e, nt_t, nl_t, nl_f, ne_t, ne_f, and_self, or_self, or_true, true_or, or_false, false_or, if_true, if_false, and_true, true_and, and_false, false_and, not_true, not_false_iff]
  · simp (disch := omega) only [mup_at, up_at, fil_at, ↓reduceIte, ↓Nat.reduceEqDiff, and_f, nt_e, nt_t, nl_t, nl_f, ne_t, ne_f, and_self, or_self, or_true, true_or, or_false, false_or, if_true, if_false, and_true, true_and, and_false, false_and, not_true, not_false_iff]
  · simp (disch := omega) only [mup_at, up_at, fil_at, ↓reduceIte, ↓Nat.reduceEqDiff, and_f, nt_e, nt_t, nl_t, nl_f, ne_t, ne_f, and_self, or_self, or_true, true_or, or_false, false_or, if_true, if_false, and_true, true_and, and_false, false_and, not_true, not_false_iff]
  · simp (disch := omega) only [mup_at, up_at, fil_at, ↓reduceIte, ↓Nat.reduceEqDiff, and_f, nt_e, nt_t, nl_t, nl_f, ne_t, ne_f, and_self, or_self, or_true, true_or, or_false, false_or, if_true, if_false, and_true, true_and, and_false, false_and, not_true, not_false_iff]
  · simp (disch := omega) only [mup_at, up_at, fil_at, ↓reduceIte, ↓Nat.reduceEqDiff, and_f, nt_e, nt_t, nl_t, nl_f, ne_t, ne_f, and_self, or_self, or_true, true_or, or_false, false_or, if_true, if_false, and_true, true_and, and_false, false_and, not_true, not_false_iff]
  · simp (disch := omega) only [mup_at, up_at, fil_at, ↓reduceIte, ↓Nat.reduceEqDiff, and_f, nt_e, nt_t, nl_t, nl_f, ne_t, ne_f, and_self, or_self, or_true, true_or, or_false, false_or, if_true, if_false, and_true, true_and, and_false, false_and, not_true, not_false_iff]
  · simp (disch := omega) only [mup_at, up_at, fil_at, ↓reduceIte, ↓Nat.reduceEqDiff, and_f, nt_e, nt_t, nl_t, nl_f, ne_t, ne_f, and_self, or_self, or_true, true_or, or_false, false_or, if_true, if_false, and_true, true_and, and_false, false_and, not_true, not_false_iff]
  · simp (disch := omega) only [mup_at, up_at, fil_at, ↓reduceIte, ↓Nat.reduceEqDiff, and_f, nt_e, nt_t, nl_t, nl_f, ne_t, ne_f, and_self, or_self, or_true, true_or, or_false, false_or, if_true, if_false, and_true, true_and, and_false, false_and, not_true, not_false_iff]
  · simp (disch := omega) only [mup_at, up_at, fil_at, ↓reduceIte, ↓Nat.reduceEqDiff, and_f, nt_e, nt_t, nl_t, nl_f, ne_t, ne_f, and_self, or_self, or_true, true_or, or_false, false_or, if_true, if_false, and_true, true_and, and_false, false_and, not_true, not_false_iff]
  · simp (disch := omega) only [mup_at, up_at, fil_at, ↓reduceIte, ↓Nat.reduceEqDiff, and_f, nt_e, nt_t, nl_t, nl_f, ne_t, ne_f, and_self, or_self, or_true, true_or, or_false, false_or, if_true, if_false, and_true, true_and, and_false, false_and, not_true, not_false_iff]
  · simp (disch := omega) only [mup_at, up_at, fil_at, ↓reduceIte, ↓Nat.reduceEqDiff, and_f, nt_e, nt_t, nl_t, nl_f, ne_t, ne_f, and_self, or_self, or_true, true_or, or_false, false_or, if_true, if_false, and_true, true_and, and_false, false_and, not_true, not_false_iff]
  · simp (disch := omega) only [mup_at, up_at, fil_at, ↓reduceIte, ↓Nat.reduceEqDiff, and_f, nt_e, nt_t, nl_t, nl_f, ne_t, ne_f, and_self, or_self, or_true, true_or, or_false, false_or, if_true, if_false, and_true, true_and, and_false, false_and, not_true, not_false_iff]
  · simp (disch := omega) only [mup_at, up_at, fil_at, ↓reduceIte, ↓Nat.reduceEqDiff, and_f, nt_e, nt_t, nl_t, nl_f, ne_t, ne_f, and_self, or_self, or_true, true_or, or_false, false_or, if_true, if_false, and_true, true_and, and_false, false_and, not_true, not_false_iff]
  · simp (disch := omega) only [mup_at, up_at, fil_at, ↓reduceIte, ↓Nat.reduceEqDiff, and_f, nt_e, nt_t, nl_t, nl_f, ne_t, ne_f, and_self, or_self, or_true, true_or, or_false, false_or, if_true, if_false, and_true, true_and, and_false, false_and, not_true, not_false_iff] at h
    try simp (disch := omega) only [mup_at, up_at, fil_at, ↓reduceIte, ↓Nat.reduceEqDiff, and_f, nt_e, nt_t, nl_t, nl_f, ne_t, ne_f, and_self, or_self, or_true, true_or, or_false, false_or, if_true, if_false, and_true, true_and, and_false, false_and, not_true, not_false_iff]; try exact i1 h
  · simp (disch := omega) only [mup_at, up_at, fil_at, ↓reduceIte, ↓Nat.reduceEqDiff, and_f, nt_e, nt_t, nl_t, nl_f, ne_t, ne_f, and_self, or_self, or_true, true_or, or_false, false_or, if_true, if_false, and_true, true_and, and_false, false_and, not_true, not_false_iff] at h
    try simp (disch := omega) only [mup_at, up_at, fil_at, ↓reduceIte, ↓Nat.reduceEqDiff, and_f, nt_e, nt_t, nl_t, nl_f, ne_t, ne_f, and_self, or_self, or_true, true_or, or_false, false_or, if_true, if_false, and_true, true_and, and_false, false_and, not_true, not_false_iff]; try exact i2 h
  · simp (disch := omega) only [mup_at, up_at, fil_at, ↓reduceIte, ↓Nat.reduceEqDiff, and_f, nt_e, nt_t, nl_t, nl_f, ne_t, ne_f, and_self, or_self, or_true, true_or, or_false, false_or, if_true, if_false, and_true, true_and, and_false, false_and, not_true, not_false_iff]
    try exact bs k hk
  · simp (disch := omega) only [mup_at, up_at, fil_at, ↓reduceIte, ↓Nat.reduceEqDiff, and_f, nt_e, nt_t, nl_t, nl_f, ne_t, ne_f, and_self, or_self, or_true, true_or, or_false, false_or, if_true, if_false, and_true, true_and, and_false, false_and, not_true, not_false_iff] at hk
    try simp (disch := omega) only [mup_at, up_at, fil_at, ↓reduceIte, ↓Nat.reduceEqDiff, and_f, nt_e, nt_t, nl_t, nl_f, ne_t, ne_f, and_self, or_self, or_true, true_or, or_false, false_or, if_true, if_false, and_true, true_and, and_false, false_and, not_true, not_false_iff]
    try exact bk k hk
  · simp (disch := omega) only [mup_at, up_at, fil_at, ↓reduceIte, ↓Nat.reduceEqDiff, and_f, nt_e, nt_t, nl_t, nl_f, ne_t, ne_f, and_self, or_self, or_true, true_or, or_false, false_or, if_true, if_false, and_true, true_and, and_false, false_and, not_true, not_false_iff] at hk
    try simp (disch := omega) only [mup_at, up_at, fil_at, ↓reduceIte, ↓Nat.reduceEqDiff, and_f, nt_e, nt_t, nl_t, nl_f, ne_t, ne_f, and_self, or_self, or_true, true_or, or_false, false_or, if_true, if_false, and_true, true_and, and_false, false_and, not_true, not_false_iff]
    try exact bn i k h1 hk
  · simp (disch := omega) only [mup_at, up_at, fil_at, ↓reduceIte, ↓Nat.reduceEqDiff, and_f, nt_e, nt_t, nl_t, nl_f, ne_t, ne_f, and_self, or_self, or_true, true_or, or_false, false_or, if_true, if_false, and_true, true_and, and_false, false_and, not_true, not_false_iff]
    try exact bz k hk
  · simp (disch := omega) only [mup_at, up_at, fil_at, ↓reduceIte, ↓Nat.reduceEqDiff, and_f, nt_e, nt_t, nl_t, nl_f, ne_t, ne_f, and_self, or_self, or_true, true_or, or_false, false_or, if_true, if_false, and_true, true_and, and_false, false_and, not_true, not_false_iff]
    try exact bt
  · simp (disch := omega) only [mup_at, up_at, fil_at, ↓reduceIte, ↓Nat.reduceEqDiff, and_f, nt_e, nt_t, nl_t, nl_f, ne_t, ne_f, and_self, or_self, or_true, true_or, or_false, false_or, if_true, if_false, and_true, true_and, and_false, false_and, not_true, not_false_iff] at hk
    by_cases q : k = n1
    · subst q
      simp (disch := omega) only [mup_at, up_at, fil_at, ↓reduceIte, ↓Nat.reduceEqDiff, and_f, nt_e, nt_t, nl_t, nl_f, ne_t, ne_f, and_self, or_self, or_true, true_or, or_false, false_or, if_true, if_false, and_true, true_and, and_false, false_and, not_true, not_false_iff]
    · simp (disch := omega) only [mup_at, up_at, fil_at, ↓reduceIte, ↓Nat.reduceEqDiff, and_f, nt_e, nt_t, nl_t, nl_f, ne_t, ne_f, and_self, or_self, or_true, true_or, or_false, false_or, if_true, if_false, and_true, true_and, and_false, false_and, not_true, not_false_iff]
      try exact bg k (by omega)
  · simp (disch := omega) only [mup_at, up_at, fil_at, ↓reduceIte, ↓Nat.reduceEqDiff, and_f, nt_e, nt_t, nl_t, nl_f, ne_t, ne_f, and_self, or_self, or_true, true_or, or_false, false_or, if_true, if_false, and_true, true_and, and_false, false_and, not_true, not_false_iff] at hk
    try simp (disch := omega) only [mup_at, up_at, fil_at, ↓reduceIte, ↓Nat.reduceEqDiff, and_f, nt_e, nt_t, nl_t, nl_f, ne_t, ne_f, and_self, or_self, or_true, true_or, or_false, false_or, if_true, if_false, and_true, true_and, and_false, false_and, not_true, not_false_iff]
    try exact bl k hk
theorem inv_hum {α : Sp} {H ans : Nat} {β : Sp} {a1 a2 : Int32} (hi : Inv H α) (he : sHum α a1 a2 = .inr (ans, β)) : Inv H β := by
  unfold sHum at he
  obtain ⟨⟨b0, b1, b2, b3, b4, b5, b6, b7, b8, b9, b10, b11, b14⟩, i1, i2, bs, bk, bn, bz, bt, bg, bl⟩ := hi
  rcases idx_c a1 8 (by omega) with ⟨n1, h1, rfl, e1⟩ | ⟨e1, -⟩
  case inr => rw [e1] at he; cases he
  rcases rng1_c a2 9 with ⟨n4, h4, h4', rfl, e4⟩ | ⟨e4, h4⟩
  case inr => rw [e1, e4] at he; cases he
  rw [e1, e4, if_pos (show (true && true) = true from rfl), nI_nat (show n1 < 2147483648 by omega), nI_nat (show n4 < 2147483648 by omega)] at he
  cases he
  have hv : humV α n1 n4 ≤ 20 := by unfold humV; split <;> omega
  refine ⟨⟨?_, ?_, ?_, ?_, ?_, ?_, ?_, ?_, ?_, ?_, ?_, ?_, ?_⟩, fun h => ?_, fun h => ?_, fun k hk => ?_, fun k hk => ?_, fun i k h1 hk => ?_, fun k hk => ?_, ?_, fun k hk => ?_, fun k hk => ?_⟩
  · simp (disch := omega) only [mup_at, up_at, fil_at, ↓reduceIte, ↓Nat.reduceEqDiff, and_f, nt_e, nt_t, nl_t, nl_f, ne_t, ne_f, and_self, or_self, or_true, true_or, or_false, false_or, if_true, if_false, and_true, true_and, and_false, false_and, not_true, not_false_iff]
  · simp (disch := omega) only [mup_at, up_at, fil_at, ↓reduceIte, ↓Nat.reduceEqDiff, and_f, nt_e, nt_t, nl_t, nl_f, ne_t, ne_f, and_self, or_self, or_true, true_or, or_false, false_or, if_true, if_false, and_true, true_and, and_false, false_and, not_true, not_false_iff]
  · simp (disch := omega) only [mup_at, up_at, fil_at, ↓reduceIte, ↓Nat.reduceEqDiff, and_f, nt_e, nt_t, nl_t, nl_f, ne_t, ne_f, and_self, or_self, or_true, true_or, or_false, false_or, if_true, if_false, and_true, true_and, and_false, false_and, not_true, not_false_iff]
  · simp (disch := omega) only [mup_at, up_at, fil_at, ↓reduceIte, ↓Nat.reduceEqDiff, and_f, nt_e, nt_t, nl_t, nl_f, ne_t, ne_f, and_self, or_self, or_true, true_or, or_false, false_or, if_true, if_false, and_true, true_and, and_false, false_and, not_true, not_false_iff]
  · simp (disch := omega) only [mup_at, up_at, fil_at, ↓reduceIte, ↓Nat.reduceEqDiff, and_f, nt_e, nt_t, nl_t, nl_f, ne_t, ne_f, and_self, or_self, or_true, true_or, or_false, false_or, if_true, if_false, and_true, true_and, and_false, false_and, not_true, not_false_iff]
  · simp (disch := omega) only [mup_at, up_at, fil_at, ↓reduceIte, ↓Nat.reduceEqDiff, and_f, nt_e, nt_t, nl_t, nl_f, ne_t, ne_f, and_self, or_self, or_true, true_or, or_false, false_or, if_true, if_false, and_true, true_and, and_false, false_and, not_true, not_false_iff]
  · simp (disch := omega) only [mup_at, up_at, fil_at, ↓reduceIte, ↓Nat.reduceEqDiff, and_f, nt_e, nt_t, nl_t, nl_f, ne_t, ne_f, and_self, or_self, or_true, true_or, or_false, false_or, if_true, if_false, and_true, true_and, and_false, false_and, not_true, not_false_iff]
  · simp (disch := omega) only [mup_at, up_at, fil_at, ↓reduceIte, ↓Nat.reduceEqDiff, and_f, nt_e, nt_t, nl_t, nl_f, ne_t, ne_f, and_self, or_self, or_true, true_or, or_false, false_or, if_true, if_false, and_true, true_and, and_false, false_and, not_true, not_false_iff]
  · simp (disch := omega) only [mup_at, up_at, fil_at, ↓reduceIte, ↓Nat.reduceEqDiff, and_f, nt_e, nt_t, nl_t, nl_f, ne_t, ne_f, and_self, or_self, or_true, true_or, or_false, false_or, if_true, if_false, and_true, true_and, and_false, false_and, not_true, not_false_iff]
  · simp (disch := omega) only [mup_at, up_at, fil_at, ↓reduceIte, ↓Nat.reduceEqDiff, and_f, nt_e, nt_t, nl_t, nl_f, ne_t, ne_f, and_self, or_self, or_true, true_or, or_false, false_or, if_true, if_false, and_true, true_and, and_false, false_and, not_true, not_false_iff]
  · simp (disch := omega) only [mup_at, up_at, fil_at, ↓reduceIte, ↓Nat.reduceEqDiff, and_f, nt_e, nt_t, nl_t, nl_f, ne_t, ne_f, and_self, or_self, or_true, true_or, or_false, false_or, if_true, if_false, and_true, true_and, and_false, false_and, not_true, not_false_iff]
  · simp (disch := omega) only [mup_at, up_at, fil_at, ↓reduceIte, ↓Nat.reduceEqDiff, and_f, nt_e, nt_t, nl_t, nl_f, ne_t, ne_f, and_self, or_self, or_true, true_or, or_false, false_or, if_true, if_false, and_true, true_and, and_false, false_and, not_true, not_false_iff]
  · simp (disch := omega) only [mup_at, up_at, fil_at, ↓reduceIte, ↓Nat.reduceEqDiff, and_f, nt_e, nt_t, nl_t, nl_f, ne_t, ne_f, and_self, or_self, or_true, true_or, or_false, false_or, if_true, if_false, and_true, true_and, and_false, false_and, not_true, not_false_iff]
  · simp (disch := omega) only [mup_at, up_at, fil_at, ↓reduceIte, ↓Nat.reduceEqDiff, and_f, nt_e, nt_t, nl_t, nl_f, ne_t, ne_f, and_self, or_self, or_true, true_or, or_false, false_or, if_true, if_false, and_true, true_and, and_false, false_and, not_true, not_false_iff] at h
    try simp (disch := omega) only [mup_at, up_at, fil_at, ↓reduceIte, ↓Nat.reduceEqDiff, and_f, nt_e, nt_t, nl_t, nl_f, ne_t, ne_f, and_self, or_self, or_true, true_or, or_false, false_or, if_true, if_false, and_true, true_and, and_false, false_and, not_true, not_false_iff]; try exact i1 h
  · simp (disch := omega) only [mup_at, up_at, fil_at, ↓reduceIte, ↓Nat.reduceEqDiff, and_f, nt_e, nt_t, nl_t, nl_f, ne_t, ne_f, and_self, or_self, or_true, true_or, or_false, false_or, if_true, if_false, and_true, true_and, and_false, false_and, not_true, not_false_iff] at h
    try simp (disch := omega) only [mup_at, up_at, fil_at, ↓reduceIte, ↓Nat.reduceEqDiff, and_f, nt_e, nt_t, nl_t, nl_f, ne_t, ne_f, and_self, or_self, or_true, true_or, or_false, false_or, if_true, if_false, and_true, true_and, and_false, false_and, not_true, not_false_iff]; try exact i2 h
  · simp (disch := omega) only [mup_at, up_at, fil_at, ↓reduceIte, ↓Nat.reduceEqDiff, and_f, nt_e, nt_t, nl_t, nl_f, ne_t, ne_f, and_self, or_self, or_true, true_or, or_false, false_or, if_true, if_false, and_true, true_and, and_false, false_and, not_true, not_false_iff]
    try exact bs k hk
  · simp (disch := omega) only [mup_at, up_at, fil_at, ↓reduceIte, ↓Nat.reduceEqDiff, and_f, nt_e, nt_t, nl_t, nl_f, ne_t, ne_f, and_self, or_self, or_true, true_or, or_false, false_or, if_true, if_false, and_true, true_and, and_false, false_and, not_true, not_false_iff] at hk
    try simp (disch := omega) only [mup_at, up_at, fil_at, ↓reduceIte, ↓Nat.reduceEqDiff, and_f, nt_e, nt_t, nl_t, nl_f, ne_t, ne_f, and_self, or_self, or_true, true_or, or_false, false_or, if_true, if_false, and_true, true_and, and_false, false_and, not_true, not_false_iff]
    try exact bk k hk
  · simp (disch := omega) only [mup_at, up_at, fil_at, ↓reduceIte, ↓Nat.reduceEqDiff, and_f, nt_e, nt_t, nl_t, nl_f, ne_t, ne_f, and_self, or_self, or_true, true_or, or_false, false_or, if_true, if_false, and_true, true_and, and_false, false_and, not_true, not_false_iff] at hk
    try simp (disch := omega) only [mup_at, up_at, fil_at, ↓reduceIte, ↓Nat.reduceEqDiff, and_f, nt_e, nt_t, nl_t, nl_f, ne_t, ne_f, and_self, or_self, or_true, true_or, or_false, false_or, if_true, if_false, and_true, true_and, and_false, false_and, not_true, not_false_iff]
    try exact bn i k h1 hk
  · have := bz k hk
    by_cases q : k = n1
    · subst q
      simp (disch := omega) only [mup_at, up_at, fil_at, ↓reduceIte, ↓Nat.reduceEqDiff, and_f, nt_e, nt_t, nl_t, nl_f, ne_t, ne_f, and_self, or_self, or_true, true_or, or_false, false_or, if_true, if_false, and_true, true_and, and_false, false_and, not_true, not_false_iff]
    · simp (disch := omega) only [mup_at, up_at, fil_at, ↓reduceIte, ↓Nat.reduceEqDiff, and_f, nt_e, nt_t, nl_t, nl_f, ne_t, ne_f, and_self, or_self, or_true, true_or, or_false, false_or, if_true, if_false, and_true, true_and, and_false, false_and, not_true, not_false_iff]
  · simp (disch := omega) only [mup_at, up_at, fil_at, ↓reduceIte, ↓Nat.reduceEqDiff, and_f, nt_e, nt_t, nl_t, nl_f, ne_t, ne_f, and_self, or_self, or_true, true_or, or_false, false_or, if_true, if_false, and_true, true_and, and_false, false_and, not_true, not_false_iff]
    try exact bt
  · simp (disch := omega) only [mup_at, up_at, fil_at, ↓reduceIte, ↓Nat.reduceEqDiff, and_f, nt_e, nt_t, nl_t, nl_f, ne_t, ne_f, and_self, or_self, or_true, true_or, or_false, false_or, if_true, if_false, and_true, true_and, and_false, false_and, not_true, not_false_iff] at hk
    try simp (disch := omega) only [mup_at, up_at, fil_at, ↓reduceIte, ↓Nat.reduceEqDiff, and_f, nt_e, nt_t, nl_t, nl_f, ne_t, ne_f, and_self, or_self, or_true, true_or, or_false, false_or, if_true, if_false, and_true, true_and, and_false, false_and, not_true, not_false_iff]
    try exact bg k hk
  · simp (disch := omega) only [mup_at, up_at, fil_at, ↓reduceIte, ↓Nat.reduceEqDiff, and_f, nt_e, nt_t, nl_t, nl_f, ne_t, ne_f, and_self, or_self, or_true, true_or, or_false, false_or, if_true, if_false, and_true, true_and, and_false, false_and, not_true, not_false_iff] at hk
    try simp (disch := omega) only [mup_at, up_at, fil_at, ↓reduceIte, ↓Nat.reduceEqDiff, and_f, nt_e, nt_t, nl_t, nl_f, ne_t, ne_f, and_self, or_self, or_true, true_or, or_false, false_or, if_true, if_false, and_true, true_and, and_false, false_and, not_true, not_false_iff]
    try exact bl k hk
theorem LI_of {H : Nat} {α : Sp} (hi : Inv H α) : LI α := hi.2.2.2.2.2.2.2.2.2
theorem inv_log {α : Sp} {H k w : Nat} (hi : Inv H α) (hk : k = 97 ∨ k = 99 ∨ k = 102 ∨ k = 111) (hw : w ≤ 8) : Inv H (sLog α k w) := by
  have hl := LI_of hi
  obtain ⟨⟨b0, b1, b2, b3, b4, b5, b6, b7, b8, b9, b10, b11, b14⟩, i1, i2, bs, bk, bn, bz, bt, bg, bl⟩ := hi
  have s : ∀ j, j < 14 ∨ 15 ≤ j ∧ j < 56 → sLog α k w j = α j := fun j hj => sLog_ne b14 (by omega) (by omega)
  have hl2 := LI_log b14 hl hk hw
  refine ⟨⟨?_, ?_, ?_, ?_, ?_, ?_, ?_, ?_, ?_, ?_, ?_, ?_, sLog_14 b14⟩, ?_, ?_, fun k hk => ?_, fun k hk => ?_, fun i k h1 hk => ?_, fun k hk => ?_, ?_, fun k hk => ?_, hl2⟩
  · rw [s 0 (by decide)]; exact b0
  · rw [s 1 (by decide)]; exact b1
  · rw [s 2 (by decide)]; exact b2
  · rw [s 3 (by decide)]; exact b3
  · rw [s 4 (by decide)]; exact b4
  · rw [s 5 (by decide)]; exact b5
  · rw [s 6 (by decide)]; exact b6
  · rw [s 7 (by decide)]; exact b7
  · rw [s 8 (by decide)]; exact b8
  · rw [s 9 (by decide), s 0 (by decide)]; exact b9
  · rw [s 10 (by decide)]; exact b10
  · rw [s 11 (by decide)]; exact b11
  · rw [s 1 (by decide), s 6 (by decide), s 9 (by decide)]; exact i1
  · rw [s 1 (by decide), s 5 (by decide)]; exact i2
  · rw [s _ (by omega)]; exact bs k hk
  · rw [s 9 (by decide)] at hk
    rw [s _ (by omega), s 0 (by decide)]; exact bk k hk
  · rw [s 9 (by decide)] at hk
    rw [s (23 + i) (by omega), s (23 + k) (by omega)]; exact bn i k h1 hk
  · rw [s (31 + k) (by omega), s (39 + k) (by omega), s 11 (by decide)]; exact bz k hk
  · rw [s 13 (by decide), s 39 (by decide), s 40 (by decide), s 41 (by decide), s 42 (by decide), s 43 (by decide), s 44 (by decide), s 45 (by decide), s 46 (by decide)]; exact bt
  · rw [s 10 (by decide)] at hk
    rw [s (47 + 3 * k) (by omega), s (48 + 3 * k) (by omega), s (49 + 3 * k) (by omega)]; exact bg k hk
theorem inv_closeSp {α : Sp} {H : Nat} (hi : Inv H α) : Inv H (closeSp α) := by
  obtain ⟨⟨b0, b1, b2, b3, b4, b5, b6, b7, b8, b9, b10, b11, b14⟩, i1, i2, bs, bk, bn, bz, bt, bg, bl⟩ := hi
  have s : ∀ j, j ≠ 6 → j ≠ 9 → ¬ (23 ≤ j ∧ j < 31) → closeSp α j = α j := fun j h1 h2 h3 => by rw [closeSp_at, if_neg h1, if_neg h2, if_neg h3]
  have s6 : closeSp α 6 = 0 := by rw [closeSp_at, if_pos rfl]
  have s9 : closeSp α 9 = 0 := by rw [closeSp_at, if_neg (by decide), if_pos rfl]
  refine ⟨⟨?_, ?_, ?_, ?_, ?_, ?_, ?_, ?_, ?_, ?_, ?_, ?_, ?_⟩, ?_, ?_, fun k hk => ?_, fun k hk => ?_, fun i k h1 hk => ?_, fun k hk => ?_, ?_, fun k hk => ?_, fun k hk => ?_⟩
  · rw [s 0 (by decide) (by decide) (by decide)]; exact b0
  · rw [s 1 (by decide) (by decide) (by decide)]; exact b1
  · rw [s 2 (by decide) (by decide) (by decide)]; exact b2
  · rw [s 3 (by decide) (by decide) (by decide)]; exact b3
  · rw [s 4 (by decide) (by decide) (by decide)]; exact b4
  · rw [s 5 (by decide) (by decide) (by decide)]; exact b5
  · rw [s6]; decide
  · rw [s 7 (by decide) (by decide) (by decide)]; exact b7
  · rw [s 8 (by decide) (by decide) (by decide)]; exact b8
  · rw [s9]; omega
  · rw [s 10 (by decide) (by decide) (by decide)]; exact b10
  · rw [s 11 (by decide) (by decide) (by decide)]; exact b11
  · rw [s 14 (by decide) (by decide) (by decide)]; exact b14
  · intro _
    exact ⟨s6, s9⟩
  · rw [s 1 (by decide) (by decide) (by decide), s 5 (by decide) (by decide) (by decide)]; exact i2
  · rw [s _ (by omega) (by omega) (by omega)]; exact bs k hk
  · rw [s9] at hk; omega
  · rw [s9] at hk; omega
  · rw [s (31 + k) (by omega) (by omega) (by omega), s (39 + k) (by omega) (by omega) (by omega), s 11 (by decide) (by decide) (by decide)]; exact bz k hk
  · rw [s 13 (by decide) (by decide) (by decide), s 39 (by decide) (by decide) (by decide), s 40 (by decide) (by decide) (by decide), s 41 (by decide) (by decide) (by decide), s 42 (by decide) (by decide) (by decide), s 43 (by decide) (by decide) (by decide), s 44 (by decide) (by decide) (by decide), s 45 (by decide) (by decide) (by decide), s 46 (by decide) (by decide) (by decide)]; exact bt
  · rw [s 10 (by decide) (by decide) (by decide)] at hk
    rw [s (47 + 3 * k) (by omega) (by omega) (by omega), s (48 + 3 * k) (by omega) (by omega) (by omega), s (49 + 3 * k) (by omega) (by omega) (by omega)]; exact bg k hk
  · rw [s 14 (by decide) (by decide) (by decide)] at hk
    rw [s (56 + 3 * k) (by omega) (by omega) (by omega), s (57 + 3 * k) (by omega) (by omega) (by omega), s (58 + 3 * k) (by omega) (by omega) (by omega), s 11 (by decide) (by decide) (by decide)]; exact bl k hk
theorem inv_close {α : Sp} {H ans : Nat} {β : Sp} (hi : Inv H α) (he : sClose α = .inr (ans, β)) : Inv H β := by
  unfold sClose at he
  split at he
  · cases he
  · split at he
    · cases he
    · cases he
      exact inv_log (inv_closeSp hi) (by decide) (by decide)
theorem inv_hours {α : Sp} {H ans : Nat} {β : Sp} {a1 : Int32} (hi : Inv H α) (hH : H < 900000) (he : sHours α a1 = .inr (ans, β)) : Inv (H + 24) β := by
  unfold sHours at he
  rcases rng1_c a1 24 with ⟨n4, h4, h4', rfl, e4⟩ | ⟨e4, h4⟩
  case inr => rw [e4] at he; cases he
  rw [e4, if_pos rfl, nI_nat (show n4 < 2147483648 by omega)] at he
  cases he
  exact (inv_hrs hi n4 (by omega)).mono (by omega)
/-- what the law sees of a call: the class's outcome o, the model's answer r and the exception th that it tells; cat: the number of an exception in the law -/
def Ag (cat : Nat → Nat) (o : Nat ⊕ Int32) (r th : Int32) : Prop := match o with
  | .inl x => th = nI (cat x) ∧ 1 ≤ cat x ∧ cat x ≤ 3
  | .inr v => th = nI 0 ∧ v = r
/-- a call of both, in a row -/
def Pair (n : Nat) (cat : Nat → Nat) (M : Mem) (fc : Mem → Option ((Nat ⊕ Int32) × Mem)) (fm : Mem → Option (Int32 × Mem)) : Prop := wp (fc M) (fun o M1 => wp (fm M1) (fun r M2 => Rel (n + 1) M2 ∧ Ag cat o r (M2 12 47 0)))
theorem pair_op {n place c21 : Nat} {M : Mem} {e : Sp → Ex} {subj : Int32} {tr op : Mem → Option (Int32 × Mem)} {g : Int32 → Int32} {kc : Int32 → Mem → Option ((Nat ⊕ Int32) × Mem)} {km : Int32 → Mem → Option (Int32 × Mem)} {cat : Nat → Nat}
    (hr : Rel n M) (hn : n < 512) (hp : 1 ≤ place ∧ place ≤ 3) (hc21 : 1 ≤ c21 ∧ c21 ≤ 3)
    (hct : ∀ (M2 : Mem) (α : Sp) (H : Nat), RC (M2 0) α → Inv H α → H < 900000 → CT M2 subj (e α) (tr M2)) (hmt : ∀ (M2 : Mem) (α : Sp) (H : Nat), M2 12 48 = enc α → Inv H α → H < 900000 → MT M2 c21 (e α) (op M2))
    (hinv : ∀ α H ans β, Inv H α → H < 900000 → e α = .inr (ans, β) → Inv (H + 24) β) (hk : ∀ α k d, e α = .inl (k, d) → (1 ≤ k ∧ k ≤ 10 ∨ k = 20 ∨ k = 21) ∧ cat (exn k) = (if k = 20 then 1 else if k = 21 then c21 else place)) (hkc : ∀ r M1, kc r M1 = some (.inr (g r), M1)) (hkm : ∀ r M1, km r M1 = some (g r, M1)) :
    Pair n cat M (fun M => mbnd (f_X4_prepare 0 M) fun r1 M2 => (mbnd (tr M2) fun r3 M4 => (mbndx (f_X11_settle r3 subj M4) kc))) (fun M1 => mbnd (f_X12_remembers M1) fun r1 M2 => (mbnd (op M2) fun r3 M4 => (mbnd (f_X12_ends r3 (nI place) M4) km))) := by
  have h0 := rel_op (place := place) (c21 := c21) (gc := g) (gm := g) hr hn ⟨hp.1, Nat.le_trans hp.2 (by decide)⟩ ⟨hc21.1, Nat.le_trans hc21.2 (by decide)⟩ hct hmt hinv (fun α k d he => (hk α k d he).1) hkc hkm
  refine wp_mono h0 ?_
  intro o M1 hw
  refine wp_mono hw ?_
  rintro r M2 ⟨h1, α, H, -, ⟨ans, β, he, rfl, h2, rfl⟩ | ⟨k, d, he, rfl, h2⟩⟩
  · exact ⟨h1, h2, rfl⟩
  · refine ⟨h1, ?_⟩
    have := (hk α k d he).2
    show M2 12 47 0 = nI (cat (exn k)) ∧ 1 ≤ cat (exn k) ∧ cat (exn k) ≤ 3
    rw [this]
    refine ⟨h2, ?_⟩
    split
    · decide
    · split <;> omega
theorem pair_addHolder {n : Nat} {M : Mem} (hr : Rel n M) (hn : n < 512) : Pair n (fun x => if x = 3 then 1 else 0) M f_X11_addHolder f_X12_addHolder := by
  have h := pair_op (e := sAdd) (subj := nI 8) (tr := f_X9_tryHolder 0) (op := f_X12_adds) (g := id) (kc := fun r M => some (.inr r, M)) (km := fun r M => some (r, M)) (cat := fun x => if x = 3 then 1 else 0) (place := 1) (c21 := 1) hr hn (by decide) (by decide) (fun M2 α H a b _ => c_add a b) (fun M2 α H a b _ => m_add a b) (fun α H ans β a _ b => (inv_add a b).mono (by omega)) (fun α k d he => by
    unfold sAdd at he
    split at he
    · cases he; exact ⟨by decide, rfl⟩
    · cases he) (fun _ _ => rfl) (fun _ _ => rfl)
  exact h
theorem pair_seal {n : Nat} {M : Mem} (hr : Rel n M) (hn : n < 512) (a1 a2 a3 a4 : Int32) : Pair n (fun x => if x = 2 then 1 else if x = 3 then 2 else 0) M (f_X11_seal a1 a2 a3 a4) (f_X12_seal a1 a2 a3 a4) := by
  have h := pair_op (e := fun α => sSeal α a1 a2 a3 a4) (subj := nI 0) (tr := f_X9_trySeal 0 a1 a2 a3 a4) (op := f_X12_seals a1 a2 a3 a4) (g := id) (kc := fun r M => some (.inr r, M)) (km := fun r M => some (r, M)) (cat := fun x => if x = 2 then 1 else if x = 3 then 2 else 0) (place := 2) (c21 := 1) hr hn (by decide) (by decide) (fun M2 α H a b _ => c_seal a b a1 a2 a3 a4) (fun M2 α H a b _ => m_seal a b a1 a2 a3 a4) (fun α H ans β a _ b => (inv_seal a b).mono (by omega)) (fun α k d he => by
    unfold sSeal at he
    split at he
    · split at he
      · cases he; exact ⟨by decide, rfl⟩
      · cases he
    · cases he; exact ⟨by decide, rfl⟩) (fun _ _ => rfl) (fun _ _ => rfl)
  exact h
theorem pair_setShare {n : Nat} {M : Mem} (hr : Rel n M) (hn : n < 512) (a1 a2 : Int32) : Pair n (fun x => if x = 1 then 1 else if x = 2 then 2 else if x = 3 then 3 else 0) M (f_X11_setShare a1 a2) (f_X12_setShare a1 a2) := by
  have h := pair_op (e := fun α => sShare α a1 a2) (subj := a1) (tr := f_X9_tryShare 0 a1 a2) (op := f_X12_shares a1 a2) (g := id) (kc := fun r M => some (.inr r, M)) (km := fun r M => some (r, M)) (cat := fun x => if x = 1 then 1 else if x = 2 then 2 else if x = 3 then 3 else 0) (place := 3) (c21 := 2) hr hn (by decide) (by decide) (fun M2 α H a b _ => c_share a b a1 a2) (fun M2 α H a b _ => m_shares a b a1 a2) (fun α H ans β a _ b => (inv_share a b).mono (by omega)) (fun α k d he => by
    unfold sShare at he
    split at he
    · split at he
      · split at he
        · cases he; exact ⟨by decide, rfl⟩
        · cases he
      · cases he; exact ⟨by decide, rfl⟩
    · cases he; exact ⟨by decide, rfl⟩) (fun _ _ => rfl) (fun _ _ => rfl)
  exact h
theorem pair_present {n : Nat} {M : Mem} (hr : Rel n M) (hn : n < 512) (a1 : Int32) : Pair n (fun x => if x = 1 then 1 else if x = 3 then 2 else 0) M (f_X11_present a1) (f_X12_present a1) := by
  have h := pair_op (e := fun α => sGive α a1) (subj := a1) (tr := f_X9_tryPresent 0 a1) (op := f_X12_presents a1) (g := id) (kc := fun r M => some (.inr r, M)) (km := fun r M => some (r, M)) (cat := fun x => if x = 1 then 1 else if x = 3 then 2 else 0) (place := 2) (c21 := 1) hr hn (by decide) (by decide) (fun M2 α H a b _ => c_give a b a1) (fun M2 α H a b _ => m_presents a b a1) (fun α H ans β a _ b => (inv_give a b).mono (by omega)) (fun α k d he => by
    unfold sGive at he
    split at he
    · split at he
      · cases he; exact ⟨by decide, rfl⟩
      · split at he
        · cases he; exact ⟨by decide, rfl⟩
        · cases he
    · cases he; exact ⟨by decide, rfl⟩) (fun _ _ => rfl) (fun _ _ => rfl)
  exact h
theorem pair_takeBack {n : Nat} {M : Mem} (hr : Rel n M) (hn : n < 512) (a1 : Int32) : Pair n (fun x => if x = 1 then 1 else if x = 3 then 2 else 0) M (f_X11_takeBack a1) (f_X12_takeBack a1) := by
  have h := pair_op (e := fun α => sBack α a1) (subj := a1) (tr := f_X9_tryTakeBack 0 a1) (op := f_X12_takes a1) (g := id) (kc := fun r M => some (.inr r, M)) (km := fun r M => some (r, M)) (cat := fun x => if x = 1 then 1 else if x = 3 then 2 else 0) (place := 2) (c21 := 1) hr hn (by decide) (by decide) (fun M2 α H a b _ => c_back a b a1) (fun M2 α H a b _ => m_takes a b a1) (fun α H ans β a _ b => (inv_back a b).mono (by omega)) (fun α k d he => by
    unfold sBack at he
    split at he
    · split at he
      · cases he; exact ⟨by decide, rfl⟩
      · split at he
        · cases he; exact ⟨by decide, rfl⟩
        · cases he
    · cases he; exact ⟨by decide, rfl⟩) (fun _ _ => rfl) (fun _ _ => rfl)
  exact h
theorem pair_closeVault {n : Nat} {M : Mem} (hr : Rel n M) (hn : n < 512) : Pair n (fun x => if x = 3 then 1 else 0) M f_X11_closeVault f_X12_closeVault := by
  have h := pair_op (e := sClose) (subj := nI 0) (tr := f_X9_tryClose 0) (op := f_X12_closes) (g := id) (kc := fun r M => some (.inr r, M)) (km := fun r M => some (r, M)) (cat := fun x => if x = 3 then 1 else 0) (place := 1) (c21 := 1) hr hn (by decide) (by decide) (fun M2 α H a b _ => c_close a b) (fun M2 α H a b _ => m_closes a b) (fun α H ans β a _ b => (inv_close a b).mono (by omega)) (fun α k d he => by
    unfold sClose at he
    split at he
    · cases he; exact ⟨by decide, rfl⟩
    · split at he
      · cases he; exact ⟨by decide, rfl⟩
      · cases he) (fun _ _ => rfl) (fun _ _ => rfl)
  exact h
theorem pair_addGuard {n b : Nat} {M : Mem} (hr : Rel n M) (hn : n < 512) (hb : b < 2) (a1 a3 : Int32) : Pair n (fun x => if x = 2 then 1 else if x = 3 then 2 else 0) M (f_X11_addGuard a1 (nI b) a3) (f_X12_addGuard a1 (nI b) a3) := by
  have h := pair_op (e := fun α => sGuard α a1 (nI b) a3) (subj := nI 3) (tr := f_X9_tryGuard 0 a1 (nI b) a3) (op := f_X12_guards a1 (nI b) a3) (g := id) (kc := fun r M => some (.inr r, M)) (km := fun r M => some (r, M)) (cat := fun x => if x = 2 then 1 else if x = 3 then 2 else 0) (place := 2) (c21 := 1) hr hn (by decide) (by decide) (fun M2 α H a b _ => c_guard a b a1 a3 hb) (fun M2 α H a b _ => m_guards a b a1 a3 hb) (fun α H ans β a _ b => (inv_guard hb a b).mono (by omega)) (fun α k d he => by
    unfold sGuard at he
    split at he
    · split at he
      · cases he; exact ⟨by decide, rfl⟩
      · cases he
    · cases he; exact ⟨by decide, rfl⟩) (fun _ _ => rfl) (fun _ _ => rfl)
  exact h
theorem pair_turnGuard {n : Nat} {M : Mem} (hr : Rel n M) (hn : n < 512) (a1 : Int32) : Pair n (fun x => if x = 1 then 1 else 0) M (f_X11_turnGuard a1) (f_X12_turnGuard a1) := by
  have h := pair_op (e := fun α => sTurn α a1) (subj := nI 0) (tr := f_X9_tryTurn 0 a1) (op := f_X12_turns a1) (g := fun r => if r = 1 then 1 else 0) (kc := fun r M => if r = (1 : Int32) then some (.inr (1 : Int32), M) else some (.inr (0 : Int32), M)) (km := fun r M => if r = (1 : Int32) then some ((1 : Int32), M) else some ((0 : Int32), M)) (cat := fun x => if x = 1 then 1 else 0) (place := 2) (c21 := 1) hr hn (by decide) (by decide) (fun M2 α H a b _ => c_turn a b a1) (fun M2 α H a b _ => m_turns a b a1) (fun α H ans β a _ b => (inv_turn a b).mono (by omega)) (fun α k d he => by
    unfold sTurn at he
    split at he
    · cases he
    · cases he; exact ⟨by decide, rfl⟩) (fun r M => by show (if r = 1 then _ else _) = _; split <;> rfl) (fun r M => by show (if r = 1 then _ else _) = _; split <;> rfl)
  exact h
theorem pair_hum {n : Nat} {M : Mem} (hr : Rel n M) (hn : n < 512) (a1 a2 : Int32) : Pair n (fun x => if x = 2 then 1 else 0) M (f_X11_hum a1 a2) (f_X12_hum a1 a2) := by
  have h := pair_op (e := fun α => sHum α a1 a2) (subj := nI 0) (tr := f_X9_tryHum 0 a1 a2) (op := f_X12_hums a1 a2) (g := id) (kc := fun r M => some (.inr r, M)) (km := fun r M => some (r, M)) (cat := fun x => if x = 2 then 1 else 0) (place := 2) (c21 := 1) hr hn (by decide) (by decide) (fun M2 α H a b _ => c_hum a b a1 a2) (fun M2 α H a b _ => m_hums a b a1 a2) (fun α H ans β a _ b => (inv_hum a b).mono (by omega)) (fun α k d he => by
    unfold sHum at he
    split at he
    · cases he
    · cases he; exact ⟨by decide, rfl⟩) (fun _ _ => rfl) (fun _ _ => rfl)
  exact h
theorem pair_passHours {n : Nat} {M : Mem} (hr : Rel n M) (hn : n < 512) (a1 : Int32) : Pair n (fun x => if x = 2 then 1 else 0) M (f_X11_passHours a1) (f_X12_passHours a1) := by
  have h := pair_op (e := fun α => sHours α a1) (subj := nI 0) (tr := f_X9_tryHours 0 a1) (op := f_X12_passes a1) (g := id) (kc := fun r M => some (.inr r, M)) (km := fun r M => some (r, M)) (cat := fun x => if x = 2 then 1 else 0) (place := 2) (c21 := 1) hr hn (by decide) (by decide) (fun M2 α H a b c => c_hours a b c a1) (fun M2 α H a b c => m_passes a b c a1) (fun α H ans β a c b => inv_hours a c b) (fun α k d he => by
    unfold sHours at he
    split at he
    · cases he
    · cases he; exact ⟨by decide, rfl⟩) (fun _ _ => rfl) (fun _ _ => rfl)
  exact h
/-! calls that only look -/
theorem mbpx_l {α β : Type} {n : Nat} {k : α → Option (Nat ⊕ β)} : mbpx (some (.inl n)) k = some (.inl n) := Eq.trans rfl rfl
theorem mbpx_r {α β : Type} {a : α} {k : α → Option (Nat ⊕ β)} : mbpx (some (.inr a)) k = k a := Eq.trans rfl rfl
theorem Rel_47 {n : Nat} {M M2 : Mem} (h : Rel n M) (h1 : ∀ i, i ≠ 0 → M2 12 47 i = M 12 47 i) (h2 : ∀ a b, ¬ (a = 12 ∧ (b = 47 ∨ b = 52 ∨ b = 56)) → M2 a b = M a b) : Rel (n + 1) M2 := by
  obtain ⟨α, αh, αs, K, nx, fed, b, H, hR, hS, hH, hs, ⟨hr1, hr2, hr3, hr4⟩, hi, hih, his, hb⟩ := h
  refine ⟨α, αh, αs, K, nx, fed, b, H, ?_, ?_, ?_, ?_, ⟨?_, ?_, ?_, ?_⟩, hi, hih, his, by omega⟩
  · rw [show M2 0 = M 0 from funext fun b => h2 0 b (by omega)]; exact hR
  · rw [h2 12 48 (by decide)]; exact hS
  · exact Hs_same hH (h2 12 17 (by decide)) (h1 6 (by decide)) (h2 12 51 (by decide)) (fun a _ _ _ => funext fun b => h2 a b (by omega))
  · exact Rs_same hs (by rw [h2 12 16 (by decide)]) (h1 7 (by decide)) (funext fun b => h2 10 b (by omega)) (h2 12 50 (by decide))
  · exact Rr_same hr1 (fun i _ _ => by rw [h2 12 16 (by decide)]) (fun i _ _ => h1 i (by omega))
  · exact Re_same hr2 (by rw [h2 12 16 (by decide)]) (h1 14 (by decide))
  · exact Ri_same hr3 (by rw [h2 12 26 (by decide)]) (h1 12 (by decide)) (h2 12 27 (by decide)) (h2 12 53 (by decide))
  · exact Ro_same hr4 (h2 12 45 (by decide)) (h1 13 (by decide)) (h2 12 46 (by decide)) (h2 12 55 (by decide))
theorem Rel_thr {n : Nat} {M : Mem} (h : Rel n M) (x : Int32) : Rel (n + 1) (mup M 12 47 0 x) := Rel_47 h (fun i hi => by rw [mup_at, if_neg (by omega)]) (fun a b hab => pm_ne (by omega))
def PairG (n : Nat) (cat : Nat → Nat) (M : Mem) (fc : Mem → Option (Nat ⊕ Int32)) (fm : Mem → Option (Int32 × Mem)) : Prop := ∃ v, fc M = some v ∧ wp (fm M) (fun r M2 => Rel (n + 1) M2 ∧ Ag cat v r (M2 12 47 0))
def PairV (n : Nat) (M : Mem) (fc : Mem → Option Int32) (fm : Mem → Option (Int32 × Mem)) : Prop := ∃ v, fc M = some v ∧ wp (fm M) (fun r M2 => Rel (n + 1) M2 ∧ v = r)
theorem thr0 {M : Mem} {x : Int32} : (mup M 12 47 0 x) 12 47 0 = x := by rw [mup_at, if_pos (by decide)]
theorem ms_t {M : Mem} {α : Sp} {x : Int32} (hS : M 12 48 = enc α) : (mup M 12 47 0 x) 12 48 = enc α := by rw [pm_ne (by decide)]; exact hS
theorem ms_n' {M : Mem} {α : Sp} (hS : M 12 48 = enc α) (j : Nat) (h : ¬ (j = 48 ∨ j = 51 ∨ j = 54)) : M 12 48 j = nI (α j) := ms_n hS h
theorem m_entry {M : Mem} {α : Sp} {w : Nat} {a1 : Int32} (hS : M 12 48 = enc α) (b14 : α 14 ≤ 12) (hw : w < 3) : f_X12_entry a1 (nI w) M = if idx a1 (α 14) then some (nI (α (56 + 3 * a1.toNatClampNeg + w)), mup M 12 47 0 (nI 0)) else some (nI 0, mup M 12 47 0 (nI 1)) := by
  unfold f_X12_entry
  simp only [lit_0, lit_1, lit_2, lit_3, lit_4, lit_5, lit_6, lit_7, lit_8, lit_9, lit_10, lit_11, lit_12, lit_13, lit_14, lit_15, lit_16, lit_20, lit_23, lit_24, lit_31, lit_32, lit_39, lit_43, lit_45, lit_47, lit_48, lit_56, lit_57, lit_59, lit_60, lit_62, lit_63, lit_89, lit_92, lit_96, lit_97, lit_99, lit_100, lit_102, lit_103, lit_104, lit_110, lit_111, lit_115, lit_117, lit_194, lit_200, lit_644, lit_736, lit_999, lit_1000, lit_9999, lit_10000, lit_1000000000]
  rw [nI_mix (by decide) (by decide), nI_nat (by decide), ms_n hS (by decide), rng_s a1 (α 14) (by omega)]
  rcases idx_c a1 (α 14) (by omega) with ⟨n1, h1, rfl, e1⟩ | ⟨e1, h⟩
  · simp (disch := omega) only [lit_0, lit_1, lit_2, lit_3, lit_4, lit_5, lit_6, lit_7, lit_8, lit_9, lit_10, lit_11, lit_12, lit_13, lit_14, lit_15, lit_16, lit_20, lit_23, lit_24, lit_31, lit_32, lit_39, lit_43, lit_45, lit_47, lit_48, lit_56, lit_57, lit_59, lit_60, lit_62, lit_63, lit_89, lit_92, lit_96, lit_97, lit_99, lit_100, lit_102, lit_103, lit_104, lit_110, lit_111, lit_115, lit_117, lit_194, lit_200, lit_644, lit_736, lit_999, lit_1000, lit_9999, lit_10000, lit_1000000000, ↓wp_mlet, ↓wp_mbp, ↓wp_ite, ↓wp_mix, ↓wp_mdiv, ↓wp_mnz, ↓wp_some, ↓wp_mbnd, ↓mlet_eq, ↓mbp_eq, ↓mbnd_eq, ↓mix_ite, ↓mdiv_ite, ↓mnz_ite, nI_add, nI_mul, nI_nat, nI_ltE, nI_leE, nI_eqE, nI_eqN, nI_Neq, nI_Nlt, nI_Nle, nI_ltN, nI_leN, ↓reduceIte, ↓Nat.reduceEqDiff, and_f, nt_e, nt_t, nl_t, nl_f, ne_t, ne_f, and_self, or_self, or_true, true_or, or_false, false_or, if_true, if_false, and_true, true_and, and_false, false_and, not_true, not_false_iff, toNat_0, Bool.false_and, Bool.true_and, Bool.and_false, Bool.and_true, Bool.false_eq_true, reduceCtorEq, Bool.true_eq_false, Bool.not_true, Bool.not_false, mup_at, up_at, fil_at, ↓reduceIte, ↓Nat.reduceEqDiff, and_f, nt_e, nt_t, nl_t, nl_f, ne_t, ne_f, and_self, or_self, or_true, true_or, or_false, false_or, if_true, if_false, and_true, true_and, and_false, false_and, not_true, not_false_iff, e1, ms_n hS]
  · simp (disch := omega) only [lit_0, lit_1, lit_2, lit_3, lit_4, lit_5, lit_6, lit_7, lit_8, lit_9, lit_10, lit_11, lit_12, lit_13, lit_14, lit_15, lit_16, lit_20, lit_23, lit_24, lit_31, lit_32, lit_39, lit_43, lit_45, lit_47, lit_48, lit_56, lit_57, lit_59, lit_60, lit_62, lit_63, lit_89, lit_92, lit_96, lit_97, lit_99, lit_100, lit_102, lit_103, lit_104, lit_110, lit_111, lit_115, lit_117, lit_194, lit_200, lit_644, lit_736, lit_999, lit_1000, lit_9999, lit_10000, lit_1000000000, ↓wp_mlet, ↓wp_mbp, ↓wp_ite, ↓wp_mix, ↓wp_mdiv, ↓wp_mnz, ↓wp_some, ↓wp_mbnd, ↓mlet_eq, ↓mbp_eq, ↓mbnd_eq, ↓mix_ite, ↓mdiv_ite, ↓mnz_ite, nI_add, nI_mul, nI_nat, nI_ltE, nI_leE, nI_eqE, nI_eqN, nI_Neq, nI_Nlt, nI_Nle, nI_ltN, nI_leN, ↓reduceIte, ↓Nat.reduceEqDiff, and_f, nt_e, nt_t, nl_t, nl_f, ne_t, ne_f, and_self, or_self, or_true, true_or, or_false, false_or, if_true, if_false, and_true, true_and, and_false, false_and, not_true, not_false_iff, toNat_0, Bool.false_and, Bool.true_and, Bool.and_false, Bool.and_true, Bool.false_eq_true, reduceCtorEq, Bool.true_eq_false, Bool.not_true, Bool.not_false, mup_at, up_at, fil_at, ↓reduceIte, ↓Nat.reduceEqDiff, and_f, nt_e, nt_t, nl_t, nl_f, ne_t, ne_f, and_self, or_self, or_true, true_or, or_false, false_or, if_true, if_false, and_true, true_and, and_false, false_and, not_true, not_false_iff, e1]
theorem pair_hour {n : Nat} {M : Mem} (hr : Rel n M) : PairV n M f_X11_hour f_X12_hour := by
  have hr' := Rel_thr hr
  obtain ⟨α, αh, αs, K, nx, fed, b, H, ⟨hk, hd, hb, hj⟩, hS, hH, hs, ⟨hr1, hr2, hr3, hr4⟩, hi, hih, his, hbb⟩ := hr
  obtain ⟨⟨b0, b1, b2, b3, b4, b5, b6, b7, b8, b9, b10, b11, b14⟩, i1, i2, bs, bk, bn, bz, bt, bg, bl⟩ := hi
  have hS' := fun x => ms_t (x := x) hS
  unfold f_X11_hour f_X12_hour
  refine ⟨_, rfl, ?_⟩
  simp (disch := omega) only [lit_0, lit_1, lit_2, lit_3, lit_4, lit_5, lit_6, lit_7, lit_8, lit_9, lit_10, lit_11, lit_12, lit_13, lit_14, lit_15, lit_16, lit_20, lit_23, lit_24, lit_31, lit_32, lit_39, lit_43, lit_45, lit_47, lit_48, lit_56, lit_57, lit_59, lit_60, lit_62, lit_63, lit_89, lit_92, lit_96, lit_97, lit_99, lit_100, lit_102, lit_103, lit_104, lit_110, lit_111, lit_115, lit_117, lit_194, lit_200, lit_644, lit_736, lit_999, lit_1000, lit_9999, lit_10000, lit_1000000000, ↓wp_mlet, ↓wp_mbp, ↓wp_ite, ↓wp_mix, ↓wp_mdiv, ↓wp_mnz, ↓wp_some, ↓wp_mbnd, ↓mlet_eq, ↓mbp_eq, ↓mbnd_eq, ↓mix_ite, ↓mdiv_ite, ↓mnz_ite, nI_add, nI_mul, nI_nat, nI_ltE, nI_leE, nI_eqE, nI_eqN, nI_Neq, nI_Nlt, nI_Nle, nI_ltN, nI_leN, ↓reduceIte, ↓Nat.reduceEqDiff, and_f, nt_e, nt_t, nl_t, nl_f, ne_t, ne_f, and_self, or_self, or_true, true_or, or_false, false_or, if_true, if_false, and_true, true_and, and_false, false_and, not_true, not_false_iff, mup_at, up_at, fil_at, ↓reduceIte, ↓Nat.reduceEqDiff, and_f, nt_e, nt_t, nl_t, nl_f, ne_t, ne_f, and_self, or_self, or_true, true_or, or_false, false_or, if_true, if_false, and_true, true_and, and_false, false_and, not_true, not_false_iff, ms_n hS]
  exact ⟨hr' _, hb.1⟩
theorem pair_holderCount {n : Nat} {M : Mem} (hr : Rel n M) : PairV n M f_X11_holderCount f_X12_holderCount := by
  have hr' := Rel_thr hr
  obtain ⟨α, αh, αs, K, nx, fed, b, H, ⟨hk, hd, hb, hj⟩, hS, hH, hs, ⟨hr1, hr2, hr3, hr4⟩, hi, hih, his, hbb⟩ := hr
  obtain ⟨⟨b0, b1, b2, b3, b4, b5, b6, b7, b8, b9, b10, b11, b14⟩, i1, i2, bs, bk, bn, bz, bt, bg, bl⟩ := hi
  have hS' := fun x => ms_t (x := x) hS
  unfold f_X11_holderCount f_X12_holderCount
  refine ⟨_, rfl, ?_⟩
  simp (disch := omega) only [lit_0, lit_1, lit_2, lit_3, lit_4, lit_5, lit_6, lit_7, lit_8, lit_9, lit_10, lit_11, lit_12, lit_13, lit_14, lit_15, lit_16, lit_20, lit_23, lit_24, lit_31, lit_32, lit_39, lit_43, lit_45, lit_47, lit_48, lit_56, lit_57, lit_59, lit_60, lit_62, lit_63, lit_89, lit_92, lit_96, lit_97, lit_99, lit_100, lit_102, lit_103, lit_104, lit_110, lit_111, lit_115, lit_117, lit_194, lit_200, lit_644, lit_736, lit_999, lit_1000, lit_9999, lit_10000, lit_1000000000, ↓wp_mlet, ↓wp_mbp, ↓wp_ite, ↓wp_mix, ↓wp_mdiv, ↓wp_mnz, ↓wp_some, ↓wp_mbnd, ↓mlet_eq, ↓mbp_eq, ↓mbnd_eq, ↓mix_ite, ↓mdiv_ite, ↓mnz_ite, nI_add, nI_mul, nI_nat, nI_ltE, nI_leE, nI_eqE, nI_eqN, nI_Neq, nI_Nlt, nI_Nle, nI_ltN, nI_leN, ↓reduceIte, ↓Nat.reduceEqDiff, and_f, nt_e, nt_t, nl_t, nl_f, ne_t, ne_f, and_self, or_self, or_true, true_or, or_false, false_or, if_true, if_false, and_true, true_and, and_false, false_and, not_true, not_false_iff, mup_at, up_at, fil_at, ↓reduceIte, ↓Nat.reduceEqDiff, and_f, nt_e, nt_t, nl_t, nl_f, ne_t, ne_f, and_self, or_self, or_true, true_or, or_false, false_or, if_true, if_false, and_true, true_and, and_false, false_and, not_true, not_false_iff, ms_n hS]
  exact ⟨hr' _, hk.1⟩
theorem pair_presentedCount {n : Nat} {M : Mem} (hr : Rel n M) : PairV n M f_X11_presentedCount f_X12_presentedCount := by
  have hr' := Rel_thr hr
  obtain ⟨α, αh, αs, K, nx, fed, b, H, ⟨hk, hd, hb, hj⟩, hS, hH, hs, ⟨hr1, hr2, hr3, hr4⟩, hi, hih, his, hbb⟩ := hr
  obtain ⟨⟨b0, b1, b2, b3, b4, b5, b6, b7, b8, b9, b10, b11, b14⟩, i1, i2, bs, bk, bn, bz, bt, bg, bl⟩ := hi
  have hS' := fun x => ms_t (x := x) hS
  unfold f_X11_presentedCount f_X12_presentedCount
  refine ⟨_, rfl, ?_⟩
  simp (disch := omega) only [lit_0, lit_1, lit_2, lit_3, lit_4, lit_5, lit_6, lit_7, lit_8, lit_9, lit_10, lit_11, lit_12, lit_13, lit_14, lit_15, lit_16, lit_20, lit_23, lit_24, lit_31, lit_32, lit_39, lit_43, lit_45, lit_47, lit_48, lit_56, lit_57, lit_59, lit_60, lit_62, lit_63, lit_89, lit_92, lit_96, lit_97, lit_99, lit_100, lit_102, lit_103, lit_104, lit_110, lit_111, lit_115, lit_117, lit_194, lit_200, lit_644, lit_736, lit_999, lit_1000, lit_9999, lit_10000, lit_1000000000, ↓wp_mlet, ↓wp_mbp, ↓wp_ite, ↓wp_mix, ↓wp_mdiv, ↓wp_mnz, ↓wp_some, ↓wp_mbnd, ↓mlet_eq, ↓mbp_eq, ↓mbnd_eq, ↓mix_ite, ↓mdiv_ite, ↓mnz_ite, nI_add, nI_mul, nI_nat, nI_ltE, nI_leE, nI_eqE, nI_eqN, nI_Neq, nI_Nlt, nI_Nle, nI_ltN, nI_leN, ↓reduceIte, ↓Nat.reduceEqDiff, and_f, nt_e, nt_t, nl_t, nl_f, ne_t, ne_f, and_self, or_self, or_true, true_or, or_false, false_or, if_true, if_false, and_true, true_and, and_false, false_and, not_true, not_false_iff, mup_at, up_at, fil_at, ↓reduceIte, ↓Nat.reduceEqDiff, and_f, nt_e, nt_t, nl_t, nl_f, ne_t, ne_f, and_self, or_self, or_true, true_or, or_false, false_or, if_true, if_false, and_true, true_and, and_false, false_and, not_true, not_false_iff, ms_n hS]
  exact ⟨hr' _, hk.2.2.2.1⟩
theorem pair_lockedHours {n : Nat} {M : Mem} (hr : Rel n M) : PairV n M f_X11_lockedHours f_X12_lockedHours := by
  have hr' := Rel_thr hr
  obtain ⟨α, αh, αs, K, nx, fed, b, H, ⟨hk, hd, hb, hj⟩, hS, hH, hs, ⟨hr1, hr2, hr3, hr4⟩, hi, hih, his, hbb⟩ := hr
  obtain ⟨⟨b0, b1, b2, b3, b4, b5, b6, b7, b8, b9, b10, b11, b14⟩, i1, i2, bs, bk, bn, bz, bt, bg, bl⟩ := hi
  have hS' := fun x => ms_t (x := x) hS
  unfold f_X11_lockedHours f_X12_lockedHours
  refine ⟨_, rfl, ?_⟩
  simp (disch := omega) only [lit_0, lit_1, lit_2, lit_3, lit_4, lit_5, lit_6, lit_7, lit_8, lit_9, lit_10, lit_11, lit_12, lit_13, lit_14, lit_15, lit_16, lit_20, lit_23, lit_24, lit_31, lit_32, lit_39, lit_43, lit_45, lit_47, lit_48, lit_56, lit_57, lit_59, lit_60, lit_62, lit_63, lit_89, lit_92, lit_96, lit_97, lit_99, lit_100, lit_102, lit_103, lit_104, lit_110, lit_111, lit_115, lit_117, lit_194, lit_200, lit_644, lit_736, lit_999, lit_1000, lit_9999, lit_10000, lit_1000000000, ↓wp_mlet, ↓wp_mbp, ↓wp_ite, ↓wp_mix, ↓wp_mdiv, ↓wp_mnz, ↓wp_some, ↓wp_mbnd, ↓mlet_eq, ↓mbp_eq, ↓mbnd_eq, ↓mix_ite, ↓mdiv_ite, ↓mnz_ite, nI_add, nI_mul, nI_nat, nI_ltE, nI_leE, nI_eqE, nI_eqN, nI_Neq, nI_Nlt, nI_Nle, nI_ltN, nI_leN, ↓reduceIte, ↓Nat.reduceEqDiff, and_f, nt_e, nt_t, nl_t, nl_f, ne_t, ne_f, and_self, or_self, or_true, true_or, or_false, false_or, if_true, if_false, and_true, true_and, and_false, false_and, not_true, not_false_iff, mup_at, up_at, fil_at, ↓reduceIte, ↓Nat.reduceEqDiff, and_f, nt_e, nt_t, nl_t, nl_f, ne_t, ne_f, and_self, or_self, or_true, true_or, or_false, false_or, if_true, if_false, and_true, true_and, and_false, false_and, not_true, not_false_iff, ms_n hS]
  exact ⟨hr' _, hd.2.1⟩
theorem pair_failedAttempts {n : Nat} {M : Mem} (hr : Rel n M) : PairV n M f_X11_failedAttempts f_X12_failedAttempts := by
  have hr' := Rel_thr hr
  obtain ⟨α, αh, αs, K, nx, fed, b, H, ⟨hk, hd, hb, hj⟩, hS, hH, hs, ⟨hr1, hr2, hr3, hr4⟩, hi, hih, his, hbb⟩ := hr
  obtain ⟨⟨b0, b1, b2, b3, b4, b5, b6, b7, b8, b9, b10, b11, b14⟩, i1, i2, bs, bk, bn, bz, bt, bg, bl⟩ := hi
  have hS' := fun x => ms_t (x := x) hS
  unfold f_X11_failedAttempts f_X12_failedAttempts
  refine ⟨_, rfl, ?_⟩
  simp (disch := omega) only [lit_0, lit_1, lit_2, lit_3, lit_4, lit_5, lit_6, lit_7, lit_8, lit_9, lit_10, lit_11, lit_12, lit_13, lit_14, lit_15, lit_16, lit_20, lit_23, lit_24, lit_31, lit_32, lit_39, lit_43, lit_45, lit_47, lit_48, lit_56, lit_57, lit_59, lit_60, lit_62, lit_63, lit_89, lit_92, lit_96, lit_97, lit_99, lit_100, lit_102, lit_103, lit_104, lit_110, lit_111, lit_115, lit_117, lit_194, lit_200, lit_644, lit_736, lit_999, lit_1000, lit_9999, lit_10000, lit_1000000000, ↓wp_mlet, ↓wp_mbp, ↓wp_ite, ↓wp_mix, ↓wp_mdiv, ↓wp_mnz, ↓wp_some, ↓wp_mbnd, ↓mlet_eq, ↓mbp_eq, ↓mbnd_eq, ↓mix_ite, ↓mdiv_ite, ↓mnz_ite, nI_add, nI_mul, nI_nat, nI_ltE, nI_leE, nI_eqE, nI_eqN, nI_Neq, nI_Nlt, nI_Nle, nI_ltN, nI_leN, ↓reduceIte, ↓Nat.reduceEqDiff, and_f, nt_e, nt_t, nl_t, nl_f, ne_t, ne_f, and_self, or_self, or_true, true_or, or_false, false_or, if_true, if_false, and_true, true_and, and_false, false_and, not_true, not_false_iff, mup_at, up_at, fil_at, ↓reduceIte, ↓Nat.reduceEqDiff, and_f, nt_e, nt_t, nl_t, nl_f, ne_t, ne_f, and_self, or_self, or_true, true_or, or_false, false_or, if_true, if_false, and_true, true_and, and_false, false_and, not_true, not_false_iff, ms_n hS]
  exact ⟨hr' _, hd.2.2.1⟩
theorem pair_guardCount {n : Nat} {M : Mem} (hr : Rel n M) : PairV n M f_X11_guardCount f_X12_guardCount := by
  have hr' := Rel_thr hr
  obtain ⟨α, αh, αs, K, nx, fed, b, H, ⟨hk, hd, hb, hj⟩, hS, hH, hs, ⟨hr1, hr2, hr3, hr4⟩, hi, hih, his, hbb⟩ := hr
  obtain ⟨⟨b0, b1, b2, b3, b4, b5, b6, b7, b8, b9, b10, b11, b14⟩, i1, i2, bs, bk, bn, bz, bt, bg, bl⟩ := hi
  have hS' := fun x => ms_t (x := x) hS
  unfold f_X11_guardCount f_X12_guardCount
  refine ⟨_, rfl, ?_⟩
  simp (disch := omega) only [lit_0, lit_1, lit_2, lit_3, lit_4, lit_5, lit_6, lit_7, lit_8, lit_9, lit_10, lit_11, lit_12, lit_13, lit_14, lit_15, lit_16, lit_20, lit_23, lit_24, lit_31, lit_32, lit_39, lit_43, lit_45, lit_47, lit_48, lit_56, lit_57, lit_59, lit_60, lit_62, lit_63, lit_89, lit_92, lit_96, lit_97, lit_99, lit_100, lit_102, lit_103, lit_104, lit_110, lit_111, lit_115, lit_117, lit_194, lit_200, lit_644, lit_736, lit_999, lit_1000, lit_9999, lit_10000, lit_1000000000, ↓wp_mlet, ↓wp_mbp, ↓wp_ite, ↓wp_mix, ↓wp_mdiv, ↓wp_mnz, ↓wp_some, ↓wp_mbnd, ↓mlet_eq, ↓mbp_eq, ↓mbnd_eq, ↓mix_ite, ↓mdiv_ite, ↓mnz_ite, nI_add, nI_mul, nI_nat, nI_ltE, nI_leE, nI_eqE, nI_eqN, nI_Neq, nI_Nlt, nI_Nle, nI_ltN, nI_leN, ↓reduceIte, ↓Nat.reduceEqDiff, and_f, nt_e, nt_t, nl_t, nl_f, ne_t, ne_f, and_self, or_self, or_true, true_or, or_false, false_or, if_true, if_false, and_true, true_and, and_false, false_and, not_true, not_false_iff, mup_at, up_at, fil_at, ↓reduceIte, ↓Nat.reduceEqDiff, and_f, nt_e, nt_t, nl_t, nl_f, ne_t, ne_f, and_self, or_self, or_true, true_or, or_false, false_or, if_true, if_false, and_true, true_and, and_false, false_and, not_true, not_false_iff, ms_n hS]
  exact ⟨hr' _, hb.2.2.1⟩
theorem pair_alarmCount {n : Nat} {M : Mem} (hr : Rel n M) : PairV n M f_X11_alarmCount f_X12_alarmCount := by
  have hr' := Rel_thr hr
  obtain ⟨α, αh, αs, K, nx, fed, b, H, ⟨hk, hd, hb, hj⟩, hS, hH, hs, ⟨hr1, hr2, hr3, hr4⟩, hi, hih, his, hbb⟩ := hr
  obtain ⟨⟨b0, b1, b2, b3, b4, b5, b6, b7, b8, b9, b10, b11, b14⟩, i1, i2, bs, bk, bn, bz, bt, bg, bl⟩ := hi
  have hS' := fun x => ms_t (x := x) hS
  unfold f_X11_alarmCount f_X12_alarmCount
  refine ⟨_, rfl, ?_⟩
  simp (disch := omega) only [lit_0, lit_1, lit_2, lit_3, lit_4, lit_5, lit_6, lit_7, lit_8, lit_9, lit_10, lit_11, lit_12, lit_13, lit_14, lit_15, lit_16, lit_20, lit_23, lit_24, lit_31, lit_32, lit_39, lit_43, lit_45, lit_47, lit_48, lit_56, lit_57, lit_59, lit_60, lit_62, lit_63, lit_89, lit_92, lit_96, lit_97, lit_99, lit_100, lit_102, lit_103, lit_104, lit_110, lit_111, lit_115, lit_117, lit_194, lit_200, lit_644, lit_736, lit_999, lit_1000, lit_9999, lit_10000, lit_1000000000, ↓wp_mlet, ↓wp_mbp, ↓wp_ite, ↓wp_mix, ↓wp_mdiv, ↓wp_mnz, ↓wp_some, ↓wp_mbnd, ↓mlet_eq, ↓mbp_eq, ↓mbnd_eq, ↓mix_ite, ↓mdiv_ite, ↓mnz_ite, nI_add, nI_mul, nI_nat, nI_ltE, nI_leE, nI_eqE, nI_eqN, nI_Neq, nI_Nlt, nI_Nle, nI_ltN, nI_leN, ↓reduceIte, ↓Nat.reduceEqDiff, and_f, nt_e, nt_t, nl_t, nl_f, ne_t, ne_f, and_self, or_self, or_true, true_or, or_false, false_or, if_true, if_false, and_true, true_and, and_false, false_and, not_true, not_false_iff, mup_at, up_at, fil_at, ↓reduceIte, ↓Nat.reduceEqDiff, and_f, nt_e, nt_t, nl_t, nl_f, ne_t, ne_f, and_self, or_self, or_true, true_or, or_false, false_or, if_true, if_false, and_true, true_and, and_false, false_and, not_true, not_false_iff, ms_n hS]
  exact ⟨hr' _, hb.2.1⟩
theorem pair_openingCount {n : Nat} {M : Mem} (hr : Rel n M) : PairV n M f_X11_openingCount f_X12_openingCount := by
  have hr' := Rel_thr hr
  obtain ⟨α, αh, αs, K, nx, fed, b, H, ⟨hk, hd, hb, hj⟩, hS, hH, hs, ⟨hr1, hr2, hr3, hr4⟩, hi, hih, his, hbb⟩ := hr
  obtain ⟨⟨b0, b1, b2, b3, b4, b5, b6, b7, b8, b9, b10, b11, b14⟩, i1, i2, bs, bk, bn, bz, bt, bg, bl⟩ := hi
  have hS' := fun x => ms_t (x := x) hS
  unfold f_X11_openingCount f_X12_openingCount
  refine ⟨_, rfl, ?_⟩
  simp (disch := omega) only [lit_0, lit_1, lit_2, lit_3, lit_4, lit_5, lit_6, lit_7, lit_8, lit_9, lit_10, lit_11, lit_12, lit_13, lit_14, lit_15, lit_16, lit_20, lit_23, lit_24, lit_31, lit_32, lit_39, lit_43, lit_45, lit_47, lit_48, lit_56, lit_57, lit_59, lit_60, lit_62, lit_63, lit_89, lit_92, lit_96, lit_97, lit_99, lit_100, lit_102, lit_103, lit_104, lit_110, lit_111, lit_115, lit_117, lit_194, lit_200, lit_644, lit_736, lit_999, lit_1000, lit_9999, lit_10000, lit_1000000000, ↓wp_mlet, ↓wp_mbp, ↓wp_ite, ↓wp_mix, ↓wp_mdiv, ↓wp_mnz, ↓wp_some, ↓wp_mbnd, ↓mlet_eq, ↓mbp_eq, ↓mbnd_eq, ↓mix_ite, ↓mdiv_ite, ↓mnz_ite, nI_add, nI_mul, nI_nat, nI_ltE, nI_leE, nI_eqE, nI_eqN, nI_Neq, nI_Nlt, nI_Nle, nI_ltN, nI_leN, ↓reduceIte, ↓Nat.reduceEqDiff, and_f, nt_e, nt_t, nl_t, nl_f, ne_t, ne_f, and_self, or_self, or_true, true_or, or_false, false_or, if_true, if_false, and_true, true_and, and_false, false_and, not_true, not_false_iff, mup_at, up_at, fil_at, ↓reduceIte, ↓Nat.reduceEqDiff, and_f, nt_e, nt_t, nl_t, nl_f, ne_t, ne_f, and_self, or_self, or_true, true_or, or_false, false_or, if_true, if_false, and_true, true_and, and_false, false_and, not_true, not_false_iff, ms_n hS]
  exact ⟨hr' _, hd.2.2.2⟩
theorem pair_logCount {n : Nat} {M : Mem} (hr : Rel n M) : PairV n M f_X11_logCount f_X12_logCount := by
  have hr' := Rel_thr hr
  obtain ⟨α, αh, αs, K, nx, fed, b, H, ⟨hk, hd, hb, hj⟩, hS, hH, hs, ⟨hr1, hr2, hr3, hr4⟩, hi, hih, his, hbb⟩ := hr
  obtain ⟨⟨b0, b1, b2, b3, b4, b5, b6, b7, b8, b9, b10, b11, b14⟩, i1, i2, bs, bk, bn, bz, bt, bg, bl⟩ := hi
  have hS' := fun x => ms_t (x := x) hS
  unfold f_X11_logCount f_X12_logCount
  refine ⟨_, rfl, ?_⟩
  simp (disch := omega) only [lit_0, lit_1, lit_2, lit_3, lit_4, lit_5, lit_6, lit_7, lit_8, lit_9, lit_10, lit_11, lit_12, lit_13, lit_14, lit_15, lit_16, lit_20, lit_23, lit_24, lit_31, lit_32, lit_39, lit_43, lit_45, lit_47, lit_48, lit_56, lit_57, lit_59, lit_60, lit_62, lit_63, lit_89, lit_92, lit_96, lit_97, lit_99, lit_100, lit_102, lit_103, lit_104, lit_110, lit_111, lit_115, lit_117, lit_194, lit_200, lit_644, lit_736, lit_999, lit_1000, lit_9999, lit_10000, lit_1000000000, ↓wp_mlet, ↓wp_mbp, ↓wp_ite, ↓wp_mix, ↓wp_mdiv, ↓wp_mnz, ↓wp_some, ↓wp_mbnd, ↓mlet_eq, ↓mbp_eq, ↓mbnd_eq, ↓mix_ite, ↓mdiv_ite, ↓mnz_ite, nI_add, nI_mul, nI_nat, nI_ltE, nI_leE, nI_eqE, nI_eqN, nI_Neq, nI_Nlt, nI_Nle, nI_ltN, nI_leN, ↓reduceIte, ↓Nat.reduceEqDiff, and_f, nt_e, nt_t, nl_t, nl_f, ne_t, ne_f, and_self, or_self, or_true, true_or, or_false, false_or, if_true, if_false, and_true, true_and, and_false, false_and, not_true, not_false_iff, mup_at, up_at, fil_at, ↓reduceIte, ↓Nat.reduceEqDiff, and_f, nt_e, nt_t, nl_t, nl_f, ne_t, ne_f, and_self, or_self, or_true, true_or, or_false, false_or, if_true, if_false, and_true, true_and, and_false, false_and, not_true, not_false_iff, ms_n hS]
  exact ⟨hr' _, hj.1⟩
theorem pair_isSealed {n : Nat} {M : Mem} (hr : Rel n M) : PairV n M f_X11_isSealed f_X12_isSealed := by
  have hr' := Rel_thr hr
  obtain ⟨α, αh, αs, K, nx, fed, b, H, ⟨hk, hd, hb, hj⟩, hS, hH, hs, ⟨hr1, hr2, hr3, hr4⟩, hi, hih, his, hbb⟩ := hr
  obtain ⟨⟨b0, b1, b2, b3, b4, b5, b6, b7, b8, b9, b10, b11, b14⟩, i1, i2, bs, bk, bn, bz, bt, bg, bl⟩ := hi
  have hS' := fun x => ms_t (x := x) hS
  unfold f_X11_isSealed f_X12_isSealed
  have e := hk.2.1
  rcases (show α 1 = 0 ∨ α 1 = 1 by omega) with q | q
  · rw [q] at e
    refine ⟨nI 0, by simp (disch := omega) only [lit_0, lit_1, lit_2, lit_3, lit_4, lit_5, lit_6, lit_7, lit_8, lit_9, lit_10, lit_11, lit_12, lit_13, lit_14, lit_15, lit_16, lit_20, lit_23, lit_24, lit_31, lit_32, lit_39, lit_43, lit_45, lit_47, lit_48, lit_56, lit_57, lit_59, lit_60, lit_62, lit_63, lit_89, lit_92, lit_96, lit_97, lit_99, lit_100, lit_102, lit_103, lit_104, lit_110, lit_111, lit_115, lit_117, lit_194, lit_200, lit_644, lit_736, lit_999, lit_1000, lit_9999, lit_10000, lit_1000000000, ↓wp_mlet, ↓wp_mbp, ↓wp_ite, ↓wp_mix, ↓wp_mdiv, ↓wp_mnz, ↓wp_some, ↓wp_mbnd, ↓mlet_eq, ↓mbp_eq, ↓mbnd_eq, ↓mix_ite, ↓mdiv_ite, ↓mnz_ite, nI_add, nI_mul, nI_nat, nI_ltE, nI_leE, nI_eqE, nI_eqN, nI_Neq, nI_Nlt, nI_Nle, nI_ltN, nI_leN, ↓reduceIte, ↓Nat.reduceEqDiff, and_f, nt_e, nt_t, nl_t, nl_f, ne_t, ne_f, and_self, or_self, or_true, true_or, or_false, false_or, if_true, if_false, and_true, true_and, and_false, false_and, not_true, not_false_iff, e], ?_⟩
    simp (disch := omega) only [lit_0, lit_1, lit_2, lit_3, lit_4, lit_5, lit_6, lit_7, lit_8, lit_9, lit_10, lit_11, lit_12, lit_13, lit_14, lit_15, lit_16, lit_20, lit_23, lit_24, lit_31, lit_32, lit_39, lit_43, lit_45, lit_47, lit_48, lit_56, lit_57, lit_59, lit_60, lit_62, lit_63, lit_89, lit_92, lit_96, lit_97, lit_99, lit_100, lit_102, lit_103, lit_104, lit_110, lit_111, lit_115, lit_117, lit_194, lit_200, lit_644, lit_736, lit_999, lit_1000, lit_9999, lit_10000, lit_1000000000, ↓wp_mlet, ↓wp_mbp, ↓wp_ite, ↓wp_mix, ↓wp_mdiv, ↓wp_mnz, ↓wp_some, ↓wp_mbnd, ↓mlet_eq, ↓mbp_eq, ↓mbnd_eq, ↓mix_ite, ↓mdiv_ite, ↓mnz_ite, nI_add, nI_mul, nI_nat, nI_ltE, nI_leE, nI_eqE, nI_eqN, nI_Neq, nI_Nlt, nI_Nle, nI_ltN, nI_leN, ↓reduceIte, ↓Nat.reduceEqDiff, and_f, nt_e, nt_t, nl_t, nl_f, ne_t, ne_f, and_self, or_self, or_true, true_or, or_false, false_or, if_true, if_false, and_true, true_and, and_false, false_and, not_true, not_false_iff, mup_at, up_at, fil_at, ↓reduceIte, ↓Nat.reduceEqDiff, and_f, nt_e, nt_t, nl_t, nl_f, ne_t, ne_f, and_self, or_self, or_true, true_or, or_false, false_or, if_true, if_false, and_true, true_and, and_false, false_and, not_true, not_false_iff, ms_n hS, q]
    exact hr' _
  · rw [q] at e
    refine ⟨nI 1, by simp (disch := omega) only [lit_0, lit_1, lit_2, lit_3, lit_4, lit_5, lit_6, lit_7, lit_8, lit_9, lit_10, lit_11, lit_12, lit_13, lit_14, lit_15, lit_16, lit_20, lit_23, lit_24, lit_31, lit_32, lit_39, lit_43, lit_45, lit_47, lit_48, lit_56, lit_57, lit_59, lit_60, lit_62, lit_63, lit_89, lit_92, lit_96, lit_97, lit_99, lit_100, lit_102, lit_103, lit_104, lit_110, lit_111, lit_115, lit_117, lit_194, lit_200, lit_644, lit_736, lit_999, lit_1000, lit_9999, lit_10000, lit_1000000000, ↓wp_mlet, ↓wp_mbp, ↓wp_ite, ↓wp_mix, ↓wp_mdiv, ↓wp_mnz, ↓wp_some, ↓wp_mbnd, ↓mlet_eq, ↓mbp_eq, ↓mbnd_eq, ↓mix_ite, ↓mdiv_ite, ↓mnz_ite, nI_add, nI_mul, nI_nat, nI_ltE, nI_leE, nI_eqE, nI_eqN, nI_Neq, nI_Nlt, nI_Nle, nI_ltN, nI_leN, ↓reduceIte, ↓Nat.reduceEqDiff, and_f, nt_e, nt_t, nl_t, nl_f, ne_t, ne_f, and_self, or_self, or_true, true_or, or_false, false_or, if_true, if_false, and_true, true_and, and_false, false_and, not_true, not_false_iff, e], ?_⟩
    simp (disch := omega) only [lit_0, lit_1, lit_2, lit_3, lit_4, lit_5, lit_6, lit_7, lit_8, lit_9, lit_10, lit_11, lit_12, lit_13, lit_14, lit_15, lit_16, lit_20, lit_23, lit_24, lit_31, lit_32, lit_39, lit_43, lit_45, lit_47, lit_48, lit_56, lit_57, lit_59, lit_60, lit_62, lit_63, lit_89, lit_92, lit_96, lit_97, lit_99, lit_100, lit_102, lit_103, lit_104, lit_110, lit_111, lit_115, lit_117, lit_194, lit_200, lit_644, lit_736, lit_999, lit_1000, lit_9999, lit_10000, lit_1000000000, ↓wp_mlet, ↓wp_mbp, ↓wp_ite, ↓wp_mix, ↓wp_mdiv, ↓wp_mnz, ↓wp_some, ↓wp_mbnd, ↓mlet_eq, ↓mbp_eq, ↓mbnd_eq, ↓mix_ite, ↓mdiv_ite, ↓mnz_ite, nI_add, nI_mul, nI_nat, nI_ltE, nI_leE, nI_eqE, nI_eqN, nI_Neq, nI_Nlt, nI_Nle, nI_ltN, nI_leN, ↓reduceIte, ↓Nat.reduceEqDiff, and_f, nt_e, nt_t, nl_t, nl_f, ne_t, ne_f, and_self, or_self, or_true, true_or, or_false, false_or, if_true, if_false, and_true, true_and, and_false, false_and, not_true, not_false_iff, mup_at, up_at, fil_at, ↓reduceIte, ↓Nat.reduceEqDiff, and_f, nt_e, nt_t, nl_t, nl_f, ne_t, ne_f, and_self, or_self, or_true, true_or, or_false, false_or, if_true, if_false, and_true, true_and, and_false, false_and, not_true, not_false_iff, ms_n hS, q]
    exact hr' _
theorem pair_isOpen {n : Nat} {M : Mem} (hr : Rel n M) : PairV n M f_X11_isOpen f_X12_isOpen := by
  have hr' := Rel_thr hr
  obtain ⟨α, αh, αs, K, nx, fed, b, H, ⟨hk, hd, hb, hj⟩, hS, hH, hs, ⟨hr1, hr2, hr3, hr4⟩, hi, hih, his, hbb⟩ := hr
  obtain ⟨⟨b0, b1, b2, b3, b4, b5, b6, b7, b8, b9, b10, b11, b14⟩, i1, i2, bs, bk, bn, bz, bt, bg, bl⟩ := hi
  have hS' := fun x => ms_t (x := x) hS
  unfold f_X11_isOpen f_X12_isOpen
  have e := hd.1
  rcases (show α 6 = 0 ∨ α 6 = 1 by omega) with q | q
  · rw [q] at e
    refine ⟨nI 0, by simp (disch := omega) only [lit_0, lit_1, lit_2, lit_3, lit_4, lit_5, lit_6, lit_7, lit_8, lit_9, lit_10, lit_11, lit_12, lit_13, lit_14, lit_15, lit_16, lit_20, lit_23, lit_24, lit_31, lit_32, lit_39, lit_43, lit_45, lit_47, lit_48, lit_56, lit_57, lit_59, lit_60, lit_62, lit_63, lit_89, lit_92, lit_96, lit_97, lit_99, lit_100, lit_102, lit_103, lit_104, lit_110, lit_111, lit_115, lit_117, lit_194, lit_200, lit_644, lit_736, lit_999, lit_1000, lit_9999, lit_10000, lit_1000000000, ↓wp_mlet, ↓wp_mbp, ↓wp_ite, ↓wp_mix, ↓wp_mdiv, ↓wp_mnz, ↓wp_some, ↓wp_mbnd, ↓mlet_eq, ↓mbp_eq, ↓mbnd_eq, ↓mix_ite, ↓mdiv_ite, ↓mnz_ite, nI_add, nI_mul, nI_nat, nI_ltE, nI_leE, nI_eqE, nI_eqN, nI_Neq, nI_Nlt, nI_Nle, nI_ltN, nI_leN, ↓reduceIte, ↓Nat.reduceEqDiff, and_f, nt_e, nt_t, nl_t, nl_f, ne_t, ne_f, and_self, or_self, or_true, true_or, or_false, false_or, if_true, if_false, and_true, true_and, and_false, false_and, not_true, not_false_iff, e], ?_⟩
    simp (disch := omega) only [lit_0, lit_1, lit_2, lit_3, lit_4, lit_5, lit_6, lit_7, lit_8, lit_9, lit_10, lit_11, lit_12, lit_13, lit_14, lit_15, lit_16, lit_20, lit_23, lit_24, lit_31, lit_32, lit_39, lit_43, lit_45, lit_47, lit_48, lit_56, lit_57, lit_59, lit_60, lit_62, lit_63, lit_89, lit_92, lit_96, lit_97, lit_99, lit_100, lit_102, lit_103, lit_104, lit_110, lit_111, lit_115, lit_117, lit_194, lit_200, lit_644, lit_736, lit_999, lit_1000, lit_9999, lit_10000, lit_1000000000, ↓wp_mlet, ↓wp_mbp, ↓wp_ite, ↓wp_mix, ↓wp_mdiv, ↓wp_mnz, ↓wp_some, ↓wp_mbnd, ↓mlet_eq, ↓mbp_eq, ↓mbnd_eq, ↓mix_ite, ↓mdiv_ite, ↓mnz_ite, nI_add, nI_mul, nI_nat, nI_ltE, nI_leE, nI_eqE, nI_eqN, nI_Neq, nI_Nlt, nI_Nle, nI_ltN, nI_leN, ↓reduceIte, ↓Nat.reduceEqDiff, and_f, nt_e, nt_t, nl_t, nl_f, ne_t, ne_f, and_self, or_self, or_true, true_or, or_false, false_or, if_true, if_false, and_true, true_and, and_false, false_and, not_true, not_false_iff, mup_at, up_at, fil_at, ↓reduceIte, ↓Nat.reduceEqDiff, and_f, nt_e, nt_t, nl_t, nl_f, ne_t, ne_f, and_self, or_self, or_true, true_or, or_false, false_or, if_true, if_false, and_true, true_and, and_false, false_and, not_true, not_false_iff, ms_n hS, q]
    exact hr' _
  · rw [q] at e
    refine ⟨nI 1, by simp (disch := omega) only [lit_0, lit_1, lit_2, lit_3, lit_4, lit_5, lit_6, lit_7, lit_8, lit_9, lit_10, lit_11, lit_12, lit_13, lit_14, lit_15, lit_16, lit_20, lit_23, lit_24, lit_31, lit_32, lit_39, lit_43, lit_45, lit_47, lit_48, lit_56, lit_57, lit_59, lit_60, lit_62, lit_63, lit_89, lit_92, lit_96, lit_97, lit_99, lit_100, lit_102, lit_103, lit_104, lit_110, lit_111, lit_115, lit_117, lit_194, lit_200, lit_644, lit_736, lit_999, lit_1000, lit_9999, lit_10000, lit_1000000000, ↓wp_mlet, ↓wp_mbp, ↓wp_ite, ↓wp_mix, ↓wp_mdiv, ↓wp_mnz, ↓wp_some, ↓wp_mbnd, ↓mlet_eq, ↓mbp_eq, ↓mbnd_eq, ↓mix_ite, ↓mdiv_ite, ↓mnz_ite, nI_add, nI_mul, nI_nat, nI_ltE, nI_leE, nI_eqE, nI_eqN, nI_Neq, nI_Nlt, nI_Nle, nI_ltN, nI_leN, ↓reduceIte, ↓Nat.reduceEqDiff, and_f, nt_e, nt_t, nl_t, nl_f, ne_t, ne_f, and_self, or_self, or_true, true_or, or_false, false_or, if_true, if_false, and_true, true_and, and_false, false_and, not_true, not_false_iff, e], ?_⟩
    simp (disch := omega) only [lit_0, lit_1, lit_2, lit_3, lit_4, lit_5, lit_6, lit_7, lit_8, lit_9, lit_10, lit_11, lit_12, lit_13, lit_14, lit_15, lit_16, lit_20, lit_23, lit_24, lit_31, lit_32, lit_39, lit_43, lit_45, lit_47, lit_48, lit_56, lit_57, lit_59, lit_60, lit_62, lit_63, lit_89, lit_92, lit_96, lit_97, lit_99, lit_100, lit_102, lit_103, lit_104, lit_110, lit_111, lit_115, lit_117, lit_194, lit_200, lit_644, lit_736, lit_999, lit_1000, lit_9999, lit_10000, lit_1000000000, ↓wp_mlet, ↓wp_mbp, ↓wp_ite, ↓wp_mix, ↓wp_mdiv, ↓wp_mnz, ↓wp_some, ↓wp_mbnd, ↓mlet_eq, ↓mbp_eq, ↓mbnd_eq, ↓mix_ite, ↓mdiv_ite, ↓mnz_ite, nI_add, nI_mul, nI_nat, nI_ltE, nI_leE, nI_eqE, nI_eqN, nI_Neq, nI_Nlt, nI_Nle, nI_ltN, nI_leN, ↓reduceIte, ↓Nat.reduceEqDiff, and_f, nt_e, nt_t, nl_t, nl_f, ne_t, ne_f, and_self, or_self, or_true, true_or, or_false, false_or, if_true, if_false, and_true, true_and, and_false, false_and, not_true, not_false_iff, mup_at, up_at, fil_at, ↓reduceIte, ↓Nat.reduceEqDiff, and_f, nt_e, nt_t, nl_t, nl_f, ne_t, ne_f, and_self, or_self, or_true, true_or, or_false, false_or, if_true, if_false, and_true, true_and, and_false, false_and, not_true, not_false_iff, ms_n hS, q]
    exact hr' _
theorem pair_threshold {n : Nat} {M : Mem} (hr : Rel n M) : PairG n (fun x => if x = 4 then 1 else 0) M f_X11_threshold f_X12_threshold := by
  have hr' := Rel_thr hr
  obtain ⟨α, αh, αs, K, nx, fed, b, H, ⟨hk, hd, hb, hj⟩, hS, hH, hs, ⟨hr1, hr2, hr3, hr4⟩, hi, hih, his, hbb⟩ := hr
  obtain ⟨⟨b0, b1, b2, b3, b4, b5, b6, b7, b8, b9, b10, b11, b14⟩, i1, i2, bs, bk, bn, bz, bt, bg, bl⟩ := hi
  have hS' := fun x => ms_t (x := x) hS
  unfold f_X11_threshold f_X12_threshold f_X11_requireSeal
  have e := hk.2.1
  rcases (show α 1 = 0 ∨ α 1 = 1 by omega) with q | q
  · rw [q] at e
    refine ⟨.inl 4, by simp (disch := omega) only [lit_0, lit_1, lit_2, lit_3, lit_4, lit_5, lit_6, lit_7, lit_8, lit_9, lit_10, lit_11, lit_12, lit_13, lit_14, lit_15, lit_16, lit_20, lit_23, lit_24, lit_31, lit_32, lit_39, lit_43, lit_45, lit_47, lit_48, lit_56, lit_57, lit_59, lit_60, lit_62, lit_63, lit_89, lit_92, lit_96, lit_97, lit_99, lit_100, lit_102, lit_103, lit_104, lit_110, lit_111, lit_115, lit_117, lit_194, lit_200, lit_644, lit_736, lit_999, lit_1000, lit_9999, lit_10000, lit_1000000000, ↓wp_mlet, ↓wp_mbp, ↓wp_ite, ↓wp_mix, ↓wp_mdiv, ↓wp_mnz, ↓wp_some, ↓wp_mbnd, ↓mlet_eq, ↓mbp_eq, ↓mbnd_eq, ↓mix_ite, ↓mdiv_ite, ↓mnz_ite, nI_add, nI_mul, nI_nat, nI_ltE, nI_leE, nI_eqE, nI_eqN, nI_Neq, nI_Nlt, nI_Nle, nI_ltN, nI_leN, ↓reduceIte, ↓Nat.reduceEqDiff, and_f, nt_e, nt_t, nl_t, nl_f, ne_t, ne_f, and_self, or_self, or_true, true_or, or_false, false_or, if_true, if_false, and_true, true_and, and_false, false_and, not_true, not_false_iff, e, mbpx_l], ?_⟩
    simp (disch := omega) only [lit_0, lit_1, lit_2, lit_3, lit_4, lit_5, lit_6, lit_7, lit_8, lit_9, lit_10, lit_11, lit_12, lit_13, lit_14, lit_15, lit_16, lit_20, lit_23, lit_24, lit_31, lit_32, lit_39, lit_43, lit_45, lit_47, lit_48, lit_56, lit_57, lit_59, lit_60, lit_62, lit_63, lit_89, lit_92, lit_96, lit_97, lit_99, lit_100, lit_102, lit_103, lit_104, lit_110, lit_111, lit_115, lit_117, lit_194, lit_200, lit_644, lit_736, lit_999, lit_1000, lit_9999, lit_10000, lit_1000000000, ↓wp_mlet, ↓wp_mbp, ↓wp_ite, ↓wp_mix, ↓wp_mdiv, ↓wp_mnz, ↓wp_some, ↓wp_mbnd, ↓mlet_eq, ↓mbp_eq, ↓mbnd_eq, ↓mix_ite, ↓mdiv_ite, ↓mnz_ite, nI_add, nI_mul, nI_nat, nI_ltE, nI_leE, nI_eqE, nI_eqN, nI_Neq, nI_Nlt, nI_Nle, nI_ltN, nI_leN, ↓reduceIte, ↓Nat.reduceEqDiff, and_f, nt_e, nt_t, nl_t, nl_f, ne_t, ne_f, and_self, or_self, or_true, true_or, or_false, false_or, if_true, if_false, and_true, true_and, and_false, false_and, not_true, not_false_iff, mup_at, up_at, fil_at, ↓reduceIte, ↓Nat.reduceEqDiff, and_f, nt_e, nt_t, nl_t, nl_f, ne_t, ne_f, and_self, or_self, or_true, true_or, or_false, false_or, if_true, if_false, and_true, true_and, and_false, false_and, not_true, not_false_iff, ms_n hS, q]
    exact ⟨hr' _, rfl, by decide, by decide⟩
  · rw [q] at e
    refine ⟨.inr (nI (α 5)), by simp (disch := omega) only [lit_0, lit_1, lit_2, lit_3, lit_4, lit_5, lit_6, lit_7, lit_8, lit_9, lit_10, lit_11, lit_12, lit_13, lit_14, lit_15, lit_16, lit_20, lit_23, lit_24, lit_31, lit_32, lit_39, lit_43, lit_45, lit_47, lit_48, lit_56, lit_57, lit_59, lit_60, lit_62, lit_63, lit_89, lit_92, lit_96, lit_97, lit_99, lit_100, lit_102, lit_103, lit_104, lit_110, lit_111, lit_115, lit_117, lit_194, lit_200, lit_644, lit_736, lit_999, lit_1000, lit_9999, lit_10000, lit_1000000000, ↓wp_mlet, ↓wp_mbp, ↓wp_ite, ↓wp_mix, ↓wp_mdiv, ↓wp_mnz, ↓wp_some, ↓wp_mbnd, ↓mlet_eq, ↓mbp_eq, ↓mbnd_eq, ↓mix_ite, ↓mdiv_ite, ↓mnz_ite, nI_add, nI_mul, nI_nat, nI_ltE, nI_leE, nI_eqE, nI_eqN, nI_Neq, nI_Nlt, nI_Nle, nI_ltN, nI_leN, ↓reduceIte, ↓Nat.reduceEqDiff, and_f, nt_e, nt_t, nl_t, nl_f, ne_t, ne_f, and_self, or_self, or_true, true_or, or_false, false_or, if_true, if_false, and_true, true_and, and_false, false_and, not_true, not_false_iff, e, mbpx_r, hk.2.2.1], ?_⟩
    simp (disch := omega) only [lit_0, lit_1, lit_2, lit_3, lit_4, lit_5, lit_6, lit_7, lit_8, lit_9, lit_10, lit_11, lit_12, lit_13, lit_14, lit_15, lit_16, lit_20, lit_23, lit_24, lit_31, lit_32, lit_39, lit_43, lit_45, lit_47, lit_48, lit_56, lit_57, lit_59, lit_60, lit_62, lit_63, lit_89, lit_92, lit_96, lit_97, lit_99, lit_100, lit_102, lit_103, lit_104, lit_110, lit_111, lit_115, lit_117, lit_194, lit_200, lit_644, lit_736, lit_999, lit_1000, lit_9999, lit_10000, lit_1000000000, ↓wp_mlet, ↓wp_mbp, ↓wp_ite, ↓wp_mix, ↓wp_mdiv, ↓wp_mnz, ↓wp_some, ↓wp_mbnd, ↓mlet_eq, ↓mbp_eq, ↓mbnd_eq, ↓mix_ite, ↓mdiv_ite, ↓mnz_ite, nI_add, nI_mul, nI_nat, nI_ltE, nI_leE, nI_eqE, nI_eqN, nI_Neq, nI_Nlt, nI_Nle, nI_ltN, nI_leN, ↓reduceIte, ↓Nat.reduceEqDiff, and_f, nt_e, nt_t, nl_t, nl_f, ne_t, ne_f, and_self, or_self, or_true, true_or, or_false, false_or, if_true, if_false, and_true, true_and, and_false, false_and, not_true, not_false_iff, mup_at, up_at, fil_at, ↓reduceIte, ↓Nat.reduceEqDiff, and_f, nt_e, nt_t, nl_t, nl_f, ne_t, ne_f, and_self, or_self, or_true, true_or, or_false, false_or, if_true, if_false, and_true, true_and, and_false, false_and, not_true, not_false_iff, ms_n hS, q]
    exact ⟨hr' _, rfl, rfl⟩
theorem pair_share {n : Nat} {M : Mem} (hr : Rel n M) (a1 : Int32) : PairG n (fun x => if x = 1 then 1 else if x = 4 then 2 else 0) M (f_X11_share a1) (f_X12_share a1) := by
  have hr' := Rel_thr hr
  obtain ⟨α, αh, αs, K, nx, fed, b, H, ⟨hk, hd, hb, hj⟩, hS, hH, hs, ⟨hr1, hr2, hr3, hr4⟩, hi, hih, his, hbb⟩ := hr
  obtain ⟨⟨b0, b1, b2, b3, b4, b5, b6, b7, b8, b9, b10, b11, b14⟩, i1, i2, bs, bk, bn, bz, bt, bg, bl⟩ := hi
  have hS' := fun x => ms_t (x := x) hS
  unfold f_X11_share f_X12_share f_X11_requireSeal f_X11_requireHolder f_X12_isShare
  have e := hk.2.1
  have hh : α 0 < 2147483648 := by omega
  rcases idx_c a1 (α 0) hh with ⟨n1, h1, rfl, e1⟩ | ⟨e1, -⟩
  case inr =>
    refine ⟨.inl 1, by simp (disch := omega) only [lit_0, lit_1, lit_2, lit_3, lit_4, lit_5, lit_6, lit_7, lit_8, lit_9, lit_10, lit_11, lit_12, lit_13, lit_14, lit_15, lit_16, lit_20, lit_23, lit_24, lit_31, lit_32, lit_39, lit_43, lit_45, lit_47, lit_48, lit_56, lit_57, lit_59, lit_60, lit_62, lit_63, lit_89, lit_92, lit_96, lit_97, lit_99, lit_100, lit_102, lit_103, lit_104, lit_110, lit_111, lit_115, lit_117, lit_194, lit_200, lit_644, lit_736, lit_999, lit_1000, lit_9999, lit_10000, lit_1000000000, ↓wp_mlet, ↓wp_mbp, ↓wp_ite, ↓wp_mix, ↓wp_mdiv, ↓wp_mnz, ↓wp_some, ↓wp_mbnd, ↓mlet_eq, ↓mbp_eq, ↓mbnd_eq, ↓mix_ite, ↓mdiv_ite, ↓mnz_ite, nI_add, nI_mul, nI_nat, nI_ltE, nI_leE, nI_eqE, nI_eqN, nI_Neq, nI_Nlt, nI_Nle, nI_ltN, nI_leN, ↓reduceIte, ↓Nat.reduceEqDiff, and_f, nt_e, nt_t, nl_t, nl_f, ne_t, ne_f, and_self, or_self, or_true, true_or, or_false, false_or, if_true, if_false, and_true, true_and, and_false, false_and, not_true, not_false_iff, toNat_0, Bool.false_and, Bool.true_and, Bool.and_false, Bool.and_true, Bool.false_eq_true, reduceCtorEq, Bool.true_eq_false, Bool.not_true, Bool.not_false, c_hasHolder hk.1 hh, e1, mbpx_l], ?_⟩
    simp (disch := omega) only [lit_0, lit_1, lit_2, lit_3, lit_4, lit_5, lit_6, lit_7, lit_8, lit_9, lit_10, lit_11, lit_12, lit_13, lit_14, lit_15, lit_16, lit_20, lit_23, lit_24, lit_31, lit_32, lit_39, lit_43, lit_45, lit_47, lit_48, lit_56, lit_57, lit_59, lit_60, lit_62, lit_63, lit_89, lit_92, lit_96, lit_97, lit_99, lit_100, lit_102, lit_103, lit_104, lit_110, lit_111, lit_115, lit_117, lit_194, lit_200, lit_644, lit_736, lit_999, lit_1000, lit_9999, lit_10000, lit_1000000000, ↓wp_mlet, ↓wp_mbp, ↓wp_ite, ↓wp_mix, ↓wp_mdiv, ↓wp_mnz, ↓wp_some, ↓wp_mbnd, ↓mlet_eq, ↓mbp_eq, ↓mbnd_eq, ↓mix_ite, ↓mdiv_ite, ↓mnz_ite, nI_add, nI_mul, nI_nat, nI_ltE, nI_leE, nI_eqE, nI_eqN, nI_Neq, nI_Nlt, nI_Nle, nI_ltN, nI_leN, ↓reduceIte, ↓Nat.reduceEqDiff, and_f, nt_e, nt_t, nl_t, nl_f, ne_t, ne_f, and_self, or_self, or_true, true_or, or_false, false_or, if_true, if_false, and_true, true_and, and_false, false_and, not_true, not_false_iff, toNat_0, Bool.false_and, Bool.true_and, Bool.and_false, Bool.and_true, Bool.false_eq_true, reduceCtorEq, Bool.true_eq_false, Bool.not_true, Bool.not_false, mup_at, up_at, fil_at, ↓reduceIte, ↓Nat.reduceEqDiff, and_f, nt_e, nt_t, nl_t, nl_f, ne_t, ne_f, and_self, or_self, or_true, true_or, or_false, false_or, if_true, if_false, and_true, true_and, and_false, false_and, not_true, not_false_iff, m_isHolder hS hh, e1]
    exact ⟨hr' _, rfl, by decide, by decide⟩
  have es := hk.2.2.2.2.1 n1 (by omega)
  rcases (show α 1 = 0 ∨ α 1 = 1 by omega) with q | q
  · rw [q] at e
    refine ⟨.inl 4, by simp (disch := omega) only [lit_0, lit_1, lit_2, lit_3, lit_4, lit_5, lit_6, lit_7, lit_8, lit_9, lit_10, lit_11, lit_12, lit_13, lit_14, lit_15, lit_16, lit_20, lit_23, lit_24, lit_31, lit_32, lit_39, lit_43, lit_45, lit_47, lit_48, lit_56, lit_57, lit_59, lit_60, lit_62, lit_63, lit_89, lit_92, lit_96, lit_97, lit_99, lit_100, lit_102, lit_103, lit_104, lit_110, lit_111, lit_115, lit_117, lit_194, lit_200, lit_644, lit_736, lit_999, lit_1000, lit_9999, lit_10000, lit_1000000000, ↓wp_mlet, ↓wp_mbp, ↓wp_ite, ↓wp_mix, ↓wp_mdiv, ↓wp_mnz, ↓wp_some, ↓wp_mbnd, ↓mlet_eq, ↓mbp_eq, ↓mbnd_eq, ↓mix_ite, ↓mdiv_ite, ↓mnz_ite, nI_add, nI_mul, nI_nat, nI_ltE, nI_leE, nI_eqE, nI_eqN, nI_Neq, nI_Nlt, nI_Nle, nI_ltN, nI_leN, ↓reduceIte, ↓Nat.reduceEqDiff, and_f, nt_e, nt_t, nl_t, nl_f, ne_t, ne_f, and_self, or_self, or_true, true_or, or_false, false_or, if_true, if_false, and_true, true_and, and_false, false_and, not_true, not_false_iff, toNat_0, Bool.false_and, Bool.true_and, Bool.and_false, Bool.and_true, Bool.false_eq_true, reduceCtorEq, Bool.true_eq_false, Bool.not_true, Bool.not_false, c_hasHolder hk.1 hh, e1, e, mbpx_l, mbpx_r], ?_⟩
    simp (disch := omega) only [lit_0, lit_1, lit_2, lit_3, lit_4, lit_5, lit_6, lit_7, lit_8, lit_9, lit_10, lit_11, lit_12, lit_13, lit_14, lit_15, lit_16, lit_20, lit_23, lit_24, lit_31, lit_32, lit_39, lit_43, lit_45, lit_47, lit_48, lit_56, lit_57, lit_59, lit_60, lit_62, lit_63, lit_89, lit_92, lit_96, lit_97, lit_99, lit_100, lit_102, lit_103, lit_104, lit_110, lit_111, lit_115, lit_117, lit_194, lit_200, lit_644, lit_736, lit_999, lit_1000, lit_9999, lit_10000, lit_1000000000, ↓wp_mlet, ↓wp_mbp, ↓wp_ite, ↓wp_mix, ↓wp_mdiv, ↓wp_mnz, ↓wp_some, ↓wp_mbnd, ↓mlet_eq, ↓mbp_eq, ↓mbnd_eq, ↓mix_ite, ↓mdiv_ite, ↓mnz_ite, nI_add, nI_mul, nI_nat, nI_ltE, nI_leE, nI_eqE, nI_eqN, nI_Neq, nI_Nlt, nI_Nle, nI_ltN, nI_leN, ↓reduceIte, ↓Nat.reduceEqDiff, and_f, nt_e, nt_t, nl_t, nl_f, ne_t, ne_f, and_self, or_self, or_true, true_or, or_false, false_or, if_true, if_false, and_true, true_and, and_false, false_and, not_true, not_false_iff, toNat_0, Bool.false_and, Bool.true_and, Bool.and_false, Bool.and_true, Bool.false_eq_true, reduceCtorEq, Bool.true_eq_false, Bool.not_true, Bool.not_false, mup_at, up_at, fil_at, ↓reduceIte, ↓Nat.reduceEqDiff, and_f, nt_e, nt_t, nl_t, nl_f, ne_t, ne_f, and_self, or_self, or_true, true_or, or_false, false_or, if_true, if_false, and_true, true_and, and_false, false_and, not_true, not_false_iff, m_isHolder hS hh, e1, ms_n hS, q]
    exact ⟨hr' _, rfl, by decide, by decide⟩
  · rw [q] at e
    refine ⟨.inr (nI (α (15 + n1))), by simp (disch := omega) only [lit_0, lit_1, lit_2, lit_3, lit_4, lit_5, lit_6, lit_7, lit_8, lit_9, lit_10, lit_11, lit_12, lit_13, lit_14, lit_15, lit_16, lit_20, lit_23, lit_24, lit_31, lit_32, lit_39, lit_43, lit_45, lit_47, lit_48, lit_56, lit_57, lit_59, lit_60, lit_62, lit_63, lit_89, lit_92, lit_96, lit_97, lit_99, lit_100, lit_102, lit_103, lit_104, lit_110, lit_111, lit_115, lit_117, lit_194, lit_200, lit_644, lit_736, lit_999, lit_1000, lit_9999, lit_10000, lit_1000000000, ↓wp_mlet, ↓wp_mbp, ↓wp_ite, ↓wp_mix, ↓wp_mdiv, ↓wp_mnz, ↓wp_some, ↓wp_mbnd, ↓mlet_eq, ↓mbp_eq, ↓mbnd_eq, ↓mix_ite, ↓mdiv_ite, ↓mnz_ite, nI_add, nI_mul, nI_nat, nI_ltE, nI_leE, nI_eqE, nI_eqN, nI_Neq, nI_Nlt, nI_Nle, nI_ltN, nI_leN, ↓reduceIte, ↓Nat.reduceEqDiff, and_f, nt_e, nt_t, nl_t, nl_f, ne_t, ne_f, and_self, or_self, or_true, true_or, or_false, false_or, if_true, if_false, and_true, true_and, and_false, false_and, not_true, not_false_iff, toNat_0, Bool.false_and, Bool.true_and, Bool.and_false, Bool.and_true, Bool.false_eq_true, reduceCtorEq, Bool.true_eq_false, Bool.not_true, Bool.not_false, c_hasHolder hk.1 hh, e1, e, mbpx_l, mbpx_r, es], ?_⟩
    simp (disch := omega) only [lit_0, lit_1, lit_2, lit_3, lit_4, lit_5, lit_6, lit_7, lit_8, lit_9, lit_10, lit_11, lit_12, lit_13, lit_14, lit_15, lit_16, lit_20, lit_23, lit_24, lit_31, lit_32, lit_39, lit_43, lit_45, lit_47, lit_48, lit_56, lit_57, lit_59, lit_60, lit_62, lit_63, lit_89, lit_92, lit_96, lit_97, lit_99, lit_100, lit_102, lit_103, lit_104, lit_110, lit_111, lit_115, lit_117, lit_194, lit_200, lit_644, lit_736, lit_999, lit_1000, lit_9999, lit_10000, lit_1000000000, ↓wp_mlet, ↓wp_mbp, ↓wp_ite, ↓wp_mix, ↓wp_mdiv, ↓wp_mnz, ↓wp_some, ↓wp_mbnd, ↓mlet_eq, ↓mbp_eq, ↓mbnd_eq, ↓mix_ite, ↓mdiv_ite, ↓mnz_ite, nI_add, nI_mul, nI_nat, nI_ltE, nI_leE, nI_eqE, nI_eqN, nI_Neq, nI_Nlt, nI_Nle, nI_ltN, nI_leN, ↓reduceIte, ↓Nat.reduceEqDiff, and_f, nt_e, nt_t, nl_t, nl_f, ne_t, ne_f, and_self, or_self, or_true, true_or, or_false, false_or, if_true, if_false, and_true, true_and, and_false, false_and, not_true, not_false_iff, toNat_0, Bool.false_and, Bool.true_and, Bool.and_false, Bool.and_true, Bool.false_eq_true, reduceCtorEq, Bool.true_eq_false, Bool.not_true, Bool.not_false, mup_at, up_at, fil_at, ↓reduceIte, ↓Nat.reduceEqDiff, and_f, nt_e, nt_t, nl_t, nl_f, ne_t, ne_f, and_self, or_self, or_true, true_or, or_false, false_or, if_true, if_false, and_true, true_and, and_false, false_and, not_true, not_false_iff, m_isHolder hS hh, e1, ms_n hS, q]
    exact ⟨hr' _, rfl, rfl⟩
theorem pair_isCorrect {n : Nat} {M : Mem} (hr : Rel n M) (a1 : Int32) : PairG n (fun x => if x = 1 then 1 else if x = 4 then 2 else 0) M (f_X11_isCorrect a1) (f_X12_isCorrect a1) := by
  have hr' := Rel_thr hr
  obtain ⟨α, αh, αs, K, nx, fed, b, H, ⟨hk, hd, hb, hj⟩, hS, hH, hs, ⟨hr1, hr2, hr3, hr4⟩, hi, hih, his, hbb⟩ := hr
  obtain ⟨⟨b0, b1, b2, b3, b4, b5, b6, b7, b8, b9, b10, b11, b14⟩, i1, i2, bs, bk, bn, bz, bt, bg, bl⟩ := hi
  have hS' := fun x => ms_t (x := x) hS
  unfold f_X11_isCorrect f_X12_isCorrect f_X11_requireSeal f_X11_requireHolder f_X12_isShare
  have e := hk.2.1
  have hh : α 0 < 2147483648 := by omega
  rcases idx_c a1 (α 0) hh with ⟨n1, h1, rfl, e1⟩ | ⟨e1, -⟩
  case inr =>
    refine ⟨.inl 1, by simp (disch := omega) only [lit_0, lit_1, lit_2, lit_3, lit_4, lit_5, lit_6, lit_7, lit_8, lit_9, lit_10, lit_11, lit_12, lit_13, lit_14, lit_15, lit_16, lit_20, lit_23, lit_24, lit_31, lit_32, lit_39, lit_43, lit_45, lit_47, lit_48, lit_56, lit_57, lit_59, lit_60, lit_62, lit_63, lit_89, lit_92, lit_96, lit_97, lit_99, lit_100, lit_102, lit_103, lit_104, lit_110, lit_111, lit_115, lit_117, lit_194, lit_200, lit_644, lit_736, lit_999, lit_1000, lit_9999, lit_10000, lit_1000000000, ↓wp_mlet, ↓wp_mbp, ↓wp_ite, ↓wp_mix, ↓wp_mdiv, ↓wp_mnz, ↓wp_some, ↓wp_mbnd, ↓mlet_eq, ↓mbp_eq, ↓mbnd_eq, ↓mix_ite, ↓mdiv_ite, ↓mnz_ite, nI_add, nI_mul, nI_nat, nI_ltE, nI_leE, nI_eqE, nI_eqN, nI_Neq, nI_Nlt, nI_Nle, nI_ltN, nI_leN, ↓reduceIte, ↓Nat.reduceEqDiff, and_f, nt_e, nt_t, nl_t, nl_f, ne_t, ne_f, and_self, or_self, or_true, true_or, or_false, false_or, if_true, if_false, and_true, true_and, and_false, false_and, not_true, not_false_iff, toNat_0, Bool.false_and, Bool.true_and, Bool.and_false, Bool.and_true, Bool.false_eq_true, reduceCtorEq, Bool.true_eq_false, Bool.not_true, Bool.not_false, c_hasHolder hk.1 hh, e1, mbpx_l], ?_⟩
    simp (disch := omega) only [lit_0, lit_1, lit_2, lit_3, lit_4, lit_5, lit_6, lit_7, lit_8, lit_9, lit_10, lit_11, lit_12, lit_13, lit_14, lit_15, lit_16, lit_20, lit_23, lit_24, lit_31, lit_32, lit_39, lit_43, lit_45, lit_47, lit_48, lit_56, lit_57, lit_59, lit_60, lit_62, lit_63, lit_89, lit_92, lit_96, lit_97, lit_99, lit_100, lit_102, lit_103, lit_104, lit_110, lit_111, lit_115, lit_117, lit_194, lit_200, lit_644, lit_736, lit_999, lit_1000, lit_9999, lit_10000, lit_1000000000, ↓wp_mlet, ↓wp_mbp, ↓wp_ite, ↓wp_mix, ↓wp_mdiv, ↓wp_mnz, ↓wp_some, ↓wp_mbnd, ↓mlet_eq, ↓mbp_eq, ↓mbnd_eq, ↓mix_ite, ↓mdiv_ite, ↓mnz_ite, nI_add, nI_mul, nI_nat, nI_ltE, nI_leE, nI_eqE, nI_eqN, nI_Neq, nI_Nlt, nI_Nle, nI_ltN, nI_leN, ↓reduceIte, ↓Nat.reduceEqDiff, and_f, nt_e, nt_t, nl_t, nl_f, ne_t, ne_f, and_self, or_self, or_true, true_or, or_false, false_or, if_true, if_false, and_true, true_and, and_false, false_and, not_true, not_false_iff, toNat_0, Bool.false_and, Bool.true_and, Bool.and_false, Bool.and_true, Bool.false_eq_true, reduceCtorEq, Bool.true_eq_false, Bool.not_true, Bool.not_false, mup_at, up_at, fil_at, ↓reduceIte, ↓Nat.reduceEqDiff, and_f, nt_e, nt_t, nl_t, nl_f, ne_t, ne_f, and_self, or_self, or_true, true_or, or_false, false_or, if_true, if_false, and_true, true_and, and_false, false_and, not_true, not_false_iff, m_isHolder hS hh, e1]
    exact ⟨hr' _, rfl, by decide, by decide⟩
  have es := hk.2.2.2.2.1 n1 (by omega)
  have eb := bs n1 (by omega)
  have ec := c_correct (M := M) (g := 0) (h := n1) (α := α) (by omega) hk.2.2.2.2.2.1 b2 b3 b4
  have em : ∀ x, f_X12_curve (nI n1) (mup M 12 47 0 x) = some (nI (crv α n1)) := fun x => m_curve (by omega) (hS' x) b2 b3 b4
  have el := crv_lt α n1
  rcases (show α 1 = 0 ∨ α 1 = 1 by omega) with q | q
  · rw [q] at e
    refine ⟨.inl 4, by simp (disch := omega) only [lit_0, lit_1, lit_2, lit_3, lit_4, lit_5, lit_6, lit_7, lit_8, lit_9, lit_10, lit_11, lit_12, lit_13, lit_14, lit_15, lit_16, lit_20, lit_23, lit_24, lit_31, lit_32, lit_39, lit_43, lit_45, lit_47, lit_48, lit_56, lit_57, lit_59, lit_60, lit_62, lit_63, lit_89, lit_92, lit_96, lit_97, lit_99, lit_100, lit_102, lit_103, lit_104, lit_110, lit_111, lit_115, lit_117, lit_194, lit_200, lit_644, lit_736, lit_999, lit_1000, lit_9999, lit_10000, lit_1000000000, ↓wp_mlet, ↓wp_mbp, ↓wp_ite, ↓wp_mix, ↓wp_mdiv, ↓wp_mnz, ↓wp_some, ↓wp_mbnd, ↓mlet_eq, ↓mbp_eq, ↓mbnd_eq, ↓mix_ite, ↓mdiv_ite, ↓mnz_ite, nI_add, nI_mul, nI_nat, nI_ltE, nI_leE, nI_eqE, nI_eqN, nI_Neq, nI_Nlt, nI_Nle, nI_ltN, nI_leN, ↓reduceIte, ↓Nat.reduceEqDiff, and_f, nt_e, nt_t, nl_t, nl_f, ne_t, ne_f, and_self, or_self, or_true, true_or, or_false, false_or, if_true, if_false, and_true, true_and, and_false, false_and, not_true, not_false_iff, toNat_0, Bool.false_and, Bool.true_and, Bool.and_false, Bool.and_true, Bool.false_eq_true, reduceCtorEq, Bool.true_eq_false, Bool.not_true, Bool.not_false, c_hasHolder hk.1 hh, e1, e, mbpx_l, mbpx_r], ?_⟩
    simp (disch := omega) only [lit_0, lit_1, lit_2, lit_3, lit_4, lit_5, lit_6, lit_7, lit_8, lit_9, lit_10, lit_11, lit_12, lit_13, lit_14, lit_15, lit_16, lit_20, lit_23, lit_24, lit_31, lit_32, lit_39, lit_43, lit_45, lit_47, lit_48, lit_56, lit_57, lit_59, lit_60, lit_62, lit_63, lit_89, lit_92, lit_96, lit_97, lit_99, lit_100, lit_102, lit_103, lit_104, lit_110, lit_111, lit_115, lit_117, lit_194, lit_200, lit_644, lit_736, lit_999, lit_1000, lit_9999, lit_10000, lit_1000000000, ↓wp_mlet, ↓wp_mbp, ↓wp_ite, ↓wp_mix, ↓wp_mdiv, ↓wp_mnz, ↓wp_some, ↓wp_mbnd, ↓mlet_eq, ↓mbp_eq, ↓mbnd_eq, ↓mix_ite, ↓mdiv_ite, ↓mnz_ite, nI_add, nI_mul, nI_nat, nI_ltE, nI_leE, nI_eqE, nI_eqN, nI_Neq, nI_Nlt, nI_Nle, nI_ltN, nI_leN, ↓reduceIte, ↓Nat.reduceEqDiff, and_f, nt_e, nt_t, nl_t, nl_f, ne_t, ne_f, and_self, or_self, or_true, true_or, or_false, false_or, if_true, if_false, and_true, true_and, and_false, false_and, not_true, not_false_iff, toNat_0, Bool.false_and, Bool.true_and, Bool.and_false, Bool.and_true, Bool.false_eq_true, reduceCtorEq, Bool.true_eq_false, Bool.not_true, Bool.not_false, mup_at, up_at, fil_at, ↓reduceIte, ↓Nat.reduceEqDiff, and_f, nt_e, nt_t, nl_t, nl_f, ne_t, ne_f, and_self, or_self, or_true, true_or, or_false, false_or, if_true, if_false, and_true, true_and, and_false, false_and, not_true, not_false_iff, m_isHolder hS hh, e1, ms_n hS, q]
    exact ⟨hr' _, rfl, by decide, by decide⟩
  · rw [q] at e
    by_cases q2 : α (15 + n1) = crv α n1
    · refine ⟨.inr (nI 1), by simp (disch := omega) only [lit_0, lit_1, lit_2, lit_3, lit_4, lit_5, lit_6, lit_7, lit_8, lit_9, lit_10, lit_11, lit_12, lit_13, lit_14, lit_15, lit_16, lit_20, lit_23, lit_24, lit_31, lit_32, lit_39, lit_43, lit_45, lit_47, lit_48, lit_56, lit_57, lit_59, lit_60, lit_62, lit_63, lit_89, lit_92, lit_96, lit_97, lit_99, lit_100, lit_102, lit_103, lit_104, lit_110, lit_111, lit_115, lit_117, lit_194, lit_200, lit_644, lit_736, lit_999, lit_1000, lit_9999, lit_10000, lit_1000000000, ↓wp_mlet, ↓wp_mbp, ↓wp_ite, ↓wp_mix, ↓wp_mdiv, ↓wp_mnz, ↓wp_some, ↓wp_mbnd, ↓mlet_eq, ↓mbp_eq, ↓mbnd_eq, ↓mix_ite, ↓mdiv_ite, ↓mnz_ite, nI_add, nI_mul, nI_nat, nI_ltE, nI_leE, nI_eqE, nI_eqN, nI_Neq, nI_Nlt, nI_Nle, nI_ltN, nI_leN, ↓reduceIte, ↓Nat.reduceEqDiff, and_f, nt_e, nt_t, nl_t, nl_f, ne_t, ne_f, and_self, or_self, or_true, true_or, or_false, false_or, if_true, if_false, and_true, true_and, and_false, false_and, not_true, not_false_iff, toNat_0, Bool.false_and, Bool.true_and, Bool.and_false, Bool.and_true, Bool.false_eq_true, reduceCtorEq, Bool.true_eq_false, Bool.not_true, Bool.not_false, c_hasHolder hk.1 hh, e1, e, mbpx_l, mbpx_r, es, ec], ?_⟩
      simp (disch := omega) only [lit_0, lit_1, lit_2, lit_3, lit_4, lit_5, lit_6, lit_7, lit_8, lit_9, lit_10, lit_11, lit_12, lit_13, lit_14, lit_15, lit_16, lit_20, lit_23, lit_24, lit_31, lit_32, lit_39, lit_43, lit_45, lit_47, lit_48, lit_56, lit_57, lit_59, lit_60, lit_62, lit_63, lit_89, lit_92, lit_96, lit_97, lit_99, lit_100, lit_102, lit_103, lit_104, lit_110, lit_111, lit_115, lit_117, lit_194, lit_200, lit_644, lit_736, lit_999, lit_1000, lit_9999, lit_10000, lit_1000000000, ↓wp_mlet, ↓wp_mbp, ↓wp_ite, ↓wp_mix, ↓wp_mdiv, ↓wp_mnz, ↓wp_some, ↓wp_mbnd, ↓mlet_eq, ↓mbp_eq, ↓mbnd_eq, ↓mix_ite, ↓mdiv_ite, ↓mnz_ite, nI_add, nI_mul, nI_nat, nI_ltE, nI_leE, nI_eqE, nI_eqN, nI_Neq, nI_Nlt, nI_Nle, nI_ltN, nI_leN, ↓reduceIte, ↓Nat.reduceEqDiff, and_f, nt_e, nt_t, nl_t, nl_f, ne_t, ne_f, and_self, or_self, or_true, true_or, or_false, false_or, if_true, if_false, and_true, true_and, and_false, false_and, not_true, not_false_iff, toNat_0, Bool.false_and, Bool.true_and, Bool.and_false, Bool.and_true, Bool.false_eq_true, reduceCtorEq, Bool.true_eq_false, Bool.not_true, Bool.not_false, mup_at, up_at, fil_at, ↓reduceIte, ↓Nat.reduceEqDiff, and_f, nt_e, nt_t, nl_t, nl_f, ne_t, ne_f, and_self, or_self, or_true, true_or, or_false, false_or, if_true, if_false, and_true, true_and, and_false, false_and, not_true, not_false_iff, m_isHolder hS hh, e1, ms_n hS, q, em]
      exact ⟨hr' _, rfl, rfl⟩
    · refine ⟨.inr (nI 0), by simp (disch := omega) only [lit_0, lit_1, lit_2, lit_3, lit_4, lit_5, lit_6, lit_7, lit_8, lit_9, lit_10, lit_11, lit_12, lit_13, lit_14, lit_15, lit_16, lit_20, lit_23, lit_24, lit_31, lit_32, lit_39, lit_43, lit_45, lit_47, lit_48, lit_56, lit_57, lit_59, lit_60, lit_62, lit_63, lit_89, lit_92, lit_96, lit_97, lit_99, lit_100, lit_102, lit_103, lit_104, lit_110, lit_111, lit_115, lit_117, lit_194, lit_200, lit_644, lit_736, lit_999, lit_1000, lit_9999, lit_10000, lit_1000000000, ↓wp_mlet, ↓wp_mbp, ↓wp_ite, ↓wp_mix, ↓wp_mdiv, ↓wp_mnz, ↓wp_some, ↓wp_mbnd, ↓mlet_eq, ↓mbp_eq, ↓mbnd_eq, ↓mix_ite, ↓mdiv_ite, ↓mnz_ite, nI_add, nI_mul, nI_nat, nI_ltE, nI_leE, nI_eqE, nI_eqN, nI_Neq, nI_Nlt, nI_Nle, nI_ltN, nI_leN, ↓reduceIte, ↓Nat.reduceEqDiff, and_f, nt_e, nt_t, nl_t, nl_f, ne_t, ne_f, and_self, or_self, or_true, true_or, or_false, false_or, if_true, if_false, and_true, true_and, and_false, false_and, not_true, not_false_iff, toNat_0, Bool.false_and, Bool.true_and, Bool.and_false, Bool.and_true, Bool.false_eq_true, reduceCtorEq, Bool.true_eq_false, Bool.not_true, Bool.not_false, c_hasHolder hk.1 hh, e1, e, mbpx_l, mbpx_r, es, ec], ?_⟩
      simp (disch := omega) only [lit_0, lit_1, lit_2, lit_3, lit_4, lit_5, lit_6, lit_7, lit_8, lit_9, lit_10, lit_11, lit_12, lit_13, lit_14, lit_15, lit_16, lit_20, lit_23, lit_24, lit_31, lit_32, lit_39, lit_43, lit_45, lit_47, lit_48, lit_56, lit_57, lit_59, lit_60, lit_62, lit_63, lit_89, lit_92, lit_96, lit_97, lit_99, lit_100, lit_102, lit_103, lit_104, lit_110, lit_111, lit_115, lit_117, lit_194, lit_200, lit_644, lit_736, lit_999, lit_1000, lit_9999, lit_10000, lit_1000000000, ↓wp_mlet, ↓wp_mbp, ↓wp_ite, ↓wp_mix, ↓wp_mdiv, ↓wp_mnz, ↓wp_some, ↓wp_mbnd, ↓mlet_eq, ↓mbp_eq, ↓mbnd_eq, ↓mix_ite, ↓mdiv_ite, ↓mnz_ite, nI_add, nI_mul, nI_nat, nI_ltE, nI_leE, nI_eqE, nI_eqN, nI_Neq, nI_Nlt, nI_Nle, nI_ltN, nI_leN, ↓reduceIte, ↓Nat.reduceEqDiff, and_f, nt_e, nt_t, nl_t, nl_f, ne_t, ne_f, and_self, or_self, or_true, true_or, or_false, false_or, if_true, if_false, and_true, true_and, and_false, false_and, not_true, not_false_iff, toNat_0, Bool.false_and, Bool.true_and, Bool.and_false, Bool.and_true, Bool.false_eq_true, reduceCtorEq, Bool.true_eq_false, Bool.not_true, Bool.not_false, mup_at, up_at, fil_at, ↓reduceIte, ↓Nat.reduceEqDiff, and_f, nt_e, nt_t, nl_t, nl_f, ne_t, ne_f, and_self, or_self, or_true, true_or, or_false, false_or, if_true, if_false, and_true, true_and, and_false, false_and, not_true, not_false_iff, m_isHolder hS hh, e1, ms_n hS, q, em]
      exact ⟨hr' _, rfl, rfl⟩
theorem pair_isPresented {n : Nat} {M : Mem} (hr : Rel n M) (a1 : Int32) : PairG n (fun x => if x = 1 then 1 else 0) M (f_X11_isPresented a1) (f_X12_isPresented a1) := by
  have hr' := Rel_thr hr
  obtain ⟨α, αh, αs, K, nx, fed, b, H, ⟨hk, hd, hb, hj⟩, hS, hH, hs, ⟨hr1, hr2, hr3, hr4⟩, hi, hih, his, hbb⟩ := hr
  obtain ⟨⟨b0, b1, b2, b3, b4, b5, b6, b7, b8, b9, b10, b11, b14⟩, i1, i2, bs, bk, bn, bz, bt, bg, bl⟩ := hi
  have hS' := fun x => ms_t (x := x) hS
  unfold f_X11_isPresented f_X12_isPresented f_X11_requireHolder
  have e := hk.2.1
  have hh : α 0 < 2147483648 := by omega
  rcases idx_c a1 (α 0) hh with ⟨n1, h1, rfl, e1⟩ | ⟨e1, -⟩
  case inr =>
    refine ⟨.inl 1, by simp (disch := omega) only [lit_0, lit_1, lit_2, lit_3, lit_4, lit_5, lit_6, lit_7, lit_8, lit_9, lit_10, lit_11, lit_12, lit_13, lit_14, lit_15, lit_16, lit_20, lit_23, lit_24, lit_31, lit_32, lit_39, lit_43, lit_45, lit_47, lit_48, lit_56, lit_57, lit_59, lit_60, lit_62, lit_63, lit_89, lit_92, lit_96, lit_97, lit_99, lit_100, lit_102, lit_103, lit_104, lit_110, lit_111, lit_115, lit_117, lit_194, lit_200, lit_644, lit_736, lit_999, lit_1000, lit_9999, lit_10000, lit_1000000000, ↓wp_mlet, ↓wp_mbp, ↓wp_ite, ↓wp_mix, ↓wp_mdiv, ↓wp_mnz, ↓wp_some, ↓wp_mbnd, ↓mlet_eq, ↓mbp_eq, ↓mbnd_eq, ↓mix_ite, ↓mdiv_ite, ↓mnz_ite, nI_add, nI_mul, nI_nat, nI_ltE, nI_leE, nI_eqE, nI_eqN, nI_Neq, nI_Nlt, nI_Nle, nI_ltN, nI_leN, ↓reduceIte, ↓Nat.reduceEqDiff, and_f, nt_e, nt_t, nl_t, nl_f, ne_t, ne_f, and_self, or_self, or_true, true_or, or_false, false_or, if_true, if_false, and_true, true_and, and_false, false_and, not_true, not_false_iff, toNat_0, Bool.false_and, Bool.true_and, Bool.and_false, Bool.and_true, Bool.false_eq_true, reduceCtorEq, Bool.true_eq_false, Bool.not_true, Bool.not_false, c_hasHolder hk.1 hh, e1, mbpx_l], ?_⟩
    simp (disch := omega) only [lit_0, lit_1, lit_2, lit_3, lit_4, lit_5, lit_6, lit_7, lit_8, lit_9, lit_10, lit_11, lit_12, lit_13, lit_14, lit_15, lit_16, lit_20, lit_23, lit_24, lit_31, lit_32, lit_39, lit_43, lit_45, lit_47, lit_48, lit_56, lit_57, lit_59, lit_60, lit_62, lit_63, lit_89, lit_92, lit_96, lit_97, lit_99, lit_100, lit_102, lit_103, lit_104, lit_110, lit_111, lit_115, lit_117, lit_194, lit_200, lit_644, lit_736, lit_999, lit_1000, lit_9999, lit_10000, lit_1000000000, ↓wp_mlet, ↓wp_mbp, ↓wp_ite, ↓wp_mix, ↓wp_mdiv, ↓wp_mnz, ↓wp_some, ↓wp_mbnd, ↓mlet_eq, ↓mbp_eq, ↓mbnd_eq, ↓mix_ite, ↓mdiv_ite, ↓mnz_ite, nI_add, nI_mul, nI_nat, nI_ltE, nI_leE, nI_eqE, nI_eqN, nI_Neq, nI_Nlt, nI_Nle, nI_ltN, nI_leN, ↓reduceIte, ↓Nat.reduceEqDiff, and_f, nt_e, nt_t, nl_t, nl_f, ne_t, ne_f, and_self, or_self, or_true, true_or, or_false, false_or, if_true, if_false, and_true, true_and, and_false, false_and, not_true, not_false_iff, toNat_0, Bool.false_and, Bool.true_and, Bool.and_false, Bool.and_true, Bool.false_eq_true, reduceCtorEq, Bool.true_eq_false, Bool.not_true, Bool.not_false, mup_at, up_at, fil_at, ↓reduceIte, ↓Nat.reduceEqDiff, and_f, nt_e, nt_t, nl_t, nl_f, ne_t, ne_f, and_self, or_self, or_true, true_or, or_false, false_or, if_true, if_false, and_true, true_and, and_false, false_and, not_true, not_false_iff, m_isHolder hS hh, e1]
    exact ⟨hr' _, rfl, by decide, by decide⟩
  have bk2 : ∀ k, k < α 9 → α (23 + k) < 2147483648 := fun k h => by have := bk k h; omega
  have ec := c_placeOf (M := M) (g := 0) (h := n1) hk (by omega) (by omega) bk2
  have em : ∀ x, f_X12_placeOf (nI n1) (mup M 12 47 0 x) = some (oI (pl α n1)) := fun x => m_placeOf (hS' x) (by omega) (by omega) bk2
  cases q : pl α n1 with
  | none =>
    refine ⟨.inr (nI 0), by simp (disch := omega) only [lit_0, lit_1, lit_2, lit_3, lit_4, lit_5, lit_6, lit_7, lit_8, lit_9, lit_10, lit_11, lit_12, lit_13, lit_14, lit_15, lit_16, lit_20, lit_23, lit_24, lit_31, lit_32, lit_39, lit_43, lit_45, lit_47, lit_48, lit_56, lit_57, lit_59, lit_60, lit_62, lit_63, lit_89, lit_92, lit_96, lit_97, lit_99, lit_100, lit_102, lit_103, lit_104, lit_110, lit_111, lit_115, lit_117, lit_194, lit_200, lit_644, lit_736, lit_999, lit_1000, lit_9999, lit_10000, lit_1000000000, ↓wp_mlet, ↓wp_mbp, ↓wp_ite, ↓wp_mix, ↓wp_mdiv, ↓wp_mnz, ↓wp_some, ↓wp_mbnd, ↓mlet_eq, ↓mbp_eq, ↓mbnd_eq, ↓mix_ite, ↓mdiv_ite, ↓mnz_ite, nI_add, nI_mul, nI_nat, nI_ltE, nI_leE, nI_eqE, nI_eqN, nI_Neq, nI_Nlt, nI_Nle, nI_ltN, nI_leN, ↓reduceIte, ↓Nat.reduceEqDiff, and_f, nt_e, nt_t, nl_t, nl_f, ne_t, ne_f, and_self, or_self, or_true, true_or, or_false, false_or, if_true, if_false, and_true, true_and, and_false, false_and, not_true, not_false_iff, toNat_0, Bool.false_and, Bool.true_and, Bool.and_false, Bool.and_true, Bool.false_eq_true, reduceCtorEq, Bool.true_eq_false, Bool.not_true, Bool.not_false, c_hasHolder hk.1 hh, e1, mbpx_l, mbpx_r, ec, q, oI], ?_⟩
    simp (disch := omega) only [lit_0, lit_1, lit_2, lit_3, lit_4, lit_5, lit_6, lit_7, lit_8, lit_9, lit_10, lit_11, lit_12, lit_13, lit_14, lit_15, lit_16, lit_20, lit_23, lit_24, lit_31, lit_32, lit_39, lit_43, lit_45, lit_47, lit_48, lit_56, lit_57, lit_59, lit_60, lit_62, lit_63, lit_89, lit_92, lit_96, lit_97, lit_99, lit_100, lit_102, lit_103, lit_104, lit_110, lit_111, lit_115, lit_117, lit_194, lit_200, lit_644, lit_736, lit_999, lit_1000, lit_9999, lit_10000, lit_1000000000, ↓wp_mlet, ↓wp_mbp, ↓wp_ite, ↓wp_mix, ↓wp_mdiv, ↓wp_mnz, ↓wp_some, ↓wp_mbnd, ↓mlet_eq, ↓mbp_eq, ↓mbnd_eq, ↓mix_ite, ↓mdiv_ite, ↓mnz_ite, nI_add, nI_mul, nI_nat, nI_ltE, nI_leE, nI_eqE, nI_eqN, nI_Neq, nI_Nlt, nI_Nle, nI_ltN, nI_leN, ↓reduceIte, ↓Nat.reduceEqDiff, and_f, nt_e, nt_t, nl_t, nl_f, ne_t, ne_f, and_self, or_self, or_true, true_or, or_false, false_or, if_true, if_false, and_true, true_and, and_false, false_and, not_true, not_false_iff, toNat_0, Bool.false_and, Bool.true_and, Bool.and_false, Bool.and_true, Bool.false_eq_true, reduceCtorEq, Bool.true_eq_false, Bool.not_true, Bool.not_false, mup_at, up_at, fil_at, ↓reduceIte, ↓Nat.reduceEqDiff, and_f, nt_e, nt_t, nl_t, nl_f, ne_t, ne_f, and_self, or_self, or_true, true_or, or_false, false_or, if_true, if_false, and_true, true_and, and_false, false_and, not_true, not_false_iff, m_isHolder hS hh, e1, em, q, oI]
    exact ⟨hr' _, rfl, rfl⟩
  | some k =>
    have := (pl_lt q).1
    refine ⟨.inr (nI 1), by simp (disch := omega) only [lit_0, lit_1, lit_2, lit_3, lit_4, lit_5, lit_6, lit_7, lit_8, lit_9, lit_10, lit_11, lit_12, lit_13, lit_14, lit_15, lit_16, lit_20, lit_23, lit_24, lit_31, lit_32, lit_39, lit_43, lit_45, lit_47, lit_48, lit_56, lit_57, lit_59, lit_60, lit_62, lit_63, lit_89, lit_92, lit_96, lit_97, lit_99, lit_100, lit_102, lit_103, lit_104, lit_110, lit_111, lit_115, lit_117, lit_194, lit_200, lit_644, lit_736, lit_999, lit_1000, lit_9999, lit_10000, lit_1000000000, ↓wp_mlet, ↓wp_mbp, ↓wp_ite, ↓wp_mix, ↓wp_mdiv, ↓wp_mnz, ↓wp_some, ↓wp_mbnd, ↓mlet_eq, ↓mbp_eq, ↓mbnd_eq, ↓mix_ite, ↓mdiv_ite, ↓mnz_ite, nI_add, nI_mul, nI_nat, nI_ltE, nI_leE, nI_eqE, nI_eqN, nI_Neq, nI_Nlt, nI_Nle, nI_ltN, nI_leN, ↓reduceIte, ↓Nat.reduceEqDiff, and_f, nt_e, nt_t, nl_t, nl_f, ne_t, ne_f, and_self, or_self, or_true, true_or, or_false, false_or, if_true, if_false, and_true, true_and, and_false, false_and, not_true, not_false_iff, toNat_0, Bool.false_and, Bool.true_and, Bool.and_false, Bool.and_true, Bool.false_eq_true, reduceCtorEq, Bool.true_eq_false, Bool.not_true, Bool.not_false, c_hasHolder hk.1 hh, e1, mbpx_l, mbpx_r, ec, q, oI], ?_⟩
    simp (disch := omega) only [lit_0, lit_1, lit_2, lit_3, lit_4, lit_5, lit_6, lit_7, lit_8, lit_9, lit_10, lit_11, lit_12, lit_13, lit_14, lit_15, lit_16, lit_20, lit_23, lit_24, lit_31, lit_32, lit_39, lit_43, lit_45, lit_47, lit_48, lit_56, lit_57, lit_59, lit_60, lit_62, lit_63, lit_89, lit_92, lit_96, lit_97, lit_99, lit_100, lit_102, lit_103, lit_104, lit_110, lit_111, lit_115, lit_117, lit_194, lit_200, lit_644, lit_736, lit_999, lit_1000, lit_9999, lit_10000, lit_1000000000, ↓wp_mlet, ↓wp_mbp, ↓wp_ite, ↓wp_mix, ↓wp_mdiv, ↓wp_mnz, ↓wp_some, ↓wp_mbnd, ↓mlet_eq, ↓mbp_eq, ↓mbnd_eq, ↓mix_ite, ↓mdiv_ite, ↓mnz_ite, nI_add, nI_mul, nI_nat, nI_ltE, nI_leE, nI_eqE, nI_eqN, nI_Neq, nI_Nlt, nI_Nle, nI_ltN, nI_leN, ↓reduceIte, ↓Nat.reduceEqDiff, and_f, nt_e, nt_t, nl_t, nl_f, ne_t, ne_f, and_self, or_self, or_true, true_or, or_false, false_or, if_true, if_false, and_true, true_and, and_false, false_and, not_true, not_false_iff, toNat_0, Bool.false_and, Bool.true_and, Bool.and_false, Bool.and_true, Bool.false_eq_true, reduceCtorEq, Bool.true_eq_false, Bool.not_true, Bool.not_false, mup_at, up_at, fil_at, ↓reduceIte, ↓Nat.reduceEqDiff, and_f, nt_e, nt_t, nl_t, nl_f, ne_t, ne_f, and_self, or_self, or_true, true_or, or_false, false_or, if_true, if_false, and_true, true_and, and_false, false_and, not_true, not_false_iff, m_isHolder hS hh, e1, em, q, oI]
    exact ⟨hr' _, rfl, rfl⟩
theorem pair_zoneOf {n : Nat} {M : Mem} (hr : Rel n M) (a1 : Int32) : PairG n (fun x => if x = 1 then 1 else 0) M (f_X11_zoneOf a1) (f_X12_zoneOf a1) := by
  have hr' := Rel_thr hr
  obtain ⟨α, αh, αs, K, nx, fed, b, H, ⟨hk, hd, hb, hj⟩, hS, hH, hs, ⟨hr1, hr2, hr3, hr4⟩, hi, hih, his, hbb⟩ := hr
  obtain ⟨⟨b0, b1, b2, b3, b4, b5, b6, b7, b8, b9, b10, b11, b14⟩, i1, i2, bs, bk, bn, bz, bt, bg, bl⟩ := hi
  have hS' := fun x => ms_t (x := x) hS
  unfold f_X11_zoneOf f_X12_zoneOf f_X11_requireGuard
  have hh : α 10 < 2147483648 := by omega
  rcases idx_c a1 (α 10) hh with ⟨n1, h1, rfl, e1⟩ | ⟨e1, -⟩
  case inr =>
    refine ⟨.inl 1, by simp (disch := omega) only [lit_0, lit_1, lit_2, lit_3, lit_4, lit_5, lit_6, lit_7, lit_8, lit_9, lit_10, lit_11, lit_12, lit_13, lit_14, lit_15, lit_16, lit_20, lit_23, lit_24, lit_31, lit_32, lit_39, lit_43, lit_45, lit_47, lit_48, lit_56, lit_57, lit_59, lit_60, lit_62, lit_63, lit_89, lit_92, lit_96, lit_97, lit_99, lit_100, lit_102, lit_103, lit_104, lit_110, lit_111, lit_115, lit_117, lit_194, lit_200, lit_644, lit_736, lit_999, lit_1000, lit_9999, lit_10000, lit_1000000000, ↓wp_mlet, ↓wp_mbp, ↓wp_ite, ↓wp_mix, ↓wp_mdiv, ↓wp_mnz, ↓wp_some, ↓wp_mbnd, ↓mlet_eq, ↓mbp_eq, ↓mbnd_eq, ↓mix_ite, ↓mdiv_ite, ↓mnz_ite, nI_add, nI_mul, nI_nat, nI_ltE, nI_leE, nI_eqE, nI_eqN, nI_Neq, nI_Nlt, nI_Nle, nI_ltN, nI_leN, ↓reduceIte, ↓Nat.reduceEqDiff, and_f, nt_e, nt_t, nl_t, nl_f, ne_t, ne_f, and_self, or_self, or_true, true_or, or_false, false_or, if_true, if_false, and_true, true_and, and_false, false_and, not_true, not_false_iff, toNat_0, Bool.false_and, Bool.true_and, Bool.and_false, Bool.and_true, Bool.false_eq_true, reduceCtorEq, Bool.true_eq_false, Bool.not_true, Bool.not_false, c_hasGuard hb.2.2.1 hh, e1, mbpx_l], ?_⟩
    simp (disch := omega) only [lit_0, lit_1, lit_2, lit_3, lit_4, lit_5, lit_6, lit_7, lit_8, lit_9, lit_10, lit_11, lit_12, lit_13, lit_14, lit_15, lit_16, lit_20, lit_23, lit_24, lit_31, lit_32, lit_39, lit_43, lit_45, lit_47, lit_48, lit_56, lit_57, lit_59, lit_60, lit_62, lit_63, lit_89, lit_92, lit_96, lit_97, lit_99, lit_100, lit_102, lit_103, lit_104, lit_110, lit_111, lit_115, lit_117, lit_194, lit_200, lit_644, lit_736, lit_999, lit_1000, lit_9999, lit_10000, lit_1000000000, ↓wp_mlet, ↓wp_mbp, ↓wp_ite, ↓wp_mix, ↓wp_mdiv, ↓wp_mnz, ↓wp_some, ↓wp_mbnd, ↓mlet_eq, ↓mbp_eq, ↓mbnd_eq, ↓mix_ite, ↓mdiv_ite, ↓mnz_ite, nI_add, nI_mul, nI_nat, nI_ltE, nI_leE, nI_eqE, nI_eqN, nI_Neq, nI_Nlt, nI_Nle, nI_ltN, nI_leN, ↓reduceIte, ↓Nat.reduceEqDiff, and_f, nt_e, nt_t, nl_t, nl_f, ne_t, ne_f, and_self, or_self, or_true, true_or, or_false, false_or, if_true, if_false, and_true, true_and, and_false, false_and, not_true, not_false_iff, toNat_0, Bool.false_and, Bool.true_and, Bool.and_false, Bool.and_true, Bool.false_eq_true, reduceCtorEq, Bool.true_eq_false, Bool.not_true, Bool.not_false, mup_at, up_at, fil_at, ↓reduceIte, ↓Nat.reduceEqDiff, and_f, nt_e, nt_t, nl_t, nl_f, ne_t, ne_f, and_self, or_self, or_true, true_or, or_false, false_or, if_true, if_false, and_true, true_and, and_false, false_and, not_true, not_false_iff, m_isGuard hS hh, e1]
    exact ⟨hr' _, rfl, by decide, by decide⟩
  have eg := hb.2.2.2.2.2.1 n1 (by omega) h1
  obtain ⟨g1, g2, g3, g4, g5⟩ := bg n1 h1
  have em : ∀ x, f_X12_guard (nI n1) (nI 0) (mup M 12 47 0 x) = some (nI (α (47 + 3 * n1))) := fun x => m_guard0 (hS' x) (by omega)
  refine ⟨.inr (nI (α (47 + 3 * n1))), by simp (disch := omega) only [lit_0, lit_1, lit_2, lit_3, lit_4, lit_5, lit_6, lit_7, lit_8, lit_9, lit_10, lit_11, lit_12, lit_13, lit_14, lit_15, lit_16, lit_20, lit_23, lit_24, lit_31, lit_32, lit_39, lit_43, lit_45, lit_47, lit_48, lit_56, lit_57, lit_59, lit_60, lit_62, lit_63, lit_89, lit_92, lit_96, lit_97, lit_99, lit_100, lit_102, lit_103, lit_104, lit_110, lit_111, lit_115, lit_117, lit_194, lit_200, lit_644, lit_736, lit_999, lit_1000, lit_9999, lit_10000, lit_1000000000, ↓wp_mlet, ↓wp_mbp, ↓wp_ite, ↓wp_mix, ↓wp_mdiv, ↓wp_mnz, ↓wp_some, ↓wp_mbnd, ↓mlet_eq, ↓mbp_eq, ↓mbnd_eq, ↓mix_ite, ↓mdiv_ite, ↓mnz_ite, nI_add, nI_mul, nI_nat, nI_ltE, nI_leE, nI_eqE, nI_eqN, nI_Neq, nI_Nlt, nI_Nle, nI_ltN, nI_leN, ↓reduceIte, ↓Nat.reduceEqDiff, and_f, nt_e, nt_t, nl_t, nl_f, ne_t, ne_f, and_self, or_self, or_true, true_or, or_false, false_or, if_true, if_false, and_true, true_and, and_false, false_and, not_true, not_false_iff, toNat_0, Bool.false_and, Bool.true_and, Bool.and_false, Bool.and_true, Bool.false_eq_true, reduceCtorEq, Bool.true_eq_false, Bool.not_true, Bool.not_false, c_hasGuard hb.2.2.1 hh, e1, mbpx_l, mbpx_r, eg.1], ?_⟩
  simp (disch := omega) only [lit_0, lit_1, lit_2, lit_3, lit_4, lit_5, lit_6, lit_7, lit_8, lit_9, lit_10, lit_11, lit_12, lit_13, lit_14, lit_15, lit_16, lit_20, lit_23, lit_24, lit_31, lit_32, lit_39, lit_43, lit_45, lit_47, lit_48, lit_56, lit_57, lit_59, lit_60, lit_62, lit_63, lit_89, lit_92, lit_96, lit_97, lit_99, lit_100, lit_102, lit_103, lit_104, lit_110, lit_111, lit_115, lit_117, lit_194, lit_200, lit_644, lit_736, lit_999, lit_1000, lit_9999, lit_10000, lit_1000000000, ↓wp_mlet, ↓wp_mbp, ↓wp_ite, ↓wp_mix, ↓wp_mdiv, ↓wp_mnz, ↓wp_some, ↓wp_mbnd, ↓mlet_eq, ↓mbp_eq, ↓mbnd_eq, ↓mix_ite, ↓mdiv_ite, ↓mnz_ite, nI_add, nI_mul, nI_nat, nI_ltE, nI_leE, nI_eqE, nI_eqN, nI_Neq, nI_Nlt, nI_Nle, nI_ltN, nI_leN, ↓reduceIte, ↓Nat.reduceEqDiff, and_f, nt_e, nt_t, nl_t, nl_f, ne_t, ne_f, and_self, or_self, or_true, true_or, or_false, false_or, if_true, if_false, and_true, true_and, and_false, false_and, not_true, not_false_iff, toNat_0, Bool.false_and, Bool.true_and, Bool.and_false, Bool.and_true, Bool.false_eq_true, reduceCtorEq, Bool.true_eq_false, Bool.not_true, Bool.not_false, mup_at, up_at, fil_at, ↓reduceIte, ↓Nat.reduceEqDiff, and_f, nt_e, nt_t, nl_t, nl_f, ne_t, ne_f, and_self, or_self, or_true, true_or, or_false, false_or, if_true, if_false, and_true, true_and, and_false, false_and, not_true, not_false_iff, m_isGuard hS hh, e1, em]
  exact ⟨hr' _, rfl, rfl⟩
theorem pair_isForwards {n : Nat} {M : Mem} (hr : Rel n M) (a1 : Int32) : PairG n (fun x => if x = 1 then 1 else 0) M (f_X11_isForwards a1) (f_X12_isForwards a1) := by
  have hr' := Rel_thr hr
  obtain ⟨α, αh, αs, K, nx, fed, b, H, ⟨hk, hd, hb, hj⟩, hS, hH, hs, ⟨hr1, hr2, hr3, hr4⟩, hi, hih, his, hbb⟩ := hr
  obtain ⟨⟨b0, b1, b2, b3, b4, b5, b6, b7, b8, b9, b10, b11, b14⟩, i1, i2, bs, bk, bn, bz, bt, bg, bl⟩ := hi
  have hS' := fun x => ms_t (x := x) hS
  unfold f_X11_isForwards f_X12_isForwards f_X11_requireGuard
  have hh : α 10 < 2147483648 := by omega
  rcases idx_c a1 (α 10) hh with ⟨n1, h1, rfl, e1⟩ | ⟨e1, -⟩
  case inr =>
    refine ⟨.inl 1, by simp (disch := omega) only [lit_0, lit_1, lit_2, lit_3, lit_4, lit_5, lit_6, lit_7, lit_8, lit_9, lit_10, lit_11, lit_12, lit_13, lit_14, lit_15, lit_16, lit_20, lit_23, lit_24, lit_31, lit_32, lit_39, lit_43, lit_45, lit_47, lit_48, lit_56, lit_57, lit_59, lit_60, lit_62, lit_63, lit_89, lit_92, lit_96, lit_97, lit_99, lit_100, lit_102, lit_103, lit_104, lit_110, lit_111, lit_115, lit_117, lit_194, lit_200, lit_644, lit_736, lit_999, lit_1000, lit_9999, lit_10000, lit_1000000000, ↓wp_mlet, ↓wp_mbp, ↓wp_ite, ↓wp_mix, ↓wp_mdiv, ↓wp_mnz, ↓wp_some, ↓wp_mbnd, ↓mlet_eq, ↓mbp_eq, ↓mbnd_eq, ↓mix_ite, ↓mdiv_ite, ↓mnz_ite, nI_add, nI_mul, nI_nat, nI_ltE, nI_leE, nI_eqE, nI_eqN, nI_Neq, nI_Nlt, nI_Nle, nI_ltN, nI_leN, ↓reduceIte, ↓Nat.reduceEqDiff, and_f, nt_e, nt_t, nl_t, nl_f, ne_t, ne_f, and_self, or_self, or_true, true_or, or_false, false_or, if_true, if_false, and_true, true_and, and_false, false_and, not_true, not_false_iff, toNat_0, Bool.false_and, Bool.true_and, Bool.and_false, Bool.and_true, Bool.false_eq_true, reduceCtorEq, Bool.true_eq_false, Bool.not_true, Bool.not_false, c_hasGuard hb.2.2.1 hh, e1, mbpx_l], ?_⟩
    simp (disch := omega) only [lit_0, lit_1, lit_2, lit_3, lit_4, lit_5, lit_6, lit_7, lit_8, lit_9, lit_10, lit_11, lit_12, lit_13, lit_14, lit_15, lit_16, lit_20, lit_23, lit_24, lit_31, lit_32, lit_39, lit_43, lit_45, lit_47, lit_48, lit_56, lit_57, lit_59, lit_60, lit_62, lit_63, lit_89, lit_92, lit_96, lit_97, lit_99, lit_100, lit_102, lit_103, lit_104, lit_110, lit_111, lit_115, lit_117, lit_194, lit_200, lit_644, lit_736, lit_999, lit_1000, lit_9999, lit_10000, lit_1000000000, ↓wp_mlet, ↓wp_mbp, ↓wp_ite, ↓wp_mix, ↓wp_mdiv, ↓wp_mnz, ↓wp_some, ↓wp_mbnd, ↓mlet_eq, ↓mbp_eq, ↓mbnd_eq, ↓mix_ite, ↓mdiv_ite, ↓mnz_ite, nI_add, nI_mul, nI_nat, nI_ltE, nI_leE, nI_eqE, nI_eqN, nI_Neq, nI_Nlt, nI_Nle, nI_ltN, nI_leN, ↓reduceIte, ↓Nat.reduceEqDiff, and_f, nt_e, nt_t, nl_t, nl_f, ne_t, ne_f, and_self, or_self, or_true, true_or, or_false, false_or, if_true, if_false, and_true, true_and, and_false, false_and, not_true, not_false_iff, toNat_0, Bool.false_and, Bool.true_and, Bool.and_false, Bool.and_true, Bool.false_eq_true, reduceCtorEq, Bool.true_eq_false, Bool.not_true, Bool.not_false, mup_at, up_at, fil_at, ↓reduceIte, ↓Nat.reduceEqDiff, and_f, nt_e, nt_t, nl_t, nl_f, ne_t, ne_f, and_self, or_self, or_true, true_or, or_false, false_or, if_true, if_false, and_true, true_and, and_false, false_and, not_true, not_false_iff, m_isGuard hS hh, e1]
    exact ⟨hr' _, rfl, by decide, by decide⟩
  have eg := hb.2.2.2.2.2.1 n1 (by omega) h1
  obtain ⟨g1, g2, g3, g4, g5⟩ := bg n1 h1
  have em : ∀ x, f_X12_guard (nI n1) (nI 1) (mup M 12 47 0 x) = some (enc α (48 + 3 * n1)) := fun x => by rw [m_guard (hS' x) (by omega) (by decide), show 47 + 3 * n1 + 1 = 48 + 3 * n1 by omega]
  by_cases q : α (48 + 3 * n1) = 1
  · have ew : enc α (48 + 3 * n1) = nI 1 := by rw [enc_n2 (by omega), q]
    refine ⟨.inr (nI 1), by simp (disch := omega) only [lit_0, lit_1, lit_2, lit_3, lit_4, lit_5, lit_6, lit_7, lit_8, lit_9, lit_10, lit_11, lit_12, lit_13, lit_14, lit_15, lit_16, lit_20, lit_23, lit_24, lit_31, lit_32, lit_39, lit_43, lit_45, lit_47, lit_48, lit_56, lit_57, lit_59, lit_60, lit_62, lit_63, lit_89, lit_92, lit_96, lit_97, lit_99, lit_100, lit_102, lit_103, lit_104, lit_110, lit_111, lit_115, lit_117, lit_194, lit_200, lit_644, lit_736, lit_999, lit_1000, lit_9999, lit_10000, lit_1000000000, ↓wp_mlet, ↓wp_mbp, ↓wp_ite, ↓wp_mix, ↓wp_mdiv, ↓wp_mnz, ↓wp_some, ↓wp_mbnd, ↓mlet_eq, ↓mbp_eq, ↓mbnd_eq, ↓mix_ite, ↓mdiv_ite, ↓mnz_ite, nI_add, nI_mul, nI_nat, nI_ltE, nI_leE, nI_eqE, nI_eqN, nI_Neq, nI_Nlt, nI_Nle, nI_ltN, nI_leN, ↓reduceIte, ↓Nat.reduceEqDiff, and_f, nt_e, nt_t, nl_t, nl_f, ne_t, ne_f, and_self, or_self, or_true, true_or, or_false, false_or, if_true, if_false, and_true, true_and, and_false, false_and, not_true, not_false_iff, toNat_0, Bool.false_and, Bool.true_and, Bool.and_false, Bool.and_true, Bool.false_eq_true, reduceCtorEq, Bool.true_eq_false, Bool.not_true, Bool.not_false, c_hasGuard hb.2.2.1 hh, e1, mbpx_l, mbpx_r, eg.2.1, q, Nat.reduceSub], ?_⟩
    simp (disch := omega) only [lit_0, lit_1, lit_2, lit_3, lit_4, lit_5, lit_6, lit_7, lit_8, lit_9, lit_10, lit_11, lit_12, lit_13, lit_14, lit_15, lit_16, lit_20, lit_23, lit_24, lit_31, lit_32, lit_39, lit_43, lit_45, lit_47, lit_48, lit_56, lit_57, lit_59, lit_60, lit_62, lit_63, lit_89, lit_92, lit_96, lit_97, lit_99, lit_100, lit_102, lit_103, lit_104, lit_110, lit_111, lit_115, lit_117, lit_194, lit_200, lit_644, lit_736, lit_999, lit_1000, lit_9999, lit_10000, lit_1000000000, ↓wp_mlet, ↓wp_mbp, ↓wp_ite, ↓wp_mix, ↓wp_mdiv, ↓wp_mnz, ↓wp_some, ↓wp_mbnd, ↓mlet_eq, ↓mbp_eq, ↓mbnd_eq, ↓mix_ite, ↓mdiv_ite, ↓mnz_ite, nI_add, nI_mul, nI_nat, nI_ltE, nI_leE, nI_eqE, nI_eqN, nI_Neq, nI_Nlt, nI_Nle, nI_ltN, nI_leN, ↓reduceIte, ↓Nat.reduceEqDiff, and_f, nt_e, nt_t, nl_t, nl_f, ne_t, ne_f, and_self, or_self, or_true, true_or, or_false, false_or, if_true, if_false, and_true, true_and, and_false, false_and, not_true, not_false_iff, toNat_0, Bool.false_and, Bool.true_and, Bool.and_false, Bool.and_true, Bool.false_eq_true, reduceCtorEq, Bool.true_eq_false, Bool.not_true, Bool.not_false, mup_at, up_at, fil_at, ↓reduceIte, ↓Nat.reduceEqDiff, and_f, nt_e, nt_t, nl_t, nl_f, ne_t, ne_f, and_self, or_self, or_true, true_or, or_false, false_or, if_true, if_false, and_true, true_and, and_false, false_and, not_true, not_false_iff, m_isGuard hS hh, e1, em, ew]
    exact ⟨hr' _, rfl, rfl⟩
  · have q2 : α (48 + 3 * n1) = 2 := by omega
    have ew : enc α (48 + 3 * n1) = -nI 1 := enc_2 (by omega) q2
    refine ⟨.inr (nI 0), by simp (disch := omega) only [lit_0, lit_1, lit_2, lit_3, lit_4, lit_5, lit_6, lit_7, lit_8, lit_9, lit_10, lit_11, lit_12, lit_13, lit_14, lit_15, lit_16, lit_20, lit_23, lit_24, lit_31, lit_32, lit_39, lit_43, lit_45, lit_47, lit_48, lit_56, lit_57, lit_59, lit_60, lit_62, lit_63, lit_89, lit_92, lit_96, lit_97, lit_99, lit_100, lit_102, lit_103, lit_104, lit_110, lit_111, lit_115, lit_117, lit_194, lit_200, lit_644, lit_736, lit_999, lit_1000, lit_9999, lit_10000, lit_1000000000, ↓wp_mlet, ↓wp_mbp, ↓wp_ite, ↓wp_mix, ↓wp_mdiv, ↓wp_mnz, ↓wp_some, ↓wp_mbnd, ↓mlet_eq, ↓mbp_eq, ↓mbnd_eq, ↓mix_ite, ↓mdiv_ite, ↓mnz_ite, nI_add, nI_mul, nI_nat, nI_ltE, nI_leE, nI_eqE, nI_eqN, nI_Neq, nI_Nlt, nI_Nle, nI_ltN, nI_leN, ↓reduceIte, ↓Nat.reduceEqDiff, and_f, nt_e, nt_t, nl_t, nl_f, ne_t, ne_f, and_self, or_self, or_true, true_or, or_false, false_or, if_true, if_false, and_true, true_and, and_false, false_and, not_true, not_false_iff, toNat_0, Bool.false_and, Bool.true_and, Bool.and_false, Bool.and_true, Bool.false_eq_true, reduceCtorEq, Bool.true_eq_false, Bool.not_true, Bool.not_false, c_hasGuard hb.2.2.1 hh, e1, mbpx_l, mbpx_r, eg.2.1, q2, Nat.reduceSub], ?_⟩
    simp (disch := omega) only [lit_0, lit_1, lit_2, lit_3, lit_4, lit_5, lit_6, lit_7, lit_8, lit_9, lit_10, lit_11, lit_12, lit_13, lit_14, lit_15, lit_16, lit_20, lit_23, lit_24, lit_31, lit_32, lit_39, lit_43, lit_45, lit_47, lit_48, lit_56, lit_57, lit_59, lit_60, lit_62, lit_63, lit_89, lit_92, lit_96, lit_97, lit_99, lit_100, lit_102, lit_103, lit_104, lit_110, lit_111, lit_115, lit_117, lit_194, lit_200, lit_644, lit_736, lit_999, lit_1000, lit_9999, lit_10000, lit_1000000000, ↓wp_mlet, ↓wp_mbp, ↓wp_ite, ↓wp_mix, ↓wp_mdiv, ↓wp_mnz, ↓wp_some, ↓wp_mbnd, ↓mlet_eq, ↓mbp_eq, ↓mbnd_eq, ↓mix_ite, ↓mdiv_ite, ↓mnz_ite, nI_add, nI_mul, nI_nat, nI_ltE, nI_leE, nI_eqE, nI_eqN, nI_Neq, nI_Nlt, nI_Nle, nI_ltN, nI_leN, ↓reduceIte, ↓Nat.reduceEqDiff, and_f, nt_e, nt_t, nl_t, nl_f, ne_t, ne_f, and_self, or_self, or_true, true_or, or_false, false_or, if_true, if_false, and_true, true_and, and_false, false_and, not_true, not_false_iff, toNat_0, Bool.false_and, Bool.true_and, Bool.and_false, Bool.and_true, Bool.false_eq_true, reduceCtorEq, Bool.true_eq_false, Bool.not_true, Bool.not_false, mup_at, up_at, fil_at, ↓reduceIte, ↓Nat.reduceEqDiff, and_f, nt_e, nt_t, nl_t, nl_f, ne_t, ne_f, and_self, or_self, or_true, true_or, or_false, false_or, if_true, if_false, and_true, true_and, and_false, false_and, not_true, not_false_iff, m_isGuard hS hh, e1, em, ew]
    exact ⟨hr' _, rfl, rfl⟩
theorem pair_noise {n : Nat} {M : Mem} (hr : Rel n M) (a1 : Int32) : PairG n (fun x => if x = 2 then 1 else 0) M (f_X11_noise a1) (f_X12_noise a1) := by
  have hr' := Rel_thr hr
  obtain ⟨α, αh, αs, K, nx, fed, b, H, ⟨hk, hd, hb, hj⟩, hS, hH, hs, ⟨hr1, hr2, hr3, hr4⟩, hi, hih, his, hbb⟩ := hr
  obtain ⟨⟨b0, b1, b2, b3, b4, b5, b6, b7, b8, b9, b10, b11, b14⟩, i1, i2, bs, bk, bn, bz, bt, bg, bl⟩ := hi
  have hS' := fun x => ms_t (x := x) hS
  unfold f_X11_noise f_X12_noise f_X11_requireZone f_X12_isAsked
  rcases idx_c a1 8 (by decide) with ⟨n1, h1, rfl, e1⟩ | ⟨e1, -⟩
  case inr =>
    refine ⟨.inl 2, by simp (disch := omega) only [lit_0, lit_1, lit_2, lit_3, lit_4, lit_5, lit_6, lit_7, lit_8, lit_9, lit_10, lit_11, lit_12, lit_13, lit_14, lit_15, lit_16, lit_20, lit_23, lit_24, lit_31, lit_32, lit_39, lit_43, lit_45, lit_47, lit_48, lit_56, lit_57, lit_59, lit_60, lit_62, lit_63, lit_89, lit_92, lit_96, lit_97, lit_99, lit_100, lit_102, lit_103, lit_104, lit_110, lit_111, lit_115, lit_117, lit_194, lit_200, lit_644, lit_736, lit_999, lit_1000, lit_9999, lit_10000, lit_1000000000, ↓wp_mlet, ↓wp_mbp, ↓wp_ite, ↓wp_mix, ↓wp_mdiv, ↓wp_mnz, ↓wp_some, ↓wp_mbnd, ↓mlet_eq, ↓mbp_eq, ↓mbnd_eq, ↓mix_ite, ↓mdiv_ite, ↓mnz_ite, nI_add, nI_mul, nI_nat, nI_ltE, nI_leE, nI_eqE, nI_eqN, nI_Neq, nI_Nlt, nI_Nle, nI_ltN, nI_leN, ↓reduceIte, ↓Nat.reduceEqDiff, and_f, nt_e, nt_t, nl_t, nl_f, ne_t, ne_f, and_self, or_self, or_true, true_or, or_false, false_or, if_true, if_false, and_true, true_and, and_false, false_and, not_true, not_false_iff, toNat_0, Bool.false_and, Bool.true_and, Bool.and_false, Bool.and_true, Bool.false_eq_true, reduceCtorEq, Bool.true_eq_false, Bool.not_true, Bool.not_false, c_hasZone, e1, mbpx_l], ?_⟩
    simp (disch := omega) only [lit_0, lit_1, lit_2, lit_3, lit_4, lit_5, lit_6, lit_7, lit_8, lit_9, lit_10, lit_11, lit_12, lit_13, lit_14, lit_15, lit_16, lit_20, lit_23, lit_24, lit_31, lit_32, lit_39, lit_43, lit_45, lit_47, lit_48, lit_56, lit_57, lit_59, lit_60, lit_62, lit_63, lit_89, lit_92, lit_96, lit_97, lit_99, lit_100, lit_102, lit_103, lit_104, lit_110, lit_111, lit_115, lit_117, lit_194, lit_200, lit_644, lit_736, lit_999, lit_1000, lit_9999, lit_10000, lit_1000000000, ↓wp_mlet, ↓wp_mbp, ↓wp_ite, ↓wp_mix, ↓wp_mdiv, ↓wp_mnz, ↓wp_some, ↓wp_mbnd, ↓mlet_eq, ↓mbp_eq, ↓mbnd_eq, ↓mix_ite, ↓mdiv_ite, ↓mnz_ite, nI_add, nI_mul, nI_nat, nI_ltE, nI_leE, nI_eqE, nI_eqN, nI_Neq, nI_Nlt, nI_Nle, nI_ltN, nI_leN, ↓reduceIte, ↓Nat.reduceEqDiff, and_f, nt_e, nt_t, nl_t, nl_f, ne_t, ne_f, and_self, or_self, or_true, true_or, or_false, false_or, if_true, if_false, and_true, true_and, and_false, false_and, not_true, not_false_iff, toNat_0, Bool.false_and, Bool.true_and, Bool.and_false, Bool.and_true, Bool.false_eq_true, reduceCtorEq, Bool.true_eq_false, Bool.not_true, Bool.not_false, mup_at, up_at, fil_at, ↓reduceIte, ↓Nat.reduceEqDiff, and_f, nt_e, nt_t, nl_t, nl_f, ne_t, ne_f, and_self, or_self, or_true, true_or, or_false, false_or, if_true, if_false, and_true, true_and, and_false, false_and, not_true, not_false_iff, m_isZone, e1]
    exact ⟨hr' _, rfl, by decide, by decide⟩
  refine ⟨.inr (nI (α (31 + n1))), by simp (disch := omega) only [lit_0, lit_1, lit_2, lit_3, lit_4, lit_5, lit_6, lit_7, lit_8, lit_9, lit_10, lit_11, lit_12, lit_13, lit_14, lit_15, lit_16, lit_20, lit_23, lit_24, lit_31, lit_32, lit_39, lit_43, lit_45, lit_47, lit_48, lit_56, lit_57, lit_59, lit_60, lit_62, lit_63, lit_89, lit_92, lit_96, lit_97, lit_99, lit_100, lit_102, lit_103, lit_104, lit_110, lit_111, lit_115, lit_117, lit_194, lit_200, lit_644, lit_736, lit_999, lit_1000, lit_9999, lit_10000, lit_1000000000, ↓wp_mlet, ↓wp_mbp, ↓wp_ite, ↓wp_mix, ↓wp_mdiv, ↓wp_mnz, ↓wp_some, ↓wp_mbnd, ↓mlet_eq, ↓mbp_eq, ↓mbnd_eq, ↓mix_ite, ↓mdiv_ite, ↓mnz_ite, nI_add, nI_mul, nI_nat, nI_ltE, nI_leE, nI_eqE, nI_eqN, nI_Neq, nI_Nlt, nI_Nle, nI_ltN, nI_leN, ↓reduceIte, ↓Nat.reduceEqDiff, and_f, nt_e, nt_t, nl_t, nl_f, ne_t, ne_f, and_self, or_self, or_true, true_or, or_false, false_or, if_true, if_false, and_true, true_and, and_false, false_and, not_true, not_false_iff, toNat_0, Bool.false_and, Bool.true_and, Bool.and_false, Bool.and_true, Bool.false_eq_true, reduceCtorEq, Bool.true_eq_false, Bool.not_true, Bool.not_false, c_hasZone, e1, mbpx_l, mbpx_r, hb.2.2.2.1 n1 h1], ?_⟩
  simp (disch := omega) only [lit_0, lit_1, lit_2, lit_3, lit_4, lit_5, lit_6, lit_7, lit_8, lit_9, lit_10, lit_11, lit_12, lit_13, lit_14, lit_15, lit_16, lit_20, lit_23, lit_24, lit_31, lit_32, lit_39, lit_43, lit_45, lit_47, lit_48, lit_56, lit_57, lit_59, lit_60, lit_62, lit_63, lit_89, lit_92, lit_96, lit_97, lit_99, lit_100, lit_102, lit_103, lit_104, lit_110, lit_111, lit_115, lit_117, lit_194, lit_200, lit_644, lit_736, lit_999, lit_1000, lit_9999, lit_10000, lit_1000000000, ↓wp_mlet, ↓wp_mbp, ↓wp_ite, ↓wp_mix, ↓wp_mdiv, ↓wp_mnz, ↓wp_some, ↓wp_mbnd, ↓mlet_eq, ↓mbp_eq, ↓mbnd_eq, ↓mix_ite, ↓mdiv_ite, ↓mnz_ite, nI_add, nI_mul, nI_nat, nI_ltE, nI_leE, nI_eqE, nI_eqN, nI_Neq, nI_Nlt, nI_Nle, nI_ltN, nI_leN, ↓reduceIte, ↓Nat.reduceEqDiff, and_f, nt_e, nt_t, nl_t, nl_f, ne_t, ne_f, and_self, or_self, or_true, true_or, or_false, false_or, if_true, if_false, and_true, true_and, and_false, false_and, not_true, not_false_iff, toNat_0, Bool.false_and, Bool.true_and, Bool.and_false, Bool.and_true, Bool.false_eq_true, reduceCtorEq, Bool.true_eq_false, Bool.not_true, Bool.not_false, mup_at, up_at, fil_at, ↓reduceIte, ↓Nat.reduceEqDiff, and_f, nt_e, nt_t, nl_t, nl_f, ne_t, ne_f, and_self, or_self, or_true, true_or, or_false, false_or, if_true, if_false, and_true, true_and, and_false, false_and, not_true, not_false_iff, m_isZone, e1, ms_n hS]
  exact ⟨hr' _, rfl, rfl⟩
theorem pair_alarmsOf {n : Nat} {M : Mem} (hr : Rel n M) (a1 : Int32) : PairG n (fun x => if x = 2 then 1 else 0) M (f_X11_alarmsOf a1) (f_X12_alarmsOf a1) := by
  have hr' := Rel_thr hr
  obtain ⟨α, αh, αs, K, nx, fed, b, H, ⟨hk, hd, hb, hj⟩, hS, hH, hs, ⟨hr1, hr2, hr3, hr4⟩, hi, hih, his, hbb⟩ := hr
  obtain ⟨⟨b0, b1, b2, b3, b4, b5, b6, b7, b8, b9, b10, b11, b14⟩, i1, i2, bs, bk, bn, bz, bt, bg, bl⟩ := hi
  have hS' := fun x => ms_t (x := x) hS
  unfold f_X11_alarmsOf f_X12_alarmsOf f_X11_requireZone f_X12_isAsked
  rcases idx_c a1 8 (by decide) with ⟨n1, h1, rfl, e1⟩ | ⟨e1, -⟩
  case inr =>
    refine ⟨.inl 2, by simp (disch := omega) only [lit_0, lit_1, lit_2, lit_3, lit_4, lit_5, lit_6, lit_7, lit_8, lit_9, lit_10, lit_11, lit_12, lit_13, lit_14, lit_15, lit_16, lit_20, lit_23, lit_24, lit_31, lit_32, lit_39, lit_43, lit_45, lit_47, lit_48, lit_56, lit_57, lit_59, lit_60, lit_62, lit_63, lit_89, lit_92, lit_96, lit_97, lit_99, lit_100, lit_102, lit_103, lit_104, lit_110, lit_111, lit_115, lit_117, lit_194, lit_200, lit_644, lit_736, lit_999, lit_1000, lit_9999, lit_10000, lit_1000000000, ↓wp_mlet, ↓wp_mbp, ↓wp_ite, ↓wp_mix, ↓wp_mdiv, ↓wp_mnz, ↓wp_some, ↓wp_mbnd, ↓mlet_eq, ↓mbp_eq, ↓mbnd_eq, ↓mix_ite, ↓mdiv_ite, ↓mnz_ite, nI_add, nI_mul, nI_nat, nI_ltE, nI_leE, nI_eqE, nI_eqN, nI_Neq, nI_Nlt, nI_Nle, nI_ltN, nI_leN, ↓reduceIte, ↓Nat.reduceEqDiff, and_f, nt_e, nt_t, nl_t, nl_f, ne_t, ne_f, and_self, or_self, or_true, true_or, or_false, false_or, if_true, if_false, and_true, true_and, and_false, false_and, not_true, not_false_iff, toNat_0, Bool.false_and, Bool.true_and, Bool.and_false, Bool.and_true, Bool.false_eq_true, reduceCtorEq, Bool.true_eq_false, Bool.not_true, Bool.not_false, c_hasZone, e1, mbpx_l], ?_⟩
    simp (disch := omega) only [lit_0, lit_1, lit_2, lit_3, lit_4, lit_5, lit_6, lit_7, lit_8, lit_9, lit_10, lit_11, lit_12, lit_13, lit_14, lit_15, lit_16, lit_20, lit_23, lit_24, lit_31, lit_32, lit_39, lit_43, lit_45, lit_47, lit_48, lit_56, lit_57, lit_59, lit_60, lit_62, lit_63, lit_89, lit_92, lit_96, lit_97, lit_99, lit_100, lit_102, lit_103, lit_104, lit_110, lit_111, lit_115, lit_117, lit_194, lit_200, lit_644, lit_736, lit_999, lit_1000, lit_9999, lit_10000, lit_1000000000, ↓wp_mlet, ↓wp_mbp, ↓wp_ite, ↓wp_mix, ↓wp_mdiv, ↓wp_mnz, ↓wp_some, ↓wp_mbnd, ↓mlet_eq, ↓mbp_eq, ↓mbnd_eq, ↓mix_ite, ↓mdiv_ite, ↓mnz_ite, nI_add, nI_mul, nI_nat, nI_ltE, nI_leE, nI_eqE, nI_eqN, nI_Neq, nI_Nlt, nI_Nle, nI_ltN, nI_leN, ↓reduceIte, ↓Nat.reduceEqDiff, and_f, nt_e, nt_t, nl_t, nl_f, ne_t, ne_f, and_self, or_self, or_true, true_or, or_false, false_or, if_true, if_false, and_true, true_and, and_false, false_and, not_true, not_false_iff, toNat_0, Bool.false_and, Bool.true_and, Bool.and_false, Bool.and_true, Bool.false_eq_true, reduceCtorEq, Bool.true_eq_false, Bool.not_true, Bool.not_false, mup_at, up_at, fil_at, ↓reduceIte, ↓Nat.reduceEqDiff, and_f, nt_e, nt_t, nl_t, nl_f, ne_t, ne_f, and_self, or_self, or_true, true_or, or_false, false_or, if_true, if_false, and_true, true_and, and_false, false_and, not_true, not_false_iff, m_isZone, e1]
    exact ⟨hr' _, rfl, by decide, by decide⟩
  refine ⟨.inr (nI (α (39 + n1))), by simp (disch := omega) only [lit_0, lit_1, lit_2, lit_3, lit_4, lit_5, lit_6, lit_7, lit_8, lit_9, lit_10, lit_11, lit_12, lit_13, lit_14, lit_15, lit_16, lit_20, lit_23, lit_24, lit_31, lit_32, lit_39, lit_43, lit_45, lit_47, lit_48, lit_56, lit_57, lit_59, lit_60, lit_62, lit_63, lit_89, lit_92, lit_96, lit_97, lit_99, lit_100, lit_102, lit_103, lit_104, lit_110, lit_111, lit_115, lit_117, lit_194, lit_200, lit_644, lit_736, lit_999, lit_1000, lit_9999, lit_10000, lit_1000000000, ↓wp_mlet, ↓wp_mbp, ↓wp_ite, ↓wp_mix, ↓wp_mdiv, ↓wp_mnz, ↓wp_some, ↓wp_mbnd, ↓mlet_eq, ↓mbp_eq, ↓mbnd_eq, ↓mix_ite, ↓mdiv_ite, ↓mnz_ite, nI_add, nI_mul, nI_nat, nI_ltE, nI_leE, nI_eqE, nI_eqN, nI_Neq, nI_Nlt, nI_Nle, nI_ltN, nI_leN, ↓reduceIte, ↓Nat.reduceEqDiff, and_f, nt_e, nt_t, nl_t, nl_f, ne_t, ne_f, and_self, or_self, or_true, true_or, or_false, false_or, if_true, if_false, and_true, true_and, and_false, false_and, not_true, not_false_iff, toNat_0, Bool.false_and, Bool.true_and, Bool.and_false, Bool.and_true, Bool.false_eq_true, reduceCtorEq, Bool.true_eq_false, Bool.not_true, Bool.not_false, c_hasZone, e1, mbpx_l, mbpx_r, hb.2.2.2.2.1 n1 h1], ?_⟩
  simp (disch := omega) only [lit_0, lit_1, lit_2, lit_3, lit_4, lit_5, lit_6, lit_7, lit_8, lit_9, lit_10, lit_11, lit_12, lit_13, lit_14, lit_15, lit_16, lit_20, lit_23, lit_24, lit_31, lit_32, lit_39, lit_43, lit_45, lit_47, lit_48, lit_56, lit_57, lit_59, lit_60, lit_62, lit_63, lit_89, lit_92, lit_96, lit_97, lit_99, lit_100, lit_102, lit_103, lit_104, lit_110, lit_111, lit_115, lit_117, lit_194, lit_200, lit_644, lit_736, lit_999, lit_1000, lit_9999, lit_10000, lit_1000000000, ↓wp_mlet, ↓wp_mbp, ↓wp_ite, ↓wp_mix, ↓wp_mdiv, ↓wp_mnz, ↓wp_some, ↓wp_mbnd, ↓mlet_eq, ↓mbp_eq, ↓mbnd_eq, ↓mix_ite, ↓mdiv_ite, ↓mnz_ite, nI_add, nI_mul, nI_nat, nI_ltE, nI_leE, nI_eqE, nI_eqN, nI_Neq, nI_Nlt, nI_Nle, nI_ltN, nI_leN, ↓reduceIte, ↓Nat.reduceEqDiff, and_f, nt_e, nt_t, nl_t, nl_f, ne_t, ne_f, and_self, or_self, or_true, true_or, or_false, false_or, if_true, if_false, and_true, true_and, and_false, false_and, not_true, not_false_iff, toNat_0, Bool.false_and, Bool.true_and, Bool.and_false, Bool.and_true, Bool.false_eq_true, reduceCtorEq, Bool.true_eq_false, Bool.not_true, Bool.not_false, mup_at, up_at, fil_at, ↓reduceIte, ↓Nat.reduceEqDiff, and_f, nt_e, nt_t, nl_t, nl_f, ne_t, ne_f, and_self, or_self, or_true, true_or, or_false, false_or, if_true, if_false, and_true, true_and, and_false, false_and, not_true, not_false_iff, m_isZone, e1, ms_n hS]
  exact ⟨hr' _, rfl, rfl⟩
theorem pair_isGuarded {n : Nat} {M : Mem} (hr : Rel n M) (a1 : Int32) : PairG n (fun x => if x = 2 then 1 else 0) M (f_X11_isGuarded a1) (f_X12_isGuarded a1) := by
  have hr' := Rel_thr hr
  obtain ⟨α, αh, αs, K, nx, fed, b, H, ⟨hk, hd, hb, hj⟩, hS, hH, hs, ⟨hr1, hr2, hr3, hr4⟩, hi, hih, his, hbb⟩ := hr
  obtain ⟨⟨b0, b1, b2, b3, b4, b5, b6, b7, b8, b9, b10, b11, b14⟩, i1, i2, bs, bk, bn, bz, bt, bg, bl⟩ := hi
  have hS' := fun x => ms_t (x := x) hS
  unfold f_X11_isGuarded f_X12_isGuarded f_X11_requireZone f_X12_isAsked
  rcases idx_c a1 8 (by decide) with ⟨n1, h1, rfl, e1⟩ | ⟨e1, -⟩
  case inr =>
    refine ⟨.inl 2, by simp (disch := omega) only [lit_0, lit_1, lit_2, lit_3, lit_4, lit_5, lit_6, lit_7, lit_8, lit_9, lit_10, lit_11, lit_12, lit_13, lit_14, lit_15, lit_16, lit_20, lit_23, lit_24, lit_31, lit_32, lit_39, lit_43, lit_45, lit_47, lit_48, lit_56, lit_57, lit_59, lit_60, lit_62, lit_63, lit_89, lit_92, lit_96, lit_97, lit_99, lit_100, lit_102, lit_103, lit_104, lit_110, lit_111, lit_115, lit_117, lit_194, lit_200, lit_644, lit_736, lit_999, lit_1000, lit_9999, lit_10000, lit_1000000000, ↓wp_mlet, ↓wp_mbp, ↓wp_ite, ↓wp_mix, ↓wp_mdiv, ↓wp_mnz, ↓wp_some, ↓wp_mbnd, ↓mlet_eq, ↓mbp_eq, ↓mbnd_eq, ↓mix_ite, ↓mdiv_ite, ↓mnz_ite, nI_add, nI_mul, nI_nat, nI_ltE, nI_leE, nI_eqE, nI_eqN, nI_Neq, nI_Nlt, nI_Nle, nI_ltN, nI_leN, ↓reduceIte, ↓Nat.reduceEqDiff, and_f, nt_e, nt_t, nl_t, nl_f, ne_t, ne_f, and_self, or_self, or_true, true_or, or_false, false_or, if_true, if_false, and_true, true_and, and_false, false_and, not_true, not_false_iff, toNat_0, Bool.false_and, Bool.true_and, Bool.and_false, Bool.and_true, Bool.false_eq_true, reduceCtorEq, Bool.true_eq_false, Bool.not_true, Bool.not_false, c_hasZone, e1, mbpx_l], ?_⟩
    simp (disch := omega) only [lit_0, lit_1, lit_2, lit_3, lit_4, lit_5, lit_6, lit_7, lit_8, lit_9, lit_10, lit_11, lit_12, lit_13, lit_14, lit_15, lit_16, lit_20, lit_23, lit_24, lit_31, lit_32, lit_39, lit_43, lit_45, lit_47, lit_48, lit_56, lit_57, lit_59, lit_60, lit_62, lit_63, lit_89, lit_92, lit_96, lit_97, lit_99, lit_100, lit_102, lit_103, lit_104, lit_110, lit_111, lit_115, lit_117, lit_194, lit_200, lit_644, lit_736, lit_999, lit_1000, lit_9999, lit_10000, lit_1000000000, ↓wp_mlet, ↓wp_mbp, ↓wp_ite, ↓wp_mix, ↓wp_mdiv, ↓wp_mnz, ↓wp_some, ↓wp_mbnd, ↓mlet_eq, ↓mbp_eq, ↓mbnd_eq, ↓mix_ite, ↓mdiv_ite, ↓mnz_ite, nI_add, nI_mul, nI_nat, nI_ltE, nI_leE, nI_eqE, nI_eqN, nI_Neq, nI_Nlt, nI_Nle, nI_ltN, nI_leN, ↓reduceIte, ↓Nat.reduceEqDiff, and_f, nt_e, nt_t, nl_t, nl_f, ne_t, ne_f, and_self, or_self, or_true, true_or, or_false, false_or, if_true, if_false, and_true, true_and, and_false, false_and, not_true, not_false_iff, toNat_0, Bool.false_and, Bool.true_and, Bool.and_false, Bool.and_true, Bool.false_eq_true, reduceCtorEq, Bool.true_eq_false, Bool.not_true, Bool.not_false, mup_at, up_at, fil_at, ↓reduceIte, ↓Nat.reduceEqDiff, and_f, nt_e, nt_t, nl_t, nl_f, ne_t, ne_f, and_self, or_self, or_true, true_or, or_false, false_or, if_true, if_false, and_true, true_and, and_false, false_and, not_true, not_false_iff, m_isZone, e1]
    exact ⟨hr' _, rfl, by decide, by decide⟩
  have bg2 : ∀ k, k < α 10 → α (47 + 3 * k) < 2147483648 := fun k h => by have := (bg k h).1; omega
  have c1 := c_inZ (M := M) (g := 0) (z := n1) hb b10 (by omega) bg2
  have c2 := c_near (M := M) (g := 0) (z := n1) hb b10 h1 bg2
  have m1 : ∀ x, f_X12_isIn (nI n1) (mup M 12 47 0 x) = some (nI (inZ α n1).toNat) := fun x => m_inZ0 (hS' x) b10 h1 bg2
  have m2 : ∀ x, f_X12_isNear (nI n1) (mup M 12 47 0 x) = some (nI (nearZ α n1).toNat) := fun x => m_near (hS' x) b10 h1 bg2
  refine ⟨.inr (nI (inZ α n1 || nearZ α n1).toNat), ?_, ?_⟩
  · cases q1 : inZ α n1 <;> cases q2 : nearZ α n1 <;> simp (disch := omega) only [lit_0, lit_1, lit_2, lit_3, lit_4, lit_5, lit_6, lit_7, lit_8, lit_9, lit_10, lit_11, lit_12, lit_13, lit_14, lit_15, lit_16, lit_20, lit_23, lit_24, lit_31, lit_32, lit_39, lit_43, lit_45, lit_47, lit_48, lit_56, lit_57, lit_59, lit_60, lit_62, lit_63, lit_89, lit_92, lit_96, lit_97, lit_99, lit_100, lit_102, lit_103, lit_104, lit_110, lit_111, lit_115, lit_117, lit_194, lit_200, lit_644, lit_736, lit_999, lit_1000, lit_9999, lit_10000, lit_1000000000, ↓wp_mlet, ↓wp_mbp, ↓wp_ite, ↓wp_mix, ↓wp_mdiv, ↓wp_mnz, ↓wp_some, ↓wp_mbnd, ↓mlet_eq, ↓mbp_eq, ↓mbnd_eq, ↓mix_ite, ↓mdiv_ite, ↓mnz_ite, nI_add, nI_mul, nI_nat, nI_ltE, nI_leE, nI_eqE, nI_eqN, nI_Neq, nI_Nlt, nI_Nle, nI_ltN, nI_leN, ↓reduceIte, ↓Nat.reduceEqDiff, and_f, nt_e, nt_t, nl_t, nl_f, ne_t, ne_f, and_self, or_self, or_true, true_or, or_false, false_or, if_true, if_false, and_true, true_and, and_false, false_and, not_true, not_false_iff, toNat_0, Bool.false_and, Bool.true_and, Bool.and_false, Bool.and_true, Bool.false_eq_true, reduceCtorEq, Bool.true_eq_false, Bool.not_true, Bool.not_false, c_hasZone, e1, mbpx_l, mbpx_r, c1, c2, q1, q2, Bool.toNat_true, Bool.toNat_false, Bool.or_true, Bool.true_or, Bool.or_false, Bool.or_self]
  · cases q1 : inZ α n1 <;> cases q2 : nearZ α n1 <;> simp (disch := omega) only [lit_0, lit_1, lit_2, lit_3, lit_4, lit_5, lit_6, lit_7, lit_8, lit_9, lit_10, lit_11, lit_12, lit_13, lit_14, lit_15, lit_16, lit_20, lit_23, lit_24, lit_31, lit_32, lit_39, lit_43, lit_45, lit_47, lit_48, lit_56, lit_57, lit_59, lit_60, lit_62, lit_63, lit_89, lit_92, lit_96, lit_97, lit_99, lit_100, lit_102, lit_103, lit_104, lit_110, lit_111, lit_115, lit_117, lit_194, lit_200, lit_644, lit_736, lit_999, lit_1000, lit_9999, lit_10000, lit_1000000000, ↓wp_mlet, ↓wp_mbp, ↓wp_ite, ↓wp_mix, ↓wp_mdiv, ↓wp_mnz, ↓wp_some, ↓wp_mbnd, ↓mlet_eq, ↓mbp_eq, ↓mbnd_eq, ↓mix_ite, ↓mdiv_ite, ↓mnz_ite, nI_add, nI_mul, nI_nat, nI_ltE, nI_leE, nI_eqE, nI_eqN, nI_Neq, nI_Nlt, nI_Nle, nI_ltN, nI_leN, ↓reduceIte, ↓Nat.reduceEqDiff, and_f, nt_e, nt_t, nl_t, nl_f, ne_t, ne_f, and_self, or_self, or_true, true_or, or_false, false_or, if_true, if_false, and_true, true_and, and_false, false_and, not_true, not_false_iff, toNat_0, Bool.false_and, Bool.true_and, Bool.and_false, Bool.and_true, Bool.false_eq_true, reduceCtorEq, Bool.true_eq_false, Bool.not_true, Bool.not_false, mup_at, up_at, fil_at, ↓reduceIte, ↓Nat.reduceEqDiff, and_f, nt_e, nt_t, nl_t, nl_f, ne_t, ne_f, and_self, or_self, or_true, true_or, or_false, false_or, if_true, if_false, and_true, true_and, and_false, false_and, not_true, not_false_iff, m_isZone, e1, m1, m2, q1, q2, Bool.toNat_true, Bool.toNat_false, Bool.or_true, Bool.true_or, Bool.or_false, Bool.or_self] <;> exact ⟨hr' _, rfl, rfl⟩
theorem pair_presentedAt {n : Nat} {M : Mem} (hr : Rel n M) (a1 : Int32) : PairG n (fun x => if x = 4 then 1 else 0) M (f_X11_presentedAt a1) (f_X12_presentedAt a1) := by
  have hr' := Rel_thr hr
  obtain ⟨α, αh, αs, K, nx, fed, b, H, ⟨hk, hd, hb, hj⟩, hS, hH, hs, ⟨hr1, hr2, hr3, hr4⟩, hi, hih, his, hbb⟩ := hr
  obtain ⟨⟨b0, b1, b2, b3, b4, b5, b6, b7, b8, b9, b10, b11, b14⟩, i1, i2, bs, bk, bn, bz, bt, bg, bl⟩ := hi
  have hS' := fun x => ms_t (x := x) hS
  unfold f_X11_presentedAt f_X12_presentedAt
  have em : f_X12_in a1 (nI 0) (nI (α 9) - nI 1) M = some (nI (idx a1 (α 9)).toNat) := by rw [rng_s a1 (α 9) (by omega)]
  rcases idx_c a1 (α 9) (by omega) with ⟨n1, h1, rfl, e1⟩ | ⟨e1, h⟩
  case inr =>
    refine ⟨.inl 4, ?_, ?_⟩
    · rcases h with h | ⟨j, hj, h, rfl⟩
      · simp only [mlet_eq]
        rw [if_pos h]
      · simp (disch := omega) only [lit_0, lit_1, lit_2, lit_3, lit_4, lit_5, lit_6, lit_7, lit_8, lit_9, lit_10, lit_11, lit_12, lit_13, lit_14, lit_15, lit_16, lit_20, lit_23, lit_24, lit_31, lit_32, lit_39, lit_43, lit_45, lit_47, lit_48, lit_56, lit_57, lit_59, lit_60, lit_62, lit_63, lit_89, lit_92, lit_96, lit_97, lit_99, lit_100, lit_102, lit_103, lit_104, lit_110, lit_111, lit_115, lit_117, lit_194, lit_200, lit_644, lit_736, lit_999, lit_1000, lit_9999, lit_10000, lit_1000000000, ↓wp_mlet, ↓wp_mbp, ↓wp_ite, ↓wp_mix, ↓wp_mdiv, ↓wp_mnz, ↓wp_some, ↓wp_mbnd, ↓mlet_eq, ↓mbp_eq, ↓mbnd_eq, ↓mix_ite, ↓mdiv_ite, ↓mnz_ite, nI_add, nI_mul, nI_nat, nI_ltE, nI_leE, nI_eqE, nI_eqN, nI_Neq, nI_Nlt, nI_Nle, nI_ltN, nI_leN, ↓reduceIte, ↓Nat.reduceEqDiff, and_f, nt_e, nt_t, nl_t, nl_f, ne_t, ne_f, and_self, or_self, or_true, true_or, or_false, false_or, if_true, if_false, and_true, true_and, and_false, false_and, not_true, not_false_iff, hk.2.2.2.1]
    · simp (disch := omega) only [lit_0, lit_1, lit_2, lit_3, lit_4, lit_5, lit_6, lit_7, lit_8, lit_9, lit_10, lit_11, lit_12, lit_13, lit_14, lit_15, lit_16, lit_20, lit_23, lit_24, lit_31, lit_32, lit_39, lit_43, lit_45, lit_47, lit_48, lit_56, lit_57, lit_59, lit_60, lit_62, lit_63, lit_89, lit_92, lit_96, lit_97, lit_99, lit_100, lit_102, lit_103, lit_104, lit_110, lit_111, lit_115, lit_117, lit_194, lit_200, lit_644, lit_736, lit_999, lit_1000, lit_9999, lit_10000, lit_1000000000, ↓wp_mlet, ↓wp_mbp, ↓wp_ite, ↓wp_mix, ↓wp_mdiv, ↓wp_mnz, ↓wp_some, ↓wp_mbnd, ↓mlet_eq, ↓mbp_eq, ↓mbnd_eq, ↓mix_ite, ↓mdiv_ite, ↓mnz_ite, nI_add, nI_mul, nI_nat, nI_ltE, nI_leE, nI_eqE, nI_eqN, nI_Neq, nI_Nlt, nI_Nle, nI_ltN, nI_leN, ↓reduceIte, ↓Nat.reduceEqDiff, and_f, nt_e, nt_t, nl_t, nl_f, ne_t, ne_f, and_self, or_self, or_true, true_or, or_false, false_or, if_true, if_false, and_true, true_and, and_false, false_and, not_true, not_false_iff, toNat_0, Bool.false_and, Bool.true_and, Bool.and_false, Bool.and_true, Bool.false_eq_true, reduceCtorEq, Bool.true_eq_false, Bool.not_true, Bool.not_false, mup_at, up_at, fil_at, ↓reduceIte, ↓Nat.reduceEqDiff, and_f, nt_e, nt_t, nl_t, nl_f, ne_t, ne_f, and_self, or_self, or_true, true_or, or_false, false_or, if_true, if_false, and_true, true_and, and_false, false_and, not_true, not_false_iff, ms_n hS, em, e1]
      exact ⟨hr' _, rfl, by decide, by decide⟩
  have eg := hk.2.2.2.2.2.2 n1 (by omega) h1
  refine ⟨.inr (nI (α (23 + n1))), by simp (disch := omega) only [lit_0, lit_1, lit_2, lit_3, lit_4, lit_5, lit_6, lit_7, lit_8, lit_9, lit_10, lit_11, lit_12, lit_13, lit_14, lit_15, lit_16, lit_20, lit_23, lit_24, lit_31, lit_32, lit_39, lit_43, lit_45, lit_47, lit_48, lit_56, lit_57, lit_59, lit_60, lit_62, lit_63, lit_89, lit_92, lit_96, lit_97, lit_99, lit_100, lit_102, lit_103, lit_104, lit_110, lit_111, lit_115, lit_117, lit_194, lit_200, lit_644, lit_736, lit_999, lit_1000, lit_9999, lit_10000, lit_1000000000, ↓wp_mlet, ↓wp_mbp, ↓wp_ite, ↓wp_mix, ↓wp_mdiv, ↓wp_mnz, ↓wp_some, ↓wp_mbnd, ↓mlet_eq, ↓mbp_eq, ↓mbnd_eq, ↓mix_ite, ↓mdiv_ite, ↓mnz_ite, nI_add, nI_mul, nI_nat, nI_ltE, nI_leE, nI_eqE, nI_eqN, nI_Neq, nI_Nlt, nI_Nle, nI_ltN, nI_leN, ↓reduceIte, ↓Nat.reduceEqDiff, and_f, nt_e, nt_t, nl_t, nl_f, ne_t, ne_f, and_self, or_self, or_true, true_or, or_false, false_or, if_true, if_false, and_true, true_and, and_false, false_and, not_true, not_false_iff, hk.2.2.2.1, eg], ?_⟩
  simp (disch := omega) only [lit_0, lit_1, lit_2, lit_3, lit_4, lit_5, lit_6, lit_7, lit_8, lit_9, lit_10, lit_11, lit_12, lit_13, lit_14, lit_15, lit_16, lit_20, lit_23, lit_24, lit_31, lit_32, lit_39, lit_43, lit_45, lit_47, lit_48, lit_56, lit_57, lit_59, lit_60, lit_62, lit_63, lit_89, lit_92, lit_96, lit_97, lit_99, lit_100, lit_102, lit_103, lit_104, lit_110, lit_111, lit_115, lit_117, lit_194, lit_200, lit_644, lit_736, lit_999, lit_1000, lit_9999, lit_10000, lit_1000000000, ↓wp_mlet, ↓wp_mbp, ↓wp_ite, ↓wp_mix, ↓wp_mdiv, ↓wp_mnz, ↓wp_some, ↓wp_mbnd, ↓mlet_eq, ↓mbp_eq, ↓mbnd_eq, ↓mix_ite, ↓mdiv_ite, ↓mnz_ite, nI_add, nI_mul, nI_nat, nI_ltE, nI_leE, nI_eqE, nI_eqN, nI_Neq, nI_Nlt, nI_Nle, nI_ltN, nI_leN, ↓reduceIte, ↓Nat.reduceEqDiff, and_f, nt_e, nt_t, nl_t, nl_f, ne_t, ne_f, and_self, or_self, or_true, true_or, or_false, false_or, if_true, if_false, and_true, true_and, and_false, false_and, not_true, not_false_iff, toNat_0, Bool.false_and, Bool.true_and, Bool.and_false, Bool.and_true, Bool.false_eq_true, reduceCtorEq, Bool.true_eq_false, Bool.not_true, Bool.not_false, mup_at, up_at, fil_at, ↓reduceIte, ↓Nat.reduceEqDiff, and_f, nt_e, nt_t, nl_t, nl_f, ne_t, ne_f, and_self, or_self, or_true, true_or, or_false, false_or, if_true, if_false, and_true, true_and, and_false, false_and, not_true, not_false_iff, ms_n hS, em, e1]
  exact ⟨hr' _, rfl, rfl⟩
theorem chr_of (x : Int32) : ∃ c, c < 65536 ∧ ((x).toUInt32 % 65536).toInt32 = nI c := by
  refine ⟨((x).toUInt32 % 65536).toNat, ?_, ?_⟩
  · rw [UInt32.toNat_mod]
    exact Nat.mod_lt _ (by decide)
  · show _ = Int32.ofNat _
    rw [← UInt32.toInt32_ofNat', UInt32.ofNat_toNat]
theorem chr_eq {c : Nat} (h : c < 65536) : ((nI c).toUInt32 % 65536).toInt32 = nI c := by
  have h2 : ((nI c).toUInt32 % 65536).toNat = c := by
    rw [UInt32.toNat_mod]
    show (UInt32.ofNat c).toNat % 65536 = c
    rw [UInt32.toNat_ofNat']
    omega
  have h3 : (nI c).toUInt32 % 65536 = UInt32.ofNat c := by
    rw [← UInt32.ofNat_toNat (x := (nI c).toUInt32 % 65536), h2]
  rw [h3]
  exact UInt32.toInt32_ofNat'
theorem mnc_eq {β : Type} {c : Nat} {k : Option β} (h : c < 65536) : mnc (nI c) k = k := by
  unfold mnc
  exact if_pos (nar_char h)
theorem wp_mnc {β : Type} {c : Nat} {k : Option (β × Mem)} {Q : β → Mem → Prop} (h : c < 65536) : wp (mnc (nI c) k) Q = wp k Q := by rw [mnc_eq h]
theorem pair_logHour {n : Nat} {M : Mem} (hr : Rel n M) (a1 : Int32) : PairG n (fun x => if x = 4 then 1 else 0) M (f_X11_logHour a1) (f_X12_logHour a1) := by
  have hr' := Rel_thr hr
  obtain ⟨α, αh, αs, K, nx, fed, b, H, ⟨hk, hd, hb, hj⟩, hS, hH, hs, ⟨hr1, hr2, hr3, hr4⟩, hi, hih, his, hbb⟩ := hr
  obtain ⟨⟨b0, b1, b2, b3, b4, b5, b6, b7, b8, b9, b10, b11, b14⟩, i1, i2, bs, bk, bn, bz, bt, bg, bl⟩ := hi
  have hS' := fun x => ms_t (x := x) hS
  unfold f_X11_logHour f_X12_logHour f_X11_requireEntry
  have em := fun w hw => m_entry (M := M) (α := α) (w := w) (a1 := a1) hS b14 hw
  have hj0 := hj.1
  rcases idx_c a1 (α 14) (by omega) with ⟨n1, h1, rfl, e1⟩ | ⟨e1, h⟩
  case inr =>
    refine ⟨.inl 4, ?_, ?_⟩
    · rcases h with h | ⟨j, hj, h, rfl⟩
      · simp only [mlet_eq]
        rw [if_pos h]
        rfl
      · simp (disch := omega) only [lit_0, lit_1, lit_2, lit_3, lit_4, lit_5, lit_6, lit_7, lit_8, lit_9, lit_10, lit_11, lit_12, lit_13, lit_14, lit_15, lit_16, lit_20, lit_23, lit_24, lit_31, lit_32, lit_39, lit_43, lit_45, lit_47, lit_48, lit_56, lit_57, lit_59, lit_60, lit_62, lit_63, lit_89, lit_92, lit_96, lit_97, lit_99, lit_100, lit_102, lit_103, lit_104, lit_110, lit_111, lit_115, lit_117, lit_194, lit_200, lit_644, lit_736, lit_999, lit_1000, lit_9999, lit_10000, lit_1000000000, ↓wp_mlet, ↓wp_mbp, ↓wp_ite, ↓wp_mix, ↓wp_mdiv, ↓wp_mnz, ↓wp_some, ↓wp_mbnd, ↓mlet_eq, ↓mbp_eq, ↓mbnd_eq, ↓mix_ite, ↓mdiv_ite, ↓mnz_ite, nI_add, nI_mul, nI_nat, nI_ltE, nI_leE, nI_eqE, nI_eqN, nI_Neq, nI_Nlt, nI_Nle, nI_ltN, nI_leN, ↓reduceIte, ↓Nat.reduceEqDiff, and_f, nt_e, nt_t, nl_t, nl_f, ne_t, ne_f, and_self, or_self, or_true, true_or, or_false, false_or, if_true, if_false, and_true, true_and, and_false, false_and, not_true, not_false_iff, hj0, mbpx_l]
    · simp (disch := omega) only [lit_0, lit_1, lit_2, lit_3, lit_4, lit_5, lit_6, lit_7, lit_8, lit_9, lit_10, lit_11, lit_12, lit_13, lit_14, lit_15, lit_16, lit_20, lit_23, lit_24, lit_31, lit_32, lit_39, lit_43, lit_45, lit_47, lit_48, lit_56, lit_57, lit_59, lit_60, lit_62, lit_63, lit_89, lit_92, lit_96, lit_97, lit_99, lit_100, lit_102, lit_103, lit_104, lit_110, lit_111, lit_115, lit_117, lit_194, lit_200, lit_644, lit_736, lit_999, lit_1000, lit_9999, lit_10000, lit_1000000000, ↓wp_mlet, ↓wp_mbp, ↓wp_ite, ↓wp_mix, ↓wp_mdiv, ↓wp_mnz, ↓wp_some, ↓wp_mbnd, ↓mlet_eq, ↓mbp_eq, ↓mbnd_eq, ↓mix_ite, ↓mdiv_ite, ↓mnz_ite, nI_add, nI_mul, nI_nat, nI_ltE, nI_leE, nI_eqE, nI_eqN, nI_Neq, nI_Nlt, nI_Nle, nI_ltN, nI_leN, ↓reduceIte, ↓Nat.reduceEqDiff, and_f, nt_e, nt_t, nl_t, nl_f, ne_t, ne_f, and_self, or_self, or_true, true_or, or_false, false_or, if_true, if_false, and_true, true_and, and_false, false_and, not_true, not_false_iff, toNat_0, Bool.false_and, Bool.true_and, Bool.and_false, Bool.and_true, Bool.false_eq_true, reduceCtorEq, Bool.true_eq_false, Bool.not_true, Bool.not_false, em 0 (by decide), e1, thr0]
      exact ⟨hr' _, rfl, by decide, by decide⟩
  obtain ⟨l1, l2, l3⟩ := bl n1 h1
  obtain ⟨g1, g2, g3⟩ := hj.2.1 n1 (by omega) h1
  refine ⟨.inr (nI (α (56 + 3 * n1))), by simp (disch := omega) only [lit_0, lit_1, lit_2, lit_3, lit_4, lit_5, lit_6, lit_7, lit_8, lit_9, lit_10, lit_11, lit_12, lit_13, lit_14, lit_15, lit_16, lit_20, lit_23, lit_24, lit_31, lit_32, lit_39, lit_43, lit_45, lit_47, lit_48, lit_56, lit_57, lit_59, lit_60, lit_62, lit_63, lit_89, lit_92, lit_96, lit_97, lit_99, lit_100, lit_102, lit_103, lit_104, lit_110, lit_111, lit_115, lit_117, lit_194, lit_200, lit_644, lit_736, lit_999, lit_1000, lit_9999, lit_10000, lit_1000000000, ↓wp_mlet, ↓wp_mbp, ↓wp_ite, ↓wp_mix, ↓wp_mdiv, ↓wp_mnz, ↓wp_some, ↓wp_mbnd, ↓mlet_eq, ↓mbp_eq, ↓mbnd_eq, ↓mix_ite, ↓mdiv_ite, ↓mnz_ite, nI_add, nI_mul, nI_nat, nI_ltE, nI_leE, nI_eqE, nI_eqN, nI_Neq, nI_Nlt, nI_Nle, nI_ltN, nI_leN, ↓reduceIte, ↓Nat.reduceEqDiff, and_f, nt_e, nt_t, nl_t, nl_f, ne_t, ne_f, and_self, or_self, or_true, true_or, or_false, false_or, if_true, if_false, and_true, true_and, and_false, false_and, not_true, not_false_iff, hj0, mbpx_r, g1], ?_⟩
  simp (disch := omega) only [lit_0, lit_1, lit_2, lit_3, lit_4, lit_5, lit_6, lit_7, lit_8, lit_9, lit_10, lit_11, lit_12, lit_13, lit_14, lit_15, lit_16, lit_20, lit_23, lit_24, lit_31, lit_32, lit_39, lit_43, lit_45, lit_47, lit_48, lit_56, lit_57, lit_59, lit_60, lit_62, lit_63, lit_89, lit_92, lit_96, lit_97, lit_99, lit_100, lit_102, lit_103, lit_104, lit_110, lit_111, lit_115, lit_117, lit_194, lit_200, lit_644, lit_736, lit_999, lit_1000, lit_9999, lit_10000, lit_1000000000, ↓wp_mlet, ↓wp_mbp, ↓wp_ite, ↓wp_mix, ↓wp_mdiv, ↓wp_mnz, ↓wp_some, ↓wp_mbnd, ↓mlet_eq, ↓mbp_eq, ↓mbnd_eq, ↓mix_ite, ↓mdiv_ite, ↓mnz_ite, nI_add, nI_mul, nI_nat, nI_ltE, nI_leE, nI_eqE, nI_eqN, nI_Neq, nI_Nlt, nI_Nle, nI_ltN, nI_leN, ↓reduceIte, ↓Nat.reduceEqDiff, and_f, nt_e, nt_t, nl_t, nl_f, ne_t, ne_f, and_self, or_self, or_true, true_or, or_false, false_or, if_true, if_false, and_true, true_and, and_false, false_and, not_true, not_false_iff, toNat_0, Bool.false_and, Bool.true_and, Bool.and_false, Bool.and_true, Bool.false_eq_true, reduceCtorEq, Bool.true_eq_false, Bool.not_true, Bool.not_false, em 0 (by decide), e1, thr0]
  exact ⟨hr' _, rfl, rfl⟩
theorem pair_logDetail {n : Nat} {M : Mem} (hr : Rel n M) (a1 : Int32) : PairG n (fun x => if x = 4 then 1 else 0) M (f_X11_logDetail a1) (f_X12_logDetail a1) := by
  have hr' := Rel_thr hr
  obtain ⟨α, αh, αs, K, nx, fed, b, H, ⟨hk, hd, hb, hj⟩, hS, hH, hs, ⟨hr1, hr2, hr3, hr4⟩, hi, hih, his, hbb⟩ := hr
  obtain ⟨⟨b0, b1, b2, b3, b4, b5, b6, b7, b8, b9, b10, b11, b14⟩, i1, i2, bs, bk, bn, bz, bt, bg, bl⟩ := hi
  have hS' := fun x => ms_t (x := x) hS
  unfold f_X11_logDetail f_X12_logDetail f_X11_requireEntry
  have em := fun w hw => m_entry (M := M) (α := α) (w := w) (a1 := a1) hS b14 hw
  have hj0 := hj.1
  rcases idx_c a1 (α 14) (by omega) with ⟨n1, h1, rfl, e1⟩ | ⟨e1, h⟩
  case inr =>
    refine ⟨.inl 4, ?_, ?_⟩
    · rcases h with h | ⟨j, hj, h, rfl⟩
      · simp only [mlet_eq]
        rw [if_pos h]
        rfl
      · simp (disch := omega) only [lit_0, lit_1, lit_2, lit_3, lit_4, lit_5, lit_6, lit_7, lit_8, lit_9, lit_10, lit_11, lit_12, lit_13, lit_14, lit_15, lit_16, lit_20, lit_23, lit_24, lit_31, lit_32, lit_39, lit_43, lit_45, lit_47, lit_48, lit_56, lit_57, lit_59, lit_60, lit_62, lit_63, lit_89, lit_92, lit_96, lit_97, lit_99, lit_100, lit_102, lit_103, lit_104, lit_110, lit_111, lit_115, lit_117, lit_194, lit_200, lit_644, lit_736, lit_999, lit_1000, lit_9999, lit_10000, lit_1000000000, ↓wp_mlet, ↓wp_mbp, ↓wp_ite, ↓wp_mix, ↓wp_mdiv, ↓wp_mnz, ↓wp_some, ↓wp_mbnd, ↓mlet_eq, ↓mbp_eq, ↓mbnd_eq, ↓mix_ite, ↓mdiv_ite, ↓mnz_ite, nI_add, nI_mul, nI_nat, nI_ltE, nI_leE, nI_eqE, nI_eqN, nI_Neq, nI_Nlt, nI_Nle, nI_ltN, nI_leN, ↓reduceIte, ↓Nat.reduceEqDiff, and_f, nt_e, nt_t, nl_t, nl_f, ne_t, ne_f, and_self, or_self, or_true, true_or, or_false, false_or, if_true, if_false, and_true, true_and, and_false, false_and, not_true, not_false_iff, hj0, mbpx_l]
    · simp (disch := omega) only [lit_0, lit_1, lit_2, lit_3, lit_4, lit_5, lit_6, lit_7, lit_8, lit_9, lit_10, lit_11, lit_12, lit_13, lit_14, lit_15, lit_16, lit_20, lit_23, lit_24, lit_31, lit_32, lit_39, lit_43, lit_45, lit_47, lit_48, lit_56, lit_57, lit_59, lit_60, lit_62, lit_63, lit_89, lit_92, lit_96, lit_97, lit_99, lit_100, lit_102, lit_103, lit_104, lit_110, lit_111, lit_115, lit_117, lit_194, lit_200, lit_644, lit_736, lit_999, lit_1000, lit_9999, lit_10000, lit_1000000000, ↓wp_mlet, ↓wp_mbp, ↓wp_ite, ↓wp_mix, ↓wp_mdiv, ↓wp_mnz, ↓wp_some, ↓wp_mbnd, ↓mlet_eq, ↓mbp_eq, ↓mbnd_eq, ↓mix_ite, ↓mdiv_ite, ↓mnz_ite, nI_add, nI_mul, nI_nat, nI_ltE, nI_leE, nI_eqE, nI_eqN, nI_Neq, nI_Nlt, nI_Nle, nI_ltN, nI_leN, ↓reduceIte, ↓Nat.reduceEqDiff, and_f, nt_e, nt_t, nl_t, nl_f, ne_t, ne_f, and_self, or_self, or_true, true_or, or_false, false_or, if_true, if_false, and_true, true_and, and_false, false_and, not_true, not_false_iff, toNat_0, Bool.false_and, Bool.true_and, Bool.and_false, Bool.and_true, Bool.false_eq_true, reduceCtorEq, Bool.true_eq_false, Bool.not_true, Bool.not_false, em 2 (by decide), e1, thr0]
      exact ⟨hr' _, rfl, by decide, by decide⟩
  obtain ⟨l1, l2, l3⟩ := bl n1 h1
  obtain ⟨g1, g2, g3⟩ := hj.2.1 n1 (by omega) h1
  refine ⟨.inr (nI (α (58 + 3 * n1))), by simp (disch := omega) only [lit_0, lit_1, lit_2, lit_3, lit_4, lit_5, lit_6, lit_7, lit_8, lit_9, lit_10, lit_11, lit_12, lit_13, lit_14, lit_15, lit_16, lit_20, lit_23, lit_24, lit_31, lit_32, lit_39, lit_43, lit_45, lit_47, lit_48, lit_56, lit_57, lit_59, lit_60, lit_62, lit_63, lit_89, lit_92, lit_96, lit_97, lit_99, lit_100, lit_102, lit_103, lit_104, lit_110, lit_111, lit_115, lit_117, lit_194, lit_200, lit_644, lit_736, lit_999, lit_1000, lit_9999, lit_10000, lit_1000000000, ↓wp_mlet, ↓wp_mbp, ↓wp_ite, ↓wp_mix, ↓wp_mdiv, ↓wp_mnz, ↓wp_some, ↓wp_mbnd, ↓mlet_eq, ↓mbp_eq, ↓mbnd_eq, ↓mix_ite, ↓mdiv_ite, ↓mnz_ite, nI_add, nI_mul, nI_nat, nI_ltE, nI_leE, nI_eqE, nI_eqN, nI_Neq, nI_Nlt, nI_Nle, nI_ltN, nI_leN, ↓reduceIte, ↓Nat.reduceEqDiff, and_f, nt_e, nt_t, nl_t, nl_f, ne_t, ne_f, and_self, or_self, or_true, true_or, or_false, false_or, if_true, if_false, and_true, true_and, and_false, false_and, not_true, not_false_iff, hj0, mbpx_r, g3], ?_⟩
  simp (disch := omega) only [lit_0, lit_1, lit_2, lit_3, lit_4, lit_5, lit_6, lit_7, lit_8, lit_9, lit_10, lit_11, lit_12, lit_13, lit_14, lit_15, lit_16, lit_20, lit_23, lit_24, lit_31, lit_32, lit_39, lit_43, lit_45, lit_47, lit_48, lit_56, lit_57, lit_59, lit_60, lit_62, lit_63, lit_89, lit_92, lit_96, lit_97, lit_99, lit_100, lit_102, lit_103, lit_104, lit_110, lit_111, lit_115, lit_117, lit_194, lit_200, lit_644, lit_736, lit_999, lit_1000, lit_9999, lit_10000, lit_1000000000, ↓wp_mlet, ↓wp_mbp, ↓wp_ite, ↓wp_mix, ↓wp_mdiv, ↓wp_mnz, ↓wp_some, ↓wp_mbnd, ↓mlet_eq, ↓mbp_eq, ↓mbnd_eq, ↓mix_ite, ↓mdiv_ite, ↓mnz_ite, nI_add, nI_mul, nI_nat, nI_ltE, nI_leE, nI_eqE, nI_eqN, nI_Neq, nI_Nlt, nI_Nle, nI_ltN, nI_leN, ↓reduceIte, ↓Nat.reduceEqDiff, and_f, nt_e, nt_t, nl_t, nl_f, ne_t, ne_f, and_self, or_self, or_true, true_or, or_false, false_or, if_true, if_false, and_true, true_and, and_false, false_and, not_true, not_false_iff, toNat_0, Bool.false_and, Bool.true_and, Bool.and_false, Bool.and_true, Bool.false_eq_true, reduceCtorEq, Bool.true_eq_false, Bool.not_true, Bool.not_false, em 2 (by decide), e1, thr0]
  exact ⟨hr' _, rfl, by rw [show 56 + 3 * n1 + 2 = 58 + 3 * n1 by omega]⟩
theorem pair_logKind {n : Nat} {M : Mem} (hr : Rel n M) (a1 : Int32) : PairG n (fun x => if x = 4 then 1 else 0) M (f_X11_logKind a1) (f_X12_logKind a1) := by
  have hr' := Rel_thr hr
  obtain ⟨α, αh, αs, K, nx, fed, b, H, ⟨hk, hd, hb, hj⟩, hS, hH, hs, ⟨hr1, hr2, hr3, hr4⟩, hi, hih, his, hbb⟩ := hr
  obtain ⟨⟨b0, b1, b2, b3, b4, b5, b6, b7, b8, b9, b10, b11, b14⟩, i1, i2, bs, bk, bn, bz, bt, bg, bl⟩ := hi
  have hS' := fun x => ms_t (x := x) hS
  unfold f_X11_logKind f_X12_logKind f_X11_requireEntry
  have em := fun w hw => m_entry (M := M) (α := α) (w := w) (a1 := a1) hS b14 hw
  have hj0 := hj.1
  rcases idx_c a1 (α 14) (by omega) with ⟨n1, h1, rfl, e1⟩ | ⟨e1, h⟩
  case inr =>
    refine ⟨.inl 4, ?_, ?_⟩
    · rcases h with h | ⟨j, hj, h, rfl⟩
      · simp only [mlet_eq]
        rw [if_pos h]
        rfl
      · simp (disch := omega) only [lit_0, lit_1, lit_2, lit_3, lit_4, lit_5, lit_6, lit_7, lit_8, lit_9, lit_10, lit_11, lit_12, lit_13, lit_14, lit_15, lit_16, lit_20, lit_23, lit_24, lit_31, lit_32, lit_39, lit_43, lit_45, lit_47, lit_48, lit_56, lit_57, lit_59, lit_60, lit_62, lit_63, lit_89, lit_92, lit_96, lit_97, lit_99, lit_100, lit_102, lit_103, lit_104, lit_110, lit_111, lit_115, lit_117, lit_194, lit_200, lit_644, lit_736, lit_999, lit_1000, lit_9999, lit_10000, lit_1000000000, ↓wp_mlet, ↓wp_mbp, ↓wp_ite, ↓wp_mix, ↓wp_mdiv, ↓wp_mnz, ↓wp_some, ↓wp_mbnd, ↓mlet_eq, ↓mbp_eq, ↓mbnd_eq, ↓mix_ite, ↓mdiv_ite, ↓mnz_ite, nI_add, nI_mul, nI_nat, nI_ltE, nI_leE, nI_eqE, nI_eqN, nI_Neq, nI_Nlt, nI_Nle, nI_ltN, nI_leN, ↓reduceIte, ↓Nat.reduceEqDiff, and_f, nt_e, nt_t, nl_t, nl_f, ne_t, ne_f, and_self, or_self, or_true, true_or, or_false, false_or, if_true, if_false, and_true, true_and, and_false, false_and, not_true, not_false_iff, hj0, mbpx_l]
    · simp (disch := omega) only [lit_0, lit_1, lit_2, lit_3, lit_4, lit_5, lit_6, lit_7, lit_8, lit_9, lit_10, lit_11, lit_12, lit_13, lit_14, lit_15, lit_16, lit_20, lit_23, lit_24, lit_31, lit_32, lit_39, lit_43, lit_45, lit_47, lit_48, lit_56, lit_57, lit_59, lit_60, lit_62, lit_63, lit_89, lit_92, lit_96, lit_97, lit_99, lit_100, lit_102, lit_103, lit_104, lit_110, lit_111, lit_115, lit_117, lit_194, lit_200, lit_644, lit_736, lit_999, lit_1000, lit_9999, lit_10000, lit_1000000000, ↓wp_mlet, ↓wp_mbp, ↓wp_ite, ↓wp_mix, ↓wp_mdiv, ↓wp_mnz, ↓wp_some, ↓wp_mbnd, ↓mlet_eq, ↓mbp_eq, ↓mbnd_eq, ↓mix_ite, ↓mdiv_ite, ↓mnz_ite, nI_add, nI_mul, nI_nat, nI_ltE, nI_leE, nI_eqE, nI_eqN, nI_Neq, nI_Nlt, nI_Nle, nI_ltN, nI_leN, ↓reduceIte, ↓Nat.reduceEqDiff, and_f, nt_e, nt_t, nl_t, nl_f, ne_t, ne_f, and_self, or_self, or_true, true_or, or_false, false_or, if_true, if_false, and_true, true_and, and_false, false_and, not_true, not_false_iff, toNat_0, Bool.false_and, Bool.true_and, Bool.and_false, Bool.and_true, Bool.false_eq_true, reduceCtorEq, Bool.true_eq_false, Bool.not_true, Bool.not_false, em 1 (by decide), e1, thr0, chr_eq, wp_mnc]
      exact ⟨hr' _, rfl, by decide, by decide⟩
  obtain ⟨l1, l2, l3⟩ := bl n1 h1
  obtain ⟨g1, g2, g3⟩ := hj.2.1 n1 (by omega) h1
  have l4 : α (57 + 3 * n1) < 65536 := by omega
  have el : 56 + 3 * n1 + 1 = 57 + 3 * n1 := by omega
  refine ⟨.inr (nI (α (57 + 3 * n1))), by simp (disch := omega) only [lit_0, lit_1, lit_2, lit_3, lit_4, lit_5, lit_6, lit_7, lit_8, lit_9, lit_10, lit_11, lit_12, lit_13, lit_14, lit_15, lit_16, lit_20, lit_23, lit_24, lit_31, lit_32, lit_39, lit_43, lit_45, lit_47, lit_48, lit_56, lit_57, lit_59, lit_60, lit_62, lit_63, lit_89, lit_92, lit_96, lit_97, lit_99, lit_100, lit_102, lit_103, lit_104, lit_110, lit_111, lit_115, lit_117, lit_194, lit_200, lit_644, lit_736, lit_999, lit_1000, lit_9999, lit_10000, lit_1000000000, ↓wp_mlet, ↓wp_mbp, ↓wp_ite, ↓wp_mix, ↓wp_mdiv, ↓wp_mnz, ↓wp_some, ↓wp_mbnd, ↓mlet_eq, ↓mbp_eq, ↓mbnd_eq, ↓mix_ite, ↓mdiv_ite, ↓mnz_ite, nI_add, nI_mul, nI_nat, nI_ltE, nI_leE, nI_eqE, nI_eqN, nI_Neq, nI_Nlt, nI_Nle, nI_ltN, nI_leN, ↓reduceIte, ↓Nat.reduceEqDiff, and_f, nt_e, nt_t, nl_t, nl_f, ne_t, ne_f, and_self, or_self, or_true, true_or, or_false, false_or, if_true, if_false, and_true, true_and, and_false, false_and, not_true, not_false_iff, hj0, mbpx_r, g2, mnc_eq], ?_⟩
  simp (disch := omega) only [lit_0, lit_1, lit_2, lit_3, lit_4, lit_5, lit_6, lit_7, lit_8, lit_9, lit_10, lit_11, lit_12, lit_13, lit_14, lit_15, lit_16, lit_20, lit_23, lit_24, lit_31, lit_32, lit_39, lit_43, lit_45, lit_47, lit_48, lit_56, lit_57, lit_59, lit_60, lit_62, lit_63, lit_89, lit_92, lit_96, lit_97, lit_99, lit_100, lit_102, lit_103, lit_104, lit_110, lit_111, lit_115, lit_117, lit_194, lit_200, lit_644, lit_736, lit_999, lit_1000, lit_9999, lit_10000, lit_1000000000, ↓wp_mlet, ↓wp_mbp, ↓wp_ite, ↓wp_mix, ↓wp_mdiv, ↓wp_mnz, ↓wp_some, ↓wp_mbnd, ↓mlet_eq, ↓mbp_eq, ↓mbnd_eq, ↓mix_ite, ↓mdiv_ite, ↓mnz_ite, nI_add, nI_mul, nI_nat, nI_ltE, nI_leE, nI_eqE, nI_eqN, nI_Neq, nI_Nlt, nI_Nle, nI_ltN, nI_leN, ↓reduceIte, ↓Nat.reduceEqDiff, and_f, nt_e, nt_t, nl_t, nl_f, ne_t, ne_f, and_self, or_self, or_true, true_or, or_false, false_or, if_true, if_false, and_true, true_and, and_false, false_and, not_true, not_false_iff, toNat_0, Bool.false_and, Bool.true_and, Bool.and_false, Bool.and_true, Bool.false_eq_true, reduceCtorEq, Bool.true_eq_false, Bool.not_true, Bool.not_false, em 1 (by decide), e1, thr0, el, chr_eq, wp_mnc]
  exact ⟨hr' _, rfl, rfl⟩
theorem pair_refusalReason {n : Nat} {M : Mem} (hr : Rel n M) : PairG n (fun x => if x = 4 then 1 else 0) M f_X11_refusalReason f_X12_refusalReason := by
  have hr' := Rel_thr hr
  obtain ⟨α, αh, αs, K, nx, fed, b, H, ⟨hk, hd, hb, hj⟩, hS, hH, hs, ⟨hr1, hr2, hr3, hr4⟩, hi, hih, his, hbb⟩ := hr
  obtain ⟨⟨b0, b1, b2, b3, b4, b5, b6, b7, b8, b9, b10, b11, b14⟩, i1, i2, bs, bk, bn, bz, bt, bg, bl⟩ := hi
  have hS' := fun x => ms_t (x := x) hS
  unfold f_X11_refusalReason f_X12_refusalReason f_X11_requireRefusal f_X12_fails
  obtain ⟨w, c, q1, q2, q3, q4, q5, q6, q7⟩ := hr1
  by_cases hw : w = 0
  · rw [if_pos hw] at q4
    rw [hw] at q3
    refine ⟨.inl 4, by simp (disch := omega) only [lit_0, lit_1, lit_2, lit_3, lit_4, lit_5, lit_6, lit_7, lit_8, lit_9, lit_10, lit_11, lit_12, lit_13, lit_14, lit_15, lit_16, lit_20, lit_23, lit_24, lit_31, lit_32, lit_39, lit_43, lit_45, lit_47, lit_48, lit_56, lit_57, lit_59, lit_60, lit_62, lit_63, lit_89, lit_92, lit_96, lit_97, lit_99, lit_100, lit_102, lit_103, lit_104, lit_110, lit_111, lit_115, lit_117, lit_194, lit_200, lit_644, lit_736, lit_999, lit_1000, lit_9999, lit_10000, lit_1000000000, ↓wp_mlet, ↓wp_mbp, ↓wp_ite, ↓wp_mix, ↓wp_mdiv, ↓wp_mnz, ↓wp_some, ↓wp_mbnd, ↓mlet_eq, ↓mbp_eq, ↓mbnd_eq, ↓mix_ite, ↓mdiv_ite, ↓mnz_ite, nI_add, nI_mul, nI_nat, nI_ltE, nI_leE, nI_eqE, nI_eqN, nI_Neq, nI_Nlt, nI_Nle, nI_ltN, nI_leN, ↓reduceIte, ↓Nat.reduceEqDiff, and_f, nt_e, nt_t, nl_t, nl_f, ne_t, ne_f, and_self, or_self, or_true, true_or, or_false, false_or, if_true, if_false, and_true, true_and, and_false, false_and, not_true, not_false_iff, q4, mbpx_l], ?_⟩
    simp (disch := omega) only [lit_0, lit_1, lit_2, lit_3, lit_4, lit_5, lit_6, lit_7, lit_8, lit_9, lit_10, lit_11, lit_12, lit_13, lit_14, lit_15, lit_16, lit_20, lit_23, lit_24, lit_31, lit_32, lit_39, lit_43, lit_45, lit_47, lit_48, lit_56, lit_57, lit_59, lit_60, lit_62, lit_63, lit_89, lit_92, lit_96, lit_97, lit_99, lit_100, lit_102, lit_103, lit_104, lit_110, lit_111, lit_115, lit_117, lit_194, lit_200, lit_644, lit_736, lit_999, lit_1000, lit_9999, lit_10000, lit_1000000000, ↓wp_mlet, ↓wp_mbp, ↓wp_ite, ↓wp_mix, ↓wp_mdiv, ↓wp_mnz, ↓wp_some, ↓wp_mbnd, ↓mlet_eq, ↓mbp_eq, ↓mbnd_eq, ↓mix_ite, ↓mdiv_ite, ↓mnz_ite, nI_add, nI_mul, nI_nat, nI_ltE, nI_leE, nI_eqE, nI_eqN, nI_Neq, nI_Nlt, nI_Nle, nI_ltN, nI_leN, ↓reduceIte, ↓Nat.reduceEqDiff, and_f, nt_e, nt_t, nl_t, nl_f, ne_t, ne_f, and_self, or_self, or_true, true_or, or_false, false_or, if_true, if_false, and_true, true_and, and_false, false_and, not_true, not_false_iff, mup_at, up_at, fil_at, ↓reduceIte, ↓Nat.reduceEqDiff, and_f, nt_e, nt_t, nl_t, nl_f, ne_t, ne_f, and_self, or_self, or_true, true_or, or_false, false_or, if_true, if_false, and_true, true_and, and_false, false_and, not_true, not_false_iff, q3]
    refine ⟨?_, rfl, by decide, by decide⟩
    have := hr' (nI 1)
    rw [show mup (mup M 12 47 0 (nI 0)) 12 47 0 (nI 1) = mup M 12 47 0 (nI 1) from by funext a b c; rw [mup_at, mup_at, mup_at]; split <;> rfl]
    exact this
  · rw [if_neg hw] at q4
    refine ⟨.inr (nI w), by simp (disch := omega) only [lit_0, lit_1, lit_2, lit_3, lit_4, lit_5, lit_6, lit_7, lit_8, lit_9, lit_10, lit_11, lit_12, lit_13, lit_14, lit_15, lit_16, lit_20, lit_23, lit_24, lit_31, lit_32, lit_39, lit_43, lit_45, lit_47, lit_48, lit_56, lit_57, lit_59, lit_60, lit_62, lit_63, lit_89, lit_92, lit_96, lit_97, lit_99, lit_100, lit_102, lit_103, lit_104, lit_110, lit_111, lit_115, lit_117, lit_194, lit_200, lit_644, lit_736, lit_999, lit_1000, lit_9999, lit_10000, lit_1000000000, ↓wp_mlet, ↓wp_mbp, ↓wp_ite, ↓wp_mix, ↓wp_mdiv, ↓wp_mnz, ↓wp_some, ↓wp_mbnd, ↓mlet_eq, ↓mbp_eq, ↓mbnd_eq, ↓mix_ite, ↓mdiv_ite, ↓mnz_ite, nI_add, nI_mul, nI_nat, nI_ltE, nI_leE, nI_eqE, nI_eqN, nI_Neq, nI_Nlt, nI_Nle, nI_ltN, nI_leN, ↓reduceIte, ↓Nat.reduceEqDiff, and_f, nt_e, nt_t, nl_t, nl_f, ne_t, ne_f, and_self, or_self, or_true, true_or, or_false, false_or, if_true, if_false, and_true, true_and, and_false, false_and, not_true, not_false_iff, q4, mbpx_r], ?_⟩
    simp (disch := omega) only [lit_0, lit_1, lit_2, lit_3, lit_4, lit_5, lit_6, lit_7, lit_8, lit_9, lit_10, lit_11, lit_12, lit_13, lit_14, lit_15, lit_16, lit_20, lit_23, lit_24, lit_31, lit_32, lit_39, lit_43, lit_45, lit_47, lit_48, lit_56, lit_57, lit_59, lit_60, lit_62, lit_63, lit_89, lit_92, lit_96, lit_97, lit_99, lit_100, lit_102, lit_103, lit_104, lit_110, lit_111, lit_115, lit_117, lit_194, lit_200, lit_644, lit_736, lit_999, lit_1000, lit_9999, lit_10000, lit_1000000000, ↓wp_mlet, ↓wp_mbp, ↓wp_ite, ↓wp_mix, ↓wp_mdiv, ↓wp_mnz, ↓wp_some, ↓wp_mbnd, ↓mlet_eq, ↓mbp_eq, ↓mbnd_eq, ↓mix_ite, ↓mdiv_ite, ↓mnz_ite, nI_add, nI_mul, nI_nat, nI_ltE, nI_leE, nI_eqE, nI_eqN, nI_Neq, nI_Nlt, nI_Nle, nI_ltN, nI_leN, ↓reduceIte, ↓Nat.reduceEqDiff, and_f, nt_e, nt_t, nl_t, nl_f, ne_t, ne_f, and_self, or_self, or_true, true_or, or_false, false_or, if_true, if_false, and_true, true_and, and_false, false_and, not_true, not_false_iff, mup_at, up_at, fil_at, ↓reduceIte, ↓Nat.reduceEqDiff, and_f, nt_e, nt_t, nl_t, nl_f, ne_t, ne_f, and_self, or_self, or_true, true_or, or_false, false_or, if_true, if_false, and_true, true_and, and_false, false_and, not_true, not_false_iff, q3]
    exact ⟨hr' _, rfl, rfl⟩
theorem pair_refusalDetail {n : Nat} {M : Mem} (hr : Rel n M) : PairG n (fun x => if x = 4 then 1 else 0) M f_X11_refusalDetail f_X12_refusalDetail := by
  have hr' := Rel_thr hr
  obtain ⟨α, αh, αs, K, nx, fed, b, H, ⟨hk, hd, hb, hj⟩, hS, hH, hs, ⟨hr1, hr2, hr3, hr4⟩, hi, hih, his, hbb⟩ := hr
  obtain ⟨⟨b0, b1, b2, b3, b4, b5, b6, b7, b8, b9, b10, b11, b14⟩, i1, i2, bs, bk, bn, bz, bt, bg, bl⟩ := hi
  have hS' := fun x => ms_t (x := x) hS
  unfold f_X11_refusalDetail f_X12_refusalDetail f_X11_requireRefusal f_X12_fails
  obtain ⟨w, c, q1, q2, q3, q4, q5, q6, q7⟩ := hr1
  by_cases hw : w = 0
  · rw [if_pos hw] at q4
    rw [hw] at q3
    refine ⟨.inl 4, by simp (disch := omega) only [lit_0, lit_1, lit_2, lit_3, lit_4, lit_5, lit_6, lit_7, lit_8, lit_9, lit_10, lit_11, lit_12, lit_13, lit_14, lit_15, lit_16, lit_20, lit_23, lit_24, lit_31, lit_32, lit_39, lit_43, lit_45, lit_47, lit_48, lit_56, lit_57, lit_59, lit_60, lit_62, lit_63, lit_89, lit_92, lit_96, lit_97, lit_99, lit_100, lit_102, lit_103, lit_104, lit_110, lit_111, lit_115, lit_117, lit_194, lit_200, lit_644, lit_736, lit_999, lit_1000, lit_9999, lit_10000, lit_1000000000, ↓wp_mlet, ↓wp_mbp, ↓wp_ite, ↓wp_mix, ↓wp_mdiv, ↓wp_mnz, ↓wp_some, ↓wp_mbnd, ↓mlet_eq, ↓mbp_eq, ↓mbnd_eq, ↓mix_ite, ↓mdiv_ite, ↓mnz_ite, nI_add, nI_mul, nI_nat, nI_ltE, nI_leE, nI_eqE, nI_eqN, nI_Neq, nI_Nlt, nI_Nle, nI_ltN, nI_leN, ↓reduceIte, ↓Nat.reduceEqDiff, and_f, nt_e, nt_t, nl_t, nl_f, ne_t, ne_f, and_self, or_self, or_true, true_or, or_false, false_or, if_true, if_false, and_true, true_and, and_false, false_and, not_true, not_false_iff, q4, mbpx_l], ?_⟩
    simp (disch := omega) only [lit_0, lit_1, lit_2, lit_3, lit_4, lit_5, lit_6, lit_7, lit_8, lit_9, lit_10, lit_11, lit_12, lit_13, lit_14, lit_15, lit_16, lit_20, lit_23, lit_24, lit_31, lit_32, lit_39, lit_43, lit_45, lit_47, lit_48, lit_56, lit_57, lit_59, lit_60, lit_62, lit_63, lit_89, lit_92, lit_96, lit_97, lit_99, lit_100, lit_102, lit_103, lit_104, lit_110, lit_111, lit_115, lit_117, lit_194, lit_200, lit_644, lit_736, lit_999, lit_1000, lit_9999, lit_10000, lit_1000000000, ↓wp_mlet, ↓wp_mbp, ↓wp_ite, ↓wp_mix, ↓wp_mdiv, ↓wp_mnz, ↓wp_some, ↓wp_mbnd, ↓mlet_eq, ↓mbp_eq, ↓mbnd_eq, ↓mix_ite, ↓mdiv_ite, ↓mnz_ite, nI_add, nI_mul, nI_nat, nI_ltE, nI_leE, nI_eqE, nI_eqN, nI_Neq, nI_Nlt, nI_Nle, nI_ltN, nI_leN, ↓reduceIte, ↓Nat.reduceEqDiff, and_f, nt_e, nt_t, nl_t, nl_f, ne_t, ne_f, and_self, or_self, or_true, true_or, or_false, false_or, if_true, if_false, and_true, true_and, and_false, false_and, not_true, not_false_iff, mup_at, up_at, fil_at, ↓reduceIte, ↓Nat.reduceEqDiff, and_f, nt_e, nt_t, nl_t, nl_f, ne_t, ne_f, and_self, or_self, or_true, true_or, or_false, false_or, if_true, if_false, and_true, true_and, and_false, false_and, not_true, not_false_iff, q3]
    refine ⟨?_, rfl, by decide, by decide⟩
    have := hr' (nI 1)
    rw [show mup (mup M 12 47 0 (nI 0)) 12 47 0 (nI 1) = mup M 12 47 0 (nI 1) from by funext a b c; rw [mup_at, mup_at, mup_at]; split <;> rfl]
    exact this
  · rw [if_neg hw] at q4
    refine ⟨.inr (M 12 47 17), by simp (disch := omega) only [lit_0, lit_1, lit_2, lit_3, lit_4, lit_5, lit_6, lit_7, lit_8, lit_9, lit_10, lit_11, lit_12, lit_13, lit_14, lit_15, lit_16, lit_20, lit_23, lit_24, lit_31, lit_32, lit_39, lit_43, lit_45, lit_47, lit_48, lit_56, lit_57, lit_59, lit_60, lit_62, lit_63, lit_89, lit_92, lit_96, lit_97, lit_99, lit_100, lit_102, lit_103, lit_104, lit_110, lit_111, lit_115, lit_117, lit_194, lit_200, lit_644, lit_736, lit_999, lit_1000, lit_9999, lit_10000, lit_1000000000, ↓wp_mlet, ↓wp_mbp, ↓wp_ite, ↓wp_mix, ↓wp_mdiv, ↓wp_mnz, ↓wp_some, ↓wp_mbnd, ↓mlet_eq, ↓mbp_eq, ↓mbnd_eq, ↓mix_ite, ↓mdiv_ite, ↓mnz_ite, nI_add, nI_mul, nI_nat, nI_ltE, nI_leE, nI_eqE, nI_eqN, nI_Neq, nI_Nlt, nI_Nle, nI_ltN, nI_leN, ↓reduceIte, ↓Nat.reduceEqDiff, and_f, nt_e, nt_t, nl_t, nl_f, ne_t, ne_f, and_self, or_self, or_true, true_or, or_false, false_or, if_true, if_false, and_true, true_and, and_false, false_and, not_true, not_false_iff, q4, mbpx_r, q5 hw], ?_⟩
    simp (disch := omega) only [lit_0, lit_1, lit_2, lit_3, lit_4, lit_5, lit_6, lit_7, lit_8, lit_9, lit_10, lit_11, lit_12, lit_13, lit_14, lit_15, lit_16, lit_20, lit_23, lit_24, lit_31, lit_32, lit_39, lit_43, lit_45, lit_47, lit_48, lit_56, lit_57, lit_59, lit_60, lit_62, lit_63, lit_89, lit_92, lit_96, lit_97, lit_99, lit_100, lit_102, lit_103, lit_104, lit_110, lit_111, lit_115, lit_117, lit_194, lit_200, lit_644, lit_736, lit_999, lit_1000, lit_9999, lit_10000, lit_1000000000, ↓wp_mlet, ↓wp_mbp, ↓wp_ite, ↓wp_mix, ↓wp_mdiv, ↓wp_mnz, ↓wp_some, ↓wp_mbnd, ↓mlet_eq, ↓mbp_eq, ↓mbnd_eq, ↓mix_ite, ↓mdiv_ite, ↓mnz_ite, nI_add, nI_mul, nI_nat, nI_ltE, nI_leE, nI_eqE, nI_eqN, nI_Neq, nI_Nlt, nI_Nle, nI_ltN, nI_leN, ↓reduceIte, ↓Nat.reduceEqDiff, and_f, nt_e, nt_t, nl_t, nl_f, ne_t, ne_f, and_self, or_self, or_true, true_or, or_false, false_or, if_true, if_false, and_true, true_and, and_false, false_and, not_true, not_false_iff, mup_at, up_at, fil_at, ↓reduceIte, ↓Nat.reduceEqDiff, and_f, nt_e, nt_t, nl_t, nl_f, ne_t, ne_f, and_self, or_self, or_true, true_or, or_false, false_or, if_true, if_false, and_true, true_and, and_false, false_and, not_true, not_false_iff, q3]
    exact ⟨hr' _, rfl, rfl⟩
theorem pair_refusalCause {n : Nat} {M : Mem} (hr : Rel n M) : PairG n (fun x => if x = 4 then 1 else 0) M f_X11_refusalCause f_X12_refusalCause := by
  have hr' := Rel_thr hr
  obtain ⟨α, αh, αs, K, nx, fed, b, H, ⟨hk, hd, hb, hj⟩, hS, hH, hs, ⟨hr1, hr2, hr3, hr4⟩, hi, hih, his, hbb⟩ := hr
  obtain ⟨⟨b0, b1, b2, b3, b4, b5, b6, b7, b8, b9, b10, b11, b14⟩, i1, i2, bs, bk, bn, bz, bt, bg, bl⟩ := hi
  have hS' := fun x => ms_t (x := x) hS
  unfold f_X11_refusalCause f_X12_refusalCause f_X12_fails
  obtain ⟨w, c, q1, q2, q3, q4, q5, q6, q7⟩ := hr1
  by_cases hw : c = 0
  · rw [if_pos hw] at q7
    rw [hw] at q6
    refine ⟨.inl 4, by simp (disch := omega) only [lit_0, lit_1, lit_2, lit_3, lit_4, lit_5, lit_6, lit_7, lit_8, lit_9, lit_10, lit_11, lit_12, lit_13, lit_14, lit_15, lit_16, lit_20, lit_23, lit_24, lit_31, lit_32, lit_39, lit_43, lit_45, lit_47, lit_48, lit_56, lit_57, lit_59, lit_60, lit_62, lit_63, lit_89, lit_92, lit_96, lit_97, lit_99, lit_100, lit_102, lit_103, lit_104, lit_110, lit_111, lit_115, lit_117, lit_194, lit_200, lit_644, lit_736, lit_999, lit_1000, lit_9999, lit_10000, lit_1000000000, ↓wp_mlet, ↓wp_mbp, ↓wp_ite, ↓wp_mix, ↓wp_mdiv, ↓wp_mnz, ↓wp_some, ↓wp_mbnd, ↓mlet_eq, ↓mbp_eq, ↓mbnd_eq, ↓mix_ite, ↓mdiv_ite, ↓mnz_ite, nI_add, nI_mul, nI_nat, nI_ltE, nI_leE, nI_eqE, nI_eqN, nI_Neq, nI_Nlt, nI_Nle, nI_ltN, nI_leN, ↓reduceIte, ↓Nat.reduceEqDiff, and_f, nt_e, nt_t, nl_t, nl_f, ne_t, ne_f, and_self, or_self, or_true, true_or, or_false, false_or, if_true, if_false, and_true, true_and, and_false, false_and, not_true, not_false_iff, q7], ?_⟩
    simp (disch := omega) only [lit_0, lit_1, lit_2, lit_3, lit_4, lit_5, lit_6, lit_7, lit_8, lit_9, lit_10, lit_11, lit_12, lit_13, lit_14, lit_15, lit_16, lit_20, lit_23, lit_24, lit_31, lit_32, lit_39, lit_43, lit_45, lit_47, lit_48, lit_56, lit_57, lit_59, lit_60, lit_62, lit_63, lit_89, lit_92, lit_96, lit_97, lit_99, lit_100, lit_102, lit_103, lit_104, lit_110, lit_111, lit_115, lit_117, lit_194, lit_200, lit_644, lit_736, lit_999, lit_1000, lit_9999, lit_10000, lit_1000000000, ↓wp_mlet, ↓wp_mbp, ↓wp_ite, ↓wp_mix, ↓wp_mdiv, ↓wp_mnz, ↓wp_some, ↓wp_mbnd, ↓mlet_eq, ↓mbp_eq, ↓mbnd_eq, ↓mix_ite, ↓mdiv_ite, ↓mnz_ite, nI_add, nI_mul, nI_nat, nI_ltE, nI_leE, nI_eqE, nI_eqN, nI_Neq, nI_Nlt, nI_Nle, nI_ltN, nI_leN, ↓reduceIte, ↓Nat.reduceEqDiff, and_f, nt_e, nt_t, nl_t, nl_f, ne_t, ne_f, and_self, or_self, or_true, true_or, or_false, false_or, if_true, if_false, and_true, true_and, and_false, false_and, not_true, not_false_iff, mup_at, up_at, fil_at, ↓reduceIte, ↓Nat.reduceEqDiff, and_f, nt_e, nt_t, nl_t, nl_f, ne_t, ne_f, and_self, or_self, or_true, true_or, or_false, false_or, if_true, if_false, and_true, true_and, and_false, false_and, not_true, not_false_iff, q6]
    refine ⟨?_, rfl, by decide, by decide⟩
    have := hr' (nI 1)
    rw [show mup (mup M 12 47 0 (nI 0)) 12 47 0 (nI 1) = mup M 12 47 0 (nI 1) from by funext a b c; rw [mup_at, mup_at, mup_at]; split <;> rfl]
    exact this
  · rw [if_neg hw] at q7
    refine ⟨.inr (nI c), by simp (disch := omega) only [lit_0, lit_1, lit_2, lit_3, lit_4, lit_5, lit_6, lit_7, lit_8, lit_9, lit_10, lit_11, lit_12, lit_13, lit_14, lit_15, lit_16, lit_20, lit_23, lit_24, lit_31, lit_32, lit_39, lit_43, lit_45, lit_47, lit_48, lit_56, lit_57, lit_59, lit_60, lit_62, lit_63, lit_89, lit_92, lit_96, lit_97, lit_99, lit_100, lit_102, lit_103, lit_104, lit_110, lit_111, lit_115, lit_117, lit_194, lit_200, lit_644, lit_736, lit_999, lit_1000, lit_9999, lit_10000, lit_1000000000, ↓wp_mlet, ↓wp_mbp, ↓wp_ite, ↓wp_mix, ↓wp_mdiv, ↓wp_mnz, ↓wp_some, ↓wp_mbnd, ↓mlet_eq, ↓mbp_eq, ↓mbnd_eq, ↓mix_ite, ↓mdiv_ite, ↓mnz_ite, nI_add, nI_mul, nI_nat, nI_ltE, nI_leE, nI_eqE, nI_eqN, nI_Neq, nI_Nlt, nI_Nle, nI_ltN, nI_leN, ↓reduceIte, ↓Nat.reduceEqDiff, and_f, nt_e, nt_t, nl_t, nl_f, ne_t, ne_f, and_self, or_self, or_true, true_or, or_false, false_or, if_true, if_false, and_true, true_and, and_false, false_and, not_true, not_false_iff, q7], ?_⟩
    simp (disch := omega) only [lit_0, lit_1, lit_2, lit_3, lit_4, lit_5, lit_6, lit_7, lit_8, lit_9, lit_10, lit_11, lit_12, lit_13, lit_14, lit_15, lit_16, lit_20, lit_23, lit_24, lit_31, lit_32, lit_39, lit_43, lit_45, lit_47, lit_48, lit_56, lit_57, lit_59, lit_60, lit_62, lit_63, lit_89, lit_92, lit_96, lit_97, lit_99, lit_100, lit_102, lit_103, lit_104, lit_110, lit_111, lit_115, lit_117, lit_194, lit_200, lit_644, lit_736, lit_999, lit_1000, lit_9999, lit_10000, lit_1000000000, ↓wp_mlet, ↓wp_mbp, ↓wp_ite, ↓wp_mix, ↓wp_mdiv, ↓wp_mnz, ↓wp_some, ↓wp_mbnd, ↓mlet_eq, ↓mbp_eq, ↓mbnd_eq, ↓mix_ite, ↓mdiv_ite, ↓mnz_ite, nI_add, nI_mul, nI_nat, nI_ltE, nI_leE, nI_eqE, nI_eqN, nI_Neq, nI_Nlt, nI_Nle, nI_ltN, nI_leN, ↓reduceIte, ↓Nat.reduceEqDiff, and_f, nt_e, nt_t, nl_t, nl_f, ne_t, ne_f, and_self, or_self, or_true, true_or, or_false, false_or, if_true, if_false, and_true, true_and, and_false, false_and, not_true, not_false_iff, mup_at, up_at, fil_at, ↓reduceIte, ↓Nat.reduceEqDiff, and_f, nt_e, nt_t, nl_t, nl_f, ne_t, ne_f, and_self, or_self, or_true, true_or, or_false, false_or, if_true, if_false, and_true, true_and, and_false, false_and, not_true, not_false_iff, q6]
    exact ⟨hr' _, rfl, rfl⟩
theorem pair_errorPosition {n : Nat} {M : Mem} (hr : Rel n M) : PairG n (fun x => if x = 4 then 1 else 0) M f_X11_errorPosition f_X12_errorPosition := by
  have hr' := Rel_thr hr
  obtain ⟨α, αh, αs, K, nx, fed, b, H, ⟨hk, hd, hb, hj⟩, hS, hH, hs, ⟨hr1, hr2, hr3, hr4⟩, hi, hih, his, hbb⟩ := hr
  obtain ⟨⟨b0, b1, b2, b3, b4, b5, b6, b7, b8, b9, b10, b11, b14⟩, i1, i2, bs, bk, bn, bz, bt, bg, bl⟩ := hi
  have hS' := fun x => ms_t (x := x) hS
  unfold f_X11_errorPosition f_X12_errorPosition f_X12_fails
  obtain ⟨q1, q2 | ⟨e, q2, q3⟩⟩ := hr2
  · rw [q2] at q1
    refine ⟨.inl 4, by simp (disch := omega) only [lit_0, lit_1, lit_2, lit_3, lit_4, lit_5, lit_6, lit_7, lit_8, lit_9, lit_10, lit_11, lit_12, lit_13, lit_14, lit_15, lit_16, lit_20, lit_23, lit_24, lit_31, lit_32, lit_39, lit_43, lit_45, lit_47, lit_48, lit_56, lit_57, lit_59, lit_60, lit_62, lit_63, lit_89, lit_92, lit_96, lit_97, lit_99, lit_100, lit_102, lit_103, lit_104, lit_110, lit_111, lit_115, lit_117, lit_194, lit_200, lit_644, lit_736, lit_999, lit_1000, lit_9999, lit_10000, lit_1000000000, ↓wp_mlet, ↓wp_mbp, ↓wp_ite, ↓wp_mix, ↓wp_mdiv, ↓wp_mnz, ↓wp_some, ↓wp_mbnd, ↓mlet_eq, ↓mbp_eq, ↓mbnd_eq, ↓mix_ite, ↓mdiv_ite, ↓mnz_ite, nI_add, nI_mul, nI_nat, nI_ltE, nI_leE, nI_eqE, nI_eqN, nI_Neq, nI_Nlt, nI_Nle, nI_ltN, nI_leN, ↓reduceIte, ↓Nat.reduceEqDiff, and_f, nt_e, nt_t, nl_t, nl_f, ne_t, ne_f, and_self, or_self, or_true, true_or, or_false, false_or, if_true, if_false, and_true, true_and, and_false, false_and, not_true, not_false_iff, q1], ?_⟩
    simp (disch := omega) only [lit_0, lit_1, lit_2, lit_3, lit_4, lit_5, lit_6, lit_7, lit_8, lit_9, lit_10, lit_11, lit_12, lit_13, lit_14, lit_15, lit_16, lit_20, lit_23, lit_24, lit_31, lit_32, lit_39, lit_43, lit_45, lit_47, lit_48, lit_56, lit_57, lit_59, lit_60, lit_62, lit_63, lit_89, lit_92, lit_96, lit_97, lit_99, lit_100, lit_102, lit_103, lit_104, lit_110, lit_111, lit_115, lit_117, lit_194, lit_200, lit_644, lit_736, lit_999, lit_1000, lit_9999, lit_10000, lit_1000000000, ↓wp_mlet, ↓wp_mbp, ↓wp_ite, ↓wp_mix, ↓wp_mdiv, ↓wp_mnz, ↓wp_some, ↓wp_mbnd, ↓mlet_eq, ↓mbp_eq, ↓mbnd_eq, ↓mix_ite, ↓mdiv_ite, ↓mnz_ite, nI_add, nI_mul, nI_nat, nI_ltE, nI_leE, nI_eqE, nI_eqN, nI_Neq, nI_Nlt, nI_Nle, nI_ltN, nI_leN, ↓reduceIte, ↓Nat.reduceEqDiff, and_f, nt_e, nt_t, nl_t, nl_f, ne_t, ne_f, and_self, or_self, or_true, true_or, or_false, false_or, if_true, if_false, and_true, true_and, and_false, false_and, not_true, not_false_iff, mup_at, up_at, fil_at, ↓reduceIte, ↓Nat.reduceEqDiff, and_f, nt_e, nt_t, nl_t, nl_f, ne_t, ne_f, and_self, or_self, or_true, true_or, or_false, false_or, if_true, if_false, and_true, true_and, and_false, false_and, not_true, not_false_iff, q2]
    refine ⟨?_, rfl, by decide, by decide⟩
    have := hr' (nI 1)
    rw [show mup (mup M 12 47 0 (nI 0)) 12 47 0 (nI 1) = mup M 12 47 0 (nI 1) from by funext a b c; rw [mup_at, mup_at, mup_at]; split <;> rfl]
    exact this
  · rw [q3] at q1
    refine ⟨.inr (nI e), by simp (disch := omega) only [lit_0, lit_1, lit_2, lit_3, lit_4, lit_5, lit_6, lit_7, lit_8, lit_9, lit_10, lit_11, lit_12, lit_13, lit_14, lit_15, lit_16, lit_20, lit_23, lit_24, lit_31, lit_32, lit_39, lit_43, lit_45, lit_47, lit_48, lit_56, lit_57, lit_59, lit_60, lit_62, lit_63, lit_89, lit_92, lit_96, lit_97, lit_99, lit_100, lit_102, lit_103, lit_104, lit_110, lit_111, lit_115, lit_117, lit_194, lit_200, lit_644, lit_736, lit_999, lit_1000, lit_9999, lit_10000, lit_1000000000, ↓wp_mlet, ↓wp_mbp, ↓wp_ite, ↓wp_mix, ↓wp_mdiv, ↓wp_mnz, ↓wp_some, ↓wp_mbnd, ↓mlet_eq, ↓mbp_eq, ↓mbnd_eq, ↓mix_ite, ↓mdiv_ite, ↓mnz_ite, nI_add, nI_mul, nI_nat, nI_ltE, nI_leE, nI_eqE, nI_eqN, nI_Neq, nI_Nlt, nI_Nle, nI_ltN, nI_leN, ↓reduceIte, ↓Nat.reduceEqDiff, and_f, nt_e, nt_t, nl_t, nl_f, ne_t, ne_f, and_self, or_self, or_true, true_or, or_false, false_or, if_true, if_false, and_true, true_and, and_false, false_and, not_true, not_false_iff, q1], ?_⟩
    simp (disch := omega) only [lit_0, lit_1, lit_2, lit_3, lit_4, lit_5, lit_6, lit_7, lit_8, lit_9, lit_10, lit_11, lit_12, lit_13, lit_14, lit_15, lit_16, lit_20, lit_23, lit_24, lit_31, lit_32, lit_39, lit_43, lit_45, lit_47, lit_48, lit_56, lit_57, lit_59, lit_60, lit_62, lit_63, lit_89, lit_92, lit_96, lit_97, lit_99, lit_100, lit_102, lit_103, lit_104, lit_110, lit_111, lit_115, lit_117, lit_194, lit_200, lit_644, lit_736, lit_999, lit_1000, lit_9999, lit_10000, lit_1000000000, ↓wp_mlet, ↓wp_mbp, ↓wp_ite, ↓wp_mix, ↓wp_mdiv, ↓wp_mnz, ↓wp_some, ↓wp_mbnd, ↓mlet_eq, ↓mbp_eq, ↓mbnd_eq, ↓mix_ite, ↓mdiv_ite, ↓mnz_ite, nI_add, nI_mul, nI_nat, nI_ltE, nI_leE, nI_eqE, nI_eqN, nI_Neq, nI_Nlt, nI_Nle, nI_ltN, nI_leN, ↓reduceIte, ↓Nat.reduceEqDiff, and_f, nt_e, nt_t, nl_t, nl_f, ne_t, ne_f, and_self, or_self, or_true, true_or, or_false, false_or, if_true, if_false, and_true, true_and, and_false, false_and, not_true, not_false_iff, mup_at, up_at, fil_at, ↓reduceIte, ↓Nat.reduceEqDiff, and_f, nt_e, nt_t, nl_t, nl_f, ne_t, ne_f, and_self, or_self, or_true, true_or, or_false, false_or, if_true, if_false, and_true, true_and, and_false, false_and, not_true, not_false_iff, q3]
    exact ⟨hr' _, rfl, rfl⟩
theorem pair_undoCount {n : Nat} {M : Mem} (hr : Rel n M) : PairV n M f_X11_undoCount f_X12_undoCount := by
  have hr' := Rel_thr hr
  obtain ⟨α, αh, αs, K, nx, fed, b, H, ⟨hk, hd, hb, hj⟩, hS, hH, hs, ⟨hr1, hr2, hr3, hr4⟩, hi, hih, his, hbb⟩ := hr
  obtain ⟨⟨b0, b1, b2, b3, b4, b5, b6, b7, b8, b9, b10, b11, b14⟩, i1, i2, bs, bk, bn, bz, bt, bg, bl⟩ := hi
  have hS' := fun x => ms_t (x := x) hS
  unfold f_X11_undoCount f_X12_undoCount
  refine ⟨_, rfl, ?_⟩
  simp (disch := omega) only [lit_0, lit_1, lit_2, lit_3, lit_4, lit_5, lit_6, lit_7, lit_8, lit_9, lit_10, lit_11, lit_12, lit_13, lit_14, lit_15, lit_16, lit_20, lit_23, lit_24, lit_31, lit_32, lit_39, lit_43, lit_45, lit_47, lit_48, lit_56, lit_57, lit_59, lit_60, lit_62, lit_63, lit_89, lit_92, lit_96, lit_97, lit_99, lit_100, lit_102, lit_103, lit_104, lit_110, lit_111, lit_115, lit_117, lit_194, lit_200, lit_644, lit_736, lit_999, lit_1000, lit_9999, lit_10000, lit_1000000000, ↓wp_mlet, ↓wp_mbp, ↓wp_ite, ↓wp_mix, ↓wp_mdiv, ↓wp_mnz, ↓wp_some, ↓wp_mbnd, ↓mlet_eq, ↓mbp_eq, ↓mbnd_eq, ↓mix_ite, ↓mdiv_ite, ↓mnz_ite, nI_add, nI_mul, nI_nat, nI_ltE, nI_leE, nI_eqE, nI_eqN, nI_Neq, nI_Nlt, nI_Nle, nI_ltN, nI_leN, ↓reduceIte, ↓Nat.reduceEqDiff, and_f, nt_e, nt_t, nl_t, nl_f, ne_t, ne_f, and_self, or_self, or_true, true_or, or_false, false_or, if_true, if_false, and_true, true_and, and_false, false_and, not_true, not_false_iff, mup_at, up_at, fil_at, ↓reduceIte, ↓Nat.reduceEqDiff, and_f, nt_e, nt_t, nl_t, nl_f, ne_t, ne_f, and_self, or_self, or_true, true_or, or_false, false_or, if_true, if_false, and_true, true_and, and_false, false_and, not_true, not_false_iff, hH.2.2.2.2.1]
  exact ⟨hr' _, hH.2.2.2.1⟩
theorem pair_outputChar {n : Nat} {M : Mem} (hr : Rel n M) (a1 : Int32) : PairG n (fun x => if x = 1 then 1 else 0) M (f_X11_outputChar a1) (f_X12_outputChar a1) := by
  have hr' := Rel_thr hr
  obtain ⟨α, αh, αs, K, nx, fed, b, H, ⟨hk, hd, hb, hj⟩, hS, hH, hs, ⟨hr1, hr2, hr3, hr4⟩, hi, hih, his, hbb⟩ := hr
  obtain ⟨⟨b0, b1, b2, b3, b4, b5, b6, b7, b8, b9, b10, b11, b14⟩, i1, i2, bs, bk, bn, bz, bt, bg, bl⟩ := hi
  have hS' := fun x => ms_t (x := x) hS
  unfold f_X11_outputChar f_X12_outputChar
  obtain ⟨ol, o1, o2, o3, o4⟩ := hr4
  have em : f_X12_in a1 (nI 0) (nI ol - nI 1) M = some (nI (idx a1 ol).toNat) := by rw [rng_s a1 ol (by omega)]
  rcases idx_c a1 ol (by omega) with ⟨n1, h1, rfl, e1⟩ | ⟨e1, h⟩
  case inr =>
    refine ⟨.inl 1, ?_, ?_⟩
    · rcases h with h | ⟨j, hj, h, rfl⟩
      · simp only [mlet_eq]
        rw [if_pos h]
      · simp (disch := omega) only [lit_0, lit_1, lit_2, lit_3, lit_4, lit_5, lit_6, lit_7, lit_8, lit_9, lit_10, lit_11, lit_12, lit_13, lit_14, lit_15, lit_16, lit_20, lit_23, lit_24, lit_31, lit_32, lit_39, lit_43, lit_45, lit_47, lit_48, lit_56, lit_57, lit_59, lit_60, lit_62, lit_63, lit_89, lit_92, lit_96, lit_97, lit_99, lit_100, lit_102, lit_103, lit_104, lit_110, lit_111, lit_115, lit_117, lit_194, lit_200, lit_644, lit_736, lit_999, lit_1000, lit_9999, lit_10000, lit_1000000000, ↓wp_mlet, ↓wp_mbp, ↓wp_ite, ↓wp_mix, ↓wp_mdiv, ↓wp_mnz, ↓wp_some, ↓wp_mbnd, ↓mlet_eq, ↓mbp_eq, ↓mbnd_eq, ↓mix_ite, ↓mdiv_ite, ↓mnz_ite, nI_add, nI_mul, nI_nat, nI_ltE, nI_leE, nI_eqE, nI_eqN, nI_Neq, nI_Nlt, nI_Nle, nI_ltN, nI_leN, ↓reduceIte, ↓Nat.reduceEqDiff, and_f, nt_e, nt_t, nl_t, nl_f, ne_t, ne_f, and_self, or_self, or_true, true_or, or_false, false_or, if_true, if_false, and_true, true_and, and_false, false_and, not_true, not_false_iff, o2]
    · simp (disch := omega) only [lit_0, lit_1, lit_2, lit_3, lit_4, lit_5, lit_6, lit_7, lit_8, lit_9, lit_10, lit_11, lit_12, lit_13, lit_14, lit_15, lit_16, lit_20, lit_23, lit_24, lit_31, lit_32, lit_39, lit_43, lit_45, lit_47, lit_48, lit_56, lit_57, lit_59, lit_60, lit_62, lit_63, lit_89, lit_92, lit_96, lit_97, lit_99, lit_100, lit_102, lit_103, lit_104, lit_110, lit_111, lit_115, lit_117, lit_194, lit_200, lit_644, lit_736, lit_999, lit_1000, lit_9999, lit_10000, lit_1000000000, ↓wp_mlet, ↓wp_mbp, ↓wp_ite, ↓wp_mix, ↓wp_mdiv, ↓wp_mnz, ↓wp_some, ↓wp_mbnd, ↓mlet_eq, ↓mbp_eq, ↓mbnd_eq, ↓mix_ite, ↓mdiv_ite, ↓mnz_ite, nI_add, nI_mul, nI_nat, nI_ltE, nI_leE, nI_eqE, nI_eqN, nI_Neq, nI_Nlt, nI_Nle, nI_ltN, nI_leN, ↓reduceIte, ↓Nat.reduceEqDiff, and_f, nt_e, nt_t, nl_t, nl_f, ne_t, ne_f, and_self, or_self, or_true, true_or, or_false, false_or, if_true, if_false, and_true, true_and, and_false, false_and, not_true, not_false_iff, toNat_0, Bool.false_and, Bool.true_and, Bool.and_false, Bool.and_true, Bool.false_eq_true, reduceCtorEq, Bool.true_eq_false, Bool.not_true, Bool.not_false, mup_at, up_at, fil_at, ↓reduceIte, ↓Nat.reduceEqDiff, and_f, nt_e, nt_t, nl_t, nl_f, ne_t, ne_f, and_self, or_self, or_true, true_or, or_false, false_or, if_true, if_false, and_true, true_and, and_false, false_and, not_true, not_false_iff, o3, em, e1, wp_mnc]
      exact ⟨hr' _, rfl, by decide, by decide⟩
  obtain ⟨c, c1, c2, c3⟩ := o4 n1 h1
  refine ⟨.inr (nI c), by simp (disch := omega) only [lit_0, lit_1, lit_2, lit_3, lit_4, lit_5, lit_6, lit_7, lit_8, lit_9, lit_10, lit_11, lit_12, lit_13, lit_14, lit_15, lit_16, lit_20, lit_23, lit_24, lit_31, lit_32, lit_39, lit_43, lit_45, lit_47, lit_48, lit_56, lit_57, lit_59, lit_60, lit_62, lit_63, lit_89, lit_92, lit_96, lit_97, lit_99, lit_100, lit_102, lit_103, lit_104, lit_110, lit_111, lit_115, lit_117, lit_194, lit_200, lit_644, lit_736, lit_999, lit_1000, lit_9999, lit_10000, lit_1000000000, ↓wp_mlet, ↓wp_mbp, ↓wp_ite, ↓wp_mix, ↓wp_mdiv, ↓wp_mnz, ↓wp_some, ↓wp_mbnd, ↓mlet_eq, ↓mbp_eq, ↓mbnd_eq, ↓mix_ite, ↓mdiv_ite, ↓mnz_ite, nI_add, nI_mul, nI_nat, nI_ltE, nI_leE, nI_eqE, nI_eqN, nI_Neq, nI_Nlt, nI_Nle, nI_ltN, nI_leN, ↓reduceIte, ↓Nat.reduceEqDiff, and_f, nt_e, nt_t, nl_t, nl_f, ne_t, ne_f, and_self, or_self, or_true, true_or, or_false, false_or, if_true, if_false, and_true, true_and, and_false, false_and, not_true, not_false_iff, o2, c2, mnc_eq], ?_⟩
  simp (disch := omega) only [lit_0, lit_1, lit_2, lit_3, lit_4, lit_5, lit_6, lit_7, lit_8, lit_9, lit_10, lit_11, lit_12, lit_13, lit_14, lit_15, lit_16, lit_20, lit_23, lit_24, lit_31, lit_32, lit_39, lit_43, lit_45, lit_47, lit_48, lit_56, lit_57, lit_59, lit_60, lit_62, lit_63, lit_89, lit_92, lit_96, lit_97, lit_99, lit_100, lit_102, lit_103, lit_104, lit_110, lit_111, lit_115, lit_117, lit_194, lit_200, lit_644, lit_736, lit_999, lit_1000, lit_9999, lit_10000, lit_1000000000, ↓wp_mlet, ↓wp_mbp, ↓wp_ite, ↓wp_mix, ↓wp_mdiv, ↓wp_mnz, ↓wp_some, ↓wp_mbnd, ↓mlet_eq, ↓mbp_eq, ↓mbnd_eq, ↓mix_ite, ↓mdiv_ite, ↓mnz_ite, nI_add, nI_mul, nI_nat, nI_ltE, nI_leE, nI_eqE, nI_eqN, nI_Neq, nI_Nlt, nI_Nle, nI_ltN, nI_leN, ↓reduceIte, ↓Nat.reduceEqDiff, and_f, nt_e, nt_t, nl_t, nl_f, ne_t, ne_f, and_self, or_self, or_true, true_or, or_false, false_or, if_true, if_false, and_true, true_and, and_false, false_and, not_true, not_false_iff, toNat_0, Bool.false_and, Bool.true_and, Bool.and_false, Bool.and_true, Bool.false_eq_true, reduceCtorEq, Bool.true_eq_false, Bool.not_true, Bool.not_false, mup_at, up_at, fil_at, ↓reduceIte, ↓Nat.reduceEqDiff, and_f, nt_e, nt_t, nl_t, nl_f, ne_t, ne_f, and_self, or_self, or_true, true_or, or_false, false_or, if_true, if_false, and_true, true_and, and_false, false_and, not_true, not_false_iff, o3, em, e1, c3, chr_eq, wp_mnc]
  exact ⟨hr' _, rfl, rfl⟩
theorem pair_feed {n a : Nat} {M : Mem} (hr : Rel n M) (ha : a < 65536) : Pair n (fun x => if x = 5 then 1 else 0) M (f_X11_feed (nI a)) (f_X12_feed (nI a)) := by
  have hr' := Rel_thr hr
  obtain ⟨α, αh, αs, K, nx, fed, b, H, hR, hS, hH, hs, ⟨hr1, hr2, ⟨f1, f2, f3, f4⟩, hr4⟩, hi, hih, his, hbb⟩ := hr
  unfold Pair f_X11_feed f_X12_feed f_X2_append
  by_cases hf : fed = 60
  · simp (disch := omega) only [lit_0, lit_1, lit_2, lit_3, lit_4, lit_5, lit_6, lit_7, lit_8, lit_9, lit_10, lit_11, lit_12, lit_13, lit_14, lit_15, lit_16, lit_20, lit_23, lit_24, lit_31, lit_32, lit_39, lit_43, lit_45, lit_47, lit_48, lit_56, lit_57, lit_59, lit_60, lit_62, lit_63, lit_89, lit_92, lit_96, lit_97, lit_99, lit_100, lit_102, lit_103, lit_104, lit_110, lit_111, lit_115, lit_117, lit_194, lit_200, lit_644, lit_736, lit_999, lit_1000, lit_9999, lit_10000, lit_1000000000, ↓wp_mlet, ↓wp_mbp, ↓wp_ite, ↓wp_mix, ↓wp_mdiv, ↓wp_mnz, ↓wp_some, ↓wp_mbnd, ↓mlet_eq, ↓mbp_eq, ↓mbnd_eq, ↓mix_ite, ↓mdiv_ite, ↓mnz_ite, nI_add, nI_mul, nI_nat, nI_ltE, nI_leE, nI_eqE, nI_eqN, nI_Neq, nI_Nlt, nI_Nle, nI_ltN, nI_leN, ↓reduceIte, ↓Nat.reduceEqDiff, and_f, nt_e, nt_t, nl_t, nl_f, ne_t, ne_f, and_self, or_self, or_true, true_or, or_false, false_or, if_true, if_false, and_true, true_and, and_false, false_and, not_true, not_false_iff, mup_at, up_at, fil_at, ↓reduceIte, ↓Nat.reduceEqDiff, and_f, nt_e, nt_t, nl_t, nl_f, ne_t, ne_f, and_self, or_self, or_true, true_or, or_false, false_or, if_true, if_false, and_true, true_and, and_false, false_and, not_true, not_false_iff, f2, f3, hf]
    exact ⟨hr' _, rfl, by decide, by decide⟩
  · simp (disch := omega) only [lit_0, lit_1, lit_2, lit_3, lit_4, lit_5, lit_6, lit_7, lit_8, lit_9, lit_10, lit_11, lit_12, lit_13, lit_14, lit_15, lit_16, lit_20, lit_23, lit_24, lit_31, lit_32, lit_39, lit_43, lit_45, lit_47, lit_48, lit_56, lit_57, lit_59, lit_60, lit_62, lit_63, lit_89, lit_92, lit_96, lit_97, lit_99, lit_100, lit_102, lit_103, lit_104, lit_110, lit_111, lit_115, lit_117, lit_194, lit_200, lit_644, lit_736, lit_999, lit_1000, lit_9999, lit_10000, lit_1000000000, ↓wp_mlet, ↓wp_mbp, ↓wp_ite, ↓wp_mix, ↓wp_mdiv, ↓wp_mnz, ↓wp_some, ↓wp_mbnd, ↓mlet_eq, ↓mbp_eq, ↓mbnd_eq, ↓mix_ite, ↓mdiv_ite, ↓mnz_ite, nI_add, nI_mul, nI_nat, nI_ltE, nI_leE, nI_eqE, nI_eqN, nI_Neq, nI_Nlt, nI_Nle, nI_ltN, nI_leN, ↓reduceIte, ↓Nat.reduceEqDiff, and_f, nt_e, nt_t, nl_t, nl_f, ne_t, ne_f, and_self, or_self, or_true, true_or, or_false, false_or, if_true, if_false, and_true, true_and, and_false, false_and, not_true, not_false_iff, mup_at, up_at, fil_at, ↓reduceIte, ↓Nat.reduceEqDiff, and_f, nt_e, nt_t, nl_t, nl_f, ne_t, ne_f, and_self, or_self, or_true, true_or, or_false, false_or, if_true, if_false, and_true, true_and, and_false, false_and, not_true, not_false_iff, f2, f3, hf, vnar_char]
    refine ⟨⟨α, αh, αs, K, nx, fed + 1, b, H, ?_, ?_, ?_, ?_, ⟨?_, ?_, ?_, ?_⟩, hi, hih, his, by omega⟩, rfl, rfl⟩
    · rw [pm_g (by decide), pm_g (by decide), pm_g (by decide), pm_g (by decide), pm_g (by decide)]; exact hR
    · rw [pm_ne (by decide), pm_ne (by decide), pm_ne (by decide), pm_ne (by decide), pm_ne (by decide)]; exact hS
    · refine Hs_same hH ?_ ?_ ?_ (fun a _ _ _ => ?_)
      · rw [pm_ne (by decide), pm_ne (by decide), pm_ne (by decide), pm_ne (by decide), pm_ne (by decide)]
      · simp (disch := omega) only [mup_at, up_at, fil_at, ↓reduceIte, ↓Nat.reduceEqDiff, and_f, nt_e, nt_t, nl_t, nl_f, ne_t, ne_f, and_self, or_self, or_true, true_or, or_false, false_or, if_true, if_false, and_true, true_and, and_false, false_and, not_true, not_false_iff]
      · rw [pm_ne (by decide), pm_ne (by decide), pm_ne (by decide), pm_ne (by decide), pm_ne (by decide)]
      · rw [pm_g (by omega), pm_g (by omega), pm_g (by omega), pm_g (by omega), pm_g (by omega)]
    · refine Rs_same hs ?_ ?_ ?_ ?_
      · simp (disch := omega) only [mup_at, up_at, fil_at, ↓reduceIte, ↓Nat.reduceEqDiff, and_f, nt_e, nt_t, nl_t, nl_f, ne_t, ne_f, and_self, or_self, or_true, true_or, or_false, false_or, if_true, if_false, and_true, true_and, and_false, false_and, not_true, not_false_iff]
      · simp (disch := omega) only [mup_at, up_at, fil_at, ↓reduceIte, ↓Nat.reduceEqDiff, and_f, nt_e, nt_t, nl_t, nl_f, ne_t, ne_f, and_self, or_self, or_true, true_or, or_false, false_or, if_true, if_false, and_true, true_and, and_false, false_and, not_true, not_false_iff]
      · rw [pm_g (by omega), pm_g (by omega), pm_g (by omega), pm_g (by omega), pm_g (by omega)]
      · rw [pm_ne (by decide), pm_ne (by decide), pm_ne (by decide), pm_ne (by decide), pm_ne (by decide)]
    · refine Rr_same hr1 (fun i _ _ => ?_) (fun i _ _ => ?_)
      · simp (disch := omega) only [mup_at, up_at, fil_at, ↓reduceIte, ↓Nat.reduceEqDiff, and_f, nt_e, nt_t, nl_t, nl_f, ne_t, ne_f, and_self, or_self, or_true, true_or, or_false, false_or, if_true, if_false, and_true, true_and, and_false, false_and, not_true, not_false_iff]
      · simp (disch := omega) only [mup_at, up_at, fil_at, ↓reduceIte, ↓Nat.reduceEqDiff, and_f, nt_e, nt_t, nl_t, nl_f, ne_t, ne_f, and_self, or_self, or_true, true_or, or_false, false_or, if_true, if_false, and_true, true_and, and_false, false_and, not_true, not_false_iff]
    · refine Re_same hr2 ?_ ?_
      · simp (disch := omega) only [mup_at, up_at, fil_at, ↓reduceIte, ↓Nat.reduceEqDiff, and_f, nt_e, nt_t, nl_t, nl_f, ne_t, ne_f, and_self, or_self, or_true, true_or, or_false, false_or, if_true, if_false, and_true, true_and, and_false, false_and, not_true, not_false_iff]
      · simp (disch := omega) only [mup_at, up_at, fil_at, ↓reduceIte, ↓Nat.reduceEqDiff, and_f, nt_e, nt_t, nl_t, nl_f, ne_t, ne_f, and_self, or_self, or_true, true_or, or_false, false_or, if_true, if_false, and_true, true_and, and_false, false_and, not_true, not_false_iff]
    · refine ⟨by omega, ?_, ?_, fun i hi => ?_⟩
      · simp (disch := omega) only [mup_at, up_at, fil_at, ↓reduceIte, ↓Nat.reduceEqDiff, and_f, nt_e, nt_t, nl_t, nl_f, ne_t, ne_f, and_self, or_self, or_true, true_or, or_false, false_or, if_true, if_false, and_true, true_and, and_false, false_and, not_true, not_false_iff]
      · simp (disch := omega) only [mup_at, up_at, fil_at, ↓reduceIte, ↓Nat.reduceEqDiff, and_f, nt_e, nt_t, nl_t, nl_f, ne_t, ne_f, and_self, or_self, or_true, true_or, or_false, false_or, if_true, if_false, and_true, true_and, and_false, false_and, not_true, not_false_iff]
      · by_cases q : i = fed
        · subst q
          exact ⟨a, ha, by simp (disch := omega) only [mup_at, up_at, fil_at, ↓reduceIte, ↓Nat.reduceEqDiff, and_f, nt_e, nt_t, nl_t, nl_f, ne_t, ne_f, and_self, or_self, or_true, true_or, or_false, false_or, if_true, if_false, and_true, true_and, and_false, false_and, not_true, not_false_iff], by simp (disch := omega) only [mup_at, up_at, fil_at, ↓reduceIte, ↓Nat.reduceEqDiff, and_f, nt_e, nt_t, nl_t, nl_f, ne_t, ne_f, and_self, or_self, or_true, true_or, or_false, false_or, if_true, if_false, and_true, true_and, and_false, false_and, not_true, not_false_iff]⟩
        · obtain ⟨c, c1, c2, c3⟩ := f4 i (by omega)
          exact ⟨c, c1, by simp (disch := omega) only [mup_at, up_at, fil_at, ↓reduceIte, ↓Nat.reduceEqDiff, and_f, nt_e, nt_t, nl_t, nl_f, ne_t, ne_f, and_self, or_self, or_true, true_or, or_false, false_or, if_true, if_false, and_true, true_and, and_false, false_and, not_true, not_false_iff, c2], by simp (disch := omega) only [mup_at, up_at, fil_at, ↓reduceIte, ↓Nat.reduceEqDiff, and_f, nt_e, nt_t, nl_t, nl_f, ne_t, ne_f, and_self, or_self, or_true, true_or, or_false, false_or, if_true, if_false, and_true, true_and, and_false, false_and, not_true, not_false_iff, c3]⟩
    · refine Ro_same hr4 ?_ ?_ ?_ ?_
      · rw [pm_ne (by decide), pm_ne (by decide), pm_ne (by decide), pm_ne (by decide), pm_ne (by decide)]
      · simp (disch := omega) only [mup_at, up_at, fil_at, ↓reduceIte, ↓Nat.reduceEqDiff, and_f, nt_e, nt_t, nl_t, nl_f, ne_t, ne_f, and_self, or_self, or_true, true_or, or_false, false_or, if_true, if_false, and_true, true_and, and_false, false_and, not_true, not_false_iff]
      · rw [pm_ne (by decide), pm_ne (by decide), pm_ne (by decide), pm_ne (by decide), pm_ne (by decide)]
      · rw [pm_ne (by decide), pm_ne (by decide), pm_ne (by decide), pm_ne (by decide), pm_ne (by decide)]
/-! undo, save, restore -/
def cutSp (β α : Sp) : Sp := fun j => if j < 92 then β j else α j
theorem cutSp_lt {β α : Sp} {j : Nat} (h : j < 92) : cutSp β α j = β j := if_pos h
theorem RC_cg {G : Nat → Nat → Int32} {β α : Sp} (h : RC G β) : RC G (cutSp β α) := by
  obtain ⟨hk, hd, hb, hj⟩ := h
  exact ⟨Rk.of (fun _ _ _ => rfl) (fun j q => cutSp_lt (by omega)) hk, Rd.of rfl (fun j q => cutSp_lt (by omega)) hd, Rb.of (fun _ _ _ => rfl) (fun j q => cutSp_lt (by omega)) hb, Rj.of (fun _ _ _ => rfl) (fun j q => cutSp_lt (by omega)) hj⟩
theorem Inv_cg {H : Nat} {β α : Sp} (hi : Inv H β) : Inv H (cutSp β α) := by
  obtain ⟨⟨b0, b1, b2, b3, b4, b5, b6, b7, b8, b9, b10, b11, b14⟩, i1, i2, bs, bk, bn, bz, bt, bg, bl⟩ := hi
  have s : ∀ j, j < 92 → cutSp β α j = β j := fun j hj => cutSp_lt hj
  refine ⟨⟨?_, ?_, ?_, ?_, ?_, ?_, ?_, ?_, ?_, ?_, ?_, ?_, ?_⟩, ?_, ?_, fun k hk => ?_, fun k hk => ?_, fun i k h1 hk => ?_, fun k hk => ?_, ?_, fun k hk => ?_, fun k hk => ?_⟩
  · rw [s 0 (by decide)]; exact b0
  · rw [s 1 (by decide)]; exact b1
  · rw [s 2 (by decide)]; exact b2
  · rw [s 3 (by decide)]; exact b3
  · rw [s 4 (by decide)]; exact b4
  · rw [s 5 (by decide)]; exact b5
  · rw [s 6 (by decide)]; exact b6
  · rw [s 7 (by decide)]; exact b7
  · rw [s 8 (by decide)]; exact b8
  · rw [s 9 (by decide), s 0 (by decide)]; exact b9
  · rw [s 10 (by decide)]; exact b10
  · rw [s 11 (by decide)]; exact b11
  · rw [s 14 (by decide)]; exact b14
  · rw [s 1 (by decide), s 6 (by decide), s 9 (by decide)]; exact i1
  · rw [s 1 (by decide), s 5 (by decide)]; exact i2
  · rw [s _ (by omega)]; exact bs k hk
  · rw [s 9 (by decide)] at hk
    rw [s _ (by omega), s 0 (by decide)]; exact bk k hk
  · rw [s 9 (by decide)] at hk
    rw [s (23 + i) (by omega), s (23 + k) (by omega)]; exact bn i k h1 hk
  · rw [s (31 + k) (by omega), s (39 + k) (by omega), s 11 (by decide)]; exact bz k hk
  · rw [s 13 (by decide), s 39 (by decide), s 40 (by decide), s 41 (by decide), s 42 (by decide), s 43 (by decide), s 44 (by decide), s 45 (by decide), s 46 (by decide)]; exact bt
  · rw [s 10 (by decide)] at hk
    rw [s (47 + 3 * k) (by omega), s (48 + 3 * k) (by omega), s (49 + 3 * k) (by omega)]; exact bg k hk
  · rw [s 14 (by decide)] at hk
    rw [s (56 + 3 * k) (by omega), s (57 + 3 * k) (by omega), s (58 + 3 * k) (by omega), s 11 (by decide)]; exact bl k hk
theorem enc_cut {M : Mem} {β α : Sp} {f : Nat → Int32} {lo : Nat} (hS : M 12 48 = enc α) (hf : ∀ j, j < 92 → f j = enc β j) : (fil M 12 48 0 92 f) 12 48 = enc (cutSp β α) := by
  funext j
  rw [fil_at]
  by_cases h : j < 92
  · rw [if_pos (by omega), hf j h]
    unfold enc cutSp
    rw [if_pos h]
  · rw [if_neg (by omega), hS]
    unfold enc cutSp
    rw [if_neg h]
theorem m_undoL {M : Mem} {N K : Nat} (hN : 1000 = N) (hK : K < 8) (h6 : M 12 47 6 = nI K) (kk : Mem → Option (Int32 × Mem)) : f_X12_undo_L30 N (nI 0) M kk = kk (fil M 12 48 0 92 (fun j => M 12 51 (92 * K + j))) := by
  have key := mloop (F := fun n x s kk => f_X12_undo_L30 n x s kk) (c := 92) (fun x => fil M 12 48 0 x (fun j => M 12 51 (92 * K + j))) (fun m x kk hx => by
    rw [f_X12_undo_L30.eq_2]
    have e : (fil M 12 48 0 x (fun j => M 12 51 (92 * K + j))) 12 51 (92 * K + x) = M 12 51 (92 * K + x) := by rw [fil_ne (by decide)]
    have e6 : (fil M 12 48 0 x (fun j => M 12 51 (92 * K + j))) 12 47 6 = nI K := by rw [fil_ne (by decide), h6]
    simp (disch := omega) only [lit_0, lit_1, lit_2, lit_3, lit_4, lit_5, lit_6, lit_7, lit_8, lit_9, lit_10, lit_11, lit_12, lit_13, lit_14, lit_15, lit_16, lit_20, lit_23, lit_24, lit_31, lit_32, lit_39, lit_43, lit_45, lit_47, lit_48, lit_56, lit_57, lit_59, lit_60, lit_62, lit_63, lit_89, lit_92, lit_96, lit_97, lit_99, lit_100, lit_102, lit_103, lit_104, lit_110, lit_111, lit_115, lit_117, lit_194, lit_200, lit_644, lit_736, lit_999, lit_1000, lit_9999, lit_10000, lit_1000000000, ↓wp_mlet, ↓wp_mbp, ↓wp_ite, ↓wp_mix, ↓wp_mdiv, ↓wp_mnz, ↓wp_some, ↓wp_mbnd, ↓mlet_eq, ↓mbp_eq, ↓mbnd_eq, ↓mix_ite, ↓mdiv_ite, ↓mnz_ite, nI_add, nI_mul, nI_nat, nI_ltE, nI_leE, nI_eqE, nI_eqN, nI_Neq, nI_Nlt, nI_Nle, nI_ltN, nI_leN, ↓reduceIte, ↓Nat.reduceEqDiff, and_f, nt_e, nt_t, nl_t, nl_f, ne_t, ne_f, and_self, or_self, or_true, true_or, or_false, false_or, if_true, if_false, and_true, true_and, and_false, false_and, not_true, not_false_iff, e6, e]
    rw [fil_s (by omega) rfl]) (fun m kk => by
    rw [f_X12_undo_L30.eq_2]
    simp (disch := omega) only [lit_0, lit_1, lit_2, lit_3, lit_4, lit_5, lit_6, lit_7, lit_8, lit_9, lit_10, lit_11, lit_12, lit_13, lit_14, lit_15, lit_16, lit_20, lit_23, lit_24, lit_31, lit_32, lit_39, lit_43, lit_45, lit_47, lit_48, lit_56, lit_57, lit_59, lit_60, lit_62, lit_63, lit_89, lit_92, lit_96, lit_97, lit_99, lit_100, lit_102, lit_103, lit_104, lit_110, lit_111, lit_115, lit_117, lit_194, lit_200, lit_644, lit_736, lit_999, lit_1000, lit_9999, lit_10000, lit_1000000000, ↓wp_mlet, ↓wp_mbp, ↓wp_ite, ↓wp_mix, ↓wp_mdiv, ↓wp_mnz, ↓wp_some, ↓wp_mbnd, ↓mlet_eq, ↓mbp_eq, ↓mbnd_eq, ↓mix_ite, ↓mdiv_ite, ↓mnz_ite, nI_add, nI_mul, nI_nat, nI_ltE, nI_leE, nI_eqE, nI_eqN, nI_Neq, nI_Nlt, nI_Nle, nI_ltN, nI_leN, ↓reduceIte, ↓Nat.reduceEqDiff, and_f, nt_e, nt_t, nl_t, nl_f, ne_t, ne_f, and_self, or_self, or_true, true_or, or_false, false_or, if_true, if_false, and_true, true_and, and_false, false_and, not_true, not_false_iff])
  have := key 92 N 0 kk (by omega) (by omega)
  rw [fil_0] at this
  exact this
theorem m_saveL {M : Mem} {N : Nat} (hN : 1000 = N) (kk : Mem → Option (Int32 × Mem)) : f_X12_save_L7 N (nI 0) M kk = kk (fil M 12 50 0 92 (M 12 48)) := by
  have key := mloop (F := fun n x s kk => f_X12_save_L7 n x s kk) (c := 92) (fun x => fil M 12 50 0 x (M 12 48)) (fun m x kk hx => by
    rw [f_X12_save_L7.eq_2]
    have e : (fil M 12 50 0 x (M 12 48)) 12 48 x = M 12 48 x := by rw [fil_ne (by decide)]
    simp (disch := omega) only [lit_0, lit_1, lit_2, lit_3, lit_4, lit_5, lit_6, lit_7, lit_8, lit_9, lit_10, lit_11, lit_12, lit_13, lit_14, lit_15, lit_16, lit_20, lit_23, lit_24, lit_31, lit_32, lit_39, lit_43, lit_45, lit_47, lit_48, lit_56, lit_57, lit_59, lit_60, lit_62, lit_63, lit_89, lit_92, lit_96, lit_97, lit_99, lit_100, lit_102, lit_103, lit_104, lit_110, lit_111, lit_115, lit_117, lit_194, lit_200, lit_644, lit_736, lit_999, lit_1000, lit_9999, lit_10000, lit_1000000000, ↓wp_mlet, ↓wp_mbp, ↓wp_ite, ↓wp_mix, ↓wp_mdiv, ↓wp_mnz, ↓wp_some, ↓wp_mbnd, ↓mlet_eq, ↓mbp_eq, ↓mbnd_eq, ↓mix_ite, ↓mdiv_ite, ↓mnz_ite, nI_add, nI_mul, nI_nat, nI_ltE, nI_leE, nI_eqE, nI_eqN, nI_Neq, nI_Nlt, nI_Nle, nI_ltN, nI_leN, ↓reduceIte, ↓Nat.reduceEqDiff, and_f, nt_e, nt_t, nl_t, nl_f, ne_t, ne_f, and_self, or_self, or_true, true_or, or_false, false_or, if_true, if_false, and_true, true_and, and_false, false_and, not_true, not_false_iff, e]
    rw [fil_s (by omega) rfl]) (fun m kk => by
    rw [f_X12_save_L7.eq_2]
    simp (disch := omega) only [lit_0, lit_1, lit_2, lit_3, lit_4, lit_5, lit_6, lit_7, lit_8, lit_9, lit_10, lit_11, lit_12, lit_13, lit_14, lit_15, lit_16, lit_20, lit_23, lit_24, lit_31, lit_32, lit_39, lit_43, lit_45, lit_47, lit_48, lit_56, lit_57, lit_59, lit_60, lit_62, lit_63, lit_89, lit_92, lit_96, lit_97, lit_99, lit_100, lit_102, lit_103, lit_104, lit_110, lit_111, lit_115, lit_117, lit_194, lit_200, lit_644, lit_736, lit_999, lit_1000, lit_9999, lit_10000, lit_1000000000, ↓wp_mlet, ↓wp_mbp, ↓wp_ite, ↓wp_mix, ↓wp_mdiv, ↓wp_mnz, ↓wp_some, ↓wp_mbnd, ↓mlet_eq, ↓mbp_eq, ↓mbnd_eq, ↓mix_ite, ↓mdiv_ite, ↓mnz_ite, nI_add, nI_mul, nI_nat, nI_ltE, nI_leE, nI_eqE, nI_eqN, nI_Neq, nI_Nlt, nI_Nle, nI_ltN, nI_leN, ↓reduceIte, ↓Nat.reduceEqDiff, and_f, nt_e, nt_t, nl_t, nl_f, ne_t, ne_f, and_self, or_self, or_true, true_or, or_false, false_or, if_true, if_false, and_true, true_and, and_false, false_and, not_true, not_false_iff])
  have := key 92 N 0 kk (by omega) (by omega)
  rw [fil_0] at this
  exact this
theorem m_restoreL {M : Mem} {N : Nat} (hN : 1000 = N) (kk : Mem → Option (Int32 × Mem)) : f_X12_restore_L20 N (nI 0) M kk = kk (fil M 12 48 0 92 (M 12 50)) := by
  have key := mloop (F := fun n x s kk => f_X12_restore_L20 n x s kk) (c := 92) (fun x => fil M 12 48 0 x (M 12 50)) (fun m x kk hx => by
    rw [f_X12_restore_L20.eq_2]
    have e : (fil M 12 48 0 x (M 12 50)) 12 50 x = M 12 50 x := by rw [fil_ne (by decide)]
    simp (disch := omega) only [lit_0, lit_1, lit_2, lit_3, lit_4, lit_5, lit_6, lit_7, lit_8, lit_9, lit_10, lit_11, lit_12, lit_13, lit_14, lit_15, lit_16, lit_20, lit_23, lit_24, lit_31, lit_32, lit_39, lit_43, lit_45, lit_47, lit_48, lit_56, lit_57, lit_59, lit_60, lit_62, lit_63, lit_89, lit_92, lit_96, lit_97, lit_99, lit_100, lit_102, lit_103, lit_104, lit_110, lit_111, lit_115, lit_117, lit_194, lit_200, lit_644, lit_736, lit_999, lit_1000, lit_9999, lit_10000, lit_1000000000, ↓wp_mlet, ↓wp_mbp, ↓wp_ite, ↓wp_mix, ↓wp_mdiv, ↓wp_mnz, ↓wp_some, ↓wp_mbnd, ↓mlet_eq, ↓mbp_eq, ↓mbnd_eq, ↓mix_ite, ↓mdiv_ite, ↓mnz_ite, nI_add, nI_mul, nI_nat, nI_ltE, nI_leE, nI_eqE, nI_eqN, nI_Neq, nI_Nlt, nI_Nle, nI_ltN, nI_leN, ↓reduceIte, ↓Nat.reduceEqDiff, and_f, nt_e, nt_t, nl_t, nl_f, ne_t, ne_f, and_self, or_self, or_true, true_or, or_false, false_or, if_true, if_false, and_true, true_and, and_false, false_and, not_true, not_false_iff, e]
    rw [fil_s (by omega) rfl]) (fun m kk => by
    rw [f_X12_restore_L20.eq_2]
    simp (disch := omega) only [lit_0, lit_1, lit_2, lit_3, lit_4, lit_5, lit_6, lit_7, lit_8, lit_9, lit_10, lit_11, lit_12, lit_13, lit_14, lit_15, lit_16, lit_20, lit_23, lit_24, lit_31, lit_32, lit_39, lit_43, lit_45, lit_47, lit_48, lit_56, lit_57, lit_59, lit_60, lit_62, lit_63, lit_89, lit_92, lit_96, lit_97, lit_99, lit_100, lit_102, lit_103, lit_104, lit_110, lit_111, lit_115, lit_117, lit_194, lit_200, lit_644, lit_736, lit_999, lit_1000, lit_9999, lit_10000, lit_1000000000, ↓wp_mlet, ↓wp_mbp, ↓wp_ite, ↓wp_mix, ↓wp_mdiv, ↓wp_mnz, ↓wp_some, ↓wp_mbnd, ↓mlet_eq, ↓mbp_eq, ↓mbnd_eq, ↓mix_ite, ↓mdiv_ite, ↓mnz_ite, nI_add, nI_mul, nI_nat, nI_ltE, nI_leE, nI_eqE, nI_eqN, nI_Neq, nI_Nlt, nI_Nle, nI_ltN, nI_leN, ↓reduceIte, ↓Nat.reduceEqDiff, and_f, nt_e, nt_t, nl_t, nl_f, ne_t, ne_f, and_self, or_self, or_true, true_or, or_false, false_or, if_true, if_false, and_true, true_and, and_false, false_and, not_true, not_false_iff])
  have := key 92 N 0 kk (by omega) (by omega)
  rw [fil_0] at this
  exact this
theorem thr2 {M : Mem} {x y : Int32} : mup (mup M 12 47 0 x) 12 47 0 y = mup M 12 47 0 y := by
  funext a b c
  rw [mup_at, mup_at, mup_at]
  split <;> rfl
theorem pair_undo {n : Nat} {M : Mem} (hr : Rel n M) : Pair n (fun x => if x = 5 then 1 else 0) M f_X11_undo f_X12_undo := by
  have hr' := Rel_thr hr
  obtain ⟨α, αh, αs, K, nx, fed, b, H, hR, hS, hH, hs, ⟨hr1, hr2, hr3, hr4⟩, hi, hih, his, hbb⟩ := hr
  obtain ⟨x1, x2, x3, x4, x5, x6, x7⟩ := id hH
  unfold Pair f_X11_undo f_X12_undo f_X12_fails
  generalize hN : (1000 : Nat) = N
  by_cases h0 : K = 0
  · simp (disch := omega) only [lit_0, lit_1, lit_2, lit_3, lit_4, lit_5, lit_6, lit_7, lit_8, lit_9, lit_10, lit_11, lit_12, lit_13, lit_14, lit_15, lit_16, lit_20, lit_23, lit_24, lit_31, lit_32, lit_39, lit_43, lit_45, lit_47, lit_48, lit_56, lit_57, lit_59, lit_60, lit_62, lit_63, lit_89, lit_92, lit_96, lit_97, lit_99, lit_100, lit_102, lit_103, lit_104, lit_110, lit_111, lit_115, lit_117, lit_194, lit_200, lit_644, lit_736, lit_999, lit_1000, lit_9999, lit_10000, lit_1000000000, ↓wp_mlet, ↓wp_mbp, ↓wp_ite, ↓wp_mix, ↓wp_mdiv, ↓wp_mnz, ↓wp_some, ↓wp_mbnd, ↓mlet_eq, ↓mbp_eq, ↓mbnd_eq, ↓mix_ite, ↓mdiv_ite, ↓mnz_ite, nI_add, nI_mul, nI_nat, nI_ltE, nI_leE, nI_eqE, nI_eqN, nI_Neq, nI_Nlt, nI_Nle, nI_ltN, nI_leN, ↓reduceIte, ↓Nat.reduceEqDiff, and_f, nt_e, nt_t, nl_t, nl_f, ne_t, ne_f, and_self, or_self, or_true, true_or, or_false, false_or, if_true, if_false, and_true, true_and, and_false, false_and, not_true, not_false_iff, mup_at, up_at, fil_at, ↓reduceIte, ↓Nat.reduceEqDiff, and_f, nt_e, nt_t, nl_t, nl_f, ne_t, ne_f, and_self, or_self, or_true, true_or, or_false, false_or, if_true, if_false, and_true, true_and, and_false, false_and, not_true, not_false_iff, x4, x5, h0]
    refine ⟨?_, rfl, by decide, by decide⟩
    rw [thr2]
    exact hr' _
  · simp (disch := omega) only [lit_0, lit_1, lit_2, lit_3, lit_4, lit_5, lit_6, lit_7, lit_8, lit_9, lit_10, lit_11, lit_12, lit_13, lit_14, lit_15, lit_16, lit_20, lit_23, lit_24, lit_31, lit_32, lit_39, lit_43, lit_45, lit_47, lit_48, lit_56, lit_57, lit_59, lit_60, lit_62, lit_63, lit_89, lit_92, lit_96, lit_97, lit_99, lit_100, lit_102, lit_103, lit_104, lit_110, lit_111, lit_115, lit_117, lit_194, lit_200, lit_644, lit_736, lit_999, lit_1000, lit_9999, lit_10000, lit_1000000000, ↓wp_mlet, ↓wp_mbp, ↓wp_ite, ↓wp_mix, ↓wp_mdiv, ↓wp_mnz, ↓wp_some, ↓wp_mbnd, ↓mlet_eq, ↓mbp_eq, ↓mbnd_eq, ↓mix_ite, ↓mdiv_ite, ↓mnz_ite, nI_add, nI_mul, nI_nat, nI_ltE, nI_leE, nI_eqE, nI_eqN, nI_Neq, nI_Nlt, nI_Nle, nI_ltN, nI_leN, ↓reduceIte, ↓Nat.reduceEqDiff, and_f, nt_e, nt_t, nl_t, nl_f, ne_t, ne_f, and_self, or_self, or_true, true_or, or_false, false_or, if_true, if_false, and_true, true_and, and_false, false_and, not_true, not_false_iff, mup_at, up_at, fil_at, ↓reduceIte, ↓Nat.reduceEqDiff, and_f, nt_e, nt_t, nl_t, nl_f, ne_t, ne_f, and_self, or_self, or_true, true_or, or_false, false_or, if_true, if_false, and_true, true_and, and_false, false_and, not_true, not_false_iff, x3, x4, h0, f_X4_takeLatest, nI_subE, nI_rem]
    have hK := hih (K - 1) (by omega)
    have hRK := x6 (K - 1) (by omega)
    rw [show (nx + 9 - K + (K - 1)) % 9 = (nx + 9 - 1) % 9 by omega] at hRK
    refine wp_mono (c_copy (g := 0) (g1 := 1 + (nx + 9 - 1) % 9) (α := αh (K - 1)) (by omega) (by
      rw [pm_g (by omega), pm_g (by omega)]; exact hRK) hK.1.2.1 hK.1.2.2.2.2.2.2.1) ?_
    rintro - M1 ⟨q1, q2, q3⟩
    have g17a : M1 12 17 1 = nI ((nx + 9 - 1) % 9) := by rw [q3 12 (by decide)]; simp (disch := omega) only [mup_at, up_at, fil_at, ↓reduceIte, ↓Nat.reduceEqDiff, and_f, nt_e, nt_t, nl_t, nl_f, ne_t, ne_f, and_self, or_self, or_true, true_or, or_false, false_or, if_true, if_false, and_true, true_and, and_false, false_and, not_true, not_false_iff]
    have g17b : M1 12 17 2 = nI (K - 1) := by rw [q3 12 (by decide)]; simp (disch := omega) only [mup_at, up_at, fil_at, ↓reduceIte, ↓Nat.reduceEqDiff, and_f, nt_e, nt_t, nl_t, nl_f, ne_t, ne_f, and_self, or_self, or_true, true_or, or_false, false_or, if_true, if_false, and_true, true_and, and_false, false_and, not_true, not_false_iff]
    have go : ∀ a b, a ≠ 0 → ¬ (a = 12 ∧ b = 17) → M1 a b = M a b := fun a b h1 h2 => by rw [q3 a h1, pm_ne h2, pm_ne h2]
    have g47 : M1 12 47 6 = nI K := by rw [go 12 47 (by decide) (by decide), x5]
    simp (disch := omega) only [lit_0, lit_1, lit_2, lit_3, lit_4, lit_5, lit_6, lit_7, lit_8, lit_9, lit_10, lit_11, lit_12, lit_13, lit_14, lit_15, lit_16, lit_20, lit_23, lit_24, lit_31, lit_32, lit_39, lit_43, lit_45, lit_47, lit_48, lit_56, lit_57, lit_59, lit_60, lit_62, lit_63, lit_89, lit_92, lit_96, lit_97, lit_99, lit_100, lit_102, lit_103, lit_104, lit_110, lit_111, lit_115, lit_117, lit_194, lit_200, lit_644, lit_736, lit_999, lit_1000, lit_9999, lit_10000, lit_1000000000, ↓wp_mlet, ↓wp_mbp, ↓wp_ite, ↓wp_mix, ↓wp_mdiv, ↓wp_mnz, ↓wp_some, ↓wp_mbnd, ↓mlet_eq, ↓mbp_eq, ↓mbnd_eq, ↓mix_ite, ↓mdiv_ite, ↓mnz_ite, nI_add, nI_mul, nI_nat, nI_ltE, nI_leE, nI_eqE, nI_eqN, nI_Neq, nI_Nlt, nI_Nle, nI_ltN, nI_leN, ↓reduceIte, ↓Nat.reduceEqDiff, and_f, nt_e, nt_t, nl_t, nl_f, ne_t, ne_f, and_self, or_self, or_true, true_or, or_false, false_or, if_true, if_false, and_true, true_and, and_false, false_and, not_true, not_false_iff, mup_at, up_at, fil_at, ↓reduceIte, ↓Nat.reduceEqDiff, and_f, nt_e, nt_t, nl_t, nl_f, ne_t, ne_f, and_self, or_self, or_true, true_or, or_false, false_or, if_true, if_false, and_true, true_and, and_false, false_and, not_true, not_false_iff, g47, h0, nI_subE]
    rw [m_undoL (K := K - 1) hN (by omega) (by simp (disch := omega) only [mup_at, up_at, fil_at, ↓reduceIte, ↓Nat.reduceEqDiff, and_f, nt_e, nt_t, nl_t, nl_f, ne_t, ne_f, and_self, or_self, or_true, true_or, or_false, false_or, if_true, if_false, and_true, true_and, and_false, false_and, not_true, not_false_iff])]
    have hf : ∀ j, j < 92 → (mup (mup M1 12 47 0 (nI 0)) 12 47 6 (nI (K - 1))) 12 51 (92 * (K - 1) + j) = enc (αh (K - 1)) j := fun j hj => by
      rw [pm_ne (by decide), pm_ne (by decide), go 12 51 (by decide) (by decide)]
      exact x7 (K - 1) (by omega) j hj
    rw [wp_some]
    have r0 : ∀ a b, ¬ (a = 12 ∧ (b = 47 ∨ b = 48)) → (fil (mup (mup M1 12 47 0 (nI 0)) 12 47 6 (nI (K - 1))) 12 48 0 92 (fun j => (mup (mup M1 12 47 0 (nI 0)) 12 47 6 (nI (K - 1))) 12 51 (92 * (K - 1) + j))) a b = M1 a b := fun a b h => by
      rw [fil_ne (by omega), pm_ne (by omega), pm_ne (by omega)]
    have r47 : ∀ i, i ≠ 0 → i ≠ 6 → (fil (mup (mup M1 12 47 0 (nI 0)) 12 47 6 (nI (K - 1))) 12 48 0 92 (fun j => (mup (mup M1 12 47 0 (nI 0)) 12 47 6 (nI (K - 1))) 12 51 (92 * (K - 1) + j))) 12 47 i = M 12 47 i := fun i h1 h2 => by
      rw [fil_ne (by decide), mup_at, if_neg (by omega), mup_at, if_neg (by omega), go 12 47 (by decide) (by decide)]
    have r6 : (fil (mup (mup M1 12 47 0 (nI 0)) 12 47 6 (nI (K - 1))) 12 48 0 92 (fun j => (mup (mup M1 12 47 0 (nI 0)) 12 47 6 (nI (K - 1))) 12 51 (92 * (K - 1) + j))) 12 47 6 = nI (K - 1) := by
      rw [fil_ne (by decide)]
      simp (disch := omega) only [mup_at, up_at, fil_at, ↓reduceIte, ↓Nat.reduceEqDiff, and_f, nt_e, nt_t, nl_t, nl_f, ne_t, ne_f, and_self, or_self, or_true, true_or, or_false, false_or, if_true, if_false, and_true, true_and, and_false, false_and, not_true, not_false_iff]
    refine ⟨⟨cutSp (αh (K - 1)) α, αh, αs, K - 1, (nx + 9 - 1) % 9, fed, b, H, ?_, enc_cut (lo := 0) ?_ hf, ?_, ?_, ⟨?_, ?_, ?_, ?_⟩, Inv_cg hK, fun k hk => hih k (by omega), his, by omega⟩, ?_, ?_⟩
    · rw [show (fil (mup (mup M1 12 47 0 (nI 0)) 12 47 6 (nI (K - 1))) 12 48 0 92 (fun j => (mup (mup M1 12 47 0 (nI 0)) 12 47 6 (nI (K - 1))) 12 51 (92 * (K - 1) + j))) 0 = M1 0 from funext fun b => r0 0 b (by omega)]
      exact RC_cg q1
    · rw [pm_ne (by decide), pm_ne (by decide), go 12 48 (by decide) (by decide), hS]
    · refine ⟨by omega, by omega, by rw [r0 12 17 (by decide), g17a], by rw [r0 12 17 (by decide), g17b], r6, fun k hk => ?_, fun k hk j hj => ?_⟩
      · rw [show (fil (mup (mup M1 12 47 0 (nI 0)) 12 47 6 (nI (K - 1))) 12 48 0 92 (fun j => (mup (mup M1 12 47 0 (nI 0)) 12 47 6 (nI (K - 1))) 12 51 (92 * (K - 1) + j))) (1 + ((nx + 9 - 1) % 9 + 9 - (K - 1) + k) % 9) = M1 (1 + ((nx + 9 - 1) % 9 + 9 - (K - 1) + k) % 9) from funext fun b => r0 _ b (by omega),
          show 1 + ((nx + 9 - 1) % 9 + 9 - (K - 1) + k) % 9 = 1 + (nx + 9 - K + k) % 9 by omega, show M1 (1 + (nx + 9 - K + k) % 9) = M (1 + (nx + 9 - K + k) % 9) from funext fun b => go _ b (by omega) (by omega)]
        exact x6 k (by omega)
      · rw [r0 12 51 (by decide), go 12 51 (by decide) (by decide)]
        exact x7 k (by omega) j hj
    · refine Rs_same hs ?_ (r47 7 (by decide) (by decide)) ?_ ?_
      · rw [r0 12 16 (by decide), go 12 16 (by decide) (by decide)]
      · funext b
        rw [r0 10 b (by omega), go 10 b (by decide) (by omega)]
      · rw [r0 12 50 (by decide), go 12 50 (by decide) (by decide)]
    · exact Rr_same hr1 (fun i _ _ => by rw [r0 12 16 (by decide), go 12 16 (by decide) (by decide)]) (fun i _ _ => r47 i (by omega) (by omega))
    · exact Re_same hr2 (by rw [r0 12 16 (by decide), go 12 16 (by decide) (by decide)]) (r47 14 (by decide) (by decide))
    · exact Ri_same hr3 (by rw [r0 12 26 (by decide), go 12 26 (by decide) (by decide)]) (r47 12 (by decide) (by decide)) (by rw [r0 12 27 (by decide), go 12 27 (by decide) (by decide)]) (by rw [r0 12 53 (by decide), go 12 53 (by decide) (by decide)])
    · exact Ro_same hr4 (by rw [r0 12 45 (by decide), go 12 45 (by decide) (by decide)]) (r47 13 (by decide) (by decide)) (by rw [r0 12 46 (by decide), go 12 46 (by decide) (by decide)]) (by rw [r0 12 55 (by decide), go 12 55 (by decide) (by decide)])
    · rw [fil_ne (by decide)]
      simp (disch := omega) only [mup_at, up_at, fil_at, ↓reduceIte, ↓Nat.reduceEqDiff, and_f, nt_e, nt_t, nl_t, nl_f, ne_t, ne_f, and_self, or_self, or_true, true_or, or_false, false_or, if_true, if_false, and_true, true_and, and_false, false_and, not_true, not_false_iff]
    · rw [r6]
      exact g17b
def PairS (n : Nat) (M : Mem) (fc fm : Mem → Option (Int32 × Mem)) : Prop := wp (fc M) (fun v M1 => wp (fm M1) (fun r M2 => Rel (n + 1) M2 ∧ v = r))
theorem pair_save {n : Nat} {M : Mem} (hr : Rel n M) : PairS n M f_X11_save f_X12_save := by
  obtain ⟨α, αh, αs, K, nx, fed, b, H, hR, hS, hH, hs, ⟨hr1, hr2, hr3, hr4⟩, hi, hih, his, hbb⟩ := hr
  obtain ⟨s1, s2, s3, s4⟩ := hs
  unfold PairS f_X11_save f_X12_save
  generalize hN : (1000 : Nat) = N
  simp (disch := omega) only [lit_0, lit_1, lit_2, lit_3, lit_4, lit_5, lit_6, lit_7, lit_8, lit_9, lit_10, lit_11, lit_12, lit_13, lit_14, lit_15, lit_16, lit_20, lit_23, lit_24, lit_31, lit_32, lit_39, lit_43, lit_45, lit_47, lit_48, lit_56, lit_57, lit_59, lit_60, lit_62, lit_63, lit_89, lit_92, lit_96, lit_97, lit_99, lit_100, lit_102, lit_103, lit_104, lit_110, lit_111, lit_115, lit_117, lit_194, lit_200, lit_644, lit_736, lit_999, lit_1000, lit_9999, lit_10000, lit_1000000000, ↓wp_mlet, ↓wp_mbp, ↓wp_ite, ↓wp_mix, ↓wp_mdiv, ↓wp_mnz, ↓wp_some, ↓wp_mbnd, ↓mlet_eq, ↓mbp_eq, ↓mbnd_eq, ↓mix_ite, ↓mdiv_ite, ↓mnz_ite, nI_add, nI_mul, nI_nat, nI_ltE, nI_leE, nI_eqE, nI_eqN, nI_Neq, nI_Nlt, nI_Nle, nI_ltN, nI_leN, ↓reduceIte, ↓Nat.reduceEqDiff, and_f, nt_e, nt_t, nl_t, nl_f, ne_t, ne_f, and_self, or_self, or_true, true_or, or_false, false_or, if_true, if_false, and_true, true_and, and_false, false_and, not_true, not_false_iff]
  refine wp_mono (c_copy (g := 10) (g1 := 0) (by decide) hR hi.1.2.1 hi.1.2.2.2.2.2.2.1) ?_
  rintro - M1 ⟨q1, q2, q3⟩
  have e0 : M1 0 1 0 = nI (α 0) := by rw [q3 0 (by decide)]; exact hR.1.1
  have b0 := hi.1.1
  simp (disch := omega) only [lit_0, lit_1, lit_2, lit_3, lit_4, lit_5, lit_6, lit_7, lit_8, lit_9, lit_10, lit_11, lit_12, lit_13, lit_14, lit_15, lit_16, lit_20, lit_23, lit_24, lit_31, lit_32, lit_39, lit_43, lit_45, lit_47, lit_48, lit_56, lit_57, lit_59, lit_60, lit_62, lit_63, lit_89, lit_92, lit_96, lit_97, lit_99, lit_100, lit_102, lit_103, lit_104, lit_110, lit_111, lit_115, lit_117, lit_194, lit_200, lit_644, lit_736, lit_999, lit_1000, lit_9999, lit_10000, lit_1000000000, ↓wp_mlet, ↓wp_mbp, ↓wp_ite, ↓wp_mix, ↓wp_mdiv, ↓wp_mnz, ↓wp_some, ↓wp_mbnd, ↓mlet_eq, ↓mbp_eq, ↓mbnd_eq, ↓mix_ite, ↓mdiv_ite, ↓mnz_ite, nI_add, nI_mul, nI_nat, nI_ltE, nI_leE, nI_eqE, nI_eqN, nI_Neq, nI_Nlt, nI_Nle, nI_ltN, nI_leN, ↓reduceIte, ↓Nat.reduceEqDiff, and_f, nt_e, nt_t, nl_t, nl_f, ne_t, ne_f, and_self, or_self, or_true, true_or, or_false, false_or, if_true, if_false, and_true, true_and, and_false, false_and, not_true, not_false_iff, mup_at, up_at, fil_at, ↓reduceIte, ↓Nat.reduceEqDiff, and_f, nt_e, nt_t, nl_t, nl_f, ne_t, ne_f, and_self, or_self, or_true, true_or, or_false, false_or, if_true, if_false, and_true, true_and, and_false, false_and, not_true, not_false_iff, e0]
  rw [m_saveL hN]
  have f48 : (mup (mup M1 12 16 3 (nI 1)) 12 47 0 (nI 0)) 12 48 = enc α := by
    rw [pm_ne (by decide), pm_ne (by decide), q3 12 (by decide), hS]
  rw [f48]
  have go : ∀ a b, a ≠ 10 → ¬ (a = 12 ∧ (b = 16 ∨ b = 47 ∨ b = 50)) → (mup (fil (mup (mup M1 12 16 3 (nI 1)) 12 47 0 (nI 0)) 12 50 0 92 (enc α)) 12 47 7 (nI 1)) a b = M a b := fun a b h1 h2 => by
    rw [pm_ne (by omega), fil_ne (by omega), pm_ne (by omega), pm_ne (by omega), q3 a h1]
  have g16 : ∀ i, i ≠ 3 → (mup (fil (mup (mup M1 12 16 3 (nI 1)) 12 47 0 (nI 0)) 12 50 0 92 (enc α)) 12 47 7 (nI 1)) 12 16 i = M 12 16 i := fun i h => by
    rw [pm_ne (by decide), fil_ne (by decide), pm_ne (by decide), mup_at, if_neg (by omega), q3 12 (by decide)]
  have g47 : ∀ i, i ≠ 0 → i ≠ 7 → (mup (fil (mup (mup M1 12 16 3 (nI 1)) 12 47 0 (nI 0)) 12 50 0 92 (enc α)) 12 47 7 (nI 1)) 12 47 i = M 12 47 i := fun i h1 h2 => by
    rw [mup_at, if_neg (by omega), fil_ne (by decide), mup_at, if_neg (by omega), pm_ne (by decide), q3 12 (by decide)]
  have e48 : (mup (fil (mup (mup M1 12 16 3 (nI 1)) 12 47 0 (nI 0)) 12 50 0 92 (enc α)) 12 47 7 (nI 1)) 12 48 = enc α := by rw [go 12 48 (by decide) (by decide), hS]
  simp (disch := omega) only [lit_0, lit_1, lit_2, lit_3, lit_4, lit_5, lit_6, lit_7, lit_8, lit_9, lit_10, lit_11, lit_12, lit_13, lit_14, lit_15, lit_16, lit_20, lit_23, lit_24, lit_31, lit_32, lit_39, lit_43, lit_45, lit_47, lit_48, lit_56, lit_57, lit_59, lit_60, lit_62, lit_63, lit_89, lit_92, lit_96, lit_97, lit_99, lit_100, lit_102, lit_103, lit_104, lit_110, lit_111, lit_115, lit_117, lit_194, lit_200, lit_644, lit_736, lit_999, lit_1000, lit_9999, lit_10000, lit_1000000000, ↓wp_mlet, ↓wp_mbp, ↓wp_ite, ↓wp_mix, ↓wp_mdiv, ↓wp_mnz, ↓wp_some, ↓wp_mbnd, ↓mlet_eq, ↓mbp_eq, ↓mbnd_eq, ↓mix_ite, ↓mdiv_ite, ↓mnz_ite, nI_add, nI_mul, nI_nat, nI_ltE, nI_leE, nI_eqE, nI_eqN, nI_Neq, nI_Nlt, nI_Nle, nI_ltN, nI_leN, ↓reduceIte, ↓Nat.reduceEqDiff, and_f, nt_e, nt_t, nl_t, nl_f, ne_t, ne_f, and_self, or_self, or_true, true_or, or_false, false_or, if_true, if_false, and_true, true_and, and_false, false_and, not_true, not_false_iff, ms_n e48]
  refine ⟨⟨α, αh, α, K, nx, fed, 1, H, ?_, e48, ?_, ?_, ⟨?_, ?_, ?_, ?_⟩, hi, hih, fun _ => hi, by omega⟩, by rw [fil_ne (by decide), f48, enc_n (by decide)]⟩
  · rw [show (mup (fil (mup (mup M1 12 16 3 (nI 1)) 12 47 0 (nI 0)) 12 50 0 92 (enc α)) 12 47 7 (nI 1)) 0 = M 0 from funext fun b => go 0 b (by decide) (by omega)]; exact hR
  · exact Hs_same hH (go 12 17 (by decide) (by decide)) (g47 6 (by decide) (by decide)) (go 12 51 (by decide) (by decide)) (fun a _ _ _ => funext fun b => go a b (by omega) (by omega))
  · refine ⟨by decide, ?_, ?_, fun _ => ⟨?_, fun j hj => ?_⟩⟩
    · rw [pm_ne (by decide), fil_ne (by decide), pm_ne (by decide), mup_at, if_pos (by decide)]
    · rw [mup_at, if_pos (by decide)]
    · rw [pm_g (by decide), fil_g (by decide), pm_g (by decide), pm_g (by decide)]; exact q1
    · rw [pm_ne (by decide), fil_at, if_pos (by omega)]
  · exact Rr_same hr1 (fun i _ _ => g16 i (by omega)) (fun i _ _ => g47 i (by omega) (by omega))
  · exact Re_same hr2 (g16 11 (by decide)) (g47 14 (by decide) (by decide))
  · exact Ri_same hr3 (by rw [go 12 26 (by decide) (by decide)]) (g47 12 (by decide) (by decide)) (go 12 27 (by decide) (by decide)) (go 12 53 (by decide) (by decide))
  · exact Ro_same hr4 (go 12 45 (by decide) (by decide)) (g47 13 (by decide) (by decide)) (go 12 46 (by decide) (by decide)) (go 12 55 (by decide) (by decide))
theorem pair_restore {n : Nat} {M : Mem} (hr : Rel n M) : Pair n (fun x => if x = 5 then 1 else 0) M f_X11_restore f_X12_restore := by
  have hr' := Rel_thr hr
  obtain ⟨α, αh, αs, K, nx, fed, b, H, hR, hS, hH, ⟨s1, s2, s3, s4⟩, ⟨hr1, hr2, hr3, hr4⟩, hi, hih, his, hbb⟩ := hr
  unfold Pair f_X11_restore f_X12_restore f_X12_fails
  generalize hN : (1000 : Nat) = N
  by_cases hb0 : b = 0
  · simp (disch := omega) only [lit_0, lit_1, lit_2, lit_3, lit_4, lit_5, lit_6, lit_7, lit_8, lit_9, lit_10, lit_11, lit_12, lit_13, lit_14, lit_15, lit_16, lit_20, lit_23, lit_24, lit_31, lit_32, lit_39, lit_43, lit_45, lit_47, lit_48, lit_56, lit_57, lit_59, lit_60, lit_62, lit_63, lit_89, lit_92, lit_96, lit_97, lit_99, lit_100, lit_102, lit_103, lit_104, lit_110, lit_111, lit_115, lit_117, lit_194, lit_200, lit_644, lit_736, lit_999, lit_1000, lit_9999, lit_10000, lit_1000000000, ↓wp_mlet, ↓wp_mbp, ↓wp_ite, ↓wp_mix, ↓wp_mdiv, ↓wp_mnz, ↓wp_some, ↓wp_mbnd, ↓mlet_eq, ↓mbp_eq, ↓mbnd_eq, ↓mix_ite, ↓mdiv_ite, ↓mnz_ite, nI_add, nI_mul, nI_nat, nI_ltE, nI_leE, nI_eqE, nI_eqN, nI_Neq, nI_Nlt, nI_Nle, nI_ltN, nI_leN, ↓reduceIte, ↓Nat.reduceEqDiff, and_f, nt_e, nt_t, nl_t, nl_f, ne_t, ne_f, and_self, or_self, or_true, true_or, or_false, false_or, if_true, if_false, and_true, true_and, and_false, false_and, not_true, not_false_iff, mup_at, up_at, fil_at, ↓reduceIte, ↓Nat.reduceEqDiff, and_f, nt_e, nt_t, nl_t, nl_f, ne_t, ne_f, and_self, or_self, or_true, true_or, or_false, false_or, if_true, if_false, and_true, true_and, and_false, false_and, not_true, not_false_iff, s2, s3, hb0]
    refine ⟨?_, rfl, by decide, by decide⟩
    rw [thr2]
    exact hr' _
  · have hb1 : b = 1 := by omega
    subst hb1
    obtain ⟨sR, sE⟩ := s4 rfl
    have sI := his rfl
    simp (disch := omega) only [lit_0, lit_1, lit_2, lit_3, lit_4, lit_5, lit_6, lit_7, lit_8, lit_9, lit_10, lit_11, lit_12, lit_13, lit_14, lit_15, lit_16, lit_20, lit_23, lit_24, lit_31, lit_32, lit_39, lit_43, lit_45, lit_47, lit_48, lit_56, lit_57, lit_59, lit_60, lit_62, lit_63, lit_89, lit_92, lit_96, lit_97, lit_99, lit_100, lit_102, lit_103, lit_104, lit_110, lit_111, lit_115, lit_117, lit_194, lit_200, lit_644, lit_736, lit_999, lit_1000, lit_9999, lit_10000, lit_1000000000, ↓wp_mlet, ↓wp_mbp, ↓wp_ite, ↓wp_mix, ↓wp_mdiv, ↓wp_mnz, ↓wp_some, ↓wp_mbnd, ↓mlet_eq, ↓mbp_eq, ↓mbnd_eq, ↓mix_ite, ↓mdiv_ite, ↓mnz_ite, nI_add, nI_mul, nI_nat, nI_ltE, nI_leE, nI_eqE, nI_eqN, nI_Neq, nI_Nlt, nI_Nle, nI_ltN, nI_leN, ↓reduceIte, ↓Nat.reduceEqDiff, and_f, nt_e, nt_t, nl_t, nl_f, ne_t, ne_f, and_self, or_self, or_true, true_or, or_false, false_or, if_true, if_false, and_true, true_and, and_false, false_and, not_true, not_false_iff, s2]
    refine wp_mono (c_copy (g := 0) (g1 := 10) (by decide) sR sI.1.2.1 sI.1.2.2.2.2.2.2.1) ?_
    rintro - M1 ⟨q1, q2, q3⟩
    have e0 : M1 0 1 0 = nI (αs 0) := q1.1.1
    have b0 := sI.1.1
    have e7 : M1 12 47 7 = nI 1 := by rw [q3 12 (by decide), s3]
    simp (disch := omega) only [lit_0, lit_1, lit_2, lit_3, lit_4, lit_5, lit_6, lit_7, lit_8, lit_9, lit_10, lit_11, lit_12, lit_13, lit_14, lit_15, lit_16, lit_20, lit_23, lit_24, lit_31, lit_32, lit_39, lit_43, lit_45, lit_47, lit_48, lit_56, lit_57, lit_59, lit_60, lit_62, lit_63, lit_89, lit_92, lit_96, lit_97, lit_99, lit_100, lit_102, lit_103, lit_104, lit_110, lit_111, lit_115, lit_117, lit_194, lit_200, lit_644, lit_736, lit_999, lit_1000, lit_9999, lit_10000, lit_1000000000, ↓wp_mlet, ↓wp_mbp, ↓wp_ite, ↓wp_mix, ↓wp_mdiv, ↓wp_mnz, ↓wp_some, ↓wp_mbnd, ↓mlet_eq, ↓mbp_eq, ↓mbnd_eq, ↓mix_ite, ↓mdiv_ite, ↓mnz_ite, nI_add, nI_mul, nI_nat, nI_ltE, nI_leE, nI_eqE, nI_eqN, nI_Neq, nI_Nlt, nI_Nle, nI_ltN, nI_leN, ↓reduceIte, ↓Nat.reduceEqDiff, and_f, nt_e, nt_t, nl_t, nl_f, ne_t, ne_f, and_self, or_self, or_true, true_or, or_false, false_or, if_true, if_false, and_true, true_and, and_false, false_and, not_true, not_false_iff, mup_at, up_at, fil_at, ↓reduceIte, ↓Nat.reduceEqDiff, and_f, nt_e, nt_t, nl_t, nl_f, ne_t, ne_f, and_self, or_self, or_true, true_or, or_false, false_or, if_true, if_false, and_true, true_and, and_false, false_and, not_true, not_false_iff, f_X4_clear, e0, e7]
    rw [m_restoreL hN]
    have f50 : (mup (mup M1 12 17 2 (nI 0)) 12 47 0 (nI 0)) 12 50 = M 12 50 := by
      rw [pm_ne (by decide), pm_ne (by decide), q3 12 (by decide)]
    have f48 : (mup (mup M1 12 17 2 (nI 0)) 12 47 0 (nI 0)) 12 48 = enc α := by
      rw [pm_ne (by decide), pm_ne (by decide), q3 12 (by decide), hS]
    rw [f50]
    have hE := enc_cut (lo := 0) f48 sE
    have go : ∀ a b, a ≠ 0 → ¬ (a = 12 ∧ (b = 17 ∨ b = 47 ∨ b = 48)) → (mup (fil (mup (mup M1 12 17 2 (nI 0)) 12 47 0 (nI 0)) 12 48 0 92 (M 12 50)) 12 47 6 (nI 0)) a b = M a b := fun a b h1 h2 => by
      rw [pm_ne (by omega), fil_ne (by omega), pm_ne (by omega), pm_ne (by omega), q3 a h1]
    have g47 : ∀ i, i ≠ 0 → i ≠ 6 → (mup (fil (mup (mup M1 12 17 2 (nI 0)) 12 47 0 (nI 0)) 12 48 0 92 (M 12 50)) 12 47 6 (nI 0)) 12 47 i = M 12 47 i := fun i h1 h2 => by
      rw [mup_at, if_neg (by omega), fil_ne (by decide), mup_at, if_neg (by omega), pm_ne (by decide), q3 12 (by decide)]
    have e48 : (mup (fil (mup (mup M1 12 17 2 (nI 0)) 12 47 0 (nI 0)) 12 48 0 92 (M 12 50)) 12 47 6 (nI 0)) 12 48 = enc (cutSp αs α) := by rw [pm_ne (by decide), hE]
    have g17 : ∀ i, i ≠ 2 → (mup (fil (mup (mup M1 12 17 2 (nI 0)) 12 47 0 (nI 0)) 12 48 0 92 (M 12 50)) 12 47 6 (nI 0)) 12 17 i = M 12 17 i := fun i h => by
      rw [pm_ne (by decide), fil_ne (by decide), pm_ne (by decide), mup_at, if_neg (by omega), q3 12 (by decide)]
    have c0 : cutSp αs α 0 = αs 0 := cutSp_lt (by decide)
    simp (disch := omega) only [lit_0, lit_1, lit_2, lit_3, lit_4, lit_5, lit_6, lit_7, lit_8, lit_9, lit_10, lit_11, lit_12, lit_13, lit_14, lit_15, lit_16, lit_20, lit_23, lit_24, lit_31, lit_32, lit_39, lit_43, lit_45, lit_47, lit_48, lit_56, lit_57, lit_59, lit_60, lit_62, lit_63, lit_89, lit_92, lit_96, lit_97, lit_99, lit_100, lit_102, lit_103, lit_104, lit_110, lit_111, lit_115, lit_117, lit_194, lit_200, lit_644, lit_736, lit_999, lit_1000, lit_9999, lit_10000, lit_1000000000, ↓wp_mlet, ↓wp_mbp, ↓wp_ite, ↓wp_mix, ↓wp_mdiv, ↓wp_mnz, ↓wp_some, ↓wp_mbnd, ↓mlet_eq, ↓mbp_eq, ↓mbnd_eq, ↓mix_ite, ↓mdiv_ite, ↓mnz_ite, nI_add, nI_mul, nI_nat, nI_ltE, nI_leE, nI_eqE, nI_eqN, nI_Neq, nI_Nlt, nI_Nle, nI_ltN, nI_leN, ↓reduceIte, ↓Nat.reduceEqDiff, and_f, nt_e, nt_t, nl_t, nl_f, ne_t, ne_f, and_self, or_self, or_true, true_or, or_false, false_or, if_true, if_false, and_true, true_and, and_false, false_and, not_true, not_false_iff, ms_n e48, c0]
    obtain ⟨x1, x2, x3, x4, x5, x6, x7⟩ := hH
    refine ⟨⟨cutSp αs α, αh, αs, 0, nx, fed, 1, H, ?_, e48, ?_, ?_, ⟨?_, ?_, ?_, ?_⟩, Inv_cg sI, fun k hk => absurd hk (Nat.not_lt_zero _), his, by omega⟩, ?_, by show nI (αs 0) = _; rw [hE, enc_n (by decide), c0]⟩
    · rw [show (mup (fil (mup (mup M1 12 17 2 (nI 0)) 12 47 0 (nI 0)) 12 48 0 92 (M 12 50)) 12 47 6 (nI 0)) 0 = M1 0 from by rw [pm_g (by decide), fil_g (by decide), pm_g (by decide), pm_g (by decide)]]
      exact RC_cg q1
    · refine ⟨x1, by decide, by rw [g17 1 (by decide), x3], ?_, ?_, fun k hk => absurd hk (Nat.not_lt_zero _), fun k hk => absurd hk (Nat.not_lt_zero _)⟩
      · rw [pm_ne (by decide), fil_ne (by decide), pm_ne (by decide), mup_at, if_pos (by decide)]
      · rw [mup_at, if_pos (by decide)]
    · refine ⟨by decide, by rw [go 12 16 (by decide) (by decide), s2], by rw [g47 7 (by decide) (by decide), s3], fun _ => ⟨?_, fun j hj => ?_⟩⟩
      · rw [show (mup (fil (mup (mup M1 12 17 2 (nI 0)) 12 47 0 (nI 0)) 12 48 0 92 (M 12 50)) 12 47 6 (nI 0)) 10 = M 10 from funext fun b => go 10 b (by decide) (by omega)]; exact sR
      · rw [go 12 50 (by decide) (by decide)]; exact sE j hj
    · exact Rr_same hr1 (fun i _ _ => by rw [go 12 16 (by decide) (by decide)]) (fun i _ _ => g47 i (by omega) (by omega))
    · exact Re_same hr2 (by rw [go 12 16 (by decide) (by decide)]) (g47 14 (by decide) (by decide))
    · exact Ri_same hr3 (by rw [go 12 26 (by decide) (by decide)]) (g47 12 (by decide) (by decide)) (go 12 27 (by decide) (by decide)) (go 12 53 (by decide) (by decide))
    · exact Ro_same hr4 (go 12 45 (by decide) (by decide)) (g47 13 (by decide) (by decide)) (go 12 46 (by decide) (by decide)) (go 12 55 (by decide) (by decide))
    · rw [mup_at, if_neg (by decide), fil_ne (by decide), mup_at, if_pos (by decide)]
