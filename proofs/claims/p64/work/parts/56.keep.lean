/-! WHAT THE CALLS KEEP: the curve and its secret -/
theorem hrs_k {α : Sp} {H j : Nat} (hi : Inv H α) (hj : j < 7 ∨ 8 ≤ j ∧ j ≤ 10 ∨ j = 12 ∨ 15 ≤ j ∧ j < 31) : ∀ n, H + n < 900000 → hrs α n j = α j := by
  intro n
  induction n with
  | zero => intro _; rfl
  | succ n ih =>
    intro h
    have hn := inv_hrs hi n (by omega)
    show hourSp (hrs α n) j = α j
    rw [hourSp_k hn.1.2.2.2.2.2.2.2.2.2.2.1 hj, ih (by omega)]
theorem hrs_7 {α : Sp} {H : Nat} (hi : Inv H α) : ∀ n, H + n < 900000 → hrs α n 7 = α 7 - n := by
  intro n
  induction n with
  | zero => intro _; rfl
  | succ n ih =>
    intro h
    have hn := inv_hrs hi n (by omega)
    show hourSp (hrs α n) 7 = α 7 - (n + 1)
    rw [hourSp_7 hn.1.2.2.2.2.2.2.2.2.2.2.1, ih (by omega)]
    omega
theorem keep_open {H ans : Nat} {α β : Sp} (hi : Inv H α) (he : sOpen α = .inr (ans, β)) {j : Nat} (hj : j ≠ 14 ∧ ¬ (j = 6 ∨ j = 7 ∨ j = 8 ∨ j = 12) ∧ ¬ (56 ≤ j ∧ j < 92)) : β j = α j := by
  have b14 := hi.1.2.2.2.2.2.2.2.2.2.2.2.2
  obtain ⟨-, ⟨-, -, rfl⟩ | ⟨-, -, rfl⟩⟩ := open_spec hi he
  · rw [sLog_ne (by rw [openSp_ne (by decide)]; exact b14) hj.1 hj.2.2, openSp_ne hj.2.1]
  · rw [sLog_ne (by rw [failSp_ne (by decide)]; exact b14) hj.1 hj.2.2, failSp_ne hj.2.1]
theorem close_spec {ans : Nat} {α β : Sp} {H : Nat} (hi : Inv H α) (he : sClose α = .inr (ans, β)) : α 1 = 1 ∧ α 6 = 1 ∧ ans = α 9 ∧ β = sLog (closeSp α) 99 0 := by
  have b1 := hi.1.2.1
  have b6 := hi.1.2.2.2.2.2.2.1
  unfold sClose at he
  by_cases q1 : α 1 = 0
  · rw [if_pos q1] at he; cases he
  rw [if_neg q1] at he
  by_cases q2 : α 6 = 0
  · rw [if_pos q2] at he; cases he
  rw [if_neg q2] at he
  cases he
  exact ⟨by omega, by omega, rfl, rfl⟩
theorem keep_close {H ans : Nat} {α β : Sp} (hi : Inv H α) (he : sClose α = .inr (ans, β)) {j : Nat} (hj : j ≠ 14 ∧ j ≠ 6 ∧ j ≠ 9 ∧ ¬ (23 ≤ j ∧ j < 31) ∧ ¬ (56 ≤ j ∧ j < 92)) : β j = α j := by
  have b14 := hi.1.2.2.2.2.2.2.2.2.2.2.2.2
  obtain ⟨-, -, -, rfl⟩ := close_spec hi he
  rw [sLog_ne (by rw [closeSp_at, if_neg (by decide), if_neg (by decide), if_neg (by decide)]; exact b14) hj.1 hj.2.2.2.2, closeSp_at, if_neg hj.2.1, if_neg hj.2.2.1, if_neg hj.2.2.2.1]
theorem keep_add {H ans : Nat} {α β : Sp} (hi : Inv H α) (he : sAdd α = .inr (ans, β)) {j : Nat} (hj : j ≠ 0 ∧ ¬ (15 ≤ j ∧ j < 23)) : β j = α j := by
  have b0 := hi.1.1
  unfold sAdd at he
  split at he
  · cases he
  · cases he
    rw [up_at, up_at, if_neg (by omega), if_neg (by omega)]
theorem keep_share {H ans : Nat} {α β : Sp} {a1 a2 : Int32} (hi : Inv H α) (he : sShare α a1 a2 = .inr (ans, β)) {j : Nat} (hj : ¬ (15 ≤ j ∧ j < 23)) : β j = α j := by
  have b0 := hi.1.1
  unfold sShare at he
  rcases idx_c a1 (α 0) (by omega) with ⟨n1, h1, rfl, e1⟩ | ⟨e1, -⟩
  · rw [if_pos e1] at he
    (repeat' split at he) <;> cases he
    rw [nI_nat (by omega), up_at, if_neg (by omega)]
  · rw [if_neg (by rw [e1]; decide)] at he
    cases he
theorem keep_give {H ans : Nat} {α β : Sp} {a1 : Int32} (hi : Inv H α) (he : sGive α a1 = .inr (ans, β)) {j : Nat} (hj : j ≠ 9 ∧ j ≠ 23 + α 9) : β j = α j := by
  unfold sGive at he
  (repeat' split at he) <;> cases he
  rw [up_at, up_at, if_neg (by omega), if_neg (by omega)]
theorem keep_back {H ans : Nat} {α β : Sp} {a1 : Int32} (hi : Inv H α) (he : sBack α a1 = .inr (ans, β)) {j : Nat} (hj : j ≠ 9 ∧ ¬ (23 ≤ j ∧ j < 31)) : β j = α j := by
  have b9 := hi.1.2.2.2.2.2.2.2.2.2.1
  have b0 := hi.1.1
  unfold sBack at he
  (repeat' split at he) <;> cases he
  rename_i k q
  have := (pl_lt q).1
  rw [backSp_at, if_neg (by omega), if_neg (by omega), if_neg (by omega)]
theorem keep_guard {H ans : Nat} {α β : Sp} {a1 a2 a3 : Int32} (hi : Inv H α) (he : sGuard α a1 a2 a3 = .inr (ans, β)) {j : Nat} (hj : j ≠ 10 ∧ ¬ (47 ≤ j ∧ j < 56)) : β j = α j := by
  have b10 := hi.1.2.2.2.2.2.2.2.2.2.2.1
  unfold sGuard at he
  (repeat' split at he) <;> cases he
  unfold guardSp
  rw [up_at, up_at, up_at, up_at, if_neg (by omega), if_neg (by omega), if_neg (by omega), if_neg (by omega)]
theorem keep_turn {H ans : Nat} {α β : Sp} {a1 : Int32} (hi : Inv H α) (he : sTurn α a1 = .inr (ans, β)) {j : Nat} (hj : ¬ (47 ≤ j ∧ j < 56)) : β j = α j := by
  have b10 := hi.1.2.2.2.2.2.2.2.2.2.2.1
  unfold sTurn at he
  rcases idx_c a1 (α 10) (by omega) with ⟨n1, h1, rfl, e1⟩ | ⟨e1, -⟩
  · rw [if_pos e1] at he
    cases he
    rw [nI_nat (by omega), up_at, if_neg (by omega)]
  · rw [if_neg (by rw [e1]; decide)] at he
    cases he
theorem keep_hum {ans : Nat} {α β : Sp} {a1 a2 : Int32} (he : sHum α a1 a2 = .inr (ans, β)) {j : Nat} (hj : ¬ (31 ≤ j ∧ j < 39)) : β j = α j := by
  unfold sHum at he
  rcases idx_c a1 8 (by decide) with ⟨n1, h1, rfl, e1⟩ | ⟨e1, -⟩
  · split at he
    · cases he
      rw [nI_nat (by omega), up_at, if_neg (by omega)]
    · cases he
  · rw [e1] at he
    cases he
theorem keep_hours {H ans : Nat} {α β : Sp} {a1 : Int32} (hi : Inv H α) (hH : H < 800000) (he : sHours α a1 = .inr (ans, β)) {j : Nat} (hj : j < 7 ∨ 8 ≤ j ∧ j ≤ 10 ∨ j = 12 ∨ 15 ≤ j ∧ j < 31) : β j = α j := by
  unfold sHours at he
  rcases rng1_c a1 24 with ⟨n, h1, h2, rfl, e⟩ | ⟨e, h4⟩
  · rw [if_pos e] at he
    cases he
    rw [nI_nat (by omega)]
    exact hrs_k hi hj n (by omega)
  · rw [if_neg (by rw [e]; decide)] at he
    cases he
/-- a command keeps what is known of log and door; one that seals nothing keeps the curve -/
theorem in2_cmd {α : Sp} {H w ans : Nat} {ns : Nat → Nat} {β : Sp} (hi : Inv H α) (h2 : In2 H α) (hH : H < 800000) (he : sCmd α w ns = .inr (ans, β)) : In2 (H + 24) β ∧ (w ≠ 1 → ∀ j, 1 ≤ j → j ≤ 5 → β j = α j) := by
  unfold sCmd at he
  by_cases q0 : w = 0
  · rw [if_pos q0] at he
    exact ⟨(in2_add hi h2 he).mono (by omega), fun hw j h1 h5 => keep_add hi he (by omega)⟩
  rw [if_neg q0] at he
  by_cases q1 : w = 1
  · rw [if_pos q1] at he
    exact ⟨(in2_seal hi h2 he).mono (by omega), fun hw j h1 h5 => absurd q1 hw⟩
  rw [if_neg q1] at he
  by_cases q2 : w = 2
  · rw [if_pos q2] at he
    exact ⟨(in2_share hi h2 he).mono (by omega), fun hw j h1 h5 => keep_share hi he (by omega)⟩
  rw [if_neg q2] at he
  by_cases q3 : w = 3
  · rw [if_pos q3] at he
    exact ⟨(in2_give hi h2 he).mono (by omega), fun hw j h1 h5 => keep_give hi he (by omega)⟩
  rw [if_neg q3] at he
  by_cases q4 : w = 4
  · rw [if_pos q4] at he
    exact ⟨(in2_back hi h2 he).mono (by omega), fun hw j h1 h5 => keep_back hi he (by omega)⟩
  rw [if_neg q4] at he
  by_cases q5 : w = 5
  · rw [if_pos q5] at he
    exact ⟨(in2_open hi h2 he).mono (by omega), fun hw j h1 h5 => keep_open hi he (by omega)⟩
  rw [if_neg q5] at he
  by_cases q6 : w = 6
  · rw [if_pos q6] at he
    exact ⟨(in2_close hi h2 he).mono (by omega), fun hw j h1 h5 => keep_close hi he (by omega)⟩
  rw [if_neg q6] at he
  by_cases q7 : w = 7
  · rw [if_pos q7] at he
    exact ⟨(in2_guard hi h2 he).mono (by omega), fun hw j h1 h5 => keep_guard hi he (by omega)⟩
  rw [if_neg q7] at he
  by_cases q8 : w = 8
  · rw [if_pos q8] at he
    exact ⟨(in2_turn hi h2 he).mono (by omega), fun hw j h1 h5 => keep_turn hi he (by omega)⟩
  rw [if_neg q8] at he
  by_cases q9 : w = 9
  · rw [if_pos q9] at he
    exact ⟨(in2_hum hi h2 he).mono (by omega), fun hw j h1 h5 => keep_hum he (by omega)⟩
  rw [if_neg q9] at he
  exact ⟨in2_hours hi h2 hH he, fun hw j h1 h5 => keep_hours hi hH he (by omega)⟩
theorem cR_do {tx : Nat → Nat} {L i : Nat} {α β : Sp} (h : cR tx L i α = .inr β) : ∃ ans, sCmd α (wAt tx L i) (nAt tx L i) = .inr (ans, β) := by
  unfold cR at h
  cases e : sCmd α (wAt tx L i) (nAt tx L i) with
  | inl x => rw [e] at h; cases h
  | inr x =>
    obtain ⟨ans, γ⟩ := x
    rw [e] at h
    by_cases q : wAt tx L i = 5 ∧ ans = 0
    · have : exR (wAt tx L i) (.inr (ans, γ)) = .inl 12 := if_pos q
      rw [this] at h; cases h
    · have : exR (wAt tx L i) (.inr (ans, γ)) = .inr γ := if_neg q
      rw [this] at h
      cases h
      exact ⟨ans, rfl⟩
theorem exS_in2 {tx : Nat → Nat} {L : Nat} : ∀ d i H α β, Inv H α → In2 H α → H + 24 * d < 800000 → exS tx L d i α = .inr β → Inv (H + 24 * d) β ∧ In2 (H + 24 * d) β ∧ ((∀ k, k < i + d → wAt tx L k ≠ 1) → ∀ j, 1 ≤ j → j ≤ 5 → β j = α j) := by
  intro d
  induction d with
  | zero =>
    intro i H α β hi h2 hH he
    cases he
    exact ⟨hi, h2, fun _ _ _ _ => rfl⟩
  | succ d ih =>
    intro i H α β hi h2 hH he
    cases e : cR tx L i α with
    | inl cz => rw [exS_f e] at he; cases he
    | inr γ =>
      rw [exS_t e] at he
      obtain ⟨ans, e2⟩ := cR_do e
      obtain ⟨g1, g2⟩ := in2_cmd hi h2 (by omega) e2
      have g3 := inv_cmd hi (by omega) e2
      obtain ⟨k1, k2, k3⟩ := ih (i + 1) (H + 24) γ β g3 g1 (by omega) he
      refine ⟨k1.mono (by omega), k2.mono (by omega), fun hw j h1 h5 => ?_⟩
      rw [k3 (fun k hk => hw k (by omega)) j h1 h5, g2 (hw i (by omega)) j h1 h5]
