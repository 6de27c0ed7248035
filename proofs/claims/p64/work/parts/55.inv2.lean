/-! THE LOG AND THE DOOR -/
def okE (A : Nat → Nat) (k w : Nat) : Prop := k = 99 ∧ w = 0 ∨ k = 97 ∧ w < 8 ∧ 0 < A w ∨ (k = 111 ∨ k = 102) ∧ 1 ≤ w ∧ w ≤ 8
def LGx (A : Nat → Nat) (γ : Sp) : Prop := ∀ k, k < γ 14 → okE A (γ (57 + 3 * k)) (γ (58 + 3 * k)) ∧ (0 < k → γ (56 + 3 * (k - 1)) ≤ γ (56 + 3 * k))
theorem okE.mono {A A' : Nat → Nat} {k w : Nat} (h : okE A k w) (hA : ∀ d, d < 8 → A d ≤ A' d) : okE A' k w := by
  rcases h with h | ⟨h1, h2, h3⟩ | h
  · exact Or.inl h
  · exact Or.inr (Or.inl ⟨h1, h2, Nat.lt_of_lt_of_le h3 (hA w h2)⟩)
  · exact Or.inr (Or.inr h)
theorem LGx.mono {A A' : Nat → Nat} {γ : Sp} (h : LGx A γ) (hA : ∀ d, d < 8 → A d ≤ A' d) : LGx A' γ := fun k hk => ⟨(h k hk).1.mono hA, (h k hk).2⟩
theorem LGx.cg {A : Nat → Nat} {γ δ : Sp} (h : LGx A γ) (e : ∀ j, j = 14 ∨ 56 ≤ j ∧ j < 92 → δ j = γ j) (h14 : γ 14 ≤ 12) : LGx A δ := by
  intro k hk
  rw [e 14 (Or.inl rfl)] at hk
  obtain ⟨h1, h2⟩ := h k hk
  rw [e (57 + 3 * k) (by omega), e (58 + 3 * k) (by omega)]
  refine ⟨h1, fun h0 => ?_⟩
  rw [e (56 + 3 * (k - 1)) (by omega), e (56 + 3 * k) (by omega)]
  exact h2 h0
theorem LGx_B {A : Nat → Nat} {α : Sp} (h : LGx A α) : LGx A (logB α) := by
  unfold logB
  split
  · rename_i q
    intro k hk
    rw [shiftSp_at, if_pos rfl] at hk
    obtain ⟨h1, h2⟩ := h (k + 1) (by omega)
    have s : ∀ j, 56 ≤ j → j < 89 → shiftSp α j = α (j + 3) := fun j q1 q2 => by rw [shiftSp_at, if_neg (by omega), if_pos (by omega)]
    rw [s (57 + 3 * k) (by omega) (by omega), s (58 + 3 * k) (by omega) (by omega), show 57 + 3 * k + 3 = 57 + 3 * (k + 1) by omega, show 58 + 3 * k + 3 = 58 + 3 * (k + 1) by omega]
    refine ⟨h1, fun h0 => ?_⟩
    rw [s (56 + 3 * (k - 1)) (by omega) (by omega), s (56 + 3 * k) (by omega) (by omega), show 56 + 3 * (k - 1) + 3 = 56 + 3 * (k + 1 - 1) by omega, show 56 + 3 * k + 3 = 56 + 3 * (k + 1) by omega]
    exact h2 (by omega)
  · exact h
theorem LGx_put {A : Nat → Nat} {β : Sp} {k w : Nat} (h14 : β 14 < 12) (h : LGx A β) (hl : LI β) (hk : okE A k w) : LGx A (putSp β k w) := by
  intro i hi
  rw [putSp_at, if_pos rfl] at hi
  have e1 : ∀ j, 56 ≤ j → j < 56 + 3 * β 14 → putSp β k w j = β j := fun j h1 h2 => by
    rw [putSp_at, if_neg (by omega), if_neg (by omega), if_neg (by omega), if_neg (by omega)]
  by_cases q : i = β 14
  · subst q
    have f1 : putSp β k w (56 + 3 * β 14) = β 11 := by rw [putSp_at, if_neg (by omega), if_neg (by omega), if_neg (by omega), if_pos rfl]
    have f2 : putSp β k w (57 + 3 * β 14) = k := by rw [putSp_at, if_neg (by omega), if_neg (by omega), if_pos rfl]
    have f3 : putSp β k w (58 + 3 * β 14) = w := by rw [putSp_at, if_neg (by omega), if_pos rfl]
    rw [f1, f2, f3]
    refine ⟨hk, fun h0 => ?_⟩
    rw [e1 _ (by omega) (by omega)]
    exact (hl (β 14 - 1) (by omega)).1
  · obtain ⟨h1, h2⟩ := h i (by omega)
    rw [e1 (57 + 3 * i) (by omega) (by omega), e1 (58 + 3 * i) (by omega) (by omega), e1 (56 + 3 * i) (by omega) (by omega)]
    refine ⟨h1, fun h0 => ?_⟩
    rw [e1 (56 + 3 * (i - 1)) (by omega) (by omega)]
    exact h2 h0
theorem LGx_log {A : Nat → Nat} {α : Sp} {k w : Nat} (h14 : α 14 ≤ 12) (h : LGx A α) (hl : LI α) (hk : okE A k w) : LGx A (sLog α k w) := LGx_put (logB_14 h14) (LGx_B h) (LI_B h14 hl) hk
theorem LGx_lgs {A : Nat → Nat} {γ : Sp} (h14 : γ 14 ≤ 12) (h : LGx A γ) (hl : LI γ) (ha : ∀ z, z < 8 → isAl γ z = true → 0 < A z) : ∀ x, x ≤ 8 → LGx A (lgs γ x) := by
  intro x
  induction x with
  | zero => intro _; exact h
  | succ x ih =>
    intro hx
    show LGx A (if isAl γ x then sLog (lgs γ x) 97 x else lgs γ x)
    split
    · rename_i q
      exact LGx_log (lgs_14 h14 x) (ih (by omega)) (LI_lgs h14 hl x (by omega)) (Or.inr (Or.inl ⟨rfl, by omega, ha x (by omega) q⟩))
    · exact ih (by omega)
/-- what an entry of the log says; an open door; how often it opened -/
def In2 (H : Nat) (α : Sp) : Prop := LGx (fun d => α (39 + d)) α ∧ (α 6 = 1 → α 1 = 1 ∧ 0 < α 12 ∧ α 7 = 0) ∧ α 12 ≤ H
theorem In2.mono {H H' : Nat} {α : Sp} (h : In2 H α) (hH : H ≤ H') : In2 H' α := ⟨h.1, h.2.1, Nat.le_trans h.2.2 hH⟩
theorem In2.cg {H : Nat} {α β : Sp} (h : In2 H α) (h14 : α 14 ≤ 12) (e : ∀ j, j = 1 ∨ j = 6 ∨ j = 7 ∨ j = 12 ∨ j = 14 ∨ 39 ≤ j ∧ j < 47 ∨ 56 ≤ j ∧ j < 92 → β j = α j) : In2 H β := by
  obtain ⟨h1, h2, h3⟩ := h
  refine ⟨?_, ?_, ?_⟩
  · refine (h1.cg (fun j hj => e j (by omega)) h14).mono (fun d hd => ?_)
    show α (39 + d) ≤ β (39 + d)
    rw [e (39 + d) (by omega)]
    exact Nat.le_refl _
  · rw [e 1 (by decide), e 6 (by decide), e 7 (by decide), e 12 (by decide)]; exact h2
  · rw [e 12 (by decide)]; exact h3
theorem in2_hour {H : Nat} {α : Sp} (hi : Inv H α) (h : In2 H α) (hH : H < 900000) : In2 H (hourSp α) := by
  obtain ⟨h1, h2, h3⟩ := h
  have hl := LI_of hi
  obtain ⟨⟨b0, b1, b2, b3, b4, b5, b6, b7, b8, b9, b10, b11, b14⟩, -⟩ := hi
  have w : ∀ j, j = 14 ∨ 56 ≤ j ∧ j < 92 → walkSp α j = α j := fun j hj => walkSp_ne (by omega) (by omega) b10
  have w14 : walkSp α 14 ≤ 12 := by rw [w 14 (Or.inl rfl)]; exact b14
  have hlw : LI (walkSp α) := by
    intro k hk
    rw [w 14 (Or.inl rfl)] at hk
    obtain ⟨l1, l2, l3⟩ := hl k hk
    rw [w (56 + 3 * k) (by omega), w (57 + 3 * k) (by omega), w (58 + 3 * k) (by omega), walkSp_11]
    exact ⟨by omega, l2, l3⟩
  have e39 : ∀ d, d < 8 → hourSp α (39 + d) = α (39 + d) + (isAl (walkSp α) d).toNat := fun d hd => by
    rw [hourSp_hz (by omega) (by omega), hz_at, if_neg (by omega), if_neg (by omega), if_pos (by omega), walkSp_ne (by omega) (by omega) b10, show 39 + d - 39 = d by omega]
  refine ⟨?_, ?_, ?_⟩
  · have g1 : LGx (fun d => α (39 + d)) (walkSp α) := h1.cg w b14
    have g2 : LGx (fun d => hourSp α (39 + d)) (walkSp α) := g1.mono (fun d hd => by show α (39 + d) ≤ hourSp α (39 + d); rw [e39 d hd]; omega)
    have g3 := LGx_lgs w14 g2 hlw (fun z hz q => by show 0 < hourSp α (39 + z); rw [e39 z hz, q]; show 0 < _ + 1; omega) 8 (Nat.le_refl _)
    exact g3.cg (fun j hj => hourSp_lg hj) (lgs_14 w14 8)
  · rw [hourSp_k b10 (by decide), hourSp_k b10 (by decide), hourSp_k b10 (by decide), hourSp_7 b10]
    intro h6
    obtain ⟨q1, q2, q3⟩ := h2 h6
    exact ⟨q1, q2, by omega⟩
  · rw [hourSp_k b10 (by decide)]; exact h3
theorem in2_hrs {H : Nat} {α : Sp} (hi : Inv H α) (h : In2 H α) : ∀ n, H + n < 900000 → In2 (H + n) (hrs α n) := by
  intro n
  induction n with
  | zero => intro _; exact h
  | succ n ih =>
    intro hn
    exact (in2_hour (inv_hrs hi n (by omega)) (ih (by omega)) (by omega)).mono (by omega)
theorem in2_add {H ans : Nat} {α β : Sp} (hi : Inv H α) (h : In2 H α) (he : sAdd α = .inr (ans, β)) : In2 H β := by
  have b0 := hi.1.1
  unfold sAdd at he
  split at he
  · cases he
  · cases he
    exact h.cg hi.1.2.2.2.2.2.2.2.2.2.2.2.2 (fun j hj => by rw [up_at, up_at, if_neg (by omega), if_neg (by omega)])
theorem in2_seal {H ans : Nat} {α β : Sp} {a1 a2 a3 a4 : Int32} (hi : Inv H α) (h : In2 H α) (he : sSeal α a1 a2 a3 a4 = .inr (ans, β)) : In2 H β := by
  have b0 := hi.1.1
  have b14 := hi.1.2.2.2.2.2.2.2.2.2.2.2.2
  have g : ∀ n1 c1 c2 n4, In2 H (sealSp α n1 c1 c2 n4) := fun n1 c1 c2 n4 => by
    have e : ∀ j, j = 12 ∨ j = 14 ∨ 39 ≤ j ∧ j < 47 ∨ 56 ≤ j ∧ j < 92 → sealSp α n1 c1 c2 n4 j = α j := fun j hj => by
      unfold sealSp
      rw [if_neg (by omega), if_neg (by omega), if_neg (by omega), if_neg (by omega), if_neg (by omega), if_neg (by omega), if_neg (by omega), if_neg (by omega), if_neg (by omega), if_neg (by omega), if_neg (by omega)]
    refine ⟨(h.1.cg (fun j hj => e j (by omega)) b14).mono (fun d hd => ?_), fun h6 => ?_, ?_⟩
    · show α (39 + d) ≤ sealSp α n1 c1 c2 n4 (39 + d)
      rw [e (39 + d) (by omega)]; exact Nat.le_refl _
    · have : sealSp α n1 c1 c2 n4 6 = 0 := rfl
      rw [this] at h6; cases h6
    · rw [e 12 (by decide)]; exact h.2.2
  unfold sSeal at he
  (repeat' split at he) <;> cases he <;> exact g _ _ _ _
theorem in2_share {H ans : Nat} {α β : Sp} {a1 a2 : Int32} (hi : Inv H α) (h : In2 H α) (he : sShare α a1 a2 = .inr (ans, β)) : In2 H β := by
  have b0 := hi.1.1
  unfold sShare at he
  rcases idx_c a1 (α 0) (by omega) with ⟨n1, h1, rfl, e1⟩ | ⟨e1, -⟩
  · rw [if_pos e1] at he
    (repeat' split at he) <;> cases he
    rw [nI_nat (by omega)]
    exact h.cg hi.1.2.2.2.2.2.2.2.2.2.2.2.2 (fun j hj => by rw [up_at, if_neg (by omega)])
  · rw [if_neg (by rw [e1]; decide)] at he
    cases he
theorem in2_give {H ans : Nat} {α β : Sp} {a1 : Int32} (hi : Inv H α) (h : In2 H α) (he : sGive α a1 = .inr (ans, β)) : In2 H β := by
  have b9 := hi.1.2.2.2.2.2.2.2.2.2.1
  have b0 := hi.1.1
  unfold sGive at he
  (repeat' split at he) <;> cases he
  exact h.cg hi.1.2.2.2.2.2.2.2.2.2.2.2.2 (fun j hj => by rw [up_at, up_at, if_neg (by omega), if_neg (by omega)])
theorem in2_back {H ans : Nat} {α β : Sp} {a1 : Int32} (hi : Inv H α) (h : In2 H α) (he : sBack α a1 = .inr (ans, β)) : In2 H β := by
  have b9 := hi.1.2.2.2.2.2.2.2.2.2.1
  have b0 := hi.1.1
  unfold sBack at he
  (repeat' split at he) <;> cases he
  rename_i k q
  have := (pl_lt q).1
  exact h.cg hi.1.2.2.2.2.2.2.2.2.2.2.2.2 (fun j hj => by rw [backSp_at, if_neg (by omega), if_neg (by omega), if_neg (by omega)])
theorem in2_guard {H ans : Nat} {α β : Sp} {a1 a2 a3 : Int32} (hi : Inv H α) (h : In2 H α) (he : sGuard α a1 a2 a3 = .inr (ans, β)) : In2 H β := by
  have b10 := hi.1.2.2.2.2.2.2.2.2.2.2.1
  unfold sGuard at he
  (repeat' split at he) <;> cases he
  exact h.cg hi.1.2.2.2.2.2.2.2.2.2.2.2.2 (fun j hj => by unfold guardSp; rw [up_at, up_at, up_at, up_at, if_neg (by omega), if_neg (by omega), if_neg (by omega), if_neg (by omega)])
theorem in2_turn {H ans : Nat} {α β : Sp} {a1 : Int32} (hi : Inv H α) (h : In2 H α) (he : sTurn α a1 = .inr (ans, β)) : In2 H β := by
  have b10 := hi.1.2.2.2.2.2.2.2.2.2.2.1
  unfold sTurn at he
  rcases idx_c a1 (α 10) (by omega) with ⟨n1, h1, rfl, e1⟩ | ⟨e1, -⟩
  · rw [if_pos e1] at he
    cases he
    rw [nI_nat (by omega)]
    exact h.cg hi.1.2.2.2.2.2.2.2.2.2.2.2.2 (fun j hj => by rw [up_at, if_neg (by omega)])
  · rw [if_neg (by rw [e1]; decide)] at he
    cases he
theorem in2_hum {H ans : Nat} {α β : Sp} {a1 a2 : Int32} (hi : Inv H α) (h : In2 H α) (he : sHum α a1 a2 = .inr (ans, β)) : In2 H β := by
  unfold sHum at he
  rcases idx_c a1 8 (by decide) with ⟨n1, h1, rfl, e1⟩ | ⟨e1, -⟩
  · split at he
    · cases he
      rw [nI_nat (by omega)]
      exact h.cg hi.1.2.2.2.2.2.2.2.2.2.2.2.2 (fun j hj => by rw [up_at, if_neg (by omega)])
    · cases he
  · rw [e1] at he
    cases he
theorem in2_log {H k w : Nat} {α : Sp} (hi : Inv H α) (h : In2 H α) (hk : okE (fun d => α (39 + d)) k w) : In2 H (sLog α k w) := by
  have b14 := hi.1.2.2.2.2.2.2.2.2.2.2.2.2
  have s : ∀ j, j < 14 ∨ 15 ≤ j ∧ j < 56 → sLog α k w j = α j := fun j hj => sLog_ne b14 (by omega) (by omega)
  obtain ⟨h1, h2, h3⟩ := h
  refine ⟨(LGx_log b14 h1 (LI_of hi) hk).mono (fun d hd => ?_), ?_, ?_⟩
  · show α (39 + d) ≤ sLog α k w (39 + d)
    rw [s (39 + d) (by omega)]; exact Nat.le_refl _
  · rw [s 6 (by decide), s 1 (by decide), s 12 (by decide), s 7 (by decide)]; exact h2
  · rw [s 12 (by decide)]; exact h3
theorem in2_close {H ans : Nat} {α β : Sp} (hi : Inv H α) (h : In2 H α) (he : sClose α = .inr (ans, β)) : In2 H β := by
  unfold sClose at he
  (repeat' split at he) <;> cases he
  have b14 := hi.1.2.2.2.2.2.2.2.2.2.2.2.2
  refine in2_log (inv_closeSp hi) ⟨?_, fun h6 => ?_, ?_⟩ (Or.inl ⟨rfl, rfl⟩)
  · refine (h.1.cg (δ := closeSp α) (fun j hj => ?_) b14).mono (fun d hd => ?_)
    · rw [closeSp_at, if_neg (by omega), if_neg (by omega), if_neg (by omega)]
    · show α (39 + d) ≤ closeSp α (39 + d)
      rw [closeSp_at, if_neg (by omega), if_neg (by omega), if_neg (by omega)]; exact Nat.le_refl _
  · rw [closeSp_at, if_pos rfl] at h6; cases h6
  · rw [closeSp_at, if_neg (by decide), if_neg (by decide), if_neg (by decide)]; exact h.2.2
theorem in2_hours {H ans : Nat} {α β : Sp} {a1 : Int32} (hi : Inv H α) (h : In2 H α) (hH : H < 800000) (he : sHours α a1 = .inr (ans, β)) : In2 (H + 24) β := by
  unfold sHours at he
  rcases rng1_c a1 24 with ⟨n, h1, h2, rfl, e⟩ | ⟨e, h4⟩
  · rw [if_pos e] at he
    cases he
    rw [nI_nat (by omega)]
    exact (in2_hrs hi h n (by omega)).mono (by omega)
  · rw [if_neg (by rw [e]; decide)] at he
    cases he
theorem open_spec {α β : Sp} {H ans : Nat} (hi : Inv H α) (he : sOpen α = .inr (ans, β)) : (α 1 = 1 ∧ α 6 = 0 ∧ α 7 = 0 ∧ α 5 ≤ α 9 ∧ inZ α 0 = true) ∧ (okA α = true ∧ ans = 1 ∧ β = sLog (openSp α) 111 (α 9) ∨ okA α = false ∧ ans = 0 ∧ β = sLog (failSp α) 102 (α 9)) := by
  have b1 := hi.1.2.1
  have b6 := hi.1.2.2.2.2.2.2.1
  unfold sOpen at he
  by_cases q1 : α 1 = 0
  · rw [if_pos q1] at he; cases he
  rw [if_neg q1] at he
  by_cases q2 : α 6 = 1
  · rw [if_pos q2] at he; cases he
  rw [if_neg q2] at he
  by_cases q3 : 0 < α 7
  · rw [if_pos q3] at he; cases he
  rw [if_neg q3] at he
  by_cases q4 : α 9 < α 5
  · rw [if_pos q4] at he; cases he
  rw [if_neg q4] at he
  by_cases q5 : inZ α 0 = false
  · rw [if_pos q5] at he; cases he
  rw [if_neg q5] at he
  have q5' : inZ α 0 = true := by cases h : inZ α 0 <;> simp_all
  refine ⟨⟨by omega, by omega, by omega, by omega, q5'⟩, ?_⟩
  by_cases q6 : okA α = true
  · rw [if_pos q6] at he
    cases he
    exact Or.inl ⟨q6, rfl, rfl⟩
  · rw [if_neg q6] at he
    cases he
    exact Or.inr ⟨by cases h : okA α <;> simp_all, rfl, rfl⟩
theorem open_do {α : Sp} {H : Nat} (hi : Inv H α) (h1 : α 1 = 1) (h6 : α 6 = 0) (h7 : α 7 = 0) (h9 : α 5 ≤ α 9) (hz : inZ α 0 = true) : ∃ ab, sOpen α = .inr ab := by
  unfold sOpen
  rw [if_neg (by omega), if_neg (by omega), if_neg (by omega), if_neg (by omega), if_neg (by rw [hz]; decide)]
  split <;> exact ⟨_, rfl⟩
theorem in2_open {H ans : Nat} {α β : Sp} (hi : Inv H α) (h : In2 H α) (he : sOpen α = .inr (ans, β)) : In2 (H + 1) β := by
  obtain ⟨⟨q1, q6, q7, q9, -⟩, hc⟩ := open_spec hi he
  have h5 := hi.2.2.1 q1
  have b9 := hi.1.2.2.2.2.2.2.2.2.2.1
  have b0 := hi.1.1
  have b14 := hi.1.2.2.2.2.2.2.2.2.2.2.2.2
  have b6 := hi.1.2.2.2.2.2.2.1
  have b7 := hi.1.2.2.2.2.2.2.2.1
  have b8 := hi.1.2.2.2.2.2.2.2.2.1
  rcases hc with ⟨-, -, rfl⟩ | ⟨-, -, rfl⟩
  · have hd : Inv (H + 1) (openSp α) := (inv_door hi q1 (fun j hj => openSp_ne hj) (by rw [openSp_at, if_pos rfl]; decide) (by rw [openSp_at, if_neg (by decide), if_neg (by decide), if_neg (by decide)]; exact b7) (by rw [openSp_at, if_neg (by decide), if_pos rfl]; decide)).mono (by omega)
    refine in2_log hd ⟨?_, fun _ => ⟨?_, ?_, ?_⟩, ?_⟩ (Or.inr (Or.inr ⟨Or.inl rfl, by omega, by omega⟩))
    · refine (h.1.cg (δ := openSp α) (fun j hj => openSp_ne (by omega)) b14).mono (fun d hd => ?_)
      show α (39 + d) ≤ openSp α (39 + d)
      rw [openSp_ne (by omega)]; exact Nat.le_refl _
    · rw [openSp_ne (by decide)]; exact q1
    · rw [openSp_at, if_neg (by decide), if_neg (by decide), if_pos rfl]; omega
    · rw [openSp_at, if_neg (by decide), if_neg (by decide), if_neg (by decide)]; exact q7
    · rw [openSp_at, if_neg (by decide), if_neg (by decide), if_pos rfl]
      have := h.2.2
      omega
  · have hd : Inv (H + 1) (failSp α) := (inv_door hi q1 (fun j hj => failSp_ne hj) (by rw [failSp_at, if_neg (by decide), if_neg (by decide)]; exact b6) (by rw [failSp_at, if_neg (by decide), if_pos rfl]; split <;> omega) (by rw [failSp_at, if_pos rfl]; split <;> omega)).mono (by omega)
    refine in2_log hd ⟨?_, fun h6 => ?_, ?_⟩ (Or.inr (Or.inr ⟨Or.inr rfl, by omega, by omega⟩))
    · refine (h.1.cg (δ := failSp α) (fun j hj => failSp_ne (by omega)) b14).mono (fun d hd => ?_)
      show α (39 + d) ≤ failSp α (39 + d)
      rw [failSp_ne (by omega)]; exact Nat.le_refl _
    · rw [failSp_at, if_neg (by decide), if_neg (by decide)] at h6
      omega
    · rw [failSp_at, if_neg (by decide), if_neg (by decide)]
      have := h.2.2
      omega
