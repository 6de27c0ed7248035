/-! COMMANDS CARRIED OUT -/
def sCmd (α : Sp) (w : Nat) (ns : Nat → Nat) : Ex := if w = 0 then sAdd α else if w = 1 then sSeal α (nI (ns 0)) (nI (ns 1)) (nI (ns 2)) (nI (ns 3)) else if w = 2 then sShare α (nI (ns 0)) (nI (ns 1)) else if w = 3 then sGive α (nI (ns 0)) else if w = 4 then sBack α (nI (ns 0)) else if w = 5 then sOpen α else if w = 6 then sClose α else if w = 7 then sGuard α (nI (ns 0)) (nI (if nI (ns 1) = nI 1 then 1 else 0)) (nI (ns 2)) else if w = 8 then sTurn α (nI (ns 0)) else if w = 9 then sHum α (nI (ns 0)) (nI (ns 1)) else sHours α (nI (ns 0))
/-- what it comes to: a cause, or a state -/
def exR (w : Nat) (e : Ex) : Nat ⊕ Sp := match e with
  | .inl (k, _) => .inl (if k < 20 then k else 12)
  | .inr (ans, β) => if w = 5 ∧ ans = 0 then .inl 12 else .inr β
def kOK (e : Ex) : Prop := ∀ k d, e = .inl (k, d) → 1 ≤ k ∧ k ≤ 10 ∨ k = 20 ∨ k = 21
theorem kOK_i {k d : Nat} (h : 1 ≤ k ∧ k ≤ 10 ∨ k = 20 ∨ k = 21) : kOK (.inl (k, d)) := fun k' d' e => by cases e; exact h
theorem kOK_r {x : Nat × Sp} : kOK (.inr x) := fun _ _ e => by cases e
theorem kOK_ite {p : Prop} [Decidable p] {x y : Ex} (h1 : kOK x) (h2 : kOK y) : kOK (if p then x else y) := by
  split
  · exact h1
  · exact h2
theorem kOK_cmd (α : Sp) (w : Nat) (ns : Nat → Nat) : kOK (sCmd α w ns) := by
  unfold sCmd sAdd sSeal sShare sGive sBack sOpen sClose sGuard sTurn sHum sHours
  repeat' (first | exact kOK_i (by decide) | exact kOK_r | refine kOK_ite ?_ ?_ | split)
theorem inv_cmd {α : Sp} {H w ans : Nat} {ns : Nat → Nat} {β : Sp} (hi : Inv H α) (hH : H < 900000) (he : sCmd α w ns = .inr (ans, β)) : Inv (H + 24) β := by
  unfold sCmd at he
  by_cases q0 : w = 0
  · rw [if_pos q0] at he; exact (inv_add hi he).mono (by omega)
  rw [if_neg q0] at he
  by_cases q1 : w = 1
  · rw [if_pos q1] at he; exact (inv_seal hi he).mono (by omega)
  rw [if_neg q1] at he
  by_cases q2 : w = 2
  · rw [if_pos q2] at he; exact (inv_share hi he).mono (by omega)
  rw [if_neg q2] at he
  by_cases q3 : w = 3
  · rw [if_pos q3] at he; exact (inv_give hi he).mono (by omega)
  rw [if_neg q3] at he
  by_cases q4 : w = 4
  · rw [if_pos q4] at he; exact (inv_back hi he).mono (by omega)
  rw [if_neg q4] at he
  by_cases q5 : w = 5
  · rw [if_pos q5] at he; exact (inv_open hi he).mono (by omega)
  rw [if_neg q5] at he
  by_cases q6 : w = 6
  · rw [if_pos q6] at he; exact (inv_close hi he).mono (by omega)
  rw [if_neg q6] at he
  by_cases q7 : w = 7
  · rw [if_pos q7] at he; exact (inv_guard (by split <;> decide) hi he).mono (by omega)
  rw [if_neg q7] at he
  by_cases q8 : w = 8
  · rw [if_pos q8] at he; exact (inv_turn hi he).mono (by omega)
  rw [if_neg q8] at he
  by_cases q9 : w = 9
  · rw [if_pos q9] at he; exact (inv_hum hi he).mono (by omega)
  rw [if_neg q9] at he
  exact inv_hours hi hH he
/-- the class, at one command -/
def CmdC (M : Mem) (o : Nat ⊕ Sp) (x : Option (Int32 × Mem)) : Prop := match o with
  | .inr β => wp x fun r M1 => r = nI 0 ∧ RC (M1 0) β ∧ ∀ a, a ≠ 0 → M1 a = M a
  | .inl cz => wp x fun r M1 => ¬ r = nI 0 ∧ (if r ≤ nI 0 then nI 12 else r) = nI cz ∧ ∀ a, a ≠ 0 → M1 a = M a
def CmdM (M : Mem) (o : Nat ⊕ Sp) (x : Option (Int32 × Mem)) : Prop := match o with
  | .inr β => wp x fun r M1 => r = nI 0 ∧ M1 12 48 = enc β ∧ (∀ k, k ≠ 15 → M1 12 47 k = M 12 47 k) ∧ ∀ a b, ¬ (a = 12 ∧ (b = 47 ∨ b = 48 ∨ b = 56)) → M1 a b = M a b
  | .inl cz => wp x fun r M1 => ¬ r = nI 0 ∧ (if nI 0 ≤ r then nI 12 else -r) = nI cz ∧ (∃ β, M1 12 48 = enc β) ∧ (∀ k, k ≠ 15 → k ≠ 16 → k ≠ 17 → k ≠ 18 → M1 12 47 k = M 12 47 k) ∧ ∀ a b, ¬ (a = 12 ∧ (b = 47 ∨ b = 48 ∨ b = 56)) → M1 a b = M a b
theorem CmdC_of {M : Mem} {subj : Int32} {e : Ex} {x : Option (Int32 × Mem)} {w : Nat} (hw : w ≠ 5) (hk : kOK e) (h : CT M subj e x) : CmdC M (exR w e) x := by
  rcases e with ⟨k, d⟩ | ⟨ans, β⟩
  · obtain ⟨h1, -⟩ := h
    show wp x _
    rw [h1, wp_some]
    rcases hk k d rfl with hk1 | rfl | rfl
    · have ev : vc k = nI k := by unfold vc; rw [if_neg (by omega), if_neg (by omega)]
      rw [ev]
      refine ⟨by rw [nI_eqE (by omega) (by decide)]; omega, ?_, fun _ _ => rfl⟩
      rw [if_neg (by rw [nI_leE (by omega) (by decide)]; omega), if_pos (by omega)]
    · exact ⟨by decide, by decide, fun _ _ => rfl⟩
    · exact ⟨by decide, by decide, fun _ _ => rfl⟩
  · have e1 : exR w (.inr (ans, β)) = .inr β := if_neg (fun q => hw q.1)
    rw [e1]
    refine wp_mono h ?_
    rintro r M1 ⟨h1, h2, h3, h4⟩
    exact ⟨h1, h2, h4⟩
theorem CmdM_of {M : Mem} {e : Ex} {x : Option (Int32 × Mem)} {w c21 : Nat} {α : Sp} (hw : w ≠ 5) (hk : kOK e) (hc : 1 ≤ c21 ∧ c21 ≤ 9) (hS : M 12 48 = enc α) (h : MT M c21 e x) : CmdM M (exR w e) x := by
  rcases e with ⟨k, d⟩ | ⟨ans, β⟩
  · have hkk := hk k d rfl
    unfold MT at h
    by_cases k20 : k < 20
    · have h' : wp x fun r M1 => r = -nI k ∧ M1 12 48 = M 12 48 ∧ (∀ j, j ≠ 16 → j ≠ 17 → j ≠ 18 → M1 12 47 j = M 12 47 j) ∧ M1 12 47 16 = nI k ∧ M1 12 47 17 = nI d ∧ M1 12 47 18 = nI 0 ∧ ∀ a b, ¬ (a = 12 ∧ b = 47) → M1 a b = M a b := by
        simp only [k20, if_true] at h
        exact h
      show wp x _
      refine wp_mono h' ?_
      rintro r M1 ⟨rfl, h2, h3, -, -, -, h7⟩
      refine ⟨by rw [nI_Neq (by decide) (by omega) (by omega)]; exact id, ?_, ⟨α, by rw [h2, hS]⟩, fun j h15 h16 h17 h18 => h3 j h16 h17 h18, fun a b hab => h7 a b (by omega)⟩
      rw [if_neg (by rw [nI_leN (by decide) (by omega) (by omega)]; exact id), if_pos k20, Int32.neg_neg]
    · have h' : x = some (nI (if k = 20 then 1 else c21), M) := by
        simp only [k20, if_false] at h
        exact h
      show wp x _
      rw [h', wp_some]
      have l : 1 ≤ (if k = 20 then 1 else c21) ∧ (if k = 20 then 1 else c21) ≤ 9 := by split <;> omega
      refine ⟨by rw [nI_eqE (by omega) (by decide)]; omega, ?_, ⟨α, hS⟩, fun _ _ _ _ _ => rfl, fun _ _ _ => rfl⟩
      rw [if_pos (by rw [nI_leE (by decide) (by omega)]; omega), if_neg k20]
  · have e1 : exR w (.inr (ans, β)) = .inr β := if_neg (fun q => hw q.1)
    rw [e1]
    refine wp_mono h ?_
    rintro r M1 ⟨h1, h2, h3, h4, h5⟩
    exact ⟨h1, h2, h3, h5⟩
theorem mbnd_id {α : Type} {x : Option (α × Mem)} : (mbnd x fun r m => some (r, m)) = x := by
  cases x with
  | none => rfl
  | some y => rfl
