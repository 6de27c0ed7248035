/-! visits -/
theorem inZ_iff {α : Sp} {z : Nat} : inZ α z = true ↔ ∃ g, g < α 10 ∧ α (47 + 3 * g) = z := by
  unfold inZ
  cases h : fnd (fun g => decide (α (47 + 3 * g) = z)) 0 (α 10) with
  | none =>
    refine ⟨fun q => (by cases q), ?_⟩
    rintro ⟨g, h1, h2⟩
    have := fnd_none h g (Nat.zero_le _) (by omega)
    simp [h2] at this
  | some r =>
    obtain ⟨-, h2, h3, -⟩ := fnd_some h
    exact ⟨fun _ => ⟨r, by omega, by simpa using h3⟩, fun _ => rfl⟩
theorem hrs_c {α : Sp} {H : Nat} (hi : Inv H α) (j : Nat) (hj : j = 10 ∨ 47 ≤ j ∧ j < 56 ∧ ¬ (j - 47) % 3 = 0) : ∀ k, H + k < 999999 → hrs α k j = α j := by
  intro k
  induction k with
  | zero => intro _; rfl
  | succ k ih =>
    intro h
    have hn := inv_hrs hi k (by omega)
    show hourSp (hrs α k) j = α j
    rw [hourSp_hz (by omega) (by omega), hz_g (by decide) (by omega), walkSp_ne (by omega) (by omega) hn.1.2.2.2.2.2.2.2.2.2.2.1, ih (by omega)]
theorem hrs_11 {α : Sp} {H : Nat} (hi : Inv H α) : ∀ k, H + k < 999999 → hrs α k 11 = α 11 + k := by
  intro k
  induction k with
  | zero => intro _; rfl
  | succ k ih =>
    intro h
    show hourSp (hrs α k) 11 = α 11 + (k + 1)
    rw [hourSp_hz (by decide) (by decide), hz_g (by decide) (by decide), walkSp_11, ih (by omega)]
    omega
def gz (α : Sp) (g k : Nat) : Nat := (α (47 + 3 * g) + (if α (48 + 3 * g) = 1 then 1 else 7) * ((α 11 + k) / α (49 + 3 * g) - α 11 / α (49 + 3 * g))) % 8
theorem hrs_z {α : Sp} {H g : Nat} (hi : Inv H α) (hg : g < α 10) : ∀ k, H + k < 999999 → hrs α k (47 + 3 * g) = gz α g k := by
  obtain ⟨g1, g2, g3, g4, g5⟩ := hi.2.2.2.2.2.2.2.2.1 g hg
  have h10 : α 10 ≤ 3 := hi.1.2.2.2.2.2.2.2.2.2.2.1
  intro k
  induction k with
  | zero =>
    intro _
    show α (47 + 3 * g) = gz α g 0
    unfold gz
    rw [Nat.add_zero, Nat.sub_self, Nat.mul_zero, Nat.add_zero]
    omega
  | succ k ih =>
    intro h
    have hn := inv_hrs hi k (by omega)
    show hourSp (hrs α k) (47 + 3 * g) = gz α g (k + 1)
    have e10 : hrs α k 10 = α 10 := hrs_c hi 10 (by omega) k (by omega)
    rw [hourSp_hz (by omega) (by omega), hz_g (by decide) (by omega)]
    unfold walkSp
    rw [e10, walkTo_z hg]
    unfold walkZ
    have i1 : incSp (hrs α k) 11 = α 11 + k + 1 := by unfold incSp; rw [up_at, if_pos rfl, hrs_11 hi k (by omega)]
    have i2 : incSp (hrs α k) (49 + 3 * g) = α (49 + 3 * g) := by unfold incSp; rw [up_at, if_neg (by omega), hrs_c hi _ (by omega) k (by omega)]
    have i3 : incSp (hrs α k) (48 + 3 * g) = α (48 + 3 * g) := by unfold incSp; rw [up_at, if_neg (by omega), hrs_c hi _ (by omega) k (by omega)]
    have i4 : incSp (hrs α k) (47 + 3 * g) = gz α g k := by unfold incSp; rw [up_at, if_neg (by omega), ih (by omega)]
    rw [i1, i2, i3, i4]
    unfold gz
    have hw : α (48 + 3 * g) = 1 ∨ α (48 + 3 * g) = 2 := by omega
    have hp : α (49 + 3 * g) = 1 ∨ α (49 + 3 * g) = 2 ∨ α (49 + 3 * g) = 3 ∨ α (49 + 3 * g) = 4 := by omega
    rcases hw with hw | hw <;> rcases hp with hp | hp | hp | hp <;> rw [hw, hp] <;> simp only [if_true, if_false, show ¬ 2 = 1 by decide] <;> split <;> omega
def vS (α : Sp) (g t : Nat) : Nat := if α (48 + 3 * g) = 1 then (t + 8 - α (47 + 3 * g)) % 8 else (α (47 + 3 * g) + 8 - t) % 8
def vOf (α : Sp) (g t : Nat) : Nat := if vS α g t = 0 then 0 else vS α g t * α (49 + 3 * g) - α 11 % α (49 + 3 * g)
theorem vOf_spec {α : Sp} {H g t : Nat} (hi : Inv H α) (hg : g < α 10) (ht : t < 8) : vOf α g t ≤ 28 ∧ gz α g (vOf α g t) = t ∧ ∀ k, k < vOf α g t → gz α g k ≠ t := by
  obtain ⟨g1, g2, g3, g4, g5⟩ := hi.2.2.2.2.2.2.2.2.1 g hg
  have hw : α (48 + 3 * g) = 1 ∨ α (48 + 3 * g) = 2 := by omega
  have hp : α (49 + 3 * g) = 1 ∨ α (49 + 3 * g) = 2 ∨ α (49 + 3 * g) = 3 ∨ α (49 + 3 * g) = 4 := by omega
  unfold vOf vS gz
  rcases hw with hw | hw <;> rcases hp with hp | hp | hp | hp <;> rw [hw, hp] <;> simp only [if_true, if_false, show ¬ 2 = 1 by decide] <;> split <;> (refine ⟨by omega, by omega, fun k hk => ?_⟩; omega)
def minV (α : Sp) (t : Nat) : Nat → Nat
  | 0 => 32
  | g + 1 => if vOf α g t < minV α t g then vOf α g t else minV α t g
theorem minV_spec {α : Sp} {H t : Nat} (hi : Inv H α) (ht : t < 8) : ∀ m, m ≤ α 10 → minV α t m ≤ 32 ∧ (∀ g, g < m → minV α t m ≤ vOf α g t) ∧ (0 < m → ∃ g, g < m ∧ minV α t m = vOf α g t) := by
  intro m
  induction m with
  | zero => intro _; exact ⟨Nat.le_refl _, fun g h => absurd h (Nat.not_lt_zero _), fun h => absurd h (Nat.lt_irrefl _)⟩
  | succ m ih =>
    intro hm
    obtain ⟨h0, h1, h2⟩ := ih (by omega)
    have hv := (vOf_spec hi (show m < α 10 by omega) ht).1
    show (if vOf α m t < minV α t m then vOf α m t else minV α t m) ≤ 32 ∧ (∀ g, g < m + 1 → (if vOf α m t < minV α t m then vOf α m t else minV α t m) ≤ vOf α g t) ∧ (0 < m + 1 → ∃ g, g < m + 1 ∧ (if vOf α m t < minV α t m then vOf α m t else minV α t m) = vOf α g t)
    by_cases q : vOf α m t < minV α t m
    · rw [if_pos q]
      refine ⟨by omega, fun g hg => ?_, fun _ => ⟨m, by omega, rfl⟩⟩
      by_cases hgm : g = m
      · rw [hgm]
        exact Nat.le_refl _
      · have := h1 g (by omega)
        omega
    · rw [if_neg q]
      refine ⟨h0, fun g hg => ?_, fun _ => ?_⟩
      · by_cases hgm : g = m
        · rw [hgm]; omega
        · exact h1 g (by omega)
      · by_cases hm0 : m = 0
        · subst hm0
          exfalso
          have : minV α t 0 = 32 := rfl
          omega
        · obtain ⟨g, g1, g2⟩ := h2 (by omega)
          exact ⟨g, by omega, g2⟩
def vis (α : Sp) (t : Nat) : Nat := minV α t (α 10)
theorem vis_spec {α : Sp} {H t : Nat} (hi : Inv H α) (hH : H < 900000) (ht : t < 8) (h0 : 0 < α 10) : vis α t ≤ 28 ∧ inZ (hrs α (vis α t)) t = true ∧ ∀ k, k < vis α t → inZ (hrs α k) t = false := by
  obtain ⟨h1, h2, h3⟩ := minV_spec hi ht (α 10) (Nat.le_refl _)
  obtain ⟨g, g1, g2⟩ := h3 h0
  have hv := vOf_spec hi g1 ht
  have hvv : vis α t = vOf α g t := g2
  refine ⟨by omega, ?_, fun k hk => ?_⟩
  · rw [inZ_iff]
    refine ⟨g, by rw [hrs_c hi 10 (by omega) _ (by omega)]; exact g1, ?_⟩
    rw [hrs_z hi g1 _ (by omega), hvv]
    exact hv.2.1
  · cases q : inZ (hrs α k) t with
    | false => rfl
    | true =>
      exfalso
      rw [inZ_iff] at q
      obtain ⟨g', a1, a2⟩ := q
      rw [hrs_c hi 10 (by omega) _ (by omega)] at a1
      rw [hrs_z hi a1 _ (by omega)] at a2
      have := h2 g' a1
      have hk' : k < minV α t (α 10) := hk
      exact (vOf_spec hi a1 ht).2.2 k (by omega) a2
