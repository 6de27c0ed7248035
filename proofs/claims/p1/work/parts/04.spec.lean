/-! THE STATE AS NUMBERS. A place a number, in the model's order: 0 holders, 1 sealed, 2 3 4 the curve, 5 threshold, 6 open, 7 locked, 8 failed, 9 shown, 10 guards, 11 hour, 12 openings, 13 alarms, 14 entries, 15.. shares, 23.. keys, 31.. noise, 39.. alarms of a zone, 47.. guards (zone, way: 1 or 2, period), 56.. entries (hour, kind, detail) -/
abbrev Sp : Type := Nat → Nat
def up (α : Sp) (k v : Nat) : Sp := fun j => if j = k then v else α j
theorem up_at (α : Sp) (k v j : Nat) : up α k v j = if j = k then v else α j := Eq.trans rfl rfl
def way (j : Nat) : Prop := j = 48 ∨ j = 51 ∨ j = 54
def enc (α : Sp) : Nat → Int32 := fun j => if (j = 48 ∨ j = 51 ∨ j = 54) ∧ α j = 2 then -nI 1 else nI (α j)
theorem enc_n {α : Sp} {j : Nat} (h : ¬ (j = 48 ∨ j = 51 ∨ j = 54)) : enc α j = nI (α j) := if_neg fun q => h q.1
theorem enc_n2 {α : Sp} {j : Nat} (h : ¬ α j = 2) : enc α j = nI (α j) := if_neg fun q => h q.2
theorem enc_2 {α : Sp} {j : Nat} (hj : j = 48 ∨ j = 51 ∨ j = 54) (h : α j = 2) : enc α j = -nI 1 := if_pos ⟨hj, h⟩
theorem enc_up {α : Sp} {k v : Nat} (h : ¬ (k = 48 ∨ k = 51 ∨ k = 54)) : upd (enc α) k (nI v) = enc (up α k v) := by
  funext j
  unfold upd enc up
  by_cases hj : j = k
  · subst hj
    simp [h]
  · simp [hj]
theorem enc_upw {α : Sp} {k v : Nat} (h : k = 48 ∨ k = 51 ∨ k = 54) {x : Int32} (hx : x = if v = 2 then -nI 1 else nI v) : upd (enc α) k x = enc (up α k v) := by
  funext j
  unfold upd enc up
  by_cases hj : j = k
  · subst hj
    simp [h, hx]
  · simp [hj]
theorem pm_self {M : Mem} {g i k : Nat} {v : Int32} : (mup M g i k v) g i = upd (M g i) k v := by
  funext c
  simp only [mup, upd]
  by_cases h : c = k <;> simp [h]
theorem pm_ne {M : Mem} {g i k : Nat} {v : Int32} {a b : Nat} (h : ¬ (a = g ∧ b = i)) : (mup M g i k v) a b = M a b := by
  funext c
  simp only [mup]
  rw [if_neg (fun q => h ⟨q.1, q.2.1⟩)]
theorem pm_g {M : Mem} {g i k : Nat} {v : Int32} {a : Nat} (h : ¬ a = g) : (mup M g i k v) a = M a := by
  funext b
  exact pm_ne (fun q => h q.1)
theorem pc_g {M : Mem} {g0 i0 g1 i1 sp dp n a : Nat} (h : ¬ a = g1) : mcp M g0 i0 g1 i1 sp dp n a = M a := by
  funext b
  unfold mcp
  rw [if_neg (fun q => h q.1)]
/-- holders and keys in a group of the class -/
def Rk (G : Nat → Nat → Int32) (α : Sp) : Prop := G 1 0 = nI (α 0) ∧ G 1 2 = nI (α 1) ∧ G 1 3 = nI (α 5) ∧ G 1 5 = nI (α 9) ∧ (∀ k, k < 8 → G 2 k = nI (α (15 + k))) ∧ (∀ k, k < 3 → G 3 k = nI (α (2 + k))) ∧ (∀ k, k < 8 → k < α 9 → G 4 k = nI (α (23 + k)))
def Rd (G : Nat → Nat → Int32) (α : Sp) : Prop := G 5 0 = nI (α 6) ∧ G 5 1 = nI (α 7) ∧ G 5 2 = nI (α 8) ∧ G 5 3 = nI (α 12)
def Rb (G : Nat → Nat → Int32) (α : Sp) : Prop := G 6 0 = nI (α 11) ∧ G 6 3 = nI (α 13) ∧ G 6 4 = nI (α 10) ∧ (∀ k, k < 8 → G 7 k = nI (α (31 + k))) ∧ (∀ k, k < 8 → G 8 k = nI (α (39 + k))) ∧ (∀ k, k < 3 → k < α 10 → G 9 k = nI (α (47 + 3 * k)) ∧ G 10 k = nI (2 - α (48 + 3 * k)) ∧ G 11 k = nI (α (49 + 3 * k))) ∧ (∀ k, k < 3 → ∃ c, c < 2 ∧ G 10 k = nI c)
def Rj (G : Nat → Nat → Int32) (α : Sp) : Prop := G 12 0 = nI (α 14) ∧ (∀ k, k < 12 → k < α 14 → G 13 k = nI (α (56 + 3 * k)) ∧ G 14 k = nI (α (57 + 3 * k)) ∧ G 15 k = nI (α (58 + 3 * k))) ∧ (∀ k, k < 12 → ∃ c, c < 65536 ∧ G 14 k = nI c)
def RC (G : Nat → Nat → Int32) (α : Sp) : Prop := Rk G α ∧ Rd G α ∧ Rb G α ∧ Rj G α
theorem Rk.of {G G' : Nat → Nat → Int32} {α α' : Sp} (hG : ∀ i, 1 ≤ i → i ≤ 4 → G' i = G i) (hα : ∀ j, j < 6 ∨ j = 9 ∨ 15 ≤ j ∧ j < 31 → α' j = α j) (h : Rk G α) : Rk G' α' := by
  obtain ⟨h1, h2, h3, h4, h5, h6, h7⟩ := h
  refine ⟨?_, ?_, ?_, ?_, fun k hk => ?_, fun k hk => ?_, fun k hk hk9 => ?_⟩
  · rw [hG 1 (by decide) (by decide), hα 0 (by omega)]; exact h1
  · rw [hG 1 (by decide) (by decide), hα 1 (by omega)]; exact h2
  · rw [hG 1 (by decide) (by decide), hα 5 (by omega)]; exact h3
  · rw [hG 1 (by decide) (by decide), hα 9 (by omega)]; exact h4
  · rw [hG 2 (by decide) (by decide), hα _ (by omega)]; exact h5 k hk
  · rw [hG 3 (by decide) (by decide), hα _ (by omega)]; exact h6 k hk
  · rw [hα 9 (by omega)] at hk9
    rw [hG 4 (by decide) (by decide), hα _ (by omega)]; exact h7 k hk hk9
theorem Rd.of {G G' : Nat → Nat → Int32} {α α' : Sp} (hG : G' 5 = G 5) (hα : ∀ j, j = 6 ∨ j = 7 ∨ j = 8 ∨ j = 12 → α' j = α j) (h : Rd G α) : Rd G' α' := by
  obtain ⟨h1, h2, h3, h4⟩ := h
  refine ⟨?_, ?_, ?_, ?_⟩
  · rw [hG, hα 6 (by omega)]; exact h1
  · rw [hG, hα 7 (by omega)]; exact h2
  · rw [hG, hα 8 (by omega)]; exact h3
  · rw [hG, hα 12 (by omega)]; exact h4
theorem Rb.of {G G' : Nat → Nat → Int32} {α α' : Sp} (hG : ∀ i, 6 ≤ i → i ≤ 11 → G' i = G i) (hα : ∀ j, j = 10 ∨ j = 11 ∨ j = 13 ∨ 31 ≤ j ∧ j < 56 → α' j = α j) (h : Rb G α) : Rb G' α' := by
  obtain ⟨h1, h2, h3, h4, h5, h6, h7⟩ := h
  refine ⟨?_, ?_, ?_, fun k hk => ?_, fun k hk => ?_, fun k hk hk9 => ?_, fun k hk => ?_⟩
  · rw [hG 6 (by decide) (by decide), hα 11 (by omega)]; exact h1
  · rw [hG 6 (by decide) (by decide), hα 13 (by omega)]; exact h2
  · rw [hG 6 (by decide) (by decide), hα 10 (by omega)]; exact h3
  · rw [hG 7 (by decide) (by decide), hα _ (by omega)]; exact h4 k hk
  · rw [hG 8 (by decide) (by decide), hα _ (by omega)]; exact h5 k hk
  · rw [hα 10 (by omega)] at hk9
    rw [hG 9 (by decide) (by decide), hG 10 (by decide) (by decide), hG 11 (by decide) (by decide), hα _ (by omega), hα _ (by omega), hα _ (by omega)]; exact h6 k hk hk9
  · rw [hG 10 (by decide) (by decide)]; exact h7 k hk
theorem Rj.of {G G' : Nat → Nat → Int32} {α α' : Sp} (hG : ∀ i, 12 ≤ i → i ≤ 15 → G' i = G i) (hα : ∀ j, j = 14 ∨ 56 ≤ j ∧ j < 92 → α' j = α j) (h : Rj G α) : Rj G' α' := by
  obtain ⟨h1, h2, h3⟩ := h
  refine ⟨?_, fun k hk hk9 => ?_, fun k hk => ?_⟩
  · rw [hG 12 (by decide) (by decide), hα 14 (by omega)]; exact h1
  · rw [hα 14 (by omega)] at hk9
    rw [hG 13 (by decide) (by decide), hG 14 (by decide) (by decide), hG 15 (by decide) (by decide), hα _ (by omega), hα _ (by omega), hα _ (by omega)]; exact h2 k hk hk9
  · rw [hG 14 (by decide) (by decide)]; exact h3 k hk
/-- the bounds of a state; H: no hour is later -/
def Inv (H : Nat) (α : Sp) : Prop := (α 0 ≤ 8 ∧ α 1 ≤ 1 ∧ α 2 ≤ 96 ∧ α 3 ≤ 96 ∧ α 4 ≤ 96 ∧ α 5 ≤ 3 ∧ α 6 ≤ 1 ∧ α 7 ≤ 6 ∧ α 8 ≤ 2 ∧ α 9 ≤ α 0 ∧ α 10 ≤ 3 ∧ α 11 ≤ H ∧ α 14 ≤ 12) ∧ (α 1 = 0 → α 6 = 0 ∧ α 9 = 0) ∧ (α 1 = 1 → 1 ≤ α 5) ∧ (∀ k, k < 8 → α (15 + k) ≤ 96) ∧ (∀ k, k < α 9 → α (23 + k) < α 0) ∧ (∀ i k, i < k → k < α 9 → α (23 + i) ≠ α (23 + k)) ∧ (∀ k, k < 8 → α (31 + k) ≤ 20 ∧ α (39 + k) ≤ α 11) ∧ α 13 = α 39 + α 40 + α 41 + α 42 + α 43 + α 44 + α 45 + α 46 ∧ (∀ k, k < α 10 → α (47 + 3 * k) ≤ 7 ∧ 1 ≤ α (48 + 3 * k) ∧ α (48 + 3 * k) ≤ 2 ∧ 1 ≤ α (49 + 3 * k) ∧ α (49 + 3 * k) ≤ 4) ∧ (∀ k, k < α 14 → α (56 + 3 * k) ≤ α 11 ∧ (α (57 + 3 * k) = 97 ∨ α (57 + 3 * k) = 99 ∨ α (57 + 3 * k) = 102 ∨ α (57 + 3 * k) = 111) ∧ α (58 + 3 * k) ≤ 8)
/-- what an operation comes to: done with an answer and a state, or refused with a reason and a detail (20: no such index, 21: a bad argument) -/
abbrev Ex : Type := (Nat × Nat) ⊕ (Nat × Sp)
def vc (k : Nat) : Int32 := if k = 20 then -nI 1 else if k = 21 then -nI 2 else nI k
/-- the class does e -/
def CT (M : Mem) (subj : Int32) (e : Ex) (x : Option (Int32 × Mem)) : Prop := match e with
  | .inr (ans, β) => wp x fun r M1 => r = nI 0 ∧ RC (M1 0) β ∧ M1 0 0 4 = nI ans ∧ ∀ a, a ≠ 0 → M1 a = M a
  | .inl (k, d) => x = some (vc k, M) ∧ (k < 20 → f_X9_detailOf 0 (nI k) subj M = some (nI d))
/-- the model does e; code: its exceptions -/
def MT (M : Mem) (c21 : Nat) (e : Ex) (x : Option (Int32 × Mem)) : Prop := match e with
  | .inr (ans, β) => wp x fun r M1 => r = nI 0 ∧ M1 12 48 = enc β ∧ (∀ k, k ≠ 15 → M1 12 47 k = M 12 47 k) ∧ M1 12 47 15 = nI ans ∧ ∀ a b, ¬ (a = 12 ∧ (b = 47 ∨ b = 48 ∨ b = 56)) → M1 a b = M a b
  | .inl (k, d) => if k < 20 then wp x fun r M1 => r = -nI k ∧ M1 12 48 = M 12 48 ∧ (∀ j, j ≠ 16 → j ≠ 17 → j ≠ 18 → M1 12 47 j = M 12 47 j) ∧ M1 12 47 16 = nI k ∧ M1 12 47 17 = nI d ∧ M1 12 47 18 = nI 0 ∧ ∀ a b, ¬ (a = 12 ∧ b = 47) → M1 a b = M a b
    else x = some (nI (if k = 20 then 1 else c21), M)
theorem m_refused (M : Mem) (k d : Nat) : f_X12_refused (nI k) (nI d) M = some (-nI k, mup (mup (mup M 12 47 16 (nI k)) 12 47 17 (nI d)) 12 47 18 (nI 0)) := rfl
theorem MT_refused {M : Mem} {c21 k d : Nat} (hk : k < 20) : MT M c21 (.inl (k, d)) (mbnd (f_X12_refused (nI k) (nI d) M) fun r M1 => some (r, M1)) := by
  unfold MT
  simp only [hk, if_true]
  rw [m_refused]
  refine ⟨_, _, rfl, rfl, ?_, ?_, ?_, ?_, ?_, ?_⟩
  · rw [pm_ne (by decide), pm_ne (by decide), pm_ne (by decide)]
  · intro j h1 h2 h3
    simp [mup_at, h1, h2, h3]
  · simp [mup_at]
  · simp [mup_at]
  · simp [mup_at]
  · intro a b h
    rw [pm_ne h, pm_ne h, pm_ne h]
/-! OPERATIONS -/
def crv (α : Sp) (h : Nat) : Nat := (α 2 + α 3 * (h + 1) + α 4 * (h + 1) * (h + 1)) % 97
def sAdd (α : Sp) : Ex := if α 0 = 8 then .inl (1, 8) else .inr (α 0, up (up α (15 + α 0) (crv α (α 0))) 0 (α 0 + 1))
