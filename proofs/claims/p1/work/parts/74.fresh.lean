/-! THE MEMORY OF A NEW VAULT AND A NEW MODEL -/
/-- what the constructors leave: -1 where nothing has been refused, caused or mistaken yet and where no word has been read; else 0 -/
def mFresh : Mem := fun g i k => if g = 12 ∧ (i = 16 ∧ (k = 8 ∨ k = 10 ∨ k = 11) ∨ i = 47 ∧ k = 14 ∨ i = 28) then -nI 1 else nI 0
theorem fr_0 {g i k : Nat} (h : ¬ (g = 12 ∧ (i = 16 ∧ (k = 8 ∨ k = 10 ∨ k = 11) ∨ i = 47 ∧ k = 14 ∨ i = 28))) : mFresh g i k = nI 0 := if_neg h
theorem fr_g {g i k : Nat} (h : ¬ g = 12) : mFresh g i k = nI 0 := fr_0 fun q => h q.1
theorem rel_fresh : Rel 0 mFresh := by
  refine ⟨fun _ => 0, fun _ _ => 0, fun _ => 0, 0, 0, 0, 0, 0, ⟨⟨?_, ?_, ?_, ?_⟩, ?_, ?_, ⟨by omega, fr_0 (by decide), fr_0 (by decide), fun h => by omega⟩, ⟨⟨0, 0, by omega, by omega, fr_0 (by decide), rfl, fun h => absurd rfl h, fr_0 (by decide), rfl⟩, ⟨rfl, Or.inl rfl⟩, ⟨by omega, fr_0 (by decide), fr_0 (by decide), fun i h => by omega⟩, ⟨0, by omega, fr_0 (by decide), fr_0 (by decide), fun i h => by omega⟩⟩, ?_, fun k h => by omega, fun h => by omega, by omega⟩⟩
  · exact ⟨fr_g (by decide), fr_g (by decide), fr_g (by decide), fr_g (by decide), fun k _ => fr_g (by decide), fun k _ => fr_g (by decide), fun k _ h => absurd h (Nat.not_lt_zero k)⟩
  · exact ⟨fr_g (by decide), fr_g (by decide), fr_g (by decide), fr_g (by decide)⟩
  · exact ⟨fr_g (by decide), fr_g (by decide), fr_g (by decide), fun k _ => fr_g (by decide), fun k _ => fr_g (by decide), fun k _ h => absurd h (Nat.not_lt_zero k), fun k _ => ⟨0, by omega, fr_g (by decide)⟩⟩
  · exact ⟨fr_g (by decide), fun k _ h => absurd h (Nat.not_lt_zero k), fun k _ => ⟨0, by omega, fr_g (by decide)⟩⟩
  · funext j
    rw [enc_n2 (by omega)]
    exact fr_0 (by omega)
  · exact ⟨by omega, by omega, fr_0 (by decide), fr_0 (by decide), fr_0 (by decide), fun k h => by omega, fun k h => by omega⟩
  · unfold Inv
    simp
