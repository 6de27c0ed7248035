/-! runCommands -/
/-- the class -/
theorem c_run {M : Mem} {tx : Nat → Nat} {L nx K H : Nat} {α : Sp} (ht : Txt M tx L) (hx : nx < 9) (hK : K ≤ 8) (h1 : M 12 17 1 = nI nx) (h2 : M 12 17 2 = nI K) (hR : RC (M 0) α) (hi : Inv H α) (hH : H < 800000) :
    ((prS tx L 13 0).1 = false → wp (f_X11_runCommands M) fun o M1 => o = .inl 2 ∧ (prS tx L 13 0).2.1 ≤ L ∧ M1 12 16 11 = nI (prS tx L 13 0).2.1 ∧ M1 12 26 1 = nI 0 ∧ (∀ k, k ≠ 11 → M1 12 16 k = M 12 16 k) ∧ ∀ a b, ¬ (a = 12 ∧ (b = 16 ∨ b = 26 ∨ b = 28 ∨ 30 ≤ b ∧ b < 45)) → M1 a b = M a b) ∧
    ((prS tx L 13 0).1 = true → (1 ≤ (prS tx L 13 0).2.2 ∧ 5 * (prS tx L 13 0).2.2 ≤ L + 1 ∧ ∀ k, k < (prS tx L 13 0).2.2 → (cmdS tx L (Pp tx L k) z0).1 = true) ∧
      (∀ β, exS tx L (prS tx L 13 0).2.2 0 α = .inr β → Inv (H + 24 * (prS tx L 13 0).2.2) β ∧ wp (f_X11_runCommands M) fun o M1 => o = .inr (nI (prS tx L 13 0).2.2) ∧ RC (M1 0) β ∧ RC (M1 (1 + nx)) α ∧ M1 12 17 1 = nI ((nx + 1) % 9) ∧ M1 12 17 2 = nI (minK K) ∧ M1 12 26 1 = nI 0 ∧ ∀ a b, a ≠ 0 → a ≠ 1 + nx → ¬ (a = 12 ∧ (b = 17 ∨ b = 26 ∨ b = 28 ∨ 30 ≤ b ∧ b < 45)) → M1 a b = M a b) ∧
      (∀ j cz, exS tx L (prS tx L 13 0).2.2 0 α = .inl (j, cz) → 1 ≤ cz ∧ cz ≤ 12 ∧ wp (f_X11_runCommands M) fun o M1 => o = .inl 3 ∧ RC (M1 0) α ∧ (M1 12 16 8 = nI 11 ∧ M1 12 16 9 = nI j ∧ M1 12 16 10 = nI cz ∧ ∀ k, k ≠ 8 → k ≠ 9 → k ≠ 10 → M1 12 16 k = M 12 16 k) ∧ M1 12 26 1 = nI 0 ∧ ∀ a b, a ≠ 0 → a ≠ 1 + nx → ¬ (a = 12 ∧ (b = 16 ∨ b = 26 ∨ b = 28 ∨ 30 ≤ b ∧ b < 45)) → M1 a b = M a b)) := by
  have hi' := hi
  obtain ⟨⟨b0, b1, b2, b3, b4, b5, b6, b7, b8, b9, b10, b11, b14⟩, -⟩ := hi'
  have l60 := ht.1
  obtain ⟨v, M1, e1, t1, fr1, hok, hbad⟩ := c_parse ht
  have ecl : f_X2_clear M1 = some ((), mup M1 12 26 1 (nI 0)) := rfl
  unfold f_X11_runCommands
  generalize hN : (1000 : Nat) = N
  rw [e1, mbnd_eq, ecl, mbnd_eq]
  have fr2 : ∀ a b, ¬ (a = 12 ∧ (b = 26 ∨ b = 28 ∨ 30 ≤ b ∧ b < 45)) → (mup M1 12 26 1 (nI 0)) a b = M a b := fun a b hab => by rw [pm_ne (by omega), fr1 a b hab]
  have x26 : (mup M1 12 26 1 (nI 0)) 12 26 1 = nI 0 := by rw [mup_at, if_pos (by decide)]
  have x263 : (mup M1 12 26 1 (nI 0)) 12 26 3 = M1 12 26 3 := by rw [mup_at, if_neg (by decide)]
  have x28 : ∀ b, b ≠ 26 → (mup M1 12 26 1 (nI 0)) 12 b = M1 12 b := fun b hb => pm_ne (by omega)
  generalize mup M1 12 26 1 (nI 0) = M2 at *
  refine ⟨fun q => ?_, fun q => ?_⟩
  · obtain ⟨rfl, hl⟩ := hbad q
    rw [if_neg (show ¬ nI (prS tx L 13 0).2.1 = -1 by show ¬ _ = -nI 1; rw [nI_eqN (by omega) (by decide) (by decide)]; exact id), mlet_eq, wp_some]
    refine ⟨rfl, hl, ?_, ?_, fun k hk => ?_, fun a b hab => ?_⟩
    · rw [mup_at, if_pos (by decide)]
    · rw [mup_at, if_neg (by decide)]; exact x26
    · rw [mup_at, if_neg (by omega), fr2 12 16 (by decide)]
    · rw [pm_ne (by omega), fr2 a b (by omega)]
  · obtain ⟨rfl, hcnt, hrec, hc1, hc5⟩ := hok q
    generalize (prS tx L 13 0).2.2 = cnt at *
    rw [if_pos (show -nI 1 = -1 from rfl)]
    have hR2 : RC (M2 0) α := by rw [show M2 0 = M 0 from funext fun b => fr2 0 b (by omega)]; exact hR
    obtain ⟨⟨⟩, M3, e3, p1, p2⟩ := c_prepare (M := M2) (α := α) hx (by rw [fr2 12 17 (by decide)]; exact h1) hR2 b1 b6
    rw [e3, mbnd_eq]
    have hrec3 : RecA M3 tx L cnt := fun k hk => by
      obtain ⟨a1, w, a2, a3, a4, a5⟩ := hrec k hk
      refine ⟨a1, w, a2, a3, ?_, fun j hj => ?_⟩
      · rw [p2 12 (by omega), x28 28 (by decide)]; exact a4
      · rw [p2 12 (by omega), x28 (30 + k) (by omega)]; exact a5 j hj
    have hex := c_exec (tx := tx) (L := L) (cnt := cnt) (nx := nx) (α0 := α) hx (by omega) b1 b6 (fun M25 => (mbnd (f_X4_keep M25) fun r26 M27 => (some ((Sum.inr (M27 12 26 3)), M27)))) cnt N 0 H α M3 (by omega) (by omega) (by omega) hrec3 (by rw [p2 12 (by omega), x263]; exact hcnt) (by rw [p2 12 (by omega), fr2 12 17 (by decide)]; exact h1) p1 (by rw [p2 0 (by omega)]; exact hR2) hi
    refine ⟨⟨hc1, hc5, fun k hk => (hrec k hk).1⟩, fun β e => ?_, fun j cz e => ?_⟩
    · obtain ⟨i1, M4, k1, k2, k3⟩ := hex.1 β e
      refine ⟨i1, ?_⟩
      have k1' : f_X11_runCommands_L49 N 0 M3 (fun M25 => (mbnd (f_X4_keep M25) fun r26 M27 => (some ((Sum.inr (M27 12 26 3)), M27)))) = _ := k1
      rw [k1', wp_mbnd]
      refine wp_mono (c_keep (nx := nx) (K := K) hx hK (by rw [k3 12 (by decide), p2 12 (by omega), fr2 12 17 (by decide)]; exact h1) (by rw [k3 12 (by decide), p2 12 (by omega), fr2 12 17 (by decide)]; exact h2)) ?_
      rintro - M5 ⟨s1, s2, s3⟩
      rw [wp_some]
      refine ⟨?_, ?_, ?_, s1, s2, ?_, fun a b x1 x2 x3 => ?_⟩
      · rw [s3 12 26 (by decide), k3 12 (by decide), p2 12 (by omega), x263, hcnt]
      · rw [show M5 0 = M4 0 from funext fun b => s3 0 b (by omega)]; exact k2
      · rw [show M5 (1 + nx) = M4 (1 + nx) from funext fun b => s3 (1 + nx) b (by omega), k3 (1 + nx) (by omega)]; exact p1
      · rw [s3 12 26 (by decide), k3 12 (by decide), p2 12 (by omega)]; exact x26
      · rw [s3 a b (by omega), k3 a x1, p2 a x2, fr2 a b (by omega)]
    · obtain ⟨j1, c1, c2, M4, k1, k2, ⟨k3, k4, k5, k6⟩, k7⟩ := hex.2 j cz e
      refine ⟨c1, c2, ?_⟩
      have k1' : f_X11_runCommands_L49 N 0 M3 (fun M25 => (mbnd (f_X4_keep M25) fun r26 M27 => (some ((Sum.inr (M27 12 26 3)), M27)))) = _ := k1
      rw [k1', wp_some]
      refine ⟨rfl, k2, ⟨k3, k4, k5, fun k x1 x2 x3 => ?_⟩, ?_, fun a b x1 x2 x3 => ?_⟩
      · rw [k6 k x1 x2 x3, p2 12 (by omega), fr2 12 16 (by decide)]
      · rw [k7 12 26 (by decide) (by decide), p2 12 (by omega)]; exact x26
      · rw [k7 a b x1 (by omega), p2 a x2, fr2 a b (by omega)]
