theorem Hs_push {M M1 M2 : Mem} {α : Sp} {αh : Nat → Sp} {K nx : Nat} (h : Hs M αh K nx) (hp : RC (M2 (1 + nx)) α) (e1 : M2 12 17 1 = nI ((nx + 1) % 9)) (e2 : M2 12 17 2 = nI (minK K)) (e6 : M2 12 47 6 = nI (minK K)) (he : ∀ k, k < minK K → ∀ j, j < 92 → M2 12 51 (92 * k + j) = enc (pushH αh K α k) j) (hg : ∀ a, 1 ≤ a → a ≤ 9 → a ≠ 1 + nx → M2 a = M a) : Hs M2 (pushH αh K α) (minK K) ((nx + 1) % 9) := by
  obtain ⟨h1, h2, h3, h4, h5, h6, h7⟩ := h
  have hm : minK K ≤ 8 := by unfold minK; split <;> omega
  refine ⟨by omega, hm, e1, e2, e6, fun k hk => ?_, he⟩
  unfold pushH
  by_cases h8 : K = 8
  · have em : minK K = 8 := by unfold minK; rw [if_pos h8]
    rw [em] at hk ⊢
    rw [if_pos h8]
    by_cases q : k = 7
    · rw [if_pos q, show 1 + ((nx + 1) % 9 + 9 - 8 + k) % 9 = 1 + nx by omega]
      exact hp
    · rw [if_neg q, show 1 + ((nx + 1) % 9 + 9 - 8 + k) % 9 = 1 + (nx + 9 - K + (k + 1)) % 9 by omega, hg _ (by omega) (by omega) (by omega)]
      exact h6 (k + 1) (by omega)
  · have em : minK K = K + 1 := by unfold minK; rw [if_neg h8]
    rw [em] at hk ⊢
    rw [if_neg h8]
    by_cases q : k = K
    · rw [if_pos q, show 1 + ((nx + 1) % 9 + 9 - (K + 1) + k) % 9 = 1 + nx by omega]
      exact hp
    · rw [if_neg q, show 1 + ((nx + 1) % 9 + 9 - (K + 1) + k) % 9 = 1 + (nx + 9 - K + k) % 9 by omega, hg _ (by omega) (by omega) (by omega)]
      exact h6 k (by omega)
theorem Hs_same {M M2 : Mem} {αh : Nat → Sp} {K nx : Nat} (h : Hs M αh K nx) (e1 : M2 12 17 = M 12 17) (e6 : M2 12 47 6 = M 12 47 6) (he : M2 12 51 = M 12 51) (hg : ∀ a, 1 ≤ a → a ≤ 9 → a ≠ 1 + nx → M2 a = M a) : Hs M2 αh K nx := by
  obtain ⟨h1, h2, h3, h4, h5, h6, h7⟩ := h
  refine ⟨h1, h2, by rw [e1]; exact h3, by rw [e1]; exact h4, by rw [e6]; exact h5, fun k hk => ?_, fun k hk j hj => by rw [he]; exact h7 k hk j hj⟩
  rw [hg _ (by omega) (by omega) (by omega)]
  exact h6 k hk
theorem Rs_same {M M2 : Mem} {αs : Sp} {b : Nat} (h : Rs M αs b) (e1 : M2 12 16 3 = M 12 16 3) (e2 : M2 12 47 7 = M 12 47 7) (e3 : M2 10 = M 10) (e4 : M2 12 50 = M 12 50) : Rs M2 αs b := by
  obtain ⟨h1, h2, h3, h4⟩ := h
  exact ⟨h1, by rw [e1]; exact h2, by rw [e2]; exact h3, fun hb => ⟨by rw [e3]; exact (h4 hb).1, fun j hj => by rw [e4]; exact (h4 hb).2 j hj⟩⟩
theorem Ri_same {M M2 : Mem} {fed : Nat} (h : Ri M fed) (e1 : M2 12 26 1 = M 12 26 1) (e2 : M2 12 47 12 = M 12 47 12) (e3 : M2 12 27 = M 12 27) (e4 : M2 12 53 = M 12 53) : Ri M2 fed := by
  obtain ⟨h1, h2, h3, h4⟩ := h
  exact ⟨h1, by rw [e1]; exact h2, by rw [e2]; exact h3, fun i hi => by rw [e3, e4]; exact h4 i hi⟩
theorem Ro_same {M M2 : Mem} (h : Ro M) (e1 : M2 12 45 = M 12 45) (e2 : M2 12 47 13 = M 12 47 13) (e3 : M2 12 46 = M 12 46) (e4 : M2 12 55 = M 12 55) : Ro M2 := by
  obtain ⟨ol, h1, h2, h3, h4⟩ := h
  exact ⟨ol, h1, by rw [e1]; exact h2, by rw [e2]; exact h3, fun i hi => by rw [e3, e4]; exact h4 i hi⟩
theorem Re_same {M M2 : Mem} (h : Re M) (e1 : M2 12 16 11 = M 12 16 11) (e2 : M2 12 47 14 = M 12 47 14) : Re M2 := by
  obtain ⟨h1, h2⟩ := h
  exact ⟨by rw [e1, e2]; exact h1, by rw [e2]; exact h2⟩
theorem Rr_same {M M2 : Mem} (h : Rr M) (e1 : ∀ i, 8 ≤ i → i ≤ 10 → M2 12 16 i = M 12 16 i) (e2 : ∀ i, 16 ≤ i → i ≤ 18 → M2 12 47 i = M 12 47 i) : Rr M2 := by
  obtain ⟨w, c, h1, h2, h3, h4, h5, h6, h7⟩ := h
  refine ⟨w, c, h1, h2, ?_, ?_, fun hw => ?_, ?_, ?_⟩
  · rw [e2 16 (by decide) (by decide)]; exact h3
  · rw [e1 8 (by decide) (by decide)]; exact h4
  · rw [e1 9 (by decide) (by decide), e2 17 (by decide) (by decide)]; exact h5 hw
  · rw [e2 18 (by decide) (by decide)]; exact h6
  · rw [e1 10 (by decide) (by decide)]; exact h7
/-- a recorded call: the class, then the model -/
theorem rel_op {n place c21 : Nat} {M : Mem} {e : Sp → Ex} {subj : Int32} {tr op : Mem → Option (Int32 × Mem)} {gc gm : Int32 → Int32} {kc : Int32 → Mem → Option ((Nat ⊕ Int32) × Mem)} {km : Int32 → Mem → Option (Int32 × Mem)}
    (hr : Rel n M) (hn : n < 512) (hp : 1 ≤ place ∧ place ≤ 9) (hc21 : 1 ≤ c21 ∧ c21 ≤ 9)
    (hct : ∀ (M2 : Mem) (α : Sp) (H : Nat), RC (M2 0) α → Inv H α → H < 900000 → CT M2 subj (e α) (tr M2)) (hmt : ∀ (M2 : Mem) (α : Sp) (H : Nat), M2 12 48 = enc α → Inv H α → H < 900000 → MT M2 c21 (e α) (op M2))
    (hinv : ∀ α H ans β, Inv H α → H < 900000 → e α = .inr (ans, β) → Inv (H + 24) β) (hk : ∀ α k d, e α = .inl (k, d) → 1 ≤ k ∧ k ≤ 10 ∨ k = 20 ∨ k = 21) (hkc : ∀ r M1, kc r M1 = some (.inr (gc r), M1)) (hkm : ∀ r M1, km r M1 = some (gm r, M1)) :
    wp (mbnd (f_X4_prepare 0 M) fun r1 M2 => (mbnd (tr M2) fun r3 M4 => (mbndx (f_X11_settle r3 subj M4) kc))) (fun o M1 => wp (mbnd (f_X12_remembers M1) fun r1 M2 => (mbnd (op M2) fun r3 M4 => (mbnd (f_X12_ends r3 (nI place) M4) km))) (fun r M2 => Rel (n + 1) M2 ∧ ∃ α H, Inv H α ∧ ((∃ ans β, e α = .inr (ans, β) ∧ o = .inr (gc (nI ans)) ∧ M2 12 47 0 = nI 0 ∧ r = gm (nI ans)) ∨ ∃ k d, e α = .inl (k, d) ∧ o = .inl (exn k) ∧ M2 12 47 0 = nI (if k = 20 then 1 else if k = 21 then c21 else place)))) := by
  obtain ⟨α, αh, αs, K, nx, fed, b, H, hR, hS, hH, hs, ⟨hr1, hr2, hr3, hr4⟩, hi, hih, his, hb⟩ := hr
  obtain ⟨x1, x2, x3, x4, x5, x6, x7⟩ := id hH
  have hi' := hi
  obtain ⟨⟨b0, b1, b2, b3, b4, b5, b6, b7, b8, b9, b10, b11, b14⟩, -⟩ := hi'
  refine cls_call (α := α) (e := e α) x1 x2 x3 x4 hR b1 b6 (fun M2 h => hct M2 α H h hi (by omega)) ?_ ?_
  · intro ans β he M1 ⟨a1, a2, a3, a4, a5⟩
    rw [hkc, wp_some]
    have f48 : M1 12 48 = M 12 48 := a5 12 48 (by decide) (by omega) (by decide)
    have f47 : M1 12 47 = M 12 47 := a5 12 47 (by decide) (by omega) (by decide)
    have f51 : M1 12 51 = M 12 51 := a5 12 51 (by decide) (by omega) (by decide)
    refine mod_call (α := α) (αh := αh) (K := K) (e := e α) x2 hp hc21 (by rw [f48]; exact hS) (by rw [f47]; exact x5) (fun k hk j hj => by rw [f51]; exact x7 k hk j hj) (fun M2 h => hmt M2 α H h hi (by omega)) ?_ ?_
    · intro ans' β' he' M2 ⟨c1, c2, c3, c4, c5, c6⟩
      rw [he] at he'
      cases he'
      rw [hkm, wp_some]
      refine ⟨⟨β, pushH αh K α, αs, minK K, (nx + 1) % 9, fed, b, H + 24, ?_, c1, ?_, ?_, ⟨?_, ?_, ?_, ?_⟩, hinv α H ans β hi (by omega) he, fun k hk => ?_, fun q => (his q).mono (by omega), by omega⟩, α, H, hi, Or.inl ⟨ans, β, he, rfl, c2, rfl⟩⟩
      · rw [show M2 0 = M1 0 from funext fun b => c6 0 b (by omega)]; exact a1
      · refine Hs_push (M1 := M1) hH ?_ ?_ ?_ c3 c4 (fun a q1 q2 q3 => ?_)
        · rw [show M2 (1 + nx) = M1 (1 + nx) from funext fun b => c6 (1 + nx) b (by omega)]; exact a2
        · rw [c6 12 17 (by decide)]; exact a3
        · rw [c6 12 17 (by decide)]; exact a4
        · funext b
          rw [c6 a b (by omega), a5 a b (by omega) q3 (by omega)]
      · refine Rs_same hs ?_ ?_ ?_ ?_
        · rw [c6 12 16 (by decide), a5 12 16 (by decide) (by omega) (by decide)]
        · rw [c5 7 (by decide) (by decide) (by decide), f47]
        · funext b
          rw [c6 10 b (by omega), a5 10 b (by decide) (by omega) (by omega)]
        · rw [c6 12 50 (by decide), a5 12 50 (by decide) (by omega) (by decide)]
      · refine Rr_same hr1 (fun i _ _ => ?_) (fun i _ _ => ?_)
        · rw [c6 12 16 (by decide), a5 12 16 (by decide) (by omega) (by decide)]
        · rw [c5 i (by omega) (by omega) (by omega), f47]
      · refine Re_same hr2 ?_ ?_
        · rw [c6 12 16 (by decide), a5 12 16 (by decide) (by omega) (by decide)]
        · rw [c5 14 (by decide) (by decide) (by decide), f47]
      · refine Ri_same hr3 ?_ ?_ ?_ ?_
        · rw [c6 12 26 (by decide), a5 12 26 (by decide) (by omega) (by decide)]
        · rw [c5 12 (by decide) (by decide) (by decide), f47]
        · rw [c6 12 27 (by decide), a5 12 27 (by decide) (by omega) (by decide)]
        · rw [c6 12 53 (by decide), a5 12 53 (by decide) (by omega) (by decide)]
      · refine Ro_same hr4 ?_ ?_ ?_ ?_
        · rw [c6 12 45 (by decide), a5 12 45 (by decide) (by omega) (by decide)]
        · rw [c5 13 (by decide) (by decide) (by decide), f47]
        · rw [c6 12 46 (by decide), a5 12 46 (by decide) (by omega) (by decide)]
        · rw [c6 12 55 (by decide), a5 12 55 (by decide) (by omega) (by decide)]
      · unfold pushH
        unfold minK at hk
        split
        · split
          · exact hi.mono (by omega)
          · rename_i q1 q2
            rw [if_pos q1] at hk
            exact (hih (k + 1) (by omega)).mono (by omega)
        · split
          · exact hi.mono (by omega)
          · rename_i q1 q2
            rw [if_neg q1] at hk
            exact (hih k (by omega)).mono (by omega)
    · intro k d he'
      rw [he] at he'
      cases he'
  · intro k d he
    refine ⟨hk α k d he, fun M1 ⟨a1, a2, a3⟩ => ?_⟩
    have f48 : M1 12 48 = M 12 48 := a3 12 48 (by decide) (by omega) (by decide)
    have f47 : M1 12 47 = M 12 47 := a3 12 47 (by decide) (by omega) (by decide)
    have f51 : M1 12 51 = M 12 51 := a3 12 51 (by decide) (by omega) (by decide)
    refine mod_call (α := α) (αh := αh) (K := K) (e := e α) x2 hp hc21 (by rw [f48]; exact hS) (by rw [f47]; exact x5) (fun k hk j hj => by rw [f51]; exact x7 k hk j hj) (fun M2 h => hmt M2 α H h hi (by omega)) ?_ ?_
    · intro ans' β' he'
      rw [he] at he'
      cases he'
    · intro k' d' he'
      rw [he] at he'
      cases he'
      refine ⟨hk α k d he, fun M2 ⟨c1, c2, c3, c4⟩ => ?_⟩
      rw [hkm, wp_some]
      have g16 : M2 12 16 = M1 12 16 := c4 12 16 (by decide)
      have k16 : ∀ i, i ≠ 8 → i ≠ 9 → i ≠ 10 → M1 12 16 i = M 12 16 i := fun i i1 i2 i3 => by
        by_cases q : k < 20
        · rw [if_pos q] at a2; exact a2.2.2.2 i i1 i2 i3
        · rw [if_neg q] at a2; rw [a2]
      have k47 : ∀ i, i ≠ 0 → i ≠ 16 → i ≠ 17 → i ≠ 18 → M2 12 47 i = M 12 47 i := fun i i0 i1 i2 i3 => by
        by_cases q : k < 20
        · rw [if_pos q] at c3; rw [c3.2.2.2 i i0 i1 i2 i3, f47]
        · rw [if_neg q] at c3; rw [c3 i i0, f47]
      refine ⟨⟨α, αh, αs, K, nx, fed, b, H, ?_, by rw [c1, f48]; exact hS, ?_, ?_, ⟨?_, ?_, ?_, ?_⟩, hi, hih, his, by omega⟩, α, H, hi, Or.inr ⟨k, d, he, rfl, c2⟩⟩
      · rw [show M2 0 = M1 0 from funext fun b => c4 0 b (by omega), a1]; exact hR
      · refine Hs_same hH ?_ ?_ ?_ (fun a q1 q2 q3 => ?_)
        · rw [c4 12 17 (by decide), a3 12 17 (by decide) (by omega) (by decide)]
        · exact k47 6 (by decide) (by decide) (by decide) (by decide)
        · rw [c4 12 51 (by decide), f51]
        · funext b
          rw [c4 a b (by omega), a3 a b (by omega) q3 (by omega)]
      · refine Rs_same hs ?_ ?_ ?_ ?_
        · rw [g16, k16 3 (by decide) (by decide) (by decide)]
        · exact k47 7 (by decide) (by decide) (by decide) (by decide)
        · funext b
          rw [c4 10 b (by omega), a3 10 b (by decide) (by omega) (by omega)]
        · rw [c4 12 50 (by decide), a3 12 50 (by decide) (by omega) (by decide)]
      · by_cases q : k < 20
        · rw [if_pos q] at a2 c3
          have hkk := hk α k d he
          refine ⟨k, 0, by omega, by decide, c3.1, ?_, fun _ => ?_, c3.2.2.1, ?_⟩
          · rw [g16, a2.1, if_neg (by omega)]
          · rw [g16, a2.2.1, c3.2.1]
          · rw [g16, a2.2.2.1, if_pos rfl]
        · rw [if_neg q] at a2 c3
          refine Rr_same hr1 (fun i _ _ => ?_) (fun i i1 i2 => ?_)
          · rw [g16, a2]
          · rw [c3 i (by omega), f47]
      · refine Re_same hr2 ?_ ?_
        · rw [g16, k16 11 (by decide) (by decide) (by decide)]
        · exact k47 14 (by decide) (by decide) (by decide) (by decide)
      · refine Ri_same hr3 ?_ ?_ ?_ ?_
        · rw [c4 12 26 (by decide), a3 12 26 (by decide) (by omega) (by decide)]
        · exact k47 12 (by decide) (by decide) (by decide) (by decide)
        · rw [c4 12 27 (by decide), a3 12 27 (by decide) (by omega) (by decide)]
        · rw [c4 12 53 (by decide), a3 12 53 (by decide) (by omega) (by decide)]
      · refine Ro_same hr4 ?_ ?_ ?_ ?_
        · rw [c4 12 45 (by decide), a3 12 45 (by decide) (by omega) (by decide)]
        · exact k47 13 (by decide) (by decide) (by decide) (by decide)
        · rw [c4 12 46 (by decide), a3 12 46 (by decide) (by omega) (by decide)]
        · rw [c4 12 55 (by decide), a3 12 55 (by decide) (by omega) (by decide)]
