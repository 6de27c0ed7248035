theorem pair_runCommands {n : Nat} {M : Mem} (hr : Rel n M) (hn : n < 512) : Pair n (fun x => if x = 2 then 1 else if x = 3 then 2 else 0) M f_X11_runCommands f_X12_runCommands := by
  obtain ⟨α, αh, αs, K, nx, fed, b, H, hR, hS, hHs, hs, ⟨hr1, hr2, hr3, hr4⟩, hi, hih, his, hbb⟩ := hr
  obtain ⟨f1, f2, f3, f4⟩ := hr3
  obtain ⟨x1, x2, x3, x4, x5, x6, x7⟩ := id hHs
  have f5 : ∀ i, i < fed → M 12 27 i = nI (M 12 27 i).toNatClampNeg ∧ (M 12 27 i).toNatClampNeg < 65536 ∧ M 12 53 i = nI (M 12 27 i).toNatClampNeg := fun i hi' => by
    obtain ⟨c, c1, c2, c3⟩ := f4 i hi'
    rw [c2, c3, nI_nat (by omega)]
    exact ⟨rfl, c1, rfl⟩
  obtain ⟨tx, htx⟩ : ∃ tx : Nat → Nat, tx = fun i => (M 12 27 i).toNatClampNeg := ⟨_, rfl⟩
  have ht : Txt M tx fed := ⟨f1, f2, fun i hi' => by rw [htx]; exact ⟨(f5 i hi').1, (f5 i hi').2.1⟩⟩
  have ht2 : ∀ i, i < fed → M 12 53 i = nI (tx i) ∧ tx i < 65536 := fun i hi' => by rw [htx]; exact ⟨(f5 i hi').2.2, (f5 i hi').2.1⟩
  clear htx f5
  obtain ⟨cbad, cok⟩ := c_run ht x1 x2 x3 x4 hR hi (by omega)
  have hcls := fun q => (cok q).1
  unfold Pair
  cases q : (prS tx fed 13 0).1 with
  | false =>
    refine wp_mono (cbad q) ?_
    rintro o M1 ⟨rfl, c1, c2, c3, c4, c5⟩
    have mr := m_run (M := M1) (tx := tx) (L := fed) (K := K) (H := H) (α := α) (αh := αh) f1 (by rw [c5 12 47 (by decide)]; exact f3) (fun i hi' => by rw [c5 12 53 (by decide)]; exact ht2 i hi') (by rw [c5 12 48 (by decide)]; exact hS) x2 (by rw [c5 12 47 (by decide)]; exact x5) (fun k hk j hj => by rw [c5 12 51 (by decide)]; exact x7 k hk j hj) hi (by omega) hcls
    refine wp_mono (mr.1 q) ?_
    rintro r M2 ⟨d1, d2, d3, d4, d5⟩
    have fr : ∀ a b, ¬ (a = 12 ∧ (b = 16 ∨ b = 26 ∨ b = 28 ∨ 30 ≤ b ∧ b < 45 ∨ b = 47 ∨ b = 49 ∨ b = 54)) → M2 a b = M a b := fun a b hab => by rw [d5 a b (by omega), c5 a b (by omega)]
    have h16 : M2 12 16 = M1 12 16 := d5 12 16 (by decide)
    have h47 : ∀ k, k ≠ 0 → k ≠ 12 → k ≠ 14 → k ≠ 19 → k ≠ 20 → k ≠ 21 → k ≠ 22 → M2 12 47 k = M 12 47 k := fun k y1 y2 y3 y4 y5 y6 y7 => by rw [d4 k y1 y2 y3 y4 y5 y6 y7, c5 12 47 (by decide)]
    refine ⟨⟨α, αh, αs, K, nx, 0, b, H, ?_, ?_, ?_, ?_, ⟨?_, ?_, ?_, ?_⟩, hi, hih, his, by omega⟩, d1, by decide, by decide⟩
    · rw [show M2 0 = M 0 from funext fun b => fr 0 b (by omega)]; exact hR
    · rw [fr 12 48 (by decide)]; exact hS
    · exact Hs_same hHs (fr 12 17 (by decide)) (h47 6 (by decide) (by decide) (by decide) (by decide) (by decide) (by decide) (by decide)) (fr 12 51 (by decide)) (fun a _ _ _ => funext fun b => fr a b (by omega))
    · exact Rs_same hs (by rw [h16, c4 3 (by decide)]) (h47 7 (by decide) (by decide) (by decide) (by decide) (by decide) (by decide) (by decide)) (funext fun b => fr 10 b (by omega)) (fr 12 50 (by decide))
    · exact Rr_same hr1 (fun i _ _ => by rw [h16, c4 i (by omega)]) (fun i _ _ => h47 i (by omega) (by omega) (by omega) (by omega) (by omega) (by omega) (by omega))
    · exact ⟨by rw [h16, c2, d2], Or.inr ⟨_, by omega, d2⟩⟩
    · refine ⟨Nat.zero_le _, ?_, d3, fun i hi' => absurd hi' (Nat.not_lt_zero _)⟩
      rw [d5 12 26 (by decide)]; exact c3
    · exact Ro_same hr4 (fr 12 45 (by decide)) (h47 13 (by decide) (by decide) (by decide) (by decide) (by decide) (by decide) (by decide)) (fr 12 46 (by decide)) (fr 12 55 (by decide))
  | true =>
    obtain ⟨⟨w1, w2, w3⟩, cA, cB⟩ := cok q
    cases e : exS tx fed (prS tx fed 13 0).2.2 0 α with
    | inr β =>
      obtain ⟨hiβ, hw⟩ := cA β e
      refine wp_mono hw ?_
      rintro o M1 ⟨rfl, c1, c2, c3, c4, c5, c6⟩
      have k47 : M1 12 47 = M 12 47 := c6 12 47 (by decide) (by omega) (by decide)
      have mr := m_run (M := M1) (tx := tx) (L := fed) (K := K) (H := H) (α := α) (αh := αh) f1 (by rw [k47]; exact f3) (fun i hi' => by rw [c6 12 53 (by decide) (by omega) (by decide)]; exact ht2 i hi') (by rw [c6 12 48 (by decide) (by omega) (by decide)]; exact hS) x2 (by rw [k47]; exact x5) (fun k hk j hj => by rw [c6 12 51 (by decide) (by omega) (by decide)]; exact x7 k hk j hj) hi (by omega) hcls
      refine wp_mono ((mr.2 q).1 β e) ?_
      rintro r M2 ⟨rfl, d1, d2, d3, d4, d5, d6, d7⟩
      have fr : ∀ a b, a ≠ 0 → a ≠ 1 + nx → ¬ (a = 12 ∧ (b = 17 ∨ b = 26 ∨ b = 28 ∨ 30 ≤ b ∧ b < 45 ∨ b = 47 ∨ b = 48 ∨ b = 49 ∨ b = 51 ∨ b = 54 ∨ b = 56)) → M2 a b = M a b := fun a b h0 h1 hab => by rw [d7 a b (by omega), c6 a b h0 h1 (by omega)]
      have h47 : ∀ k, k ≠ 0 → k ≠ 6 → k ≠ 12 → k ≠ 15 → k ≠ 19 → k ≠ 20 → k ≠ 21 → k ≠ 22 → M2 12 47 k = M 12 47 k := fun k y1 y2 y3 y4 y5 y6 y7 y8 => by rw [d6 k y1 y2 y3 y4 y5 y6 y7 y8, k47]
      have fg : ∀ a, a ≠ 12 → M2 a = M1 a := fun a h => funext fun b => d7 a b (by omega)
      refine ⟨⟨β, pushH αh K α, αs, minK K, (nx + 1) % 9, 0, b, H + 24 * (prS tx fed 13 0).2.2, ?_, d3, ?_, ?_, ⟨?_, ?_, ?_, ?_⟩, hiβ, fun k hk => ?_, fun q => (his q).mono (by omega), by omega⟩, d1, rfl⟩
      · rw [fg 0 (by decide)]; exact c1
      · refine Hs_push (M1 := M1) hHs ?_ ?_ ?_ d4 d5 (fun a q1 q2 q3 => ?_)
        · rw [fg (1 + nx) (by omega)]; exact c2
        · rw [d7 12 17 (by decide)]; exact c3
        · rw [d7 12 17 (by decide)]; exact c4
        · funext b
          exact fr a b (by omega) q3 (by omega)
      · exact Rs_same hs (by rw [fr 12 16 (by decide) (by omega) (by decide)]) (h47 7 (by decide) (by decide) (by decide) (by decide) (by decide) (by decide) (by decide) (by decide)) (funext fun b => fr 10 b (by decide) (by omega) (by omega)) (fr 12 50 (by decide) (by omega) (by decide))
      · exact Rr_same hr1 (fun i _ _ => by rw [fr 12 16 (by decide) (by omega) (by decide)]) (fun i _ _ => h47 i (by omega) (by omega) (by omega) (by omega) (by omega) (by omega) (by omega) (by omega))
      · exact Re_same hr2 (by rw [fr 12 16 (by decide) (by omega) (by decide)]) (h47 14 (by decide) (by decide) (by decide) (by decide) (by decide) (by decide) (by decide) (by decide))
      · refine ⟨Nat.zero_le _, ?_, d2, fun i hi' => absurd hi' (Nat.not_lt_zero _)⟩
        rw [d7 12 26 (by decide)]; exact c5
      · exact Ro_same hr4 (fr 12 45 (by decide) (by omega) (by decide)) (h47 13 (by decide) (by decide) (by decide) (by decide) (by decide) (by decide) (by decide) (by decide)) (fr 12 46 (by decide) (by omega) (by decide)) (fr 12 55 (by decide) (by omega) (by decide))
      · unfold pushH
        unfold minK at hk
        split
        · split
          · exact hi.mono (by omega)
          · rename_i q1 q2
            rw [if_pos q1] at hk
            exact (hih (k + 1) (by omega)).mono (by omega)
        · split
          · exact hi.mono (by omega)
          · rename_i q1 q2
            rw [if_neg q1] at hk
            exact (hih k (by omega)).mono (by omega)
    | inl x =>
      obtain ⟨j, cz⟩ := x
      obtain ⟨z1, z2, hw⟩ := cB j cz e
      refine wp_mono hw ?_
      rintro o M1 ⟨rfl, c1, ⟨c2, c3, c4, c5⟩, c6, c7⟩
      have k47 : M1 12 47 = M 12 47 := c7 12 47 (by decide) (by omega) (by decide)
      have mr := m_run (M := M1) (tx := tx) (L := fed) (K := K) (H := H) (α := α) (αh := αh) f1 (by rw [k47]; exact f3) (fun i hi' => by rw [c7 12 53 (by decide) (by omega) (by decide)]; exact ht2 i hi') (by rw [c7 12 48 (by decide) (by omega) (by decide)]; exact hS) x2 (by rw [k47]; exact x5) (fun k hk j hj => by rw [c7 12 51 (by decide) (by omega) (by decide)]; exact x7 k hk j hj) hi (by omega) hcls
      refine wp_mono ((mr.2 q).2 j cz e) ?_
      rintro r M2 ⟨d1, d2, ⟨β, d3⟩, ⟨d4, d5, d6⟩, d7, d8⟩
      have fr : ∀ a b, a ≠ 0 → a ≠ 1 + nx → ¬ (a = 12 ∧ (b = 16 ∨ b = 26 ∨ b = 28 ∨ 30 ≤ b ∧ b < 45 ∨ b = 47 ∨ b = 48 ∨ b = 49 ∨ b = 54 ∨ b = 56)) → M2 a b = M a b := fun a b h0 h1 hab => by rw [d8 a b (by omega), c7 a b h0 h1 (by omega)]
      have h16 : M2 12 16 = M1 12 16 := d8 12 16 (by decide)
      have h47 : ∀ k, k ≠ 0 → k ≠ 12 → k ≠ 15 → k ≠ 16 → k ≠ 17 → k ≠ 18 → k ≠ 19 → k ≠ 20 → k ≠ 21 → k ≠ 22 → M2 12 47 k = M 12 47 k := fun k y1 y2 y3 y4 y5 y6 y7 y8 y9 y10 => by rw [d7 k y1 y2 y3 y4 y5 y6 y7 y8 y9 y10, k47]
      have fg : ∀ a, a ≠ 12 → M2 a = M1 a := fun a h => funext fun b => d8 a b (by omega)
      refine ⟨⟨cutSp α β, αh, αs, K, nx, 0, b, H, ?_, d3, ?_, ?_, ⟨?_, ?_, ?_, ?_⟩, Inv_cg hi, hih, his, by omega⟩, d1, by decide, by decide⟩
      · rw [fg 0 (by decide)]; exact RC_cg c1
      · refine ⟨x1, x2, ?_, ?_, ?_, fun k hk => ?_, fun k hk j' hj => ?_⟩
        · rw [fr 12 17 (by decide) (by omega) (by decide)]; exact x3
        · rw [fr 12 17 (by decide) (by omega) (by decide)]; exact x4
        · rw [h47 6 (by decide) (by decide) (by decide) (by decide) (by decide) (by decide) (by decide) (by decide) (by decide) (by decide)]; exact x5
        · rw [show M2 (1 + (nx + 9 - K + k) % 9) = M (1 + (nx + 9 - K + k) % 9) from funext fun b => fr _ b (by omega) (by omega) (by omega)]
          exact x6 k hk
        · rw [fr 12 51 (by decide) (by omega) (by decide)]; exact x7 k hk j' hj
      · exact Rs_same hs (by rw [h16, c5 3 (by decide) (by decide) (by decide)]) (h47 7 (by decide) (by decide) (by decide) (by decide) (by decide) (by decide) (by decide) (by decide) (by decide) (by decide)) (funext fun b => fr 10 b (by decide) (by omega) (by omega)) (fr 12 50 (by decide) (by omega) (by decide))
      · refine ⟨11, cz, by decide, z2, d4, ?_, fun _ => ?_, d6, ?_⟩
        · rw [h16, c2]; rfl
        · rw [h16, c3, d5]
        · rw [h16, c4, if_neg (by omega)]
      · exact Re_same hr2 (by rw [h16, c5 11 (by decide) (by decide) (by decide)]) (h47 14 (by decide) (by decide) (by decide) (by decide) (by decide) (by decide) (by decide) (by decide) (by decide) (by decide))
      · refine ⟨Nat.zero_le _, ?_, d2, fun i hi' => absurd hi' (Nat.not_lt_zero _)⟩
        rw [d8 12 26 (by decide)]; exact c6
      · exact Ro_same hr4 (fr 12 45 (by decide) (by omega) (by decide)) (h47 13 (by decide) (by decide) (by decide) (by decide) (by decide) (by decide) (by decide) (by decide) (by decide) (by decide)) (fr 12 46 (by decide) (by omega) (by decide)) (fr 12 55 (by decide) (by omega) (by decide))
