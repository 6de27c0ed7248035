/-! UNDO, SAVE, RESTORE; THE END OF THE LAW -/
/-- a saved state -/
def SV (M : Mem) (α : Sp) : Prop := M 12 16 3 = nI 1 ∧ RC (M 10) α
section KEPT
variable {M : Mem} {α β : Sp} {αh : Nat → Sp} {K nx H : Nat}
theorem v_undo0 (hz : RZ M α αh 0 nx) : f_L_undo M = some (-nI 79, M) := by
  have x4 := hz.2.1.2.2.2.1
  unfold f_L_undo f_X11_undo
  rw [x4, if_pos (show nI 0 = 0 from rfl), mcat_l, if_pos rfl]
  rfl
theorem v_undo (hz : RZ M α αh (K + 1) nx) (hi : Inv H (αh K)) : ∃ M1, f_L_undo M = some (nI K, M1) ∧ RZ M1 (αh K) αh K ((nx + 9 - 1) % 9) ∧ ∀ β, SV M β → SV M1 β := by
  obtain ⟨hR, ⟨x1, x2, x3, x4, x6⟩, hF⟩ := hz
  have hRK := x6 K (by omega)
  rw [show (nx + 9 - (K + 1) + K) % 9 = (nx + 9 - 1) % 9 by omega] at hRK
  have ht : f_X4_takeLatest M = some (1 + (nx + 9 - 1) % 9, mup (mup M 12 17 1 (nI ((nx + 9 - 1) % 9))) 12 17 2 (nI K)) := by
    unfold f_X4_takeLatest
    simp (disch := omega) only [lit_17, lit_18, lit_19, lit_21, lit_22, lit_25, lit_26, lit_28, lit_29, lit_38, lit_42, lit_46, lit_50, lit_54, lit_70, lit_74, lit_75, lit_76, lit_77, lit_78, lit_79, lit_40503, mcatp_l, mcatp_r, eq_self, lit_0, lit_1, lit_2, lit_3, lit_4, lit_5, lit_6, lit_7, lit_8, lit_9, lit_10, lit_11, lit_12, lit_13, lit_14, lit_15, lit_16, lit_20, lit_23, lit_24, lit_31, lit_32, lit_39, lit_43, lit_45, lit_47, lit_48, lit_56, lit_57, lit_59, lit_60, lit_62, lit_63, lit_89, lit_92, lit_96, lit_97, lit_99, lit_100, lit_102, lit_103, lit_104, lit_110, lit_111, lit_115, lit_117, lit_194, lit_200, lit_644, lit_736, lit_999, lit_1000, lit_9999, lit_10000, lit_1000000000, ↓wp_mlet, ↓wp_mbp, ↓wp_ite, ↓wp_mix, ↓wp_mdiv, ↓wp_mnz, ↓wp_some, ↓wp_mbnd, ↓mlet_eq, ↓mbp_eq, ↓mbnd_eq, ↓mix_ite, ↓mdiv_ite, ↓mnz_ite, nI_add, nI_mul, nI_nat, nI_ltE, nI_leE, nI_eqE, nI_eqN, nI_Neq, nI_Nlt, nI_Nle, nI_ltN, nI_leN, ↓reduceIte, ↓Nat.reduceEqDiff, and_f, nt_e, nt_t, nl_t, nl_f, ne_t, ne_f, and_self, or_self, or_true, true_or, or_false, false_or, if_true, if_false, and_true, true_and, and_false, false_and, not_true, not_false_iff, mup_at, up_at, fil_at, ↓reduceIte, ↓Nat.reduceEqDiff, and_f, nt_e, nt_t, nl_t, nl_f, ne_t, ne_f, and_self, or_self, or_true, true_or, or_false, false_or, if_true, if_false, and_true, true_and, and_false, false_and, not_true, not_false_iff, x3, x4, nI_subE, nI_rem, Nat.add_sub_cancel]
  obtain ⟨⟨⟩, M1, e3, q1, -, q3⟩ := c_copy (g := 0) (g1 := 1 + (nx + 9 - 1) % 9) (M := mup (mup M 12 17 1 (nI ((nx + 9 - 1) % 9))) 12 17 2 (nI K)) (α := αh K) (by omega) (by
      rw [pm_g (by omega), pm_g (by omega)]; exact hRK) hi.1.2.1 hi.1.2.2.2.2.2.2.1
  have g17a : M1 12 17 1 = nI ((nx + 9 - 1) % 9) := by rw [q3 12 (by decide)]; simp (disch := omega) only [mup_at, up_at, fil_at, ↓reduceIte, ↓Nat.reduceEqDiff, and_f, nt_e, nt_t, nl_t, nl_f, ne_t, ne_f, and_self, or_self, or_true, true_or, or_false, false_or, if_true, if_false, and_true, true_and, and_false, false_and, not_true, not_false_iff]
  have g17b : M1 12 17 2 = nI K := by rw [q3 12 (by decide)]; simp (disch := omega) only [mup_at, up_at, fil_at, ↓reduceIte, ↓Nat.reduceEqDiff, and_f, nt_e, nt_t, nl_t, nl_f, ne_t, ne_f, and_self, or_self, or_true, true_or, or_false, false_or, if_true, if_false, and_true, true_and, and_false, false_and, not_true, not_false_iff]
  have go : ∀ a b, a ≠ 0 → ¬ (a = 12 ∧ b = 17) → M1 a b = M a b := fun a b h1 h2 => by rw [q3 a h1, pm_ne h2, pm_ne h2]
  refine ⟨M1, ?_, ⟨q1, ⟨by omega, by omega, g17a, g17b, fun k hk => ?_⟩, ?_⟩, fun β hs => ⟨?_, ?_⟩⟩
  · unfold f_L_undo f_X11_undo
    rw [x4, if_neg (show ¬ nI (K + 1) = 0 by rw [show (0 : Int32) = nI 0 from rfl, nI_eqE (by omega) (by decide)]; omega), ht, mbnd_eq, e3, mbnd_eq, mcat_r, g17b]
  · rw [show 1 + ((nx + 9 - 1) % 9 + 9 - K + k) % 9 = 1 + (nx + 9 - (K + 1) + k) % 9 by omega, show M1 (1 + (nx + 9 - (K + 1) + k) % 9) = M (1 + (nx + 9 - (K + 1) + k) % 9) from funext fun b => go _ b (by omega) (by omega)]
    exact x6 k (by omega)
  · rw [go 12 26 (by decide) (by decide)]; exact hF
  · rw [go 12 16 (by decide) (by decide)]; exact hs.1
  · rw [show M1 10 = M 10 from funext fun b => go 10 b (by decide) (by omega)]; exact hs.2
theorem v_save (hz : RZ M α αh K nx) (hi : Inv H α) : ∃ M1, f_X11_save M = some (nI (α 0), M1) ∧ RZ M1 α αh K nx ∧ SV M1 α := by
  obtain ⟨hR, ⟨x1, x2, x3, x4, x6⟩, hF⟩ := hz
  obtain ⟨⟨⟩, M1, e3, q1, -, q3⟩ := c_copy (g := 10) (g1 := 0) (M := M) (by decide) hR hi.1.2.1 hi.1.2.2.2.2.2.2.1
  have go : ∀ a b, a ≠ 10 → ¬ (a = 12 ∧ b = 16) → (mup M1 12 16 3 1) a b = M a b := fun a b h1 h2 => by rw [pm_ne h2, q3 a h1]
  refine ⟨mup M1 12 16 3 1, ?_, ⟨?_, ⟨x1, x2, ?_, ?_, fun k hk => ?_⟩, ?_⟩, ?_, ?_⟩
  · unfold f_X11_save
    rw [e3, mbnd_eq, mlet_eq, go 0 1 (by decide) (by decide), show M 0 1 0 = nI (α 0) from hR.1.1]
  · rw [show (mup M1 12 16 3 1) 0 = M 0 from funext fun b => go 0 b (by decide) (by omega)]; exact hR
  · rw [go 12 17 (by decide) (by decide)]; exact x3
  · rw [go 12 17 (by decide) (by decide)]; exact x4
  · rw [show (mup M1 12 16 3 1) (1 + (nx + 9 - K + k) % 9) = M (1 + (nx + 9 - K + k) % 9) from funext fun b => go _ b (by omega) (by omega)]
    exact x6 k hk
  · rw [go 12 26 (by decide) (by decide)]; exact hF
  · rw [mup_at, if_pos (by decide)]; rfl
  · rw [pm_g (by decide)]; exact q1
theorem v_restore (hz : RZ M α αh K nx) (hs : SV M β) (hi : Inv H β) : ∃ M1, f_L_restore M = some (nI (β 0), M1) ∧ RZ M1 β αh 0 nx := by
  obtain ⟨hR, ⟨x1, x2, x3, x4, x6⟩, hF⟩ := hz
  obtain ⟨⟨⟩, M1, e3, q1, -, q3⟩ := c_copy (g := 0) (g1 := 10) (M := M) (by decide) hs.2 hi.1.2.1 hi.1.2.2.2.2.2.2.1
  have go : ∀ a b, a ≠ 0 → ¬ (a = 12 ∧ b = 17) → (mup M1 12 17 2 0) a b = M a b := fun a b h1 h2 => by rw [pm_ne h2, q3 a h1]
  have g0 : (mup M1 12 17 2 0) 0 = M1 0 := by rw [pm_g (by decide)]
  refine ⟨mup M1 12 17 2 0, ?_, ⟨?_, ⟨x1, by decide, ?_, ?_, fun k hk => absurd hk (Nat.not_lt_zero _)⟩, ?_⟩⟩
  · unfold f_L_restore f_X11_restore f_X4_clear
    rw [hs.1, if_neg (show ¬ nI 1 = 0 by decide), e3, mbnd_eq, mlet_eq, mbnd_eq, g0, show M1 0 1 0 = nI (β 0) from q1.1.1, mcat_r]
  · rw [g0]; exact q1
  · rw [mup_at, if_neg (by decide), q3 12 (by decide)]; exact x3
  · rw [mup_at, if_pos (by decide)]; rfl
  · rw [go 12 26 (by decide) (by decide)]; exact hF
theorem SV.keep {M1 : Mem} (h : SV M β) (k : Kp M M1) : SV M1 β := ⟨by rw [k.2 16 (by decide)]; exact h.1, by rw [k.1 10 (by decide)]; exact h.2⟩
/-- going back over j changes -/
theorem v_back {Y : Nat → Int64} {S : Nat → Sp} (kk : Mem → Option (Int32 × Mem)) : ∀ j f t nx M x8, j < f → j ≤ t → t < 60 → RZ M (S t) (fun k => S (t - j + k)) j nx → (0 < j → x8 = nI (t - 1)) → (∀ i, i ≤ t → Inv H (S i)) → (∀ i, i ≤ t → Y i = sumV (S i)) → SV M β →
    ∃ M1 nx1, f_L_isKept_L29 Y f (nI j) x8 M kk = kk M1 ∧ RZ M1 (S (t - j)) (fun k => S k) 0 nx1 ∧ SV M1 β := by
  intro j
  induction j with
  | zero =>
    intro f t nx M x8 hf ht ht2 hz hx hi hY hs
    obtain ⟨f, rfl⟩ : ∃ g, f = g + 1 := ⟨f - 1, by omega⟩
    refine ⟨M, nx, ?_, RZ_cg (by rw [Nat.sub_zero]; exact hz) rfl (fun k hk => absurd hk (Nat.not_lt_zero _)), hs⟩
    rw [f_L_isKept_L29.eq_2, if_pos (show nI 0 ≤ 0 by decide)]
  | succ j ih =>
    intro f t nx M x8 hf ht ht2 hz hx hi hY hs
    obtain ⟨f, rfl⟩ : ∃ g, f = g + 1 := ⟨f - 1, by omega⟩
    obtain ⟨M1, e1, z1, s1⟩ := v_undo hz (hi (t - (j + 1) + j) (by omega))
    have z2 : RZ M1 (S (t - 1)) (fun k => S (t - 1 - j + k)) j ((nx + 9 - 1) % 9) := by
      have := RZ_cg (αh' := fun k => S (t - 1 - j + k)) z1 rfl (fun k hk => by
        show S (t - (j + 1) + k) = S (t - 1 - j + k)
        rw [show t - (j + 1) + k = t - 1 - j + k by omega])
      have e : S (t - (j + 1) + j) = S (t - 1) := congrArg S (by omega)
      rw [e] at this
      exact this
    obtain ⟨M2, nx2, e2, z3, s3⟩ := ih f (t - 1) _ M1 (nI (t - 1) + (-1)) (by omega) (by omega) (by omega) z2 (fun h => by
      rw [show (-1 : Int32) = -nI 1 from rfl, ← Int32.sub_eq_add_neg, nI_subE (by omega)]) (fun i h => hi i (by omega)) (fun i h => hY i (by omega)) (s1 _ hs)
    refine ⟨M2, nx2, ?_, by rw [show t - (j + 1) = t - 1 - j by omega]; exact z3, s3⟩
    have hx := hx (by omega)
    subst hx
    have ej : nI (j + 1) + (-1) = nI j := by
      rw [show (-1 : Int32) = -nI 1 from rfl, ← Int32.sub_eq_add_neg, nI_subE (by omega), Nat.add_sub_cancel]
    rw [f_L_isKept_L29.eq_2, if_neg (show ¬ nI (j + 1) ≤ 0 by rw [show (0 : Int32) = nI 0 from rfl, nI_leE (by omega) (by decide)]; omega), ej, mlet_eq, e1, mbnd_eq, if_pos rfl, v_sum z2.1 (hi (t - 1) (by omega)), mbp_eq]
    unfold mix
    rw [nI_nat (by omega), if_neg ?_, hY (t - 1) (by omega), lg_self, if_pos (show nI 0 = 0 from rfl), mlet_eq]
    · exact e2
    · rw [show (0 : Int32) = nI 0 from rfl, nI_ltE (by omega) (by decide)]
      omega
theorem v_isKept {made : Nat} {Y : Nat → Int64} {sec : Int32} {S : Nat → Sp} (h : LR 54 made M Y sec S nx) : ∃ M1, f_L_isKept Y (nI made) M = some (nI 1, M1) := by
  obtain ⟨hmn, hz, hSi, h2, hd, hs, hY⟩ := h
  have hi := hSi made (Nat.le_refl _)
  obtain ⟨M2, e2, z2, s2⟩ := v_save hz hi
  have eK : (if nI made < (8 : Int32) then nI made else (8 : Int32)) = nI (KK made) := by
    unfold KK
    rw [show (8 : Int32) = nI 8 from rfl]
    by_cases q : made < 8
    · rw [if_pos q, if_pos (by rw [nI_ltE (by omega) (by decide)]; exact q)]
    · rw [if_neg q, if_neg (by rw [nI_ltE (by omega) (by decide)]; exact q)]
  have lK : KK made ≤ 8 ∧ KK made ≤ made := by unfold KK; split <;> omega
  have back := fun kk => v_back (H := 312 * 54) (Y := Y) (S := S) (β := S made) kk (KK made) 9 made nx M2 (nI made - 1) (by omega) lK.2 (by omega) z2 (fun h => by rw [show (1 : Int32) = nI 1 from rfl, nI_subE (by omega)]) hSi hY s2
  obtain ⟨M19, nx19, eb, z19, s19⟩ := back (fun M19 => (mbnd (f_L_undo M19) fun r20 M21 => (if r20 = (-79 : Int32) then (mbnd (f_L_restore M21) fun r23 M24 => (if r23 = nI (S made 0) then (mbp (f_L_sum M24) fun r26 => (mix (nI made) 70 (if (lg_cmp r26 (Y (nI made).toNatClampNeg)) = 0 then (mbnd (f_L_undo M24) fun r28 M29 => (if r28 = (-79 : Int32) then (some ((1 : Int32), M29)) else (some ((0 : Int32), M29)))) else (some ((0 : Int32), M24))))) else (some ((0 : Int32), M24)))) else (some ((0 : Int32), M21)))))
  obtain ⟨M24, e24, z24⟩ := v_restore z19 s19 hi
  refine ⟨M24, ?_⟩
  unfold f_L_isKept
  rw [e2, mbnd_eq, eK, mlet_eq, g_undoCount z2, mbp_eq, if_pos rfl, mlet_eq]
  refine eb.trans ?_
  rw [v_undo0 z19, mbnd_eq, if_pos (show -nI 79 = (-79 : Int32) from rfl), e24, mbnd_eq, if_pos rfl, v_sum z24.1 hi, mbp_eq]
  unfold mix
  rw [nI_nat (by omega), if_neg ?_, hY made (Nat.le_refl _), lg_self, if_pos (show nI 0 = 0 from rfl), v_undo0 z24, mbnd_eq, if_pos (show -nI 79 = (-79 : Int32) from rfl)]
  · rfl
  · rw [show (0 : Int32) = nI 0 from rfl, nI_ltE (by omega) (by decide)]
    omega
end KEPT
theorem z0_R : RZ mFresh (fun _ => 0) (fun _ _ => 0) 0 0 := by
  refine ⟨⟨?_, ?_, ?_, ?_⟩, ⟨by decide, by decide, fr_0 (by decide), fr_0 (by decide), fun k h => absurd h (Nat.not_lt_zero _)⟩, fr_0 (by decide)⟩
  · exact ⟨fr_g (by decide), fr_g (by decide), fr_g (by decide), fr_g (by decide), fun k _ => fr_g (by decide), fun k _ => fr_g (by decide), fun k _ h => absurd h (Nat.not_lt_zero k)⟩
  · exact ⟨fr_g (by decide), fr_g (by decide), fr_g (by decide), fr_g (by decide)⟩
  · exact ⟨fr_g (by decide), fr_g (by decide), fr_g (by decide), fun k _ => fr_g (by decide), fun k _ => fr_g (by decide), fun k _ h => absurd h (Nat.not_lt_zero k), fun k _ => ⟨0, by omega, fr_g (by decide)⟩⟩
  · exact ⟨fr_g (by decide), fun k _ h => absurd h (Nat.not_lt_zero k), fun k _ => ⟨0, by omega, fr_g (by decide)⟩⟩
/-- the law answers true -/
theorem v_law {xl : Nat} {xs : Nat → Int32} (hxl : xl < 2147483648) (Y : Nat → Int64) : f_L_law xl xs (mFresh, Y) = some 1 := by
  have hi : Inv 0 (fun _ => 0) := by
    unfold Inv
    simp
  have hI2 : In2 0 (fun _ => 0) := ⟨fun k hk => absurd hk (Nat.not_lt_zero _), fun h => absurd h (by decide), Nat.le_refl _⟩
  have hDG : DG (fun _ => 0) := fun h => by cases h
  have h0 : LR 0 0 mFresh (updL Y 0 (sumV (fun _ => 0))) (-1) (fun _ _ => 0) 0 := by
    refine ⟨Nat.le_refl _, RZ_cg z0_R rfl (fun k hk => absurd hk (Nat.not_lt_zero _)), fun j hj => hi, hI2, hDG, fun h => absurd h (by decide), fun j hj => ?_⟩
    obtain rfl : j = 0 := by omega
    exact if_pos rfl
  unfold f_L_law
  show mbp (f_L_sum mFresh) _ = _
  rw [v_sum z0_R.1 hi, mbp_eq]
  unfold mix
  rw [if_neg (by decide), mlet_eq]
  obtain ⟨made, M1, Y1, sec1, S1, nx1, e, h1⟩ := v_rounds (xl := xl) (xs := xs) hxl (fun x232 M233 => (mbnd (f_L_isKept M233.2 x232 M233.1) fun r234 M235 => (mnz r234 (some r234)))) 54 0 0 0 mFresh _ (-1) _ (by decide) h0
  refine Eq.trans (b := _) ?_ (e.trans ?_)
  · rfl
  · obtain ⟨M2, e2⟩ := v_isKept h1
    show mbnd (f_L_isKept Y1 (nI made) M1) _ = _
    rw [e2, mbnd_eq]
    unfold mnz
    rw [if_pos (show nI 1 = 0 ∨ nI 1 = 1 from Or.inr rfl)]
    rfl
