/-! the zones of an hour, in the class -/
def msk (γ : Sp) : Nat → Nat
  | 0 => 0
  | x + 1 => msk γ x + (if isAl γ x then 2 ^ x else 0)
theorem msk_lt (γ : Sp) : ∀ x, msk γ x < 2 ^ x := by
  intro x
  induction x with
  | zero => exact Nat.one_pos
  | succ x ih =>
    show msk γ x + (if isAl γ x then 2 ^ x else 0) < 2 ^ (x + 1)
    rw [Nat.pow_succ]
    split <;> omega
theorem nI_or {x m : Nat} (hx : x < 8) (hm : m < 2 ^ x) : nI m ||| nI (2 ^ x) = nI (m + 2 ^ x) := by
  have h : ∀ x, x < 8 → ∀ m, m < 2 ^ x → nI m ||| nI (2 ^ x) = nI (m + 2 ^ x) := by decide +kernel
  exact h x hx m hm
theorem msk_bit (γ : Sp) {z : Nat} (hz : z < 8) : (nI (msk γ 8) >>> (nI z &&& nI 31)) &&& nI 1 = nI (isAl γ z).toNat := by
  have h : ∀ b0 b1 b2 b3 b4 b5 b6 b7 : Bool, ∀ z, z < 8 → (nI (0 + (if b0 then 2 ^ 0 else 0) + (if b1 then 2 ^ 1 else 0) + (if b2 then 2 ^ 2 else 0) + (if b3 then 2 ^ 3 else 0) + (if b4 then 2 ^ 4 else 0) + (if b5 then 2 ^ 5 else 0) + (if b6 then 2 ^ 6 else 0) + (if b7 then 2 ^ 7 else 0)) >>> (nI z &&& nI 31)) &&& nI 1 = nI (if z = 0 then b0.toNat else if z = 1 then b1.toNat else if z = 2 then b2.toNat else if z = 3 then b3.toNat else if z = 4 then b4.toNat else if z = 5 then b5.toNat else if z = 6 then b6.toNat else b7.toNat) := by decide +kernel
  have := h (isAl γ 0) (isAl γ 1) (isAl γ 2) (isAl γ 3) (isAl γ 4) (isAl γ 5) (isAl γ 6) (isAl γ 7) z hz
  refine Eq.trans this ?_
  rcases (show z = 0 ∨ z = 1 ∨ z = 2 ∨ z = 3 ∨ z = 4 ∨ z = 5 ∨ z = 6 ∨ z = 7 by omega) with rfl | rfl | rfl | rfl | rfl | rfl | rfl | rfl <;> rfl
theorem Rb_s0 {M : Mem} {γ : Sp} {g x : Nat} (hx : x < 8) (h : Rb (M g) (hz γ x)) (ha : isAl γ x = false) : Rb ((mup M g 7 x (nI (nzV γ x))) g) (hz γ (x + 1)) := by
  rw [← hz_s0 hx ha]
  obtain ⟨r0, r3, r4, r5, r6, r7, r8⟩ := h
  refine ⟨?_, ?_, ?_, fun k hk => ?_, fun k hk => ?_, fun k hk hk9 => ?_, fun k hk => ?_⟩
  · simp (disch := omega) only [mup_at, up_at, fil_at, ↓reduceIte, ↓Nat.reduceEqDiff, and_f, nt_e, nt_t, nl_t, nl_f, ne_t, ne_f, and_self, or_self, or_true, true_or, or_false, false_or, if_true, if_false, and_true, true_and, and_false, false_and, not_true, not_false_iff, r0]
  · simp (disch := omega) only [mup_at, up_at, fil_at, ↓reduceIte, ↓Nat.reduceEqDiff, and_f, nt_e, nt_t, nl_t, nl_f, ne_t, ne_f, and_self, or_self, or_true, true_or, or_false, false_or, if_true, if_false, and_true, true_and, and_false, false_and, not_true, not_false_iff, r3]
  · simp (disch := omega) only [mup_at, up_at, fil_at, ↓reduceIte, ↓Nat.reduceEqDiff, and_f, nt_e, nt_t, nl_t, nl_f, ne_t, ne_f, and_self, or_self, or_true, true_or, or_false, false_or, if_true, if_false, and_true, true_and, and_false, false_and, not_true, not_false_iff, r4]
  · by_cases q : k = x
    · subst q
      simp (disch := omega) only [mup_at, up_at, fil_at, ↓reduceIte, ↓Nat.reduceEqDiff, and_f, nt_e, nt_t, nl_t, nl_f, ne_t, ne_f, and_self, or_self, or_true, true_or, or_false, false_or, if_true, if_false, and_true, true_and, and_false, false_and, not_true, not_false_iff]
    · simp (disch := omega) only [mup_at, up_at, fil_at, ↓reduceIte, ↓Nat.reduceEqDiff, and_f, nt_e, nt_t, nl_t, nl_f, ne_t, ne_f, and_self, or_self, or_true, true_or, or_false, false_or, if_true, if_false, and_true, true_and, and_false, false_and, not_true, not_false_iff, r5 k hk]
  · simp (disch := omega) only [mup_at, up_at, fil_at, ↓reduceIte, ↓Nat.reduceEqDiff, and_f, nt_e, nt_t, nl_t, nl_f, ne_t, ne_f, and_self, or_self, or_true, true_or, or_false, false_or, if_true, if_false, and_true, true_and, and_false, false_and, not_true, not_false_iff, r6 k hk]
  · simp (disch := omega) only [mup_at, up_at, fil_at, ↓reduceIte, ↓Nat.reduceEqDiff, and_f, nt_e, nt_t, nl_t, nl_f, ne_t, ne_f, and_self, or_self, or_true, true_or, or_false, false_or, if_true, if_false, and_true, true_and, and_false, false_and, not_true, not_false_iff] at hk9
    have q := r7 k hk hk9
    refine ⟨?_, ?_, ?_⟩
    · simp (disch := omega) only [mup_at, up_at, fil_at, ↓reduceIte, ↓Nat.reduceEqDiff, and_f, nt_e, nt_t, nl_t, nl_f, ne_t, ne_f, and_self, or_self, or_true, true_or, or_false, false_or, if_true, if_false, and_true, true_and, and_false, false_and, not_true, not_false_iff, q.1]
    · simp (disch := omega) only [mup_at, up_at, fil_at, ↓reduceIte, ↓Nat.reduceEqDiff, and_f, nt_e, nt_t, nl_t, nl_f, ne_t, ne_f, and_self, or_self, or_true, true_or, or_false, false_or, if_true, if_false, and_true, true_and, and_false, false_and, not_true, not_false_iff, q.2.1]
    · simp (disch := omega) only [mup_at, up_at, fil_at, ↓reduceIte, ↓Nat.reduceEqDiff, and_f, nt_e, nt_t, nl_t, nl_f, ne_t, ne_f, and_self, or_self, or_true, true_or, or_false, false_or, if_true, if_false, and_true, true_and, and_false, false_and, not_true, not_false_iff, q.2.2]
  · obtain ⟨c, c1, c2⟩ := r8 k hk
    exact ⟨c, c1, by simp (disch := omega) only [mup_at, up_at, fil_at, ↓reduceIte, ↓Nat.reduceEqDiff, and_f, nt_e, nt_t, nl_t, nl_f, ne_t, ne_f, and_self, or_self, or_true, true_or, or_false, false_or, if_true, if_false, and_true, true_and, and_false, false_and, not_true, not_false_iff, c2]⟩
theorem Rb_s1 {M : Mem} {γ : Sp} {g x : Nat} (hx : x < 8) (h : Rb (M g) (hz γ x)) (ha : isAl γ x = true) : Rb ((mup (mup (mup M g 7 x (nI (nzV γ x))) g 8 x (nI (γ (39 + x) + 1))) g 6 3 (nI (γ 13 + cntA γ x + 1))) g) (hz γ (x + 1)) := by
  rw [← hz_s1 hx ha]
  obtain ⟨r0, r3, r4, r5, r6, r7, r8⟩ := h
  refine ⟨?_, ?_, ?_, fun k hk => ?_, fun k hk => ?_, fun k hk hk9 => ?_, fun k hk => ?_⟩
  · simp (disch := omega) only [mup_at, up_at, fil_at, ↓reduceIte, ↓Nat.reduceEqDiff, and_f, nt_e, nt_t, nl_t, nl_f, ne_t, ne_f, and_self, or_self, or_true, true_or, or_false, false_or, if_true, if_false, and_true, true_and, and_false, false_and, not_true, not_false_iff, r0]
  · simp (disch := omega) only [mup_at, up_at, fil_at, ↓reduceIte, ↓Nat.reduceEqDiff, and_f, nt_e, nt_t, nl_t, nl_f, ne_t, ne_f, and_self, or_self, or_true, true_or, or_false, false_or, if_true, if_false, and_true, true_and, and_false, false_and, not_true, not_false_iff, r3]
  · simp (disch := omega) only [mup_at, up_at, fil_at, ↓reduceIte, ↓Nat.reduceEqDiff, and_f, nt_e, nt_t, nl_t, nl_f, ne_t, ne_f, and_self, or_self, or_true, true_or, or_false, false_or, if_true, if_false, and_true, true_and, and_false, false_and, not_true, not_false_iff, r4]
  · by_cases q : k = x
    · subst q
      simp (disch := omega) only [mup_at, up_at, fil_at, ↓reduceIte, ↓Nat.reduceEqDiff, and_f, nt_e, nt_t, nl_t, nl_f, ne_t, ne_f, and_self, or_self, or_true, true_or, or_false, false_or, if_true, if_false, and_true, true_and, and_false, false_and, not_true, not_false_iff]
    · simp (disch := omega) only [mup_at, up_at, fil_at, ↓reduceIte, ↓Nat.reduceEqDiff, and_f, nt_e, nt_t, nl_t, nl_f, ne_t, ne_f, and_self, or_self, or_true, true_or, or_false, false_or, if_true, if_false, and_true, true_and, and_false, false_and, not_true, not_false_iff, r5 k hk]
  · by_cases q : k = x
    · subst q
      simp (disch := omega) only [mup_at, up_at, fil_at, ↓reduceIte, ↓Nat.reduceEqDiff, and_f, nt_e, nt_t, nl_t, nl_f, ne_t, ne_f, and_self, or_self, or_true, true_or, or_false, false_or, if_true, if_false, and_true, true_and, and_false, false_and, not_true, not_false_iff]
    · simp (disch := omega) only [mup_at, up_at, fil_at, ↓reduceIte, ↓Nat.reduceEqDiff, and_f, nt_e, nt_t, nl_t, nl_f, ne_t, ne_f, and_self, or_self, or_true, true_or, or_false, false_or, if_true, if_false, and_true, true_and, and_false, false_and, not_true, not_false_iff, r6 k hk]
  · simp (disch := omega) only [mup_at, up_at, fil_at, ↓reduceIte, ↓Nat.reduceEqDiff, and_f, nt_e, nt_t, nl_t, nl_f, ne_t, ne_f, and_self, or_self, or_true, true_or, or_false, false_or, if_true, if_false, and_true, true_and, and_false, false_and, not_true, not_false_iff] at hk9
    have q := r7 k hk hk9
    refine ⟨?_, ?_, ?_⟩
    · simp (disch := omega) only [mup_at, up_at, fil_at, ↓reduceIte, ↓Nat.reduceEqDiff, and_f, nt_e, nt_t, nl_t, nl_f, ne_t, ne_f, and_self, or_self, or_true, true_or, or_false, false_or, if_true, if_false, and_true, true_and, and_false, false_and, not_true, not_false_iff, q.1]
    · simp (disch := omega) only [mup_at, up_at, fil_at, ↓reduceIte, ↓Nat.reduceEqDiff, and_f, nt_e, nt_t, nl_t, nl_f, ne_t, ne_f, and_self, or_self, or_true, true_or, or_false, false_or, if_true, if_false, and_true, true_and, and_false, false_and, not_true, not_false_iff, q.2.1]
    · simp (disch := omega) only [mup_at, up_at, fil_at, ↓reduceIte, ↓Nat.reduceEqDiff, and_f, nt_e, nt_t, nl_t, nl_f, ne_t, ne_f, and_self, or_self, or_true, true_or, or_false, false_or, if_true, if_false, and_true, true_and, and_false, false_and, not_true, not_false_iff, q.2.2]
  · obtain ⟨c, c1, c2⟩ := r8 k hk
    exact ⟨c, c1, by simp (disch := omega) only [mup_at, up_at, fil_at, ↓reduceIte, ↓Nat.reduceEqDiff, and_f, nt_e, nt_t, nl_t, nl_f, ne_t, ne_f, and_self, or_self, or_true, true_or, or_false, false_or, if_true, if_false, and_true, true_and, and_false, false_and, not_true, not_false_iff, c2]⟩
theorem hz_0 (γ : Sp) : hz γ 0 = γ := by
  funext j
  rw [hz_at]
  by_cases q : j = 13
  · subst q
    rw [if_pos rfl]
    rfl
  · rw [if_neg q, if_neg (show ¬ (31 ≤ j ∧ j < 31 + 0) by omega), if_neg (show ¬ (39 ≤ j ∧ j < 39 + 0) by omega)]
theorem c_zones {M : Mem} {γ : Sp} {g N : Nat} (hN : 1000 = N) (hb : Rb (M g) γ) (hg : Gd γ) (hn : ∀ k, k < 8 → γ (31 + k) ≤ 20) (kk : Int32 → Mem → Option (Int32 × Mem)) : ∃ M1, (Rb (M1 g) (hz γ 8) ∧ (∀ i, ¬ (6 ≤ i ∧ i ≤ 8) → M1 g i = M g i) ∧ ∀ a, a ≠ g → M1 a = M a) ∧ f_X1_passOneHour_L8 g N (nI 0) (nI 0) M kk = kk (nI (msk γ 8)) M1 := by
  have key := mloopP (F := fun n x (s : Int32 × Mem) kk => f_X1_passOneHour_L8 g n s.1 x s.2 (fun a b => kk (a, b))) (c := 8) (fun x s => s.1 = nI (msk γ x) ∧ (Rb (s.2 g) (hz γ x) ∧ (∀ i, ¬ (6 ≤ i ∧ i ≤ 8) → s.2 g i = M g i) ∧ ∀ a, a ≠ g → s.2 a = M a)) (fun n x s kk hx h => ?_) (fun n s kk h => ?_) 8 N 0 (nI 0, M) (fun s => kk s.1 s.2) (by omega) (by omega) ⟨rfl, by rw [hz_0]; exact hb, fun _ _ => rfl, fun _ _ => rfl⟩
  · obtain ⟨⟨a, M1⟩, ⟨e1, e2⟩, e3⟩ := key
    have e1' : a = nI (msk γ 8) := e1
    subst e1'
    exact ⟨M1, e2, e3⟩
  · obtain ⟨a, M1⟩ := s
    obtain ⟨e1, hR, hi, hne⟩ := h
    have e1' : a = nI (msk γ x) := e1
    subst e1'
    have hR' : Rb (M1 g) (hz γ x) := hR
    have hi' : ∀ i, ¬ (6 ≤ i ∧ i ≤ 8) → M1 g i = M g i := hi
    have hne' : ∀ a, a ≠ g → M1 a = M a := hne
    obtain ⟨r0, r3, r4, r5, r6, r7, r8⟩ := id hR'
    have b10 : hz γ x 10 = γ 10 := hz_g (by omega) (by omega)
    have bg : ∀ k, k < γ 10 → hz γ x (47 + 3 * k) = γ (47 + 3 * k) := fun k hk => hz_g (by omega) (by omega)
    have ei : f_X1_hasGuardIn g (nI x) M1 = some (nI (inZ γ x).toNat) := by
      rw [c_inZ hR' (by rw [b10]; exact hg.1) (by omega) (fun k hk => by rw [b10] at hk; rw [bg k hk]; exact hg.b k hk), inZ_cg b10 bg]
    have en : f_X1_hasGuardBeside g (nI x) M1 = some (nI (nearZ γ x).toNat) := by
      rw [c_near hR' (by rw [b10]; exact hg.1) hx (fun k hk => by rw [b10] at hk; rw [bg k hk]; exact hg.b k hk), nearZ_cg b10 bg]
    have ev : M1 g 7 x = nI (γ (31 + x)) := by
      rw [r5 x hx, hz_at, if_neg (by omega), if_neg (by omega), if_neg (by omega)]
    have ea : M1 g 8 x = nI (γ (39 + x)) := by
      rw [r6 x hx, hz_at, if_neg (by omega), if_neg (by omega), if_neg (by omega)]
    have ec : M1 g 6 3 = nI (γ 13 + cntA γ x) := by
      rw [r3, hz_at, if_pos rfl]
    have hv := hn x hx
    show ∃ s' : Int32 × Mem, (s'.1 = nI (msk γ (x + 1)) ∧ (Rb (s'.2 g) (hz γ (x + 1)) ∧ (∀ i, ¬ (6 ≤ i ∧ i ≤ 8) → s'.2 g i = M g i) ∧ ∀ a, a ≠ g → s'.2 a = M a)) ∧ f_X1_passOneHour_L8 g (n + 1) (nI (msk γ x)) (nI x) M1 (fun a b => kk (a, b)) = f_X1_passOneHour_L8 g n s'.1 (nI (x + 1)) s'.2 (fun a b => kk (a, b))
    rw [f_X1_passOneHour_L8.eq_2]
    by_cases ha : isAl γ x = true
    · have hnz : nzV γ x = 0 := by unfold nzV; rw [ha]; simp
      have hal := ha
      unfold isAl at hal
      simp only [Bool.and_eq_true, Bool.not_eq_true', decide_eq_true_eq] at hal
      obtain ⟨l1, l2, l3⟩ := hal
      have hR2 := Rb_s1 hx hR' ha
      rw [hnz] at hR2
      have em : msk γ (x + 1) = msk γ x + 2 ^ x := by
        show msk γ x + (if isAl γ x then 2 ^ x else 0) = _
        rw [ha]
        rfl
      refine ⟨(nI (msk γ (x + 1)), mup (mup (mup M1 g 7 x (nI 0)) g 8 x (nI (γ (39 + x) + 1))) g 6 3 (nI (γ 13 + cntA γ x + 1))), ⟨rfl, hR2, fun i h => ?_, fun a h => ?_⟩, ?_⟩
      · show (mup (mup (mup M1 g 7 x (nI 0)) g 8 x (nI (γ (39 + x) + 1))) g 6 3 (nI (γ 13 + cntA γ x + 1))) g i = M g i
        rw [pm_ne (by omega), pm_ne (by omega), pm_ne (by omega), hi' i h]
      · show (mup (mup (mup M1 g 7 x (nI 0)) g 8 x (nI (γ (39 + x) + 1))) g 6 3 (nI (γ 13 + cntA γ x + 1))) a = M a
        rw [pm_g h, pm_g h, pm_g h, hne' a h]
      · have eo := nI_or hx (msk_lt γ x)
        simp (disch := omega) only [lit_0, lit_1, lit_2, lit_3, lit_4, lit_5, lit_6, lit_7, lit_8, lit_9, lit_10, lit_11, lit_12, lit_13, lit_14, lit_15, lit_16, lit_20, lit_23, lit_24, lit_31, lit_32, lit_39, lit_43, lit_45, lit_47, lit_48, lit_56, lit_57, lit_59, lit_60, lit_62, lit_63, lit_89, lit_92, lit_96, lit_97, lit_99, lit_100, lit_102, lit_103, lit_104, lit_110, lit_111, lit_115, lit_117, lit_194, lit_200, lit_644, lit_736, lit_999, lit_1000, lit_9999, lit_10000, lit_1000000000, ↓wp_mlet, ↓wp_mbp, ↓wp_ite, ↓wp_mix, ↓wp_mdiv, ↓wp_mnz, ↓wp_some, ↓wp_mbnd, ↓mlet_eq, ↓mbp_eq, ↓mbnd_eq, ↓mix_ite, ↓mdiv_ite, ↓mnz_ite, nI_add, nI_mul, nI_nat, nI_ltE, nI_leE, nI_eqE, nI_eqN, nI_Neq, nI_Nlt, nI_Nle, nI_ltN, nI_leN, ↓reduceIte, ↓Nat.reduceEqDiff, and_f, nt_e, nt_t, nl_t, nl_f, ne_t, ne_f, and_self, or_self, or_true, true_or, or_false, false_or, if_true, if_false, and_true, true_and, and_false, false_and, not_true, not_false_iff, mup_at, up_at, fil_at, ↓reduceIte, ↓Nat.reduceEqDiff, and_f, nt_e, nt_t, nl_t, nl_f, ne_t, ne_f, and_self, or_self, or_true, true_or, or_false, false_or, if_true, if_false, and_true, true_and, and_false, false_and, not_true, not_false_iff, ei, en, ev, ea, ec, l1, l3, Bool.toNat_false, nI_shl1, eo, em]
    · have ha' : isAl γ x = false := by simpa using ha
      have em : msk γ (x + 1) = msk γ x := by
        show msk γ x + (if isAl γ x then 2 ^ x else 0) = _
        rw [ha']
        rfl
      refine ⟨(nI (msk γ x), mup M1 g 7 x (nI (nzV γ x))), ⟨by rw [em], Rb_s0 hx hR' ha', fun i h => ?_, fun a h => ?_⟩, ?_⟩
      · show (mup M1 g 7 x (nI (nzV γ x))) g i = M g i
        rw [pm_ne (by omega), hi' i h]
      · show (mup M1 g 7 x (nI (nzV γ x))) a = M a
        rw [pm_g h, hne' a h]
      · have ha0 : isAl γ x = false := ha'
        unfold isAl at ha'
        cases hb1 : inZ γ x with
        | true =>
          have hnz : nzV γ x = 0 := by unfold nzV; rw [hb1]; simp
          rw [hnz]
          simp (disch := omega) only [lit_0, lit_1, lit_2, lit_3, lit_4, lit_5, lit_6, lit_7, lit_8, lit_9, lit_10, lit_11, lit_12, lit_13, lit_14, lit_15, lit_16, lit_20, lit_23, lit_24, lit_31, lit_32, lit_39, lit_43, lit_45, lit_47, lit_48, lit_56, lit_57, lit_59, lit_60, lit_62, lit_63, lit_89, lit_92, lit_96, lit_97, lit_99, lit_100, lit_102, lit_103, lit_104, lit_110, lit_111, lit_115, lit_117, lit_194, lit_200, lit_644, lit_736, lit_999, lit_1000, lit_9999, lit_10000, lit_1000000000, ↓wp_mlet, ↓wp_mbp, ↓wp_ite, ↓wp_mix, ↓wp_mdiv, ↓wp_mnz, ↓wp_some, ↓wp_mbnd, ↓mlet_eq, ↓mbp_eq, ↓mbnd_eq, ↓mix_ite, ↓mdiv_ite, ↓mnz_ite, nI_add, nI_mul, nI_nat, nI_ltE, nI_leE, nI_eqE, nI_eqN, nI_Neq, nI_Nlt, nI_Nle, nI_ltN, nI_leN, ↓reduceIte, ↓Nat.reduceEqDiff, and_f, nt_e, nt_t, nl_t, nl_f, ne_t, ne_f, and_self, or_self, or_true, true_or, or_false, false_or, if_true, if_false, and_true, true_and, and_false, false_and, not_true, not_false_iff, mup_at, up_at, fil_at, ↓reduceIte, ↓Nat.reduceEqDiff, and_f, nt_e, nt_t, nl_t, nl_f, ne_t, ne_f, and_self, or_self, or_true, true_or, or_false, false_or, if_true, if_false, and_true, true_and, and_false, false_and, not_true, not_false_iff, ei, ev, hb1, Bool.toNat_true]
        | false =>
          by_cases hv0 : γ (31 + x) = 0
          · have hnz : nzV γ x = 0 := by unfold nzV; rw [hv0]; simp
            have es : mup M1 g 7 x (nI 0) = M1 := mup_same (by rw [ev, hv0])
            rw [hnz, es]
            simp (disch := omega) only [lit_0, lit_1, lit_2, lit_3, lit_4, lit_5, lit_6, lit_7, lit_8, lit_9, lit_10, lit_11, lit_12, lit_13, lit_14, lit_15, lit_16, lit_20, lit_23, lit_24, lit_31, lit_32, lit_39, lit_43, lit_45, lit_47, lit_48, lit_56, lit_57, lit_59, lit_60, lit_62, lit_63, lit_89, lit_92, lit_96, lit_97, lit_99, lit_100, lit_102, lit_103, lit_104, lit_110, lit_111, lit_115, lit_117, lit_194, lit_200, lit_644, lit_736, lit_999, lit_1000, lit_9999, lit_10000, lit_1000000000, ↓wp_mlet, ↓wp_mbp, ↓wp_ite, ↓wp_mix, ↓wp_mdiv, ↓wp_mnz, ↓wp_some, ↓wp_mbnd, ↓mlet_eq, ↓mbp_eq, ↓mbnd_eq, ↓mix_ite, ↓mdiv_ite, ↓mnz_ite, nI_add, nI_mul, nI_nat, nI_ltE, nI_leE, nI_eqE, nI_eqN, nI_Neq, nI_Nlt, nI_Nle, nI_ltN, nI_leN, ↓reduceIte, ↓Nat.reduceEqDiff, and_f, nt_e, nt_t, nl_t, nl_f, ne_t, ne_f, and_self, or_self, or_true, true_or, or_false, false_or, if_true, if_false, and_true, true_and, and_false, false_and, not_true, not_false_iff, mup_at, up_at, fil_at, ↓reduceIte, ↓Nat.reduceEqDiff, and_f, nt_e, nt_t, nl_t, nl_f, ne_t, ne_f, and_self, or_self, or_true, true_or, or_false, false_or, if_true, if_false, and_true, true_and, and_false, false_and, not_true, not_false_iff, ei, ev, hb1, hv0, Bool.toNat_false]
          · have hnz : nzV γ x = γ (31 + x) - 1 := by
              unfold nzV
              rw [hb1, ha0, decide_eq_false hv0]
              rfl
            rw [hnz]
            by_cases hv5 : γ (31 + x) < 5
            · simp (disch := omega) only [lit_0, lit_1, lit_2, lit_3, lit_4, lit_5, lit_6, lit_7, lit_8, lit_9, lit_10, lit_11, lit_12, lit_13, lit_14, lit_15, lit_16, lit_20, lit_23, lit_24, lit_31, lit_32, lit_39, lit_43, lit_45, lit_47, lit_48, lit_56, lit_57, lit_59, lit_60, lit_62, lit_63, lit_89, lit_92, lit_96, lit_97, lit_99, lit_100, lit_102, lit_103, lit_104, lit_110, lit_111, lit_115, lit_117, lit_194, lit_200, lit_644, lit_736, lit_999, lit_1000, lit_9999, lit_10000, lit_1000000000, ↓wp_mlet, ↓wp_mbp, ↓wp_ite, ↓wp_mix, ↓wp_mdiv, ↓wp_mnz, ↓wp_some, ↓wp_mbnd, ↓mlet_eq, ↓mbp_eq, ↓mbnd_eq, ↓mix_ite, ↓mdiv_ite, ↓mnz_ite, nI_add, nI_mul, nI_nat, nI_ltE, nI_leE, nI_eqE, nI_eqN, nI_Neq, nI_Nlt, nI_Nle, nI_ltN, nI_leN, ↓reduceIte, ↓Nat.reduceEqDiff, and_f, nt_e, nt_t, nl_t, nl_f, ne_t, ne_f, and_self, or_self, or_true, true_or, or_false, false_or, if_true, if_false, and_true, true_and, and_false, false_and, not_true, not_false_iff, mup_at, up_at, fil_at, ↓reduceIte, ↓Nat.reduceEqDiff, and_f, nt_e, nt_t, nl_t, nl_f, ne_t, ne_f, and_self, or_self, or_true, true_or, or_false, false_or, if_true, if_false, and_true, true_and, and_false, false_and, not_true, not_false_iff, ei, ev, hb1, nI_subE, Bool.toNat_false]
            · cases hb2 : nearZ γ x with
              | true => simp (disch := omega) only [lit_0, lit_1, lit_2, lit_3, lit_4, lit_5, lit_6, lit_7, lit_8, lit_9, lit_10, lit_11, lit_12, lit_13, lit_14, lit_15, lit_16, lit_20, lit_23, lit_24, lit_31, lit_32, lit_39, lit_43, lit_45, lit_47, lit_48, lit_56, lit_57, lit_59, lit_60, lit_62, lit_63, lit_89, lit_92, lit_96, lit_97, lit_99, lit_100, lit_102, lit_103, lit_104, lit_110, lit_111, lit_115, lit_117, lit_194, lit_200, lit_644, lit_736, lit_999, lit_1000, lit_9999, lit_10000, lit_1000000000, ↓wp_mlet, ↓wp_mbp, ↓wp_ite, ↓wp_mix, ↓wp_mdiv, ↓wp_mnz, ↓wp_some, ↓wp_mbnd, ↓mlet_eq, ↓mbp_eq, ↓mbnd_eq, ↓mix_ite, ↓mdiv_ite, ↓mnz_ite, nI_add, nI_mul, nI_nat, nI_ltE, nI_leE, nI_eqE, nI_eqN, nI_Neq, nI_Nlt, nI_Nle, nI_ltN, nI_leN, ↓reduceIte, ↓Nat.reduceEqDiff, and_f, nt_e, nt_t, nl_t, nl_f, ne_t, ne_f, and_self, or_self, or_true, true_or, or_false, false_or, if_true, if_false, and_true, true_and, and_false, false_and, not_true, not_false_iff, mup_at, up_at, fil_at, ↓reduceIte, ↓Nat.reduceEqDiff, and_f, nt_e, nt_t, nl_t, nl_f, ne_t, ne_f, and_self, or_self, or_true, true_or, or_false, false_or, if_true, if_false, and_true, true_and, and_false, false_and, not_true, not_false_iff, ei, en, ev, hb1, hb2, nI_subE, Bool.toNat_false, Bool.toNat_true]
              | false =>
                exfalso
                rw [hb1, hb2, decide_eq_true (by omega)] at ha'
                cases ha'
  · obtain ⟨a, M1⟩ := s
    show f_X1_passOneHour_L8 g (n + 1) a (nI 8) M1 (fun a b => kk (a, b)) = kk (a, M1)
    rw [f_X1_passOneHour_L8.eq_2]
    simp (disch := omega) only [lit_0, lit_1, lit_2, lit_3, lit_4, lit_5, lit_6, lit_7, lit_8, lit_9, lit_10, lit_11, lit_12, lit_13, lit_14, lit_15, lit_16, lit_20, lit_23, lit_24, lit_31, lit_32, lit_39, lit_43, lit_45, lit_47, lit_48, lit_56, lit_57, lit_59, lit_60, lit_62, lit_63, lit_89, lit_92, lit_96, lit_97, lit_99, lit_100, lit_102, lit_103, lit_104, lit_110, lit_111, lit_115, lit_117, lit_194, lit_200, lit_644, lit_736, lit_999, lit_1000, lit_9999, lit_10000, lit_1000000000, ↓wp_mlet, ↓wp_mbp, ↓wp_ite, ↓wp_mix, ↓wp_mdiv, ↓wp_mnz, ↓wp_some, ↓wp_mbnd, ↓mlet_eq, ↓mbp_eq, ↓mbnd_eq, ↓mix_ite, ↓mdiv_ite, ↓mnz_ite, nI_add, nI_mul, nI_nat, nI_ltE, nI_leE, nI_eqE, nI_eqN, nI_Neq, nI_Nlt, nI_Nle, nI_ltN, nI_leN, ↓reduceIte, ↓Nat.reduceEqDiff, and_f, nt_e, nt_t, nl_t, nl_f, ne_t, ne_f, and_self, or_self, or_true, true_or, or_false, false_or, if_true, if_false, and_true, true_and, and_false, false_and, not_true, not_false_iff]
