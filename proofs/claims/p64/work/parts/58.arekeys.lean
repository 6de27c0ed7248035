/-! THE LAW'S LOOK AT THE KEYS -/
theorem or_all : ∀ y : Fin 256, ∀ h : Fin 8, nI y.val ||| nI (2 ^ h.val) = nI (y.val ||| 2 ^ h.val) ∧ (y.val ||| 2 ^ h.val) < 256 ∧ (y.val.testBit h.val = false → pop (y.val ||| 2 ^ h.val) = pop y.val + 1) := by decide +kernel
theorem pl_some {α : Sp} {i : Nat} (hi : i < α 9) : (pl α (ky α i)).isSome = true := by
  cases e : pl α (ky α i) with
  | none => exact absurd rfl (pl_no e i hi)
  | some k => rfl
section MLETK
variable {α β : Type}
theorem mlet_k {F : α → Option β} {K : (α → Option β) → Option β} {v : α} {R : Option β} (h : ∀ k, K k = k v) (h2 : F v = R) : mlet F K = R := (h F).trans h2
theorem mlet_k2 {γ : Type} {F : α → γ → Option β} {K : (α → γ → Option β) → Option β} {v : α} {m : γ} {R : Option β} (h : ∀ k, K k = k v m) (h2 : F v m = R) : mlet F K = R := (h F).trans h2
end MLETK
section AREKEYS
variable {M : Mem} {α : Sp} {H : Nat}
/-- the holders seen among the first presented keys, as bits -/
def sn (α : Sp) : Nat → Nat
  | 0 => 0
  | k + 1 => sn α k ||| 2 ^ ky α k
theorem sn_s {α : Sp} {k : Nat} : sn α (k + 1) = sn α k ||| 2 ^ ky α k := Eq.trans rfl rfl
theorem sn_p (hi : Inv H α) : ∀ x, x ≤ α 9 → sn α x < 256 ∧ pop (sn α x) = x ∧ (∀ k, k < 8 → (sn α x).testBit k = true → ∃ i, i < x ∧ ky α i = k) := by
  have b0 := hi.1.1
  have bn := hi.2.2.2.2.2.1
  intro x
  induction x with
  | zero => intro _; exact ⟨by show 0 < 256; decide, by show pop 0 = 0; decide +kernel, fun k _ h => by rw [show sn α 0 = 0 from rfl, Nat.zero_testBit] at h; cases h⟩
  | succ x ih =>
    intro hx
    obtain ⟨h2, h3, h4⟩ := ih (by omega)
    have kl := ky_lt hi (k := x) (by omega)
    have kl8 : ky α x < 8 := by omega
    obtain ⟨-, o2, o3⟩ := or_all ⟨sn α x, h2⟩ ⟨ky α x, kl8⟩
    have o2 : (sn α x ||| 2 ^ ky α x) < 256 := o2
    have o3 : (sn α x).testBit (ky α x) = false → pop (sn α x ||| 2 ^ ky α x) = pop (sn α x) + 1 := o3
    have hb : (sn α x).testBit (ky α x) = false := by
      cases e : (sn α x).testBit (ky α x) with
      | false => rfl
      | true =>
        obtain ⟨i, q1, q2⟩ := h4 _ kl8 e
        exact absurd q2 (bn i x q1 (by omega))
    rw [sn_s]
    refine ⟨o2, by rw [o3 hb, h3], fun k hk hk2 => ?_⟩
    rw [Nat.testBit_or, Nat.testBit_two_pow, Bool.or_eq_true] at hk2
    rcases hk2 with q | q
    · obtain ⟨i, q1, q2⟩ := h4 k hk q
      exact ⟨i, by omega, q2⟩
    · exact ⟨x, by omega, of_decide_eq_true q⟩
theorem k_L20 (hR : RC (M 0) α) (hi : Inv H α) (kk : Int32 → Int32 → Option (Int32 × Mem)) : f_L_areKeys_L20 M (nI (α 9)) 9 (nI 0) (nI 0) (nI 0) kk = kk (nI (sn α (α 9))) (nI (rtA α)) := by
  have b0 := hi.1.1
  have b9 := hi.1.2.2.2.2.2.2.2.2.2.1
  have b1 := hi.1.2.1
  have i1 := hi.2.1
  have h := mloop (F := fun n x (s : Int32 × Int32) (kk : Int32 × Int32 → Option (Int32 × Mem)) => f_L_areKeys_L20 M (nI (α 9)) n s.1 s.2 x (fun a b => kk (a, b))) (c := α 9) (fun x => (nI (sn α x), nI (cnt (okK α) x))) (fun m x kk hx => by
    show f_L_areKeys_L20 M (nI (α 9)) (m + 1) (nI (sn α x)) (nI (cnt (okK α) x)) (nI x) (fun a b => kk (a, b)) = f_L_areKeys_L20 M (nI (α 9)) m (nI (sn α (x + 1))) (nI (cnt (okK α) (x + 1))) (nI (x + 1)) (fun a b => kk (a, b))
    have kl := ky_lt hi hx
    have a1 : f_L_presentedAt (nI x) M = some (nI (ky α x)) := by
      have := v_presentedAt hR hi (p := x) (by omega)
      rw [if_pos hx] at this
      exact this
    have a2 : f_L_isCorrect (nI (ky α x)) M = some (nI (okK α x).toNat) := by
      have := v_isCorrect hR hi kl
      rw [if_pos (by omega)] at this
      exact this
    have a3 := v_isPresented hR hi kl
    rw [pl_some hx] at a3
    have a4 : nI 1 <<< (nI (ky α x) &&& nI 31) = nI (2 ^ ky α x) := nI_shl1 (by omega)
    obtain ⟨o1, -⟩ := or_all ⟨sn α x, (sn_p hi x (by omega)).1⟩ ⟨ky α x, by omega⟩
    have o1 : nI (sn α x) ||| nI (2 ^ ky α x) = nI (sn α x ||| 2 ^ ky α x) := o1
    rw [f_L_areKeys_L20.eq_2, cnt_s, sn_s]
    simp (disch := omega) only [lit_17, lit_18, lit_19, lit_21, lit_22, lit_25, lit_26, lit_28, lit_29, lit_38, lit_42, lit_46, lit_50, lit_54, lit_70, lit_74, lit_75, lit_76, lit_77, lit_78, lit_79, lit_40503, mcatp_l, mcatp_r, eq_self, lit_0, lit_1, lit_2, lit_3, lit_4, lit_5, lit_6, lit_7, lit_8, lit_9, lit_10, lit_11, lit_12, lit_13, lit_14, lit_15, lit_16, lit_20, lit_23, lit_24, lit_31, lit_32, lit_39, lit_43, lit_45, lit_47, lit_48, lit_56, lit_57, lit_59, lit_60, lit_62, lit_63, lit_89, lit_92, lit_96, lit_97, lit_99, lit_100, lit_102, lit_103, lit_104, lit_110, lit_111, lit_115, lit_117, lit_194, lit_200, lit_644, lit_736, lit_999, lit_1000, lit_9999, lit_10000, lit_1000000000, ↓wp_mlet, ↓wp_mbp, ↓wp_ite, ↓wp_mix, ↓wp_mdiv, ↓wp_mnz, ↓wp_some, ↓wp_mbnd, ↓mlet_eq, ↓mbp_eq, ↓mbnd_eq, ↓mix_ite, ↓mdiv_ite, ↓mnz_ite, nI_add, nI_mul, nI_nat, nI_ltE, nI_leE, nI_eqE, nI_eqN, nI_Neq, nI_Nlt, nI_Nle, nI_ltN, nI_leN, ↓reduceIte, ↓Nat.reduceEqDiff, and_f, nt_e, nt_t, nl_t, nl_f, ne_t, ne_f, and_self, or_self, or_true, true_or, or_false, false_or, if_true, if_false, and_true, true_and, and_false, false_and, not_true, not_false_iff, a1, a2, a3, a4, o1, Bool.toNat_true]) (fun m kk => by
    show f_L_areKeys_L20 M (nI (α 9)) (m + 1) (nI (sn α (α 9))) (nI (cnt (okK α) (α 9))) (nI (α 9)) (fun a b => kk (a, b)) = _
    rw [f_L_areKeys_L20.eq_2]
    simp (disch := omega) only [lit_17, lit_18, lit_19, lit_21, lit_22, lit_25, lit_26, lit_28, lit_29, lit_38, lit_42, lit_46, lit_50, lit_54, lit_70, lit_74, lit_75, lit_76, lit_77, lit_78, lit_79, lit_40503, mcatp_l, mcatp_r, eq_self, lit_0, lit_1, lit_2, lit_3, lit_4, lit_5, lit_6, lit_7, lit_8, lit_9, lit_10, lit_11, lit_12, lit_13, lit_14, lit_15, lit_16, lit_20, lit_23, lit_24, lit_31, lit_32, lit_39, lit_43, lit_45, lit_47, lit_48, lit_56, lit_57, lit_59, lit_60, lit_62, lit_63, lit_89, lit_92, lit_96, lit_97, lit_99, lit_100, lit_102, lit_103, lit_104, lit_110, lit_111, lit_115, lit_117, lit_194, lit_200, lit_644, lit_736, lit_999, lit_1000, lit_9999, lit_10000, lit_1000000000, ↓wp_mlet, ↓wp_mbp, ↓wp_ite, ↓wp_mix, ↓wp_mdiv, ↓wp_mnz, ↓wp_some, ↓wp_mbnd, ↓mlet_eq, ↓mbp_eq, ↓mbnd_eq, ↓mix_ite, ↓mdiv_ite, ↓mnz_ite, nI_add, nI_mul, nI_nat, nI_ltE, nI_leE, nI_eqE, nI_eqN, nI_Neq, nI_Nlt, nI_Nle, nI_ltN, nI_leN, ↓reduceIte, ↓Nat.reduceEqDiff, and_f, nt_e, nt_t, nl_t, nl_f, ne_t, ne_f, and_self, or_self, or_true, true_or, or_false, false_or, if_true, if_false, and_true, true_and, and_false, false_and, not_true, not_false_iff]) (α 9) 9 0 (fun p => kk p.1 p.2) (by omega) (by omega)
  exact h
def okF (α : Sp) (k : Nat) : Bool := okK α k && decide (k < α 5)
def onK (α : Sp) (k : Nat) : Bool := onC (α 5) (sh α) (ky α) (ky α k)
theorem k_L180 (hR : RC (M 0) α) (hi : Inv H α) (he : en α) (kk : Int32 → Int32 → Option (Int32 × Mem)) : f_L_areKeys_L180 M (nI (α 9)) (nI (α 5)) 9 (nI 0) (nI 0) (nI 0) kk = kk (nI (cnt (onK α) (α 9))) (nI (cnt (okF α) (α 9))) := by
  obtain ⟨hT, hTn, hn⟩ := T_le hi he
  have b0 := hi.1.1
  have bs := hi.2.2.2.1
  have h := mloop (F := fun n x (s : Int32 × Int32) (kk : Int32 × Int32 → Option (Int32 × Mem)) => f_L_areKeys_L180 M (nI (α 9)) (nI (α 5)) n s.1 s.2 x (fun a b => kk (a, b))) (c := α 9) (fun x => (nI (cnt (onK α) x), nI (cnt (okF α) x))) (fun m x kk hx => by
    show f_L_areKeys_L180 M (nI (α 9)) (nI (α 5)) (m + 1) (nI (cnt (onK α) x)) (nI (cnt (okF α) x)) (nI x) (fun a b => kk (a, b)) = f_L_areKeys_L180 M (nI (α 9)) (nI (α 5)) m (nI (cnt (onK α) (x + 1))) (nI (cnt (okF α) (x + 1))) (nI (x + 1)) (fun a b => kk (a, b))
    have kl := ky_lt hi hx
    have a1 : f_L_presentedAt (nI x) M = some (nI (ky α x)) := by
      have := v_presentedAt hR hi (p := x) (by omega)
      rw [if_pos hx] at this
      exact this
    have a2 : f_L_isCorrect (nI (ky α x)) M = some (nI (okK α x).toNat) := by
      have := v_isCorrect hR hi kl
      rw [if_pos he.1] at this
      exact this
    have a3 : f_L_toldValue (nI (ky α x + 1)) M = some (nI (thr (α 5) (sh α) (ky α) (ky α x + 1))) := (v_toldValue hR hi (by omega)).1 he
    have a4 : f_L_share (nI (ky α x)) M = some (nI (α (15 + ky α x))) := by
      have := v_share hR hi kl
      rw [if_pos he.1] at this
      exact this
    have l1 := bs (ky α x) (by omega)
    have l2 := thr_lt (T := α 5) (s := sh α) (t := ky α) (x := ky α x + 1)
    have a5 : (nI (thr (α 5) (sh α) (ky α) (ky α x + 1)) = nI (α (15 + ky α x))) = (onK α x = true) := by
      rw [nI_eqE (by omega) (by omega)]
      exact onC_t.symm
    have hf : x < α 5 → onK α x = true := fun h => onC_self hT (ky_tu hi hTn) (sh_le hi) h
    rw [f_L_areKeys_L180.eq_2, cnt_s, cnt_s]
    have eF : okF α x = (okK α x && decide (x < α 5)) := rfl
    rw [eF]
    generalize thr (α 5) (sh α) (ky α) (ky α x + 1) = v at a3 a5 l2
    generalize cnt (onK α) x = c1
    generalize cnt (okF α) x = c2
    by_cases q : x < α 5
    · rw [hf q] at a5 ⊢
      rw [decide_eq_true q, Bool.and_true]
      simp (disch := omega) only [lit_17, lit_18, lit_19, lit_21, lit_22, lit_25, lit_26, lit_28, lit_29, lit_38, lit_42, lit_46, lit_50, lit_54, lit_70, lit_74, lit_75, lit_76, lit_77, lit_78, lit_79, lit_40503, mcatp_l, mcatp_r, eq_self, lit_0, lit_1, lit_2, lit_3, lit_4, lit_5, lit_6, lit_7, lit_8, lit_9, lit_10, lit_11, lit_12, lit_13, lit_14, lit_15, lit_16, lit_20, lit_23, lit_24, lit_31, lit_32, lit_39, lit_43, lit_45, lit_47, lit_48, lit_56, lit_57, lit_59, lit_60, lit_62, lit_63, lit_89, lit_92, lit_96, lit_97, lit_99, lit_100, lit_102, lit_103, lit_104, lit_110, lit_111, lit_115, lit_117, lit_194, lit_200, lit_644, lit_736, lit_999, lit_1000, lit_9999, lit_10000, lit_1000000000, ↓wp_mlet, ↓wp_mbp, ↓wp_ite, ↓wp_mix, ↓wp_mdiv, ↓wp_mnz, ↓wp_some, ↓wp_mbnd, ↓mlet_eq, ↓mbp_eq, ↓mbnd_eq, ↓mix_ite, ↓mdiv_ite, ↓mnz_ite, nI_add, nI_mul, nI_nat, nI_ltE, nI_leE, nI_eqE, nI_eqN, nI_Neq, nI_Nlt, nI_Nle, nI_ltN, nI_leN, ↓reduceIte, ↓Nat.reduceEqDiff, and_f, nt_e, nt_t, nl_t, nl_f, ne_t, ne_f, and_self, or_self, or_true, true_or, or_false, false_or, if_true, if_false, and_true, true_and, and_false, false_and, not_true, not_false_iff, a1, a2, a3, a4, a5, Bool.toNat_true]
    · rw [decide_eq_false q, Bool.and_false]
      cases q2 : onK α x with
      | true =>
        rw [q2] at a5
        simp (disch := omega) only [lit_17, lit_18, lit_19, lit_21, lit_22, lit_25, lit_26, lit_28, lit_29, lit_38, lit_42, lit_46, lit_50, lit_54, lit_70, lit_74, lit_75, lit_76, lit_77, lit_78, lit_79, lit_40503, mcatp_l, mcatp_r, eq_self, lit_0, lit_1, lit_2, lit_3, lit_4, lit_5, lit_6, lit_7, lit_8, lit_9, lit_10, lit_11, lit_12, lit_13, lit_14, lit_15, lit_16, lit_20, lit_23, lit_24, lit_31, lit_32, lit_39, lit_43, lit_45, lit_47, lit_48, lit_56, lit_57, lit_59, lit_60, lit_62, lit_63, lit_89, lit_92, lit_96, lit_97, lit_99, lit_100, lit_102, lit_103, lit_104, lit_110, lit_111, lit_115, lit_117, lit_194, lit_200, lit_644, lit_736, lit_999, lit_1000, lit_9999, lit_10000, lit_1000000000, ↓wp_mlet, ↓wp_mbp, ↓wp_ite, ↓wp_mix, ↓wp_mdiv, ↓wp_mnz, ↓wp_some, ↓wp_mbnd, ↓mlet_eq, ↓mbp_eq, ↓mbnd_eq, ↓mix_ite, ↓mdiv_ite, ↓mnz_ite, nI_add, nI_mul, nI_nat, nI_ltE, nI_leE, nI_eqE, nI_eqN, nI_Neq, nI_Nlt, nI_Nle, nI_ltN, nI_leN, ↓reduceIte, ↓Nat.reduceEqDiff, and_f, nt_e, nt_t, nl_t, nl_f, ne_t, ne_f, and_self, or_self, or_true, true_or, or_false, false_or, if_true, if_false, and_true, true_and, and_false, false_and, not_true, not_false_iff, toNat_0, Bool.false_and, Bool.true_and, Bool.and_false, Bool.and_true, Bool.false_eq_true, reduceCtorEq, Bool.true_eq_false, Bool.not_true, Bool.not_false, a1, a2, a3, a4, a5, Bool.toNat_true, Bool.toNat_false]
      | false =>
        rw [q2] at a5
        simp (disch := omega) only [lit_17, lit_18, lit_19, lit_21, lit_22, lit_25, lit_26, lit_28, lit_29, lit_38, lit_42, lit_46, lit_50, lit_54, lit_70, lit_74, lit_75, lit_76, lit_77, lit_78, lit_79, lit_40503, mcatp_l, mcatp_r, eq_self, lit_0, lit_1, lit_2, lit_3, lit_4, lit_5, lit_6, lit_7, lit_8, lit_9, lit_10, lit_11, lit_12, lit_13, lit_14, lit_15, lit_16, lit_20, lit_23, lit_24, lit_31, lit_32, lit_39, lit_43, lit_45, lit_47, lit_48, lit_56, lit_57, lit_59, lit_60, lit_62, lit_63, lit_89, lit_92, lit_96, lit_97, lit_99, lit_100, lit_102, lit_103, lit_104, lit_110, lit_111, lit_115, lit_117, lit_194, lit_200, lit_644, lit_736, lit_999, lit_1000, lit_9999, lit_10000, lit_1000000000, ↓wp_mlet, ↓wp_mbp, ↓wp_ite, ↓wp_mix, ↓wp_mdiv, ↓wp_mnz, ↓wp_some, ↓wp_mbnd, ↓mlet_eq, ↓mbp_eq, ↓mbnd_eq, ↓mix_ite, ↓mdiv_ite, ↓mnz_ite, nI_add, nI_mul, nI_nat, nI_ltE, nI_leE, nI_eqE, nI_eqN, nI_Neq, nI_Nlt, nI_Nle, nI_ltN, nI_leN, ↓reduceIte, ↓Nat.reduceEqDiff, and_f, nt_e, nt_t, nl_t, nl_f, ne_t, ne_f, and_self, or_self, or_true, true_or, or_false, false_or, if_true, if_false, and_true, true_and, and_false, false_and, not_true, not_false_iff, toNat_0, Bool.false_and, Bool.true_and, Bool.and_false, Bool.and_true, Bool.false_eq_true, reduceCtorEq, Bool.true_eq_false, Bool.not_true, Bool.not_false, a1, a2, a3, a4, a5, Bool.toNat_true, Bool.toNat_false]) (fun m kk => by
    show f_L_areKeys_L180 M (nI (α 9)) (nI (α 5)) (m + 1) (nI (cnt (onK α) (α 9))) (nI (cnt (okF α) (α 9))) (nI (α 9)) (fun a b => kk (a, b)) = _
    rw [f_L_areKeys_L180.eq_2]
    simp (disch := omega) only [lit_17, lit_18, lit_19, lit_21, lit_22, lit_25, lit_26, lit_28, lit_29, lit_38, lit_42, lit_46, lit_50, lit_54, lit_70, lit_74, lit_75, lit_76, lit_77, lit_78, lit_79, lit_40503, mcatp_l, mcatp_r, eq_self, lit_0, lit_1, lit_2, lit_3, lit_4, lit_5, lit_6, lit_7, lit_8, lit_9, lit_10, lit_11, lit_12, lit_13, lit_14, lit_15, lit_16, lit_20, lit_23, lit_24, lit_31, lit_32, lit_39, lit_43, lit_45, lit_47, lit_48, lit_56, lit_57, lit_59, lit_60, lit_62, lit_63, lit_89, lit_92, lit_96, lit_97, lit_99, lit_100, lit_102, lit_103, lit_104, lit_110, lit_111, lit_115, lit_117, lit_194, lit_200, lit_644, lit_736, lit_999, lit_1000, lit_9999, lit_10000, lit_1000000000, ↓wp_mlet, ↓wp_mbp, ↓wp_ite, ↓wp_mix, ↓wp_mdiv, ↓wp_mnz, ↓wp_some, ↓wp_mbnd, ↓mlet_eq, ↓mbp_eq, ↓mbnd_eq, ↓mix_ite, ↓mdiv_ite, ↓mnz_ite, nI_add, nI_mul, nI_nat, nI_ltE, nI_leE, nI_eqE, nI_eqN, nI_Neq, nI_Nlt, nI_Nle, nI_ltN, nI_leN, ↓reduceIte, ↓Nat.reduceEqDiff, and_f, nt_e, nt_t, nl_t, nl_f, ne_t, ne_f, and_self, or_self, or_true, true_or, or_false, false_or, if_true, if_false, and_true, true_and, and_false, false_and, not_true, not_false_iff]) (α 9) 9 0 (fun p => kk p.1 p.2) (by omega) (by omega)
  exact h
theorem first_all (hi : Inv H α) (he : en α) (h : α 5 ≤ cnt (okF α) (α 9)) : ∀ k, k < α 5 → okK α k = true := by
  obtain ⟨hT, hTn, hn⟩ := T_le hi he
  have h1 : cnt (okF α) (α 9) = cnt (okF α) (α 5) := cnt_tail hTn (fun k h1 _ => by show (okK α k && decide (k < α 5)) = false; rw [decide_eq_false (by omega), Bool.and_false])
  have h2 : cnt (okF α) (α 5) = cnt (okK α) (α 5) := cnt_cg (α 5) (fun k hk => by show (okK α k && decide (k < α 5)) = _; rw [decide_eq_true hk, Bool.and_true])
  have h3 := cnt_le (P := okK α) (α 5)
  exact (cnt_all (α 5)).mp (by omega)
/-- the keys are as the law wants them -/
theorem v_areKeys (hR : RC (M 0) α) (hi : Inv H α) (hd : DG α) {x : Nat} (hx : x < 97) {sec : Int32} (hs : α 1 = 1 → sec = nI (α 2)) : ∃ M1, f_L_areKeys (nI x) sec M = some (nI 1, M1) ∧ Kp M M1 := by
  have b0 := hi.1.1
  have b1 := hi.1.2.1
  have b5 := hi.1.2.2.2.2.2.1
  have b9 := hi.1.2.2.2.2.2.2.2.2.2.1
  have i1 := hi.2.1
  have a1 := v_threshold hR hi
  have a2 := v_presentedAt hR hi (Nat.le_refl (α 9))
  rw [if_neg (Nat.lt_irrefl _)] at a2
  have g0 := g_presentedCount hR
  have kl0 := k_L20 hR hi
  obtain ⟨z1, z2, -⟩ := sn_p hi (α 9) (Nat.le_refl _)
  have zp := pop_I (M := M) z1
  rw [z2] at zp
  unfold f_L_areKeys
  by_cases he : en α
  · obtain ⟨hT, hTn, hn⟩ := T_le hi he
    obtain ⟨M1, e1, k1⟩ := (v_mostAgreeing hR hi).1 he
    have hR1 := k1.R hR
    obtain ⟨M2, e2, k2⟩ := (v_toldElim hR1 hi).1 he
    have hR2 := k2.R hR1
    have e0 := (v_toldSecret hR hi).1 he
    have e3 := (v_toldValue hR2 hi (x := 0) (by decide)).1 he
    have e4 := (v_doAgree hR2 hi).1 he
    obtain ⟨M3, e5, k3⟩ := (v_mostAgreeingBySets hR2 hi).1 he
    have f0 := (v_toldValue hR2 hi hx).1 he
    have f1 := (v_toldValue hR2 hi (x := (x + 1) % 97) (by omega)).1 he
    have f2 := (v_toldValue hR2 hi (x := (x + 2) % 97) (by omega)).1 he
    have f3 := (v_toldValue hR2 hi (x := (x + 3) % 97) (by omega)).1 he
    obtain ⟨d1, d2, d3⟩ := thr_dif (s := sh α) (t := ky α) (x := x) hT rfl rfl rfl rfl
    have l0 := thr_lt (T := α 5) (s := sh α) (t := ky α) (x := 0)
    have m1 := most_ge hi he
    have m2 := most_on hi he
    have m3 := most_rt hi he hd
    have m4 := most_le (α := α)
    have m5 := most_all hi he
    have m6 := one_on (α := α)
    have m7 := on_le (α := α)
    have m8 : α 5 ≤ cnt (okF α) (α 9) → nI (thr (α 5) (sh α) (ky α) 0) = sec := fun h => by
      rw [hs he.1, told_is hi he hd (first_all hi he h)]
    have m9 : cnt (okF α) (α 9) ≤ α 9 := cnt_le _
    have kl := k_L180 hR hi he
    have hon : cnt (onK α) (α 9) = onA α := rfl
    rw [hon] at kl
    have hrt : rtA α ≤ α 9 := cnt_le _
    refine ⟨M3, ?_, k1.trans (k2.trans k3)⟩
    rw [if_pos he.1] at a1
    have g1 : mrem (nI x + nI 1) (nI 97) = nI ((x + 1) % 97) := by rw [nI_add, nI_rem (by omega) (by decide)]
    have g2 : mrem (nI x + nI 2) (nI 97) = nI ((x + 2) % 97) := by rw [nI_add, nI_rem (by omega) (by decide)]
    have g3 : mrem (nI x + nI 3) (nI 97) = nI ((x + 3) % 97) := by rw [nI_add, nI_rem (by omega) (by decide)]
    generalize mostA α = most at e1 e5 m1 m2 m3 m4 m5
    generalize onA α = on at m2 m5 m6 m7 kl
    generalize rtA α = rt at m3 hrt kl0
    generalize sn α (α 9) = sn9 at zp kl0
    generalize cnt (okF α) (α 9) = fst at m8 m9 kl
    generalize thr (α 5) (sh α) (ky α) 0 = v0 at e0 e2 e3 l0 m8
    generalize thr (α 5) (sh α) (ky α) x = va at f0 d1 d2 d3
    generalize thr (α 5) (sh α) (ky α) ((x + 1) % 97) = vb at f1 d1 d2 d3
    generalize thr (α 5) (sh α) (ky α) ((x + 2) % 97) = vc at f2 d1 d2 d3
    generalize thr (α 5) (sh α) (ky α) ((x + 3) % 97) = vd at f3 d1 d2 d3
    generalize one (α 5) (sh α) (ky α) (α 9) = oB at e4 m6
    have hz : ∃ z, (∀ k : Int32 → Option (Int32 × Mem), (if nI (α 5) = nI 1 then k (nI vb - nI va) else if nI (α 5) = nI 2 then k (nI vc - nI 2 * nI vb + nI va) else k (nI vd - nI 3 * nI vc + nI 3 * nI vb - nI va)) = k z) ∧ mrem z (nI 97) = nI 0 := by
      rcases (show α 5 = 1 ∨ α 5 = 2 ∨ α 5 = 3 by omega) with q5 | q5 | q5
      · exact ⟨_, fun k => by rw [if_pos (by rw [q5])], d1 q5⟩
      · exact ⟨_, fun k => by rw [if_neg (by rw [q5]; decide), if_pos (by rw [q5])], d2 q5⟩
      · exact ⟨_, fun k => by rw [if_neg (by rw [q5]; decide), if_neg (by rw [q5]; decide)], d3 q5⟩
    obtain ⟨z, hz1, hz2⟩ := hz
    have ho1 : ∀ k : Int32 → Option (Int32 × Mem), (if nI on = nI (α 9) then k (nI 1) else k (nI 0)) = k (nI oB.toNat) := fun k => by
      cases ho : oB with
      | true => rw [if_pos (by rw [m6.mp ho])]; rfl
      | false => rw [if_neg (by rw [nI_eqE (by omega) (by omega)]; intro h; have := m6.mpr h; rw [ho] at this; cases this)]; rfl
    have ho2 : ∀ k : Int32 → Option (Int32 × Mem), (if nI most = nI (α 9) then k (nI 1) else k (nI 0)) = k (nI oB.toNat) := fun k => by
      cases ho : oB with
      | true => rw [if_pos (by rw [m5.mpr (m6.mp ho)])]; rfl
      | false => rw [if_neg (by rw [nI_eqE (by omega) (by omega)]; intro h; have := m6.mpr (m5.mp h); rw [ho] at this; cases this)]; rfl
    have ho3 : ∀ k : Int32 → Option (Int32 × Mem), (if nI oB.toNat = nI 1 then k (nI 1) else k (nI 0)) = k (nI oB.toNat) := fun k => by
      cases oB with
      | true => exact if_pos rfl
      | false => exact if_neg (by decide)
    simp only [lit_0, lit_1, lit_2, lit_3, lit_4, lit_5, lit_6, lit_7, lit_8, lit_9, lit_10, lit_11, lit_12, lit_13, lit_14, lit_15, lit_16, lit_20, lit_23, lit_24, lit_31, lit_32, lit_39, lit_43, lit_45, lit_47, lit_48, lit_56, lit_57, lit_59, lit_60, lit_62, lit_63, lit_89, lit_92, lit_96, lit_97, lit_99, lit_100, lit_102, lit_103, lit_104, lit_110, lit_111, lit_115, lit_117, lit_194, lit_200, lit_644, lit_736, lit_999, lit_1000, lit_9999, lit_10000, lit_1000000000, lit_75]
    rw [g0, mbp_eq, a1, mbp_eq, kl0, zp, mbp_eq, if_pos rfl, a2, mbp_eq, if_pos rfl, mlet_eq, if_neg (by rw [nI_ltE (by omega) (by decide)]; omega), if_pos (by rw [nI_leE (by omega) (by omega)]; exact hTn), e0, mbp_eq, kl, e1, mbnd_eq]
    refine mlet_k2 (v := nI 1) (m := M2) (fun k => ?_) ?_
    · rw [mlet_eq, if_neg (by rw [nI_ltE (by omega) (by decide)]; omega), if_neg (by rw [nI_leE (by decide) (by omega)]; omega), e2, mbnd_eq, if_pos rfl, e3, mbp_eq, if_pos rfl]
      refine mlet_k (v := ()) (fun k => ?_) ?_
      · by_cases qf : fst < α 5
        · rw [if_pos (by rw [nI_ltE (by omega) (by omega)]; exact qf)]
        · rw [if_neg (by rw [nI_ltE (by omega) (by omega)]; exact qf), if_pos (m8 (by omega))]
      rw [e4, mbp_eq]
      refine mlet_k ho3 ?_
      refine mlet_k ho1 ?_
      rw [if_pos rfl]
      refine mlet_k ho2 ?_
      refine mlet_k ho1 ?_
      exact if_pos rfl
    rw [f0, mbp_eq, g1, f1, mbp_eq, g2, f2, mbp_eq, g3, f3, mbp_eq]
    refine mlet_k hz1 ?_
    rw [if_neg (by decide), if_pos hz2, e5, mbnd_eq, if_pos rfl, if_neg (by rw [nI_ltE (by omega) (by omega)]; omega), if_neg (by rw [nI_ltE (by omega) (by omega)]; omega), if_neg (by rw [nI_ltE (by omega) (by omega)]; omega), if_neg (by rw [nI_ltE (by omega) (by omega)]; omega)]
  · have t0 := (v_toldSecret hR hi).2 he
    have t1 := (v_toldElim hR hi).2 he
    have t2 := (v_toldValue hR hi hx).2 he
    have t3 := (v_doAgree hR hi).2 he
    have t4 := (v_mostAgreeing hR hi).2 he
    have t5 := (v_mostAgreeingBySets hR hi).2 he
    refine ⟨M, ?_, Kp.rf⟩
    generalize rtA α = rt at kl0
    generalize sn α (α 9) = sn9 at zp kl0
    simp only [lit_0, lit_1, lit_2, lit_3, lit_4, lit_5, lit_6, lit_7, lit_8, lit_9, lit_10, lit_11, lit_12, lit_13, lit_14, lit_15, lit_16, lit_20, lit_23, lit_24, lit_31, lit_32, lit_39, lit_43, lit_45, lit_47, lit_48, lit_56, lit_57, lit_59, lit_60, lit_62, lit_63, lit_89, lit_92, lit_96, lit_97, lit_99, lit_100, lit_102, lit_103, lit_104, lit_110, lit_111, lit_115, lit_117, lit_194, lit_200, lit_644, lit_736, lit_999, lit_1000, lit_9999, lit_10000, lit_1000000000, lit_75]
    rw [g0, mbp_eq, a1, mbp_eq, kl0, zp, mbp_eq, if_pos rfl, a2, mbp_eq, if_pos rfl]
    refine mlet_k (v := ()) (fun k => ?_) ?_
    · by_cases q1 : α 1 = 1
      · have q5 : ¬ α 5 ≤ α 9 := fun h => he ⟨q1, h⟩
        rw [if_pos q1, if_neg (by rw [nI_ltE (by omega) (by decide)]; omega), if_neg (by rw [nI_leE (by omega) (by omega)]; exact q5)]
      · rw [if_neg q1, if_pos (by decide)]
    rw [t0, mbp_eq, if_pos rfl, t1, mbnd_eq, if_pos rfl, t2, mbp_eq, if_pos rfl, t3, mbp_eq, if_pos rfl, t4, mbnd_eq, if_pos rfl, t5, mbnd_eq, if_pos rfl]
end AREKEYS
