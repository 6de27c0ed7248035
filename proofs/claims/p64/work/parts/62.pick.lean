/-! A NUMBER OF THE SCRIPT; THE TEXTS THE LAW RUNS -/
theorem shr1 (v : Int32) : ((v).toUInt32 >>> (((1 : Int32)).toUInt32 &&& Int32.toUInt32 31)).toInt32 = nI (v.toUInt32.toNat / 2) := by
  have e : ((1 : Int32)).toUInt32 &&& Int32.toUInt32 31 = 1 := by decide
  rw [e]
  have h : v.toUInt32 >>> 1 = UInt32.ofNat (v.toUInt32.toNat / 2) := by
    apply UInt32.toNat_inj.mp
    have := v.toUInt32.toNat_lt
    rw [UInt32.toNat_shiftRight, UInt32.toNat_ofNat', Nat.shiftRight_eq_div_pow]
    show v.toUInt32.toNat / 2 ^ 1 = _
    omega
  rw [h]
  rfl
theorem v_pick {xl : Nat} {xs : Nat → Int32} (hxl : xl < 2147483648) {a c : Nat} (ha : a < 2147483648) (hc : 0 < c) (hc2 : c < 2147483648) : ∃ p, p < c ∧ ∀ M : Mem, f_L_pick xl xs (nI a) (nI c) M = some (nI p) := by
  have h1 : ∃ v, ∀ M : Mem, f_L_cell xl xs (nI a) M = some v := by
    unfold f_L_cell
    rw [show Int32.ofNat xl = nI xl from rfl]
    by_cases q : xl ≤ a
    · exact ⟨_, fun M => if_pos (by rw [nI_leE (by omega) (by omega)]; exact q)⟩
    · refine ⟨xs a, fun M => ?_⟩
      rw [if_neg (by rw [nI_leE (by omega) (by omega)]; exact q)]
      simp (disch := omega) only [lit_17, lit_18, lit_19, lit_21, lit_22, lit_25, lit_26, lit_28, lit_29, lit_38, lit_42, lit_46, lit_50, lit_54, lit_70, lit_74, lit_75, lit_76, lit_77, lit_78, lit_79, lit_40503, mcatp_l, mcatp_r, eq_self, lit_0, lit_1, lit_2, lit_3, lit_4, lit_5, lit_6, lit_7, lit_8, lit_9, lit_10, lit_11, lit_12, lit_13, lit_14, lit_15, lit_16, lit_20, lit_23, lit_24, lit_31, lit_32, lit_39, lit_43, lit_45, lit_47, lit_48, lit_56, lit_57, lit_59, lit_60, lit_62, lit_63, lit_89, lit_92, lit_96, lit_97, lit_99, lit_100, lit_102, lit_103, lit_104, lit_110, lit_111, lit_115, lit_117, lit_194, lit_200, lit_644, lit_736, lit_999, lit_1000, lit_9999, lit_10000, lit_1000000000, ↓wp_mlet, ↓wp_mbp, ↓wp_ite, ↓wp_mix, ↓wp_mdiv, ↓wp_mnz, ↓wp_some, ↓wp_mbnd, ↓mlet_eq, ↓mbp_eq, ↓mbnd_eq, ↓mix_ite, ↓mdiv_ite, ↓mnz_ite, nI_add, nI_mul, nI_nat, nI_ltE, nI_leE, nI_eqE, nI_eqN, nI_Neq, nI_Nlt, nI_Nle, nI_ltN, nI_leN, ↓reduceIte, ↓Nat.reduceEqDiff, and_f, nt_e, nt_t, nl_t, nl_f, ne_t, ne_f, and_self, or_self, or_true, true_or, or_false, false_or, if_true, if_false, and_true, true_and, and_false, false_and, not_true, not_false_iff]
  obtain ⟨v, hv⟩ := h1
  have l := v.toUInt32.toNat_lt
  refine ⟨v.toUInt32.toNat / 2 % c, Nat.mod_lt _ hc, fun M => ?_⟩
  unfold f_L_pick
  rw [hv, mbp_eq, shr1]
  unfold mdiv
  rw [if_neg (by rw [show (0 : Int32) = nI 0 from rfl, nI_eqE (by omega) (by decide)]; omega), nI_rem (by omega) (by omega)]
def okT (L : List Nat) : Bool := if (prS (fun i => L.getD i 0) L.length 13 0).1 = true then (List.range (prS (fun i => L.getD i 0) L.length 13 0).2.2).all (fun k => decide (wAt (fun i => L.getD i 0) L.length k ≠ 1)) else true
set_option maxRecDepth 100000 in
theorem okT_1 : ∀ a : Fin 8, ∀ b : Fin 9, okT (dText a.val (1 + b.val) dClose) = true ∧ okT (dText a.val (1 + b.val) [59]) = true := by decide +kernel
set_option maxRecDepth 100000 in
theorem okT_2 : ∀ a : Fin 8, ∀ b : Fin 9, ∀ d : Fin 10, okT (dText a.val (1 + b.val) (dWait d.val)) = true := by decide +kernel
set_option maxRecDepth 100000 in
theorem okT_3 : ∀ a : Fin 8, ∀ b : Fin 9, ∀ d : Fin 10, okT (dText a.val (1 + b.val) (dGive d.val)) = true := by decide +kernel
theorem okT_n {L : List Nat} (h : okT L = true) (h1 : (prS (fun i => L.getD i 0) L.length 13 0).1 = true) {n : Nat} (hn : n = (prS (fun i => L.getD i 0) L.length 13 0).2.2) : ∀ k, k < n → wAt (fun i => L.getD i 0) L.length k ≠ 1 := by
  unfold okT at h
  rw [if_pos h1] at h
  intro k hk
  exact of_decide_eq_true (List.all_eq_true.mp h k (List.mem_range.mpr (by omega)))
theorem dLen {a b : Nat} {t : List Nat} (ht : t.length ≤ 7) : (dText a b t).length ≤ 14 := by
  show (t.length + 7) ≤ 14
  omega
theorem dBig {L : List Nat} (h : L.all (fun x => decide (x < 65536)) = true) : ∀ i, i < L.length → L.getD i 0 < 65536 := by
  intro i hi
  rw [List.getD_eq_getElem?_getD, List.getElem?_eq_getElem hi]
  exact of_decide_eq_true (List.all_eq_true.mp h _ (List.getElem_mem hi))
/-- a text of the law runs: what comes of it -/
theorem v_rText {M : Mem} {α : Sp} {αh : Nat → Sp} {K nx H : Nat} {L : List Nat} (hz : RZ M α αh K nx) (hi : Inv H α) (h2 : In2 H α) (hd : DG α) (hH : H < 799000) (hL : L.length ≤ 14) (hb : ∀ i, i < L.length → L.getD i 0 < 65536) (ho : okT L = true) :
    ∃ r M1, rText L M = some (r, M1) ∧ ((∃ n β, 1 ≤ n ∧ n ≤ 13 ∧ r = nI n ∧ Inv (H + 312) β ∧ In2 (H + 312) β ∧ DG β ∧ (∀ j, 1 ≤ j → j ≤ 5 → β j = α j) ∧ RZ M1 β (pushH αh K α) (minK K) ((nx + 1) % 9)) ∨ ((∃ c, 71 ≤ c ∧ c ≤ 79 ∧ r = -nI c) ∧ RZ M1 α αh K nx)) := by
  obtain ⟨r, M1, e, h⟩ := z_runs (tx := fun i => L.getD i 0) hz hi (by omega) (show L.length ≤ 20 by omega) hb
  refine ⟨r, M1, e, ?_⟩
  rcases h with ⟨n, β, q1, q2, q3, q4, q5, q6, q7, q8⟩ | h
  · obtain ⟨i1, i2, i3⟩ := exS_in2 n 0 H α β hi h2 (by omega) q5
    have hk := okT_n ho q1 q2
    have hkeep := i3 (fun k hk2 => hk k (by omega))
    exact Or.inl ⟨n, β, q3, q4, q6, i1.mono (by omega), i2.mono (by omega), hd.cg hkeep, hkeep, q8⟩
  · exact Or.inr h
