theorem m_readsGuard {M0 M : Mem} {tx : Nat → Nat} {L c p : Nat} (h : Mst M0 M tx L c (r0 p z0)) : wp (f_X12_readsGuard M) fun _ M1 => Mst M0 M1 tx L c (num tx L 1 (dir tx L (num tx L 1 (lit tx L (mTx.getD 0 []) (r0 p z0))))) := by
  obtain ⟨⟨⟩, M2, e2, h2⟩ := m_num' (k := 1) (m := 1) 0 (by decide) (by decide) (by decide) h (fun _ => rfl)
  have hc2 : (num tx L 1 (lit tx L (mTx.getD 0 []) (r0 p z0))).1 = true → (num tx L 1 (lit tx L (mTx.getD 0 []) (r0 p z0))).2.2.1 = 1 := fun q => by
    rw [(num_ok q).2, lit_cnt]
    rfl
  generalize num tx L 1 (lit tx L (mTx.getD 0 []) (r0 p z0)) = s at h2 hc2
  obtain ⟨M3, h3, k3⟩ := m_dirPart h2 hc2
  obtain ⟨⟨⟩, M4, e4, h4⟩ := m_num' (k := 3) (m := 1) 1 (by decide) (by decide) (by decide) h3 (fun q => by
    obtain ⟨q1, q2⟩ := dir_ok q
    rw [q2, hc2 q1])
  have e1 : mTx.getD 1 [] = [] := rfl
  rw [e1, lit_nil] at h4
  unfold f_X12_readsGuard
  have e2' : f_X12_number 0 1 1 M = some ((), M2) := e2
  have e4' : f_X12_number 1 3 1 M3 = some ((), M4) := e4
  rw [e2', mbnd_eq, k3, e4', mbnd_eq, wp_some]
  exact h4
theorem m_readsSeal {M0 M : Mem} {tx : Nat → Nat} {L c p : Nat} (h : Mst M0 M tx L c (r0 p z0)) : wp (f_X12_readsSeal M) fun _ M1 => Mst M0 M1 tx L c (num tx L 2 (lit tx L [32] (num tx L 2 (lit tx L [32] (num tx L 2 (lit tx L [32] (num tx L 2 (lit tx L (mTx.getD 2 []) (r0 p z0))))))))) := by
  obtain ⟨⟨⟩, M2, e2, h2⟩ := m_num' (k := 1) (m := 2) 2 (by decide) (by decide) (by decide) h (fun _ => rfl)
  have hc2 : (num tx L 2 (lit tx L (mTx.getD 2 []) (r0 p z0))).1 = true → (num tx L 2 (lit tx L (mTx.getD 2 []) (r0 p z0))).2.2.1 = 1 := fun q => by
    rw [(num_ok q).2, lit_cnt]
    rfl
  generalize num tx L 2 (lit tx L (mTx.getD 2 []) (r0 p z0)) = s at h2 hc2
  have nx : ∀ {r : Rdr} {k : Nat}, (r.1 = true → r.2.2.1 = k) → ((num tx L 2 (lit tx L [32] r)).1 = true → (num tx L 2 (lit tx L [32] r)).2.2.1 = k + 1) := fun hh q => by
    obtain ⟨q1, q2⟩ := num_ok q
    rw [q2, lit_cnt, hh (lit_ok1 q1)]
  have e1 : mTx.getD 3 [] = [32] := rfl
  obtain ⟨⟨⟩, M3, e3, h3⟩ := m_num' (k := 2) (m := 2) 3 (by decide) (by decide) (by decide) h2 (fun q => by rw [hc2 q])
  rw [e1] at h3
  have hc3 := nx hc2
  obtain ⟨⟨⟩, M4, e4, h4⟩ := m_num' (k := 3) (m := 2) 3 (by decide) (by decide) (by decide) h3 (fun q => by rw [hc3 q])
  rw [e1] at h4
  have hc4 := nx hc3
  obtain ⟨⟨⟩, M5, e5, h5⟩ := m_num' (k := 4) (m := 2) 3 (by decide) (by decide) (by decide) h4 (fun q => by rw [hc4 q])
  rw [e1] at h5
  unfold f_X12_readsSeal
  generalize hN : (1000 : Nat) = N
  obtain ⟨n, hn⟩ : ∃ n, N = n + 1 + 1 + 1 + 1 := ⟨N - 4, by omega⟩
  have e2' : f_X12_number 2 1 2 M = some ((), M2) := e2
  rw [e2', mbnd_eq, hn]
  have l2 : (2 : Int32) = nI 2 := rfl
  have st : ∀ m k (MA MB : Mem), k < 5 → f_X12_number 3 (nI k) (nI 2) MA = some ((), MB) → ∀ kk, f_X12_readsSeal_L10 (m + 1) (nI k) MA kk = f_X12_readsSeal_L10 m (nI (k + 1)) MB kk := by
    intro m k MA MB hk e kk
    rw [f_X12_readsSeal_L10.eq_2]
    simp (disch := omega) only [lit_0, lit_1, lit_2, lit_3, lit_4, lit_5, lit_6, lit_7, lit_8, lit_9, lit_10, lit_11, lit_12, lit_13, lit_14, lit_15, lit_16, lit_20, lit_23, lit_24, lit_31, lit_32, lit_39, lit_43, lit_45, lit_47, lit_48, lit_56, lit_57, lit_59, lit_60, lit_62, lit_63, lit_89, lit_92, lit_96, lit_97, lit_99, lit_100, lit_102, lit_103, lit_104, lit_110, lit_111, lit_115, lit_117, lit_194, lit_200, lit_644, lit_736, lit_999, lit_1000, lit_9999, lit_10000, lit_1000000000, ↓wp_mlet, ↓wp_mbp, ↓wp_ite, ↓wp_mix, ↓wp_mdiv, ↓wp_mnz, ↓wp_some, ↓wp_mbnd, ↓mlet_eq, ↓mbp_eq, ↓mbnd_eq, ↓mix_ite, ↓mdiv_ite, ↓mnz_ite, nI_add, nI_mul, nI_nat, nI_ltE, nI_leE, nI_eqE, nI_eqN, nI_Neq, nI_Nlt, nI_Nle, nI_ltN, nI_leN, ↓reduceIte, ↓Nat.reduceEqDiff, and_f, nt_e, nt_t, nl_t, nl_f, ne_t, ne_f, and_self, or_self, or_true, true_or, or_false, false_or, if_true, if_false, and_true, true_and, and_false, false_and, not_true, not_false_iff, e]
  rw [l2, st _ 2 M2 M3 (by decide) e3, st _ 3 M3 M4 (by decide) e4, st _ 4 M4 M5 (by decide) e5, f_X12_readsSeal_L10.eq_2, if_pos (show (5 : Int32) ≤ nI (4 + 1) by decide), wp_some]
  exact h5
theorem Mst_told {M0 M : Mem} {tx : Nat → Nat} {L c k : Nat} {r : Rdr} {v : Int32} (h : Mst M0 M tx L c r) (hk : 1 ≤ k ∧ k < 6) (hc : r.1 = true → r.2.2.1 < k) : Mst M0 (mup M 12 54 (6 * c + k) v) tx L c r := by
  obtain ⟨⟨h1, h2, h3⟩, ⟨h4, h5, h6⟩, ⟨h7, h8⟩, h9, h10⟩ := h
  refine ⟨⟨h1, ?_, fun i hi => ?_⟩, ⟨?_, ?_, ?_⟩, ⟨h7, h8⟩, fun hr j hj => ?_, fun a b k' hab => ?_⟩
  · rw [mup_at, if_neg (by omega)]; exact h2
  · rw [mup_at, if_neg (by omega)]; exact h3 i hi
  · rw [mup_at, if_neg (by omega)]; exact h4
  · rw [mup_at, if_neg (by omega)]; exact h5
  · rw [mup_at, if_neg (by omega)]; exact h6
  · have := hc hr
    rw [mup_at, if_neg (by omega)]; exact h9 hr j hj
  · rw [mup_at, if_neg (by omega)]; exact h10 a b k' hab
theorem m_readsWait {M0 M : Mem} {tx : Nat → Nat} {L c p : Nat} (h : Mst M0 M tx L c (r0 p z0)) : wp (f_X12_readsWait M) fun _ M1 => Mst M0 M1 tx L c (if (lit tx L (mTx.getD 4 []) (r0 p z0)).1 = true then frmS tx L [63, 32, 110] (lit tx L (mTx.getD 4 []) (r0 p z0)) else lit tx L (mTx.getD 4 []) (r0 p z0)) := by
  obtain ⟨⟨⟩, M2, e2, h2⟩ := m_says' 4 (by decide) h
  have hc2 : (lit tx L (mTx.getD 4 []) (r0 p z0)).2.2 = (0, z0) := lit_cnt
  have c15 := h.2.2.1.2
  unfold f_X12_readsWait
  generalize lit tx L (mTx.getD 4 []) (r0 p z0) = s at h2 hc2
  have hcz : s.2.2.1 = 0 := by rw [hc2]
  have e21 := h2.2.1.2.1
  have h3 : Mst M0 (mup M2 12 54 (6 * c + 1) (nI 1)) tx L c s := Mst_told h2 (by decide) (fun _ => by omega)
  have x22 : (mup M2 12 54 (6 * c + 1) (nI 1)) 12 47 22 = nI (!s.1).toNat := h3.2.1.2.2
  by_cases q : s.1 = true
  · rw [if_pos q, frm_c, if_pos rfl]
    rw [q] at x22
    have x22' : (mup M2 12 54 (6 * c + 1) (nI 1)) 12 47 22 = nI 0 := x22
    have eh : f_X12_here (nI 0) (mup M2 12 54 (6 * c + 1) (nI 1)) = some (pk tx L s.2.1) := m_here (j := 0) h3 (by decide)
    have e32 := pk_at (tx := tx) (L := L) (p := s.2.1) (c := 32) (fun i hi => (h2.1.2.2 i hi).2) (by decide)
    by_cases q2 : isAt tx L s.2.1 32 = true
    · have ep : pk tx L s.2.1 = nI 32 := by rw [e32]; exact q2
      obtain ⟨⟨⟩, M4, e4, h4⟩ := m_num' (k := 1) (m := 2) 3 (by decide) (by decide) (by decide) h3 (fun _ => by rw [hcz])
      have e1 : mTx.getD 3 [] = [32] := rfl
      rw [e1] at h4
      rw [if_pos q2, frmS_chain _ _ (by decide), chain_c, chain_c, op32, op110]
      simp (disch := omega) only [lit_0, lit_1, lit_2, lit_3, lit_4, lit_5, lit_6, lit_7, lit_8, lit_9, lit_10, lit_11, lit_12, lit_13, lit_14, lit_15, lit_16, lit_20, lit_23, lit_24, lit_31, lit_32, lit_39, lit_43, lit_45, lit_47, lit_48, lit_56, lit_57, lit_59, lit_60, lit_62, lit_63, lit_89, lit_92, lit_96, lit_97, lit_99, lit_100, lit_102, lit_103, lit_104, lit_110, lit_111, lit_115, lit_117, lit_194, lit_200, lit_644, lit_736, lit_999, lit_1000, lit_9999, lit_10000, lit_1000000000, ↓wp_mlet, ↓wp_mbp, ↓wp_ite, ↓wp_mix, ↓wp_mdiv, ↓wp_mnz, ↓wp_some, ↓wp_mbnd, ↓mlet_eq, ↓mbp_eq, ↓mbnd_eq, ↓mix_ite, ↓mdiv_ite, ↓mnz_ite, nI_add, nI_mul, nI_nat, nI_ltE, nI_leE, nI_eqE, nI_eqN, nI_Neq, nI_Nlt, nI_Nle, nI_ltN, nI_leN, ↓reduceIte, ↓Nat.reduceEqDiff, and_f, nt_e, nt_t, nl_t, nl_f, ne_t, ne_f, and_self, or_self, or_true, true_or, or_false, false_or, if_true, if_false, and_true, true_and, and_false, false_and, not_true, not_false_iff, e2, e21, x22', eh, ep, e4]
      exact h4
    · have ep : ¬ pk tx L s.2.1 = nI 32 := by rw [e32]; exact q2
      have f32 := eq_false ep
      rw [if_neg q2]
      simp (disch := omega) only [lit_0, lit_1, lit_2, lit_3, lit_4, lit_5, lit_6, lit_7, lit_8, lit_9, lit_10, lit_11, lit_12, lit_13, lit_14, lit_15, lit_16, lit_20, lit_23, lit_24, lit_31, lit_32, lit_39, lit_43, lit_45, lit_47, lit_48, lit_56, lit_57, lit_59, lit_60, lit_62, lit_63, lit_89, lit_92, lit_96, lit_97, lit_99, lit_100, lit_102, lit_103, lit_104, lit_110, lit_111, lit_115, lit_117, lit_194, lit_200, lit_644, lit_736, lit_999, lit_1000, lit_9999, lit_10000, lit_1000000000, ↓wp_mlet, ↓wp_mbp, ↓wp_ite, ↓wp_mix, ↓wp_mdiv, ↓wp_mnz, ↓wp_some, ↓wp_mbnd, ↓mlet_eq, ↓mbp_eq, ↓mbnd_eq, ↓mix_ite, ↓mdiv_ite, ↓mnz_ite, nI_add, nI_mul, nI_nat, nI_ltE, nI_leE, nI_eqE, nI_eqN, nI_Neq, nI_Nlt, nI_Nle, nI_ltN, nI_leN, ↓reduceIte, ↓Nat.reduceEqDiff, and_f, nt_e, nt_t, nl_t, nl_f, ne_t, ne_f, and_self, or_self, or_true, true_or, or_false, false_or, if_true, if_false, and_true, true_and, and_false, false_and, not_true, not_false_iff, e2, e21, x22', eh, f32]
      obtain ⟨⟨t1, t2, t3⟩, ⟨t4, t5, t6⟩, ⟨t7, t8⟩, t9, t10⟩ := h3
      refine ⟨⟨t1, t2, t3⟩, ⟨t4, t5, t6⟩, ⟨t7, t8⟩, fun _ j hj => ?_, t10⟩
      have hj' : j < s.2.2.1 + 1 := hj
      obtain rfl : j = 0 := by omega
      show _ = nI (if 0 = s.2.2.1 then 1 else s.2.2.2 0)
      rw [if_pos hcz.symm, mup_at, if_pos (by omega)]
  · rw [if_neg q]
    have q' : s.1 = false := by simpa using q
    rw [q'] at x22
    have x22' : (mup M2 12 54 (6 * c + 1) (nI 1)) 12 47 22 = nI 1 := x22
    simp (disch := omega) only [lit_0, lit_1, lit_2, lit_3, lit_4, lit_5, lit_6, lit_7, lit_8, lit_9, lit_10, lit_11, lit_12, lit_13, lit_14, lit_15, lit_16, lit_20, lit_23, lit_24, lit_31, lit_32, lit_39, lit_43, lit_45, lit_47, lit_48, lit_56, lit_57, lit_59, lit_60, lit_62, lit_63, lit_89, lit_92, lit_96, lit_97, lit_99, lit_100, lit_102, lit_103, lit_104, lit_110, lit_111, lit_115, lit_117, lit_194, lit_200, lit_644, lit_736, lit_999, lit_1000, lit_9999, lit_10000, lit_1000000000, ↓wp_mlet, ↓wp_mbp, ↓wp_ite, ↓wp_mix, ↓wp_mdiv, ↓wp_mnz, ↓wp_some, ↓wp_mbnd, ↓mlet_eq, ↓mbp_eq, ↓mbnd_eq, ↓mix_ite, ↓mdiv_ite, ↓mnz_ite, nI_add, nI_mul, nI_nat, nI_ltE, nI_leE, nI_eqE, nI_eqN, nI_Neq, nI_Nlt, nI_Nle, nI_ltN, nI_leN, ↓reduceIte, ↓Nat.reduceEqDiff, and_f, nt_e, nt_t, nl_t, nl_f, ne_t, ne_f, and_self, or_self, or_true, true_or, or_false, false_or, if_true, if_false, and_true, true_and, and_false, false_and, not_true, not_false_iff, e2, e21, x22']
    exact h3
def codeW (w : Nat) : Nat := if w = 0 then 104 else if w = 1 then 115 else if w = 2 then 215 else if w = 3 then 103 else if w = 4 then 98 else if w = 5 then 111 else if w = 6 then 99 else if w = 7 then 203 else if w = 8 then 116 else if w = 9 then 204 else 119
/-- what the model has of command c -/
def RecM (M : Mem) (tx : Nat → Nat) (L p c : Nat) : Prop := ∃ w, wsel tx L p = some w ∧ w < 11 ∧ M 12 54 (6 * c) = nI (codeW w) ∧ ∀ j, j < (cmdS tx L p z0).2.2.1 → M 12 54 (6 * c + 1 + j) = nI ((cmdS tx L p z0).2.2.2 j)
def TxM (M : Mem) (tx : Nat → Nat) (L : Nat) : Prop := L ≤ 60 ∧ M 12 47 20 = nI L ∧ ∀ i, i < L → M 12 53 i = nI (tx i) ∧ tx i < 65536
def ROm (M M1 : Mem) (tx : Nat → Nat) (L p c : Nat) : Prop := TxM M1 tx L ∧ (M1 12 47 19 = nI (cmdS tx L p z0).2.1 ∧ M1 12 47 21 = nI (c + 1) ∧ M1 12 47 22 = nI (!(cmdS tx L p z0).1).toNat) ∧ (cmdS tx L p z0).2.1 ≤ L ∧ ((cmdS tx L p z0).1 = true → RecM M1 tx L p c) ∧ ∀ a b k, ¬ (a = 12 ∧ (b = 47 ∧ (k = 19 ∨ k = 21 ∨ k = 22) ∨ b = 54 ∧ 6 * c ≤ k ∧ k < 6 * c + 6)) → M1 a b k = M a b k
theorem ro_end {M M1 : Mem} {tx : Nat → Nat} {L p c w : Nat} {r : Rdr} (hw : wsel tx L p = some w) (hr : cmdS tx L p z0 = r) (h : Mst (mup M 12 54 (6 * c) (nI (codeW w))) M1 tx L c r) : ROm M (mup M1 12 47 21 (nI (c + 1))) tx L p c := by
  subst hr
  obtain ⟨⟨h1, h2, h3⟩, ⟨h4, h5, h6⟩, ⟨h7, h8⟩, h9, h10⟩ := h
  refine ⟨⟨h1, ?_, fun i hi => ?_⟩, ⟨?_, ?_, ?_⟩, h7, fun hh => ⟨w, hw, (rwS_sel.1 w hw).1, ?_, fun j hj => ?_⟩, fun a b k hab => ?_⟩
  · rw [mup_at, if_neg (by decide)]; exact h2
  · rw [mup_at, if_neg (by omega)]; exact h3 i hi
  · rw [mup_at, if_neg (by decide)]; exact h4
  · rw [mup_at, if_pos (by decide)]
  · rw [mup_at, if_neg (by decide)]; exact h6
  · rw [mup_at, if_neg (by omega), h10 12 54 _ (by omega), mup_at, if_pos (by omega)]
  · rw [mup_at, if_neg (by omega)]; exact h9 hh j hj
  · rw [mup_at, if_neg (by omega), h10 a b k (by omega), mup_at, if_neg (by omega)]
