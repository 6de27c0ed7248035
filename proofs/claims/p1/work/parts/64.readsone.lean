def chain (tx : Nat → Nat) (L : Nat) : List Int32 → Rdr → Rdr
  | [], r => r
  | c :: cs, r => chain tx L cs (opF tx L c r)
theorem chain_c {tx : Nat → Nat} {L : Nat} {c : Int32} {cs : List Int32} {r : Rdr} : chain tx L (c :: cs) r = chain tx L cs (opF tx L c r) := Eq.trans rfl rfl
theorem opF_no {tx : Nat → Nat} {L : Nat} {c : Int32} {r : Rdr} (h : ¬ r.1 = true) : opF tx L c r = r := by
  unfold opF
  rw [num_no h, num_no h, dir_no h, lit_no h]
  split <;> (try rfl)
  split <;> (try rfl)
  split <;> rfl
theorem chain_no {tx : Nat → Nat} {L : Nat} : ∀ (cs : List Int32) (r : Rdr), ¬ r.1 = true → chain tx L cs r = r
  | [], _, _ => rfl
  | c :: cs, r, h => by rw [chain_c, opF_no h]; exact chain_no cs r h
theorem frmS_chain {tx : Nat → Nat} {L : Nat} : ∀ (cs : List Int32) (r : Rdr), (∀ c, c ∈ cs → c ≠ 63) → frmS tx L cs r = chain tx L cs r
  | [], _, _ => rfl
  | c :: cs, r, h => by
    rw [frm_c, chain_c, if_neg (h c (by simp))]
    split
    · exact frmS_chain cs _ (fun c' hc' => h c' (by simp [hc']))
    · rename_i q
      rw [chain_no cs _ q]
theorem cmd_chain {tx : Nat → Nat} {L p w : Nat} (h : wsel tx L p = some w) (h63 : ∀ c, c ∈ frm w → c ≠ 63) : cmdS tx L p z0 = chain tx L (frm w) (lit tx L (ltr w) (r0 p z0)) := by
  rw [cmd_some h]
  split
  · exact frmS_chain _ _ h63
  · rename_i q
    rw [chain_no _ _ q]
theorem op32 {tx : Nat → Nat} {L : Nat} {r : Rdr} : opF tx L 32 r = lit tx L [32] r := by
  unfold opF
  rw [if_neg (by decide), if_neg (by decide), if_neg (by decide)]
theorem op100 {tx : Nat → Nat} {L : Nat} {r : Rdr} : opF tx L 100 r = num tx L 1 r := if_pos rfl
theorem op110 {tx : Nat → Nat} {L : Nat} {r : Rdr} : opF tx L 110 r = num tx L 2 r := by
  unfold opF
  rw [if_neg (by decide), if_pos rfl]
theorem op115 {tx : Nat → Nat} {L : Nat} {r : Rdr} : opF tx L 115 r = dir tx L r := by
  unfold opF
  rw [if_neg (by decide), if_neg (by decide), if_pos rfl]
theorem txt_all : ∀ t : Fin 31, mTl.getD t.val 0 = (mTx.getD t.val []).length ∧ (mTx.getD t.val []).length ≤ 8 ∧ ∀ k, k ∈ mTx.getD t.val [] → k = nI k.toNatClampNeg ∧ k.toNatClampNeg < 65536 := by decide +kernel
theorem m_num' {M0 M : Mem} {tx : Nat → Nat} {L c k m : Nat} {r : Rdr} (t : Nat) (ht : t < 31) (hm : 1 ≤ m ∧ m ≤ 2) (hk : 1 ≤ k ∧ k < 6) (h : Mst M0 M tx L c r) (hc : r.1 = true → k = r.2.2.1 + 1) : wp (f_X12_number t (nI k) (nI m) M) fun _ M1 => Mst M0 M1 tx L c (num tx L m (lit tx L (mTx.getD t []) r)) := by
  obtain ⟨a1, a2, a3⟩ := txt_all ⟨t, ht⟩
  exact m_number a1 a2 (fun k hk => ⟨_, (a3 k hk).2, (a3 k hk).1⟩) hm hk h hc
theorem m_says' {M0 M : Mem} {tx : Nat → Nat} {L c : Nat} {r : Rdr} (t : Nat) (ht : t < 31) (h : Mst M0 M tx L c r) : wp (f_X12_says t M) fun _ M1 => Mst M0 M1 tx L c (lit tx L (mTx.getD t []) r) := by
  obtain ⟨a1, a2, a3⟩ := txt_all ⟨t, ht⟩
  exact m_says a1 a2 (fun k hk => ⟨_, (a3 k hk).2, (a3 k hk).1⟩) h
theorem num_ok {tx : Nat → Nat} {L m : Nat} {r : Rdr} (h : (num tx L m r).1 = true) : r.1 = true ∧ (num tx L m r).2.2.1 = r.2.2.1 + 1 := by
  by_cases q : r.1 = true
  · refine ⟨q, ?_⟩
    unfold num at h ⊢
    rw [if_pos q] at h ⊢
    by_cases q2 : dgc tx L m r.2.1 = 0
    · rw [if_pos q2] at h; cases h
    · rw [if_neg q2]; rfl
  · rw [num_no q] at h; exact absurd h q
theorem lit_ok1 {tx : Nat → Nat} {L : Nat} {ls : List Int32} {r : Rdr} (h : (lit tx L ls r).1 = true) : r.1 = true := by
  by_cases q : r.1 = true
  · exact q
  · rw [lit_no q] at h; exact h
theorem dir_ok {tx : Nat → Nat} {L : Nat} {r : Rdr} (h : (dir tx L r).1 = true) : r.1 = true ∧ (dir tx L r).2.2.1 = r.2.2.1 + 1 := by
  by_cases q : r.1 = true
  · refine ⟨q, ?_⟩
    unfold dir at h ⊢
    rw [if_pos q] at h ⊢
    by_cases q2 : isAt tx L r.2.1 43 = true
    · rw [if_pos q2]; rfl
    · rw [if_neg q2] at h ⊢
      by_cases q3 : isAt tx L r.2.1 45 = true
      · rw [if_pos q3]; rfl
      · rw [if_neg q3] at h; cases h
  · rw [dir_no q] at h; exact absurd h q
theorem m_dirPart {M0 M : Mem} {tx : Nat → Nat} {L c : Nat} {r : Rdr} (h : Mst M0 M tx L c r) (hc : r.1 = true → r.2.2.1 = 1) : ∃ M1, Mst M0 M1 tx L c (dir tx L r) ∧ ∀ K : Mem → Option (Unit × Mem), (mlet (fun (x10 : Int32) => (mnz x10 (mlet (mup M 12 47 22 x10) fun M12 => (mlet (fun (x17 : Int32) => (mix (((6 : Int32) * (M12 12 47 21)) + (2 : Int32)) 360 (mlet (mup M12 12 54 (((6 : Int32) * (M12 12 47 21)) + (2 : Int32)).toNatClampNeg x17) fun M19 => (mlet (fun (x21 : Int32) => (mlet (mup M19 12 47 19 ((M19 12 47 19) + x21)) fun M23 => K M23)) fun k97_22 => (if (M19 12 47 22) = 0 then (k97_22 (1 : Int32)) else (k97_22 (0 : Int32))))))) fun k79_18 => (mlet (fun (_u : Unit) => (k79_18 (0 : Int32))) fun k74_16 => (if (M12 12 47 22) = 0 then (mbp (f_X12_here (0 : Int32) M12) fun r14 => (if r14 = (45 : Int32) then (k74_16 ()) else (k79_18 (1 : Int32)))) else (k74_16 ()))))))) fun k41_11 => (mlet (fun (_u : Unit) => (k41_11 (1 : Int32))) fun k36_9 => (if (M 12 47 22) = 0 then (mbp (f_X12_here (0 : Int32) M) fun r4 => (mlet (fun (_u : Unit) => (k41_11 (0 : Int32))) fun k40_8 => (if r4 = (43 : Int32) then (k40_8 ()) else (mbp (f_X12_here (0 : Int32) M) fun r6 => (if r6 = (45 : Int32) then (k40_8 ()) else (k36_9 ())))))) else (k36_9 ())))) = K M1 := by
  have h' := h
  obtain ⟨⟨t1, t2, t3⟩, ⟨t4, t5, t6⟩, ⟨t7, t8⟩, t9, t10⟩ := h'
  have x21 : ∀ w, (mup M 12 47 22 w) 12 47 21 = nI c := fun w => by rw [mup_at, if_neg (by decide)]; exact t5
  have x22 : ∀ w, (mup M 12 47 22 w) 12 47 22 = w := fun w => by rw [mup_at, if_pos (by decide)]
  have y22 : ∀ w v, (mup (mup M 12 47 22 w) 12 54 (6 * c + 2) v) 12 47 22 = w := fun w v => by rw [mup_at, if_neg (by omega)]; exact x22 w
  have y19 : ∀ w v, (mup (mup M 12 47 22 w) 12 54 (6 * c + 2) v) 12 47 19 = nI r.2.1 := fun w v => by rw [mup_at, if_neg (by omega), mup_at, if_neg (by decide)]; exact t4
  by_cases q : r.1 = true
  · rw [q] at t6
    have e22 : M 12 47 22 = nI 0 := t6
    have eh := m_here (j := 0) h (by decide)
    rw [Nat.add_zero] at eh
    have hS : Mst M0 (mup M 12 47 22 (nI 0)) tx L c r := by
      have := h.set (M1 := mup M 12 47 22 (nI 0)) (p := r.2.1) (ok := true) t7 (fun _ => q) (by rw [mup_at, if_neg (by decide)]; exact t4) (by rw [mup_at, if_pos (by decide)]; rfl) (fun a b k hab => by rw [mup_at, if_neg (by omega)])
      rw [← q] at this
      exact this
    have eh2 := m_here (j := 0) hS (by decide)
    rw [Nat.add_zero] at eh2
    have e43 := pk_at (tx := tx) (L := L) (p := r.2.1) (c := 43) (fun i hi => (t3 i hi).2) (by decide)
    have e45 := pk_at (tx := tx) (L := L) (p := r.2.1) (c := 45) (fun i hi => (t3 i hi).2) (by decide)
    have hc1 := hc q
    unfold dir
    rw [if_pos q]
    by_cases q1 : isAt tx L r.2.1 43 = true
    · have l := (isAt_lt q1).1
      have ep : pk tx L r.2.1 = nI 43 := by rw [e43]; exact q1
      rw [if_pos q1]
      rw [ep] at eh eh2
      have g1 : Mst M0 (mup (mup M 12 47 22 (nI 0)) 12 54 (6 * c + 2) (nI 1)) tx L c (pushn 1 (true, r.2)) := num_at (w := false) (k := 2) (v := 1) h (by decide) rfl rfl rfl (fun _ => ⟨q, by omega, rfl⟩)
      have g2 : Mst M0 (mup (mup (mup M 12 47 22 (nI 0)) 12 54 (6 * c + 2) (nI 1)) 12 47 19 (nI (r.2.1 + 1))) tx L c (true, r.2.1 + 1, (pushn 1 (true, r.2)).2.2) := g1.set (by omega) (fun _ => rfl) (by rw [mup_at, if_pos (by decide)]) (by rw [mup_at, if_neg (by decide)]; exact y22 _ _) (fun a b k hab => by rw [mup_at, if_neg (by omega)])
      refine ⟨_, g2, fun K => ?_⟩
      simp (disch := omega) only [lit_0, lit_1, lit_2, lit_3, lit_4, lit_5, lit_6, lit_7, lit_8, lit_9, lit_10, lit_11, lit_12, lit_13, lit_14, lit_15, lit_16, lit_20, lit_23, lit_24, lit_31, lit_32, lit_39, lit_43, lit_45, lit_47, lit_48, lit_56, lit_57, lit_59, lit_60, lit_62, lit_63, lit_89, lit_92, lit_96, lit_97, lit_99, lit_100, lit_102, lit_103, lit_104, lit_110, lit_111, lit_115, lit_117, lit_194, lit_200, lit_644, lit_736, lit_999, lit_1000, lit_9999, lit_10000, lit_1000000000, ↓wp_mlet, ↓wp_mbp, ↓wp_ite, ↓wp_mix, ↓wp_mdiv, ↓wp_mnz, ↓wp_some, ↓wp_mbnd, ↓mlet_eq, ↓mbp_eq, ↓mbnd_eq, ↓mix_ite, ↓mdiv_ite, ↓mnz_ite, nI_add, nI_mul, nI_nat, nI_ltE, nI_leE, nI_eqE, nI_eqN, nI_Neq, nI_Nlt, nI_Nle, nI_ltN, nI_leN, ↓reduceIte, ↓Nat.reduceEqDiff, and_f, nt_e, nt_t, nl_t, nl_f, ne_t, ne_f, and_self, or_self, or_true, true_or, or_false, false_or, if_true, if_false, and_true, true_and, and_false, false_and, not_true, not_false_iff, e22, eh, eh2, x21, x22, y22, y19]
    · have ep : ¬ pk tx L r.2.1 = nI 43 := by rw [e43]; exact q1
      rw [if_neg q1]
      by_cases q2 : isAt tx L r.2.1 45 = true
      · have l := (isAt_lt q2).1
        have ep2 : pk tx L r.2.1 = nI 45 := by rw [e45]; exact q2
        rw [if_pos q2]
        rw [ep2] at eh eh2
        have g1 : Mst M0 (mup (mup M 12 47 22 (nI 0)) 12 54 (6 * c + 2) (nI 0)) tx L c (pushn 0 (true, r.2)) := num_at (w := false) (k := 2) (v := 0) h (by decide) rfl rfl rfl (fun _ => ⟨q, by omega, rfl⟩)
        have g2 : Mst M0 (mup (mup (mup M 12 47 22 (nI 0)) 12 54 (6 * c + 2) (nI 0)) 12 47 19 (nI (r.2.1 + 1))) tx L c (true, r.2.1 + 1, (pushn 0 (true, r.2)).2.2) := g1.set (by omega) (fun _ => rfl) (by rw [mup_at, if_pos (by decide)]) (by rw [mup_at, if_neg (by decide)]; exact y22 _ _) (fun a b k hab => by rw [mup_at, if_neg (by omega)])
        refine ⟨_, g2, fun K => ?_⟩
        simp (disch := omega) only [lit_0, lit_1, lit_2, lit_3, lit_4, lit_5, lit_6, lit_7, lit_8, lit_9, lit_10, lit_11, lit_12, lit_13, lit_14, lit_15, lit_16, lit_20, lit_23, lit_24, lit_31, lit_32, lit_39, lit_43, lit_45, lit_47, lit_48, lit_56, lit_57, lit_59, lit_60, lit_62, lit_63, lit_89, lit_92, lit_96, lit_97, lit_99, lit_100, lit_102, lit_103, lit_104, lit_110, lit_111, lit_115, lit_117, lit_194, lit_200, lit_644, lit_736, lit_999, lit_1000, lit_9999, lit_10000, lit_1000000000, ↓wp_mlet, ↓wp_mbp, ↓wp_ite, ↓wp_mix, ↓wp_mdiv, ↓wp_mnz, ↓wp_some, ↓wp_mbnd, ↓mlet_eq, ↓mbp_eq, ↓mbnd_eq, ↓mix_ite, ↓mdiv_ite, ↓mnz_ite, nI_add, nI_mul, nI_nat, nI_ltE, nI_leE, nI_eqE, nI_eqN, nI_Neq, nI_Nlt, nI_Nle, nI_ltN, nI_leN, ↓reduceIte, ↓Nat.reduceEqDiff, and_f, nt_e, nt_t, nl_t, nl_f, ne_t, ne_f, and_self, or_self, or_true, true_or, or_false, false_or, if_true, if_false, and_true, true_and, and_false, false_and, not_true, not_false_iff, e22, eh, eh2, x21, x22, y22, y19]
      · have ep2 : ¬ pk tx L r.2.1 = nI 45 := by rw [e45]; exact q2
        rw [if_neg q2]
        have f43 := eq_false ep
        have f45 := eq_false ep2
        have g1 : Mst M0 (mup (mup M 12 47 22 (nI 1)) 12 54 (6 * c + 2) (nI 0)) tx L c (false, r.2) := num_at (w := true) (k := 2) (v := 0) h (by decide) rfl rfl rfl (fun e => (by cases e))
        have g2 : Mst M0 (mup (mup (mup M 12 47 22 (nI 1)) 12 54 (6 * c + 2) (nI 0)) 12 47 19 (nI r.2.1)) tx L c (false, r.2.1, r.2.2) := g1.set t7 (fun e => (by cases e)) (by rw [mup_at, if_pos (by decide)]) (by rw [mup_at, if_neg (by decide)]; exact y22 _ _) (fun a b k hab => by rw [mup_at, if_neg (by omega)])
        refine ⟨_, g2, fun K => ?_⟩
        simp (disch := omega) only [lit_0, lit_1, lit_2, lit_3, lit_4, lit_5, lit_6, lit_7, lit_8, lit_9, lit_10, lit_11, lit_12, lit_13, lit_14, lit_15, lit_16, lit_20, lit_23, lit_24, lit_31, lit_32, lit_39, lit_43, lit_45, lit_47, lit_48, lit_56, lit_57, lit_59, lit_60, lit_62, lit_63, lit_89, lit_92, lit_96, lit_97, lit_99, lit_100, lit_102, lit_103, lit_104, lit_110, lit_111, lit_115, lit_117, lit_194, lit_200, lit_644, lit_736, lit_999, lit_1000, lit_9999, lit_10000, lit_1000000000, ↓wp_mlet, ↓wp_mbp, ↓wp_ite, ↓wp_mix, ↓wp_mdiv, ↓wp_mnz, ↓wp_some, ↓wp_mbnd, ↓mlet_eq, ↓mbp_eq, ↓mbnd_eq, ↓mix_ite, ↓mdiv_ite, ↓mnz_ite, nI_add, nI_mul, nI_nat, nI_ltE, nI_leE, nI_eqE, nI_eqN, nI_Neq, nI_Nlt, nI_Nle, nI_ltN, nI_leN, ↓reduceIte, ↓Nat.reduceEqDiff, and_f, nt_e, nt_t, nl_t, nl_f, ne_t, ne_f, and_self, or_self, or_true, true_or, or_false, false_or, if_true, if_false, and_true, true_and, and_false, false_and, not_true, not_false_iff, e22, eh, f43, f45, x21, x22, y22, y19, Nat.add_zero]
  · have q' : r.1 = false := by simpa using q
    rw [q'] at t6
    have e22 : M 12 47 22 = nI 1 := t6
    rw [dir_no q]
    have g1 : Mst M0 (mup (mup M 12 47 22 (nI 1)) 12 54 (6 * c + 2) (nI 0)) tx L c r := num_at (w := true) (k := 2) (v := 0) h (by decide) rfl q' rfl (fun e => absurd e q)
    have g2 : Mst M0 (mup (mup (mup M 12 47 22 (nI 1)) 12 54 (6 * c + 2) (nI 0)) 12 47 19 (nI r.2.1)) tx L c (false, r.2.1, r.2.2) := g1.set t7 (fun e => (by cases e)) (by rw [mup_at, if_pos (by decide)]) (by rw [mup_at, if_neg (by decide)]; exact y22 _ _) (fun a b k hab => by rw [mup_at, if_neg (by omega)])
    rw [← q'] at g2
    refine ⟨_, g2, fun K => ?_⟩
    simp (disch := omega) only [lit_0, lit_1, lit_2, lit_3, lit_4, lit_5, lit_6, lit_7, lit_8, lit_9, lit_10, lit_11, lit_12, lit_13, lit_14, lit_15, lit_16, lit_20, lit_23, lit_24, lit_31, lit_32, lit_39, lit_43, lit_45, lit_47, lit_48, lit_56, lit_57, lit_59, lit_60, lit_62, lit_63, lit_89, lit_92, lit_96, lit_97, lit_99, lit_100, lit_102, lit_103, lit_104, lit_110, lit_111, lit_115, lit_117, lit_194, lit_200, lit_644, lit_736, lit_999, lit_1000, lit_9999, lit_10000, lit_1000000000, ↓wp_mlet, ↓wp_mbp, ↓wp_ite, ↓wp_mix, ↓wp_mdiv, ↓wp_mnz, ↓wp_some, ↓wp_mbnd, ↓mlet_eq, ↓mbp_eq, ↓mbnd_eq, ↓mix_ite, ↓mdiv_ite, ↓mnz_ite, nI_add, nI_mul, nI_nat, nI_ltE, nI_leE, nI_eqE, nI_eqN, nI_Neq, nI_Nlt, nI_Nle, nI_ltN, nI_leN, ↓reduceIte, ↓Nat.reduceEqDiff, and_f, nt_e, nt_t, nl_t, nl_f, ne_t, ne_f, and_self, or_self, or_true, true_or, or_false, false_or, if_true, if_false, and_true, true_and, and_false, false_and, not_true, not_false_iff, e22, x21, x22, y22, y19, Nat.add_zero]
